section XY
variable {l : Launch} {D : va_G} {aT : FieldType → ClassId} {B : Nat} {scr : Cell}
theorem xm_step_ex {j : Nat} {M : xm_M} {pc : Nat} {lo : xm_L} {sk : List Value} {hp : xm_H} {T : xm_T} (hM : xp_mi j = some M) (h : xm_step j (pc, lo, sk, hp) = some T) : ∃ i k, decode M.2.1 pc = .ok (i, k) ∧ xm_ex M pc lo sk hp k i = some T := by
  simp only [xm_step, hM] at h
  split at h
  · rename_i i k hd
    exact ⟨i, k, hd, h⟩
  · cases h
/-- THE SMALL MACHINE IS SOUND -/
theorem xs_sound (n : Nat) : xs_Snd l D aT B scr n := by
  induction n with
  | zero =>
    intro j M pc lo sk hp r hp' hM hrun
    simp [xm_run] at hrun
  | succ n IH =>
    intro j M pc lo sk hp r hp' hM hrun
    rw [xm_run] at hrun
    cases hs : xm_step j (pc, lo, sk, hp) with
    | none => rw [hs] at hrun; cases hrun
    | some T =>
      rw [hs] at hrun
      obtain ⟨i, k, hd, hx⟩ := xm_step_ex hM hs
      rcases xs_kind hx with ⟨z, rfl⟩ | ⟨r0, rfl, hret, rfl⟩ | hcall
      · obtain ⟨pc1, lo1, sk1, hp1⟩ := z
        have hrun : xm_run n j (pc1, lo1, sk1, hp1) = some (r, hp') := hrun
        obtain ⟨a1, a2, a3⟩ := xs_next (l := l) (D := D) (aT := aT) (B := B) (scr := scr) hd hx
        dsimp only at a1 a2 a3
        obtain ⟨b1, b2, b3⟩ := IH j M pc1 lo1 sk1 hp1 r hp' hM hrun
        refine ⟨Nat.le_trans a1 b1, Nat.le_trans a2 b2, ?_⟩
        intro p e R s m args below meth c H locs cells slots ls Q cells' slots' C K L rr hq hc hs' h1 h2 HR
        refine a3 p e R s m args below meth c H locs cells slots ls Q (cells + (hp1.2.1 - hp.2.1)) (slots + (hp1.2.2 - hp.2.2)) C K L rr hq (by omega) (by omega) (by omega) (by omega) ?_
        intro H1 locs1 ls1 L1 rr1 hq1
        exact b3 p e R s m args below meth c H1 locs1 _ _ ls1 Q cells' slots' C K L1 rr1 hq1 (by omega) (by omega) h1 h2 HR
      · have hrun : some (r0, hp) = some (r, hp') := hrun
        cases hrun
        refine ⟨Nat.le_refl _, Nat.le_refl _, ?_⟩
        intro p e R s m args below meth c H locs cells slots ls Q cells' slots' C K L rr hq hc hs' h1 h2 HR
        obtain rfl := Nat.add_right_cancel hc
        obtain rfl := Nat.add_right_cancel hs'
        exact HR pc i sk ls H locs hd hret rr hq
      · obtain ⟨idx, j', k', N, as, rest, rfl, hN, hk, has, hlow, hfit, hh⟩ := hcall
        have key : ∀ (as' : List Value) (hrun : (match xm_start j' as' hp with
              | some z => match xm_run n j' z with
                | some q => xm_run n j (pc + 3, lo, q.1.toList ++ rest, q.2)
                | none => none
              | none => none) = some (r, hp')) (hj : j' < xp_mk.length)
            (run : ∀ (r1 : Option Value) (hp1 : xm_H) (p : Program) (e : Env) (R : Room) (s : State) (m : MethodId) (args : Array Value) (below : List Frame) (meth : Method) (c : Code) (H : Heap) (locs : List Loc) (cells slots : Nat) (ls : Array Slot), xs_C M p s m args meth c R → xs_K D aT scr s → xs_L ls M.2.2.1 lo → xs_R D aT B scr hp H → xs_Met l D aT B scr N as' hp r1 hp1 → cells + (hp1.2.1 - hp.2.1) ≤ R.cells ∧ slots + (hp1.2.2 - hp.2.2) ≤ R.slots →
              va_Run p l e R s m args below meth c H locs cells slots (hp1.2.1 - hp.2.1) (hp1.2.2 - hp.2.2) (F0 m pc ls sk) rest (xs_Qc D aT B scr r1 hp1 as'.toArray) (fun q => B ≤ q)),
            hp.2.1 ≤ hp'.2.1 ∧ hp.2.2 ≤ hp'.2.2 ∧ ∀ (p : Program) (e : Env) (R : Room) (s : State) (m : MethodId) (args : Array Value) (below : List Frame) (meth : Method) (c : Code) (H : Heap) (locs : List Loc) (cells slots : Nat) (ls : Array Slot) (Q : State → Prop) (cells' slots' : Nat),
              xs_C M p s m args meth c R → xs_K D aT scr s → xs_L ls M.2.2.1 lo → xs_R D aT B scr hp H → (∀ q ∈ locs, B ≤ q.base) → cells' + hp.2.1 = cells + hp'.2.1 → slots' + hp.2.2 = slots + hp'.2.2 → cells' ≤ R.cells → slots' ≤ R.slots →
              (∀ (pc' : Nat) (i : Instr) (sk' : List Value) (ls' : Array Slot) (H' : Heap) (locs' : List Loc), decode M.2.1 pc' = .ok (i, 1) → xm_ret M.2.2.2.1 i sk' = some r → xs_R D aT B scr hp' H' → (∀ q ∈ locs', B ≤ q.base) → W p l e R s m args below meth c H' locs' cells' slots' Q (F0 m pc' ls' sk')) →
              W p l e R s m args below meth c H locs cells slots Q (F0 m pc ls sk) := by
          intro as' hrun hj run
          split at hrun
          · rename_i z hz
            split at hrun
            · rename_i q hq0
              obtain ⟨r1, hp1⟩ := q
              have hz' : (xm_lay as').length ≤ N.2.2.1 ∧ z = (0, xm_ent N.2.2.1 as', [], hp) := by
                simp only [xm_start, hN] at hz
                split at hz
                · rename_i hl
                  cases hz; exact ⟨hl, rfl⟩
                · cases hz
              obtain ⟨hl, rfl⟩ := hz'
              have hMet := xs_met_of IH hj hN hl hq0
              obtain ⟨a1, a2, -⟩ := IH j' N 0 _ [] hp r1 hp1 hN hq0
              obtain ⟨b1, b2, b3⟩ := IH j M (pc + 3) lo (r1.toList ++ rest) hp1 r hp' hM hrun
              refine ⟨Nat.le_trans a1 b1, Nat.le_trans a2 b2, ?_⟩
              intro p e R s m args below meth c H locs cells slots ls Q cells' slots' C K L rr hq hc hs' h1 h2 HR
              refine xs_callW (run r1 hp1 p e R s m args below meth c H locs cells slots ls C K L rr hMet ⟨by omega, by omega⟩) hq ?_
              intro H1 locs1 rr1 hq1
              exact b3 p e R s m args below meth c H1 locs1 _ _ ls Q cells' slots' C K L rr1 hq1 (by omega) (by omega) h1 h2 HR
            · cases hrun
          · cases hrun
        rcases hh with ⟨rfl, hT, hdr, rfl⟩ | ⟨rfl, hT, b, ci, fs, hdr, hb, hci, rfl⟩ | ⟨rfl, hT, b, hdr, rfl⟩
        · obtain ⟨pp, hpp⟩ := xk_all_of xk_ms_all hT
          have hj : j' < xp_mk.length := by
            unfold xk_m at hpp
            simp only [Bool.and_eq_true, decide_eq_true_eq] at hpp
            exact hpp.2.1
          refine key as hrun hj ?_
          intro r1 hp1 p e R s m args below meth c H locs cells slots ls C K L rr hMet hf
          exact xs_runS C K L.1 rr hT hN hfit (by rw [has, List.length_reverse, List.length_take]; omega) (by rw [has, List.reverse_reverse, ← hdr, List.take_append_drop]) hlow hd hMet hf
        · obtain ⟨pp, hpp⟩ := xk_all_of xk_mv_all hT
          have hj : j' < xp_mk.length := by
            unfold xk_m at hpp
            simp only [Bool.and_eq_true, decide_eq_true_eq] at hpp
            exact hpp.2.1
          refine key (.ref b :: as) hrun hj ?_
          intro r1 hp1 p e R s m args below meth c H locs cells slots ls C K L rr hMet hf
          exact xs_runV C K L.1 rr hT hN hfit hb hci (by rw [has, List.length_reverse, List.length_take]; omega) (by rw [has, List.reverse_reverse, ← hdr, List.take_append_drop]) hlow hd hMet hf
        · obtain ⟨pp, hpp⟩ := xk_all_of xk_mp_all hT
          have hj : j' < xp_mk.length := by
            unfold xk_m at hpp
            simp only [Bool.and_eq_true, decide_eq_true_eq] at hpp
            exact hpp.2.1
          refine key (.ref b :: as) hrun hj ?_
          intro r1 hp1 p e R s m args below meth c H locs cells slots ls C K L rr hMet hf
          exact xs_runP C K L.1 rr hT hN hfit (by rw [has, List.length_reverse, List.length_take]; omega) (by rw [has, List.reverse_reverse, ← hdr, List.take_append_drop]) hlow hd hMet hf
end XY
