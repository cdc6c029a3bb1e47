section XX
variable {l : Launch} {D : va_G} {aT : FieldType → ClassId} {B : Nat} {scr : Cell}
def xs_Snd (l : Launch) (D : va_G) (aT : FieldType → ClassId) (B : Nat) (scr : Cell) (n : Nat) : Prop := ∀ (j : Nat) (M : xm_M) (pc : Nat) (lo : xm_L) (sk : List Value) (hp : xm_H) (r : Option Value) (hp' : xm_H), xp_mi j = some M → xm_run n j (pc, lo, sk, hp) = some (r, hp') →
  hp.2.1 ≤ hp'.2.1 ∧ hp.2.2 ≤ hp'.2.2 ∧ ∀ (p : Program) (e : Env) (R : Room) (s : State) (m : MethodId) (args : Array Value) (below : List Frame) (meth : Method) (c : Code) (H : Heap) (locs : List Loc) (cells slots : Nat) (ls : Array Slot) (Q : State → Prop) (cells' slots' : Nat),
    xs_C M p s m args meth c R → xs_K D aT scr s → xs_L ls M.2.2.1 lo → xs_R D aT B scr hp H → (∀ q ∈ locs, B ≤ q.base) → cells' + hp.2.1 = cells + hp'.2.1 → slots' + hp.2.2 = slots + hp'.2.2 → cells' ≤ R.cells → slots' ≤ R.slots →
    (∀ (pc' : Nat) (i : Instr) (sk' : List Value) (ls' : Array Slot) (H' : Heap) (locs' : List Loc), decode M.2.1 pc' = .ok (i, 1) → xm_ret M.2.2.2.1 i sk' = some r → xs_R D aT B scr hp' H' → (∀ q ∈ locs', B ≤ q.base) → W p l e R s m args below meth c H' locs' cells' slots' Q (F0 m pc' ls' sk')) →
    W p l e R s m args below meth c H locs cells slots Q (F0 m pc ls sk)
theorem xs_met_of {n j : Nat} {N : xm_M} {as : List Value} {hp hp' : xm_H} {r : Option Value} (S : xs_Snd l D aT B scr n) (hj : j < xp_mk.length) (hN : xp_mi j = some N) (hlay : (xm_lay as).length ≤ N.2.2.1) (hrun : xm_run n j (0, xm_ent N.2.2.1 as, [], hp) = some (r, hp')) : xs_Met l D aT B scr N as hp r hp' := by
  obtain ⟨b1, b2, b3, b4, b5, b6, b7, b8⟩ := xp_mi_spec hj hN
  obtain ⟨m1, m2, hS⟩ := S j N 0 (xm_ent N.2.2.1 as) [] hp r hp' hN hrun
  unfold xs_Met
  refine Met.ofW (cc := N.2.1) (maxL := N.2.2.1) (ret := N.2.2.2.1) b1 rfl ?_
  intro p e s m args below meth c s₁ Bd hml hv
  obtain ⟨rfl, hR, hK⟩ := hv
  have hts := atoms_spec (ws := Cond.code N.1 N.2.1 N.2.2.1 N.2.2.2.1 :: xp_tb) Bd.pre
  have hown : s.vm.findClass N.1.cls = some m.cls := findClass_of_methodNamed Bd.named
  have hlocks := Bd.notSynchronized
  have hrt : meth.sig.returnType = N.2.2.2.1 := Bd.returns
  rw [lg_entry_eq]
  have C : xs_C N p s m as.toArray meth c (headSpec (Cond.code N.1 N.2.1 N.2.2.1 N.2.2.2.1 :: xp_tb) { frames := N.2.2.2.2.2.1, cells := hp'.2.1 - hp.2.1, slots := hp'.2.2 - hp.2.2, locals := N.2.2.2.2.2.2.1 }).room :=
    ⟨Bd.exec, Bd.bytes, hml, b3, hown, fun w hw => hts w (List.mem_cons_of_mem _ hw), fun hi => (name_of_methodNamed Bd.named Bd.method).1.trans (b5 hi), Nat.le_refl _, Nat.le_refl _⟩
  refine hS p e _ s m as.toArray below meth c s.heap [] 0 0 _ _ (hp'.2.1 - hp.2.1) (hp'.2.2 - hp.2.2) C hK (xs_entry as hlay) hR (fun q h => by cases h) (by omega) (by omega) (Nat.le_refl _) (Nat.le_refl _) ?_
  intro pc' i sk' ls' H' locs' hd hret hR' hq'
  have hq : ∀ t : State, t.heap = H' → s.WarmedH t.vm → xs_Qc D aT B scr r hp' as.toArray s (.returned r) t := fun t ht _ => ⟨rfl, by rw [ht]; exact hR'⟩
  unfold xm_ret at hret
  split at hret
  · split at hret
    · rename_i v hr0
      cases hret
      exact W.iret Bd.exec Bd.bytes (hrt.trans hr0) hq hq' hd hlocks
    · rename_i v hr0
      split at hret
      · rename_i hnr
        cases hret
        exact W.zret Bd.exec Bd.bytes (hrt.trans hr0) hnr hq hq' hd hlocks
      · cases hret
    · cases hret
  · split at hret
    · rename_i v hr0
      cases hret
      exact W.lret Bd.exec Bd.bytes (hrt.trans hr0) hq hq' hd hlocks
    · cases hret
  · split at hret
    · rename_i v n' hr0
      cases hret
      exact W.aret Bd.exec Bd.bytes (hrt.trans hr0) (Or.inl ⟨_, rfl⟩) (Or.inr ⟨_, rfl⟩) hq hq' hd hlocks
    · rename_i v n' hr0
      cases hret
      exact W.aret Bd.exec Bd.bytes (hrt.trans hr0) (Or.inr ⟨_, rfl⟩) (Or.inr ⟨_, rfl⟩) hq hq' hd hlocks
    · rename_i n' hr0
      cases hret
      exact W.aret Bd.exec Bd.bytes (hrt.trans hr0) (Or.inl ⟨_, rfl⟩) (Or.inl rfl) hq hq' hd hlocks
    · rename_i n' hr0
      cases hret
      exact W.aret Bd.exec Bd.bytes (hrt.trans hr0) (Or.inr ⟨_, rfl⟩) (Or.inl rfl) hq hq' hd hlocks
    · cases hret
  · split at hret
    · rename_i hr0
      cases hret
      exact W.vret Bd.exec Bd.bytes (hrt.trans hr0) hq hq' hd hlocks
    · cases hret
  · cases hret
/-- a step is one of three -/
theorem xm_ok_inl {n k : Nat} {x : xm_S} {T : xm_T} (h : xm_ok n k x = some T) : ∃ z, T = .inl z := by
  unfold xm_ok at h
  split at h
  · cases h; exact ⟨_, rfl⟩
  · cases h
theorem xm_jmp_inl {n pc : Nat} {o : Int} {c : Bool} {lo : xm_L} {sk : List Value} {hp : xm_H} {T : xm_T} (h : xm_jmp n pc o c lo sk hp = some T) : ∃ z, T = .inl z := by
  unfold xm_jmp at h
  split at h
  · split at h <;> (cases h; exact ⟨_, rfl⟩)
  · cases h
def xs_isC (M : xm_M) (pc : Nat) (lo : xm_L) (sk : List Value) (hp : xm_H) (n : Nat) (i : Instr) (T : xm_T) : Prop := ∃ (idx j k : Nat) (N : xm_M) (as rest : List Value), n = 3 ∧ xp_mi j = some N ∧ k ≤ sk.length ∧ as = (sk.take k).reverse ∧ xm_low rest = true ∧ xm_fit M N = true ∧
  ((i = .invokestatic idx ∧ xp_ms M.2.2.2.2.1 idx = some (j, k) ∧ sk.drop k = rest ∧ T = .inr (.inr ((j, as), (pc + 3, lo, rest, hp)))) ∨
   (i = .invokevirtual idx ∧ xp_mv M.2.2.2.2.1 idx = some (j, k) ∧ ∃ (b ci : Nat) (fs : List Value), sk.drop k = .ref b :: rest ∧ hp.1 b = some (.inr (.inl (ci, fs))) ∧ ci = N.2.2.2.2.1 ∧ T = .inr (.inr ((j, .ref b :: as), (pc + 3, lo, rest, hp)))) ∨
   (i = .invokespecial idx ∧ xp_mp M.2.2.2.2.1 idx = some (j, k) ∧ ∃ (b : Nat), sk.drop k = .ref b :: rest ∧ T = .inr (.inr ((j, .ref b :: as), (pc + 3, lo, rest, hp)))))
def xs_isR (M : xm_M) (sk : List Value) (hp : xm_H) (n : Nat) (i : Instr) (T : xm_T) : Prop := ∃ r, n = 1 ∧ xm_ret M.2.2.2.1 i sk = some r ∧ T = .inr (.inl (r, hp))
theorem xs_calS_is {M : xm_M} {pc n idx : Nat} {lo : xm_L} {sk : List Value} {hp : xm_H} {T : xm_T} (h : xm_calS n pc M idx lo sk hp = some T) : xs_isC M pc lo sk hp n (.invokestatic idx) T := by
  unfold xm_calS at h
  split at h
  · rename_i j k hT
    split at h
    · rename_i N hN
      split at h
      · rename_i hc
        cases h
        exact ⟨idx, j, k, N, _, _, hc.1, hN, hc.2.1, rfl, hc.2.2.1, hc.2.2.2, Or.inl ⟨rfl, hT, rfl, rfl⟩⟩
      · cases h
    · cases h
  · cases h
theorem xs_calV_is {M : xm_M} {pc n idx : Nat} {lo : xm_L} {sk : List Value} {hp : xm_H} {T : xm_T} (h : xm_calV n pc M idx lo sk hp = some T) : xs_isC M pc lo sk hp n (.invokevirtual idx) T := by
  unfold xm_calV at h
  split at h
  · rename_i j k hT
    split at h
    · rename_i N b rest hN hsk
      split at h
      · rename_i ci fs ho
        split at h
        · rename_i hc
          cases h
          have he : hp.1 b = some (.inr (.inl (ci, fs))) := by
            unfold xm_obj at ho
            split at ho
            · rename_i x hx'; cases ho; exact hx'
            · cases ho
          exact ⟨idx, j, k, N, _, rest, hc.1, hN, hc.2.1, rfl, hc.2.2.1, hc.2.2.2.1, Or.inr (Or.inl ⟨rfl, hT, b, ci, fs, hsk, he, hc.2.2.2.2, rfl⟩)⟩
        · cases h
      · cases h
    · cases h
  · cases h
theorem xs_end_is {M : xm_M} {n : Nat} {i : Instr} {sk : List Value} {hp : xm_H} {T : xm_T} (h : xm_end n M.2.2.2.1 i sk hp = some T) : xs_isR M sk hp n i T := by
  unfold xm_end at h
  split at h
  · rename_i r hr
    split at h
    · rename_i hn
      cases h
      exact ⟨r, hn, hr, rfl⟩
    · cases h
  · cases h
theorem xs_kind {M : xm_M} {pc n : Nat} {i : Instr} {lo : xm_L} {sk : List Value} {hp : xm_H} {T : xm_T} (h : xm_ex M pc lo sk hp n i = some T) : (∃ z, T = .inl z) ∨ xs_isR M sk hp n i T ∨ xs_isC M pc lo sk hp n i T := by
  cases i with
  | invokestatic k =>
    have h : (if xp_ac M.2.2.2.2.1 k then xm_copy n pc M lo sk hp else if xp_mm M.2.2.2.2.1 k then xm_min n pc M lo sk hp else xm_calS n pc M k lo sk hp) = some T := h
    split at h
    · refine Or.inl ?_
      unfold xm_copy at h
      (repeat' split at h) <;> first | (cases h; done) | exact xm_ok_inl h
    · split at h
      · refine Or.inl ?_
        unfold xm_min at h
        (repeat' split at h) <;> first | (cases h; done) | exact xm_ok_inl h
      · exact Or.inr (Or.inr (xs_calS_is h))
  | invokevirtual k => exact Or.inr (Or.inr (xs_calV_is h))
  | invokespecial k =>
    have h : xm_calP n pc M k lo sk hp = some T := h
    unfold xm_calP at h
    split at h
    · refine Or.inl ?_
      (repeat' split at h) <;> first | (cases h; done) | exact xm_ok_inl h
    · split at h
      · rename_i j kk hT
        split at h
        · rename_i N b rest hN hsk
          split at h
          · rename_i hc
            cases h
            exact Or.inr (Or.inr ⟨k, j, kk, N, _, rest, hc.1, hN, hc.2.1, rfl, hc.2.2.1, hc.2.2.2, Or.inr (Or.inr ⟨rfl, hT, b, hsk, rfl⟩)⟩)
          · cases h
        · cases h
      · cases h
  | ireturn => exact Or.inr (Or.inl (xs_end_is h))
  | lreturn => exact Or.inr (Or.inl (xs_end_is h))
  | areturn => exact Or.inr (Or.inl (xs_end_is h))
  | return_ => exact Or.inr (Or.inl (xs_end_is h))
  | _ =>
    refine Or.inl ?_
    first
      | (cases h; done)
      | exact xm_ok_inl h
      | exact xm_jmp_inl h
      | (simp only [xm_ex, xm_ld, xm_sto, xm_stJ, xm_i2, xm_i1, xm_d2, xm_j2, xm_jsh, xm_iald, xm_zald, xm_lald, xm_iast, xm_zast, xm_last, xm_alen, xm_newa, xm_get, xm_put, xm_new, xm_icmp, xm_if, xm_tsw, xm_inc, xm_dup, xm_dx1, xm_dx2, xm_d22, xm_pop] at h
         (repeat' split at h) <;> first | (cases h; done) | exact xm_ok_inl h | exact xm_jmp_inl h | (cases h; exact ⟨_, rfl⟩))
end XX
