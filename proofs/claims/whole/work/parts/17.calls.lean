section XW
variable {l : Launch} {D : va_G} {aT : FieldType → ClassId} {B : Nat} {scr : Cell}
theorem xs_K.same {u U : State} (h : u.vm = U.vm) (k : xs_K D aT scr u) : xs_K D aT scr U := by
  have al : u.vm.Alike U.vm := by rw [h]; exact Vm.Alike.refl _
  refine ⟨va_K.moved al k.1, fun ty hty => ⟨arrOfT_moved al (k.2.1 ty hty).1, by rw [al.findClass]; exact (k.2.1 ty hty).2⟩, State.isArrayOf_alike al k.2.2.1, fun w hw => ?_⟩
  refine va_Nw.same ?_ h (k.2.2.2 w hw)
  have h2 := (List.mem_filter.mp hw).2
  cases w <;> first | (simp [xp_isN] at h2; done) | rfl
def xs_Pc (D : va_G) (aT : FieldType → ClassId) (B : Nat) (scr : Cell) (as : List Value) (hp : xm_H) : Array Value → State → Prop := fun av U => av = as.toArray ∧ xs_R D aT B scr hp U.heap ∧ xs_K D aT scr U
def xs_Qc (D : va_G) (aT : FieldType → ClassId) (B : Nat) (scr : Cell) (r : Option Value) (hp : xm_H) : Array Value → State → Outcome → State → Prop := fun _ _ o t => o = .returned r ∧ xs_R D aT B scr hp t.heap
theorem xs_blind {as : List Value} {hp : xm_H} : FrameBlind (xs_Pc D aT B scr as hp) := fun a U g mk h => ⟨h.1, h.2.1, xs_K.same (u := U) (U := U.calling g mk a) rfl h.2.2⟩
theorem xs_preS {s : State} {H : Heap} {as : List Value} {hp : xm_H} (K : xs_K D aT scr s) (r : xs_R D aT B scr hp H) : PreS s H (xs_Pc D aT B scr as hp) as := ⟨xs_blind, fun U hU hW => ⟨rfl, by rw [hU]; exact r, K.warm hW⟩⟩
theorem xs_preV {s : State} {H : Heap} {as fs : List Value} {b ci N : Nat} {C : String} {T : u_T} {hp : xm_H} (K : xs_K D aT scr s) (r : xs_R D aT B scr hp H) (hc : xp_cl[ci]? = some (C, T, N)) (hb : hp.1 b = some (.inr (.inl (ci, fs)))) : PreV s H C b (xs_Pc D aT B scr (.ref b :: as) hp) as :=
  ⟨xs_blind, va_recv K.1 (xs_P1 (r.2.2 _ _ hb).2) (q0 := 0) hc rfl, fun U hU hW => ⟨rfl, by rw [hU]; exact r, K.warm hW⟩⟩
theorem xs_good {y : MethodName} {cc : ByteArray} {k : Nat} {rt : Option FieldType} (h : Cond.code y cc k rt ∈ xp_tb) : GoodIn xp_tb (Cond.code y cc k rt :: xp_tb) := by
  intro w hw
  have hm : w ∈ xp_tb := by
    rcases List.mem_cons.mp hw with rfl | hw
    · exact h
    · exact hw
  exact ⟨hm, good_of_word (List.mem_filter.mp hm).2⟩
theorem xs_callW {p : Program} {e : Env} {R : Room} {s : State} {m : MethodId} {args : Array Value} {below : List Frame} {meth : Method} {c : Code} {H : Heap} {locs : List Loc} {cells slots mc ms pc : Nat} {ls : Array Slot} {Q : State → Prop} {sk rest : List Value} {r : Option Value} {hp : xm_H} {a : Array Value}
    (hr : va_Run p l e R s m args below meth c H locs cells slots mc ms (F0 m pc ls sk) rest (xs_Qc D aT B scr r hp a) (fun q => B ≤ q)) (hq : ∀ q ∈ locs, B ≤ q.base)
    (kk : ∀ (H' : Heap) (locs' : List Loc), xs_R D aT B scr hp H' → (∀ q ∈ locs', B ≤ q.base) → W p l e R s m args below meth c H' locs' (cells + mc) (slots + ms) Q (F0 m (pc + 3) ls (r.toList ++ rest))) : W p l e R s m args below meth c H locs cells slots Q (F0 m pc ls sk) := by
  intro T hT X
  obtain ⟨v, st₀, t, T', L, h0, X', hL, e1, e2, ⟨hv, hR⟩, st⟩ := hr T hT X
  cases hv
  obtain ⟨t2, a1, b1⟩ := kk T'.heap (locs ++ L) (by rw [e1]; exact hR) (fun q hq' => by
    rcases List.mem_append.mp hq' with h' | h'
    · exact hq q h'
    · exact hL q h') T' rfl X'
  exact ⟨t2, st t2 a1, b1⟩
/-- what a method's row of the table says -/
theorem xp_mi_spec {j : Nat} {M : xm_M} (hj : j < xp_mk.length) (hM : xp_mi j = some M) : plainName M.1.cls = true ∧ (M.1.cls ≠ "java/lang/invoke/MethodHandle" ∧ M.1.cls ≠ "java/lang/invoke/VarHandle") ∧ xp_on[M.2.2.2.2.1]? = some M.1.cls ∧ Cond.initialized M.1.cls ∈ xp_tb ∧ (M.2.2.2.2.2.2.2 = true → M.1.name = "<init>") ∧
    ((xp_mk[j]?).map (fun q => q.1) = some 0 → Cond.static M.1 ∈ xp_tb) ∧ ((xp_mk[j]?).map (fun q => q.1) = some 1 → Cond.instanceMethod M.1 ∈ xp_tb ∧ Cond.selects M.1.cls M.1 M.1 ∈ xp_tb ∧ ∃ T N, xp_cl[M.2.2.2.2.1]? = some (M.1.cls, T, N)) ∧ ((xp_mk[j]?).map (fun q => q.1) = some 2 → Cond.instanceMethod M.1 ∈ xp_tb ∧ M.1.name = "<init>" ∧ M.2.2.2.1 = none) := by
  have h := xk_mi_all j hj
  unfold xk_mi at h
  rw [hM] at h
  split at h
  · rename_i M' kd p1 p2 p3 h1 h2
    cases h1
    simp only [Bool.and_eq_true, decide_eq_true_eq] at h
    obtain ⟨a1, a2, a3, a4, a5, a6⟩ := h
    refine ⟨a1, ⟨a2, a3⟩, a4, xk_w_mem a5, ?_, ?_, ?_, ?_⟩
    · intro hi
      split at a6
      · simp [hi] at a6
      · split at a6
        · simp [hi] at a6
        · simp only [Bool.and_eq_true, decide_eq_true_eq] at a6
          exact a6.2.1
    · intro hk
      rw [h2] at hk
      cases hk
      simp only [if_true, Bool.and_eq_true] at a6
      exact xk_w_mem a6.1
    · intro hk
      rw [h2] at hk
      cases hk
      simp only [Nat.one_ne_zero, if_false, if_true, Bool.and_eq_true, decide_eq_true_eq] at a6
      refine ⟨xk_w_mem a6.1, xk_w_mem a6.2.1, ?_⟩
      have h4 := a6.2.2.2
      cases hc : xp_cl[M.2.2.2.2.1]? with
      | none => rw [hc] at h4; cases h4
      | some q =>
        rw [hc] at h4
        obtain ⟨C, T, N⟩ := q
        have : C = M.1.cls := Option.some.inj h4
        subst this
        exact ⟨T, N, rfl⟩
    · intro hk
      rw [h2] at hk
      cases hk
      simp only [show ¬ (2 : Nat) = 0 by decide, show ¬ (2 : Nat) = 1 by decide, if_false, Bool.and_eq_true, decide_eq_true_eq] at a6
      exact ⟨xk_w_mem a6.1, a6.2.1, a6.2.2⟩
  · cases h
theorem xk_m_spec {kd oc idx j k p : Nat} {own : String} (ho : xp_on[oc]? = some own) (h : xk_m kd oc idx (j, k) p = true) : j < xp_mk.length ∧ (xp_mk[j]?).map (fun q => q.1) = some kd ∧ ∃ N, xp_mi j = some N ∧ (parseMethodDescriptor N.1.desc).map (fun d => d.parameters.length) = some k ∧ (Cond.methodLink own idx N.1 ∈ xp_tb ∨ ∃ host, Cond.methodLinkNest own idx N.1 host ∈ xp_ne) := by
  unfold xk_m at h
  simp only [Bool.and_eq_true, decide_eq_true_eq] at h
  obtain ⟨h1, h2, h3, h4⟩ := h
  refine ⟨h2, h3, ?_⟩
  unfold xk_lk at h1
  rw [ho] at h1
  split at h1
  · rename_i own' N e1 e2
    cases e1
    rw [e2] at h4
    refine ⟨N, e2, h4, ?_⟩
    split at h1
    · rename_i a i y hp
      simp only [Bool.and_eq_true, decide_eq_true_eq] at h1
      obtain ⟨rfl, rfl, rfl⟩ := h1
      exact Or.inl (List.mem_filter.mpr ⟨List.mem_of_getElem? hp, rfl⟩)
    · rename_i a i y host hp
      simp only [Bool.and_eq_true, decide_eq_true_eq] at h1
      obtain ⟨rfl, rfl, rfl⟩ := h1
      exact Or.inr ⟨host, List.mem_filter.mpr ⟨List.mem_of_getElem? hp, rfl⟩⟩
    · cases h1
  · cases h1
/-- a callee's contract at one call: these arguments, this heap, this answer -/
def xs_Met (l : Launch) (D : va_G) (aT : FieldType → ClassId) (B : Nat) (scr : Cell) (N : xm_M) (as : List Value) (hp : xm_H) (r : Option Value) (hp' : xm_H) : Prop :=
  Met l N.1 (Cond.code N.1 N.2.1 N.2.2.1 N.2.2.2.1 :: xp_tb) { frames := N.2.2.2.2.2.1, cells := hp'.2.1 - hp.2.1, slots := hp'.2.2 - hp.2.2, locals := N.2.2.2.2.2.2.1 } (xs_Pc D aT B scr as hp) (xs_Qc D aT B scr r hp') (hp'.2.1 - hp.2.1) (hp'.2.2 - hp.2.2) (fun q => B ≤ q)
theorem xm_fit_spec {M N : xm_M} {R : Room} (h : xm_fit M N = true) (h1 : M.2.2.2.2.2.1 ≤ R.frames) (h2 : M.2.2.2.2.2.2.1 ≤ R.locals) : N.2.2.2.2.2.1 + 1 ≤ R.frames ∧ 8 + (N.2.2.1 + 11) + N.2.2.2.2.2.2.1 ≤ R.locals := by
  unfold xm_fit at h
  simp only [Bool.and_eq_true, decide_eq_true_eq] at h
  exact ⟨Nat.le_trans h.1 h1, Nat.le_trans h.2 h2⟩
variable {p : Program} {e : Env} {R : Room} {s : State} {m : MethodId} {args : Array Value} {below : List Frame} {meth : Method} {c : Code} {H : Heap} {locs : List Loc} {cells slots pc : Nat} {ls : Array Slot}
theorem xs_runS {M N : xm_M} {idx j k : Nat} {sk as rest : List Value} {hp hp' : xm_H} {r : Option Value} (C : xs_C M p s m args meth c R) (K : xs_K D aT scr s) (L : ls.size = M.2.2.1) (rr : xs_R D aT B scr hp H) (hT : xp_ms M.2.2.2.2.1 idx = some (j, k)) (hN : xp_mi j = some N) (hfit : xm_fit M N = true)
    (hlen : as.length = k) (hsk : sk = as.reverse ++ rest) (hlow : xm_low rest = true) (hd : decode M.2.1 pc = .ok (.invokestatic idx, 3)) (hM : xs_Met l D aT B scr N as hp r hp') (hf : cells + (hp'.2.1 - hp.2.1) ≤ R.cells ∧ slots + (hp'.2.2 - hp.2.2) ≤ R.slots) :
    va_Run p l e R s m args below meth c H locs cells slots (hp'.2.1 - hp.2.1) (hp'.2.2 - hp.2.2) (F0 m pc ls sk) rest (xs_Qc D aT B scr r hp' as.toArray) (fun q => B ≤ q) := by
  obtain ⟨c1, c2, c3, c4, c5, c6, c7, c8, c9⟩ := C
  obtain ⟨pp, hpp⟩ := xk_all_of xk_ms_all hT
  obtain ⟨hj, hkd, N', hN', hpar, hlk⟩ := xk_m_spec c4 hpp
  cases hN.symm.trans hN'
  obtain ⟨b1, b2, b3, b4, b5, b6, b7, b8⟩ := xp_mi_spec hj hN
  have hcode := xk_code_all j hj N hN
  rcases hlk with hlk | ⟨host, hlk⟩
  · exact va_runS (cc := M.2.1) ⟨c1, c2, c3, c5, c6⟩ hM ⟨callB_of k c6 (xs_good hcode) rfl rfl rfl (c6 _ b4) (c6 _ hlk) ⟨b2.1, b2.2, hpar⟩ (xm_fit_spec hfit c8 c9), c6 _ (b6 hkd)⟩ (xs_preS K rr) rfl hlen L hsk (lv_room (xm_low_spec hlow)) hd hf
  · exact va_runSN (cc := M.2.1) ⟨c1, c2, c3, c5, c6⟩ hM ⟨va_cnB k c6 (xs_good hcode) rfl rfl rfl (K.2.2.2 _ hlk) (c6 _ b4) ⟨b2.1, b2.2, hpar⟩ (xm_fit_spec hfit c8 c9), c6 _ (b6 hkd), trivial⟩ (xs_preS K rr) rfl hlen L hsk (lv_room (xm_low_spec hlow)) hd hf
theorem xs_runV {M N : xm_M} {idx j k b ci : Nat} {sk as rest fs : List Value} {hp hp' : xm_H} {r : Option Value} (C : xs_C M p s m args meth c R) (K : xs_K D aT scr s) (L : ls.size = M.2.2.1) (rr : xs_R D aT B scr hp H) (hT : xp_mv M.2.2.2.2.1 idx = some (j, k)) (hN : xp_mi j = some N) (hfit : xm_fit M N = true) (hb : hp.1 b = some (.inr (.inl (ci, fs)))) (hci : ci = N.2.2.2.2.1)
    (hlen : as.length = k) (hsk : sk = as.reverse ++ .ref b :: rest) (hlow : xm_low rest = true) (hd : decode M.2.1 pc = .ok (.invokevirtual idx, 3)) (hM : xs_Met l D aT B scr N (.ref b :: as) hp r hp') (hf : cells + (hp'.2.1 - hp.2.1) ≤ R.cells ∧ slots + (hp'.2.2 - hp.2.2) ≤ R.slots) :
    va_Run p l e R s m args below meth c H locs cells slots (hp'.2.1 - hp.2.1) (hp'.2.2 - hp.2.2) (F0 m pc ls sk) rest (xs_Qc D aT B scr r hp' (Value.ref b :: as).toArray) (fun q => B ≤ q) := by
  obtain ⟨c1, c2, c3, c4, c5, c6, c7, c8, c9⟩ := C
  obtain ⟨pp, hpp⟩ := xk_all_of xk_mv_all hT
  obtain ⟨hj, hkd, N', hN', hpar, hlk⟩ := xk_m_spec c4 hpp
  cases hN.symm.trans hN'
  obtain ⟨b1, b2, b3, b4, b5, b6, b7, b8⟩ := xp_mi_spec hj hN
  obtain ⟨w1, w2, T, n, hcl⟩ := b7 hkd
  have hcode := xk_code_all j hj N hN
  subst hci
  rcases hlk with hlk | ⟨host, hlk⟩
  · exact va_runV (cc := M.2.1) ⟨c1, c2, c3, c5, c6⟩ hM ⟨callB_of k c6 (xs_good hcode) rfl rfl rfl (c6 _ b4) (c6 _ hlk) ⟨b2.1, b2.2, hpar⟩ (xm_fit_spec hfit c8 c9), c6 _ w1, c6 _ w2⟩ (xs_preV K rr hcl hb) rfl hlen L hsk (lv_room (xm_low_spec hlow)) hd hf
  · exact va_runVN (cc := M.2.1) ⟨c1, c2, c3, c5, c6⟩ hM ⟨va_cnB k c6 (xs_good hcode) rfl rfl rfl (K.2.2.2 _ hlk) (c6 _ b4) ⟨b2.1, b2.2, hpar⟩ (xm_fit_spec hfit c8 c9), c6 _ w1, c6 _ w2⟩ (xs_preV K rr hcl hb) rfl hlen L hsk (lv_room (xm_low_spec hlow)) hd hf
theorem xs_runP {M N : xm_M} {idx j k b : Nat} {sk as rest : List Value} {hp hp' : xm_H} {r : Option Value} (C : xs_C M p s m args meth c R) (K : xs_K D aT scr s) (L : ls.size = M.2.2.1) (rr : xs_R D aT B scr hp H) (hT : xp_mp M.2.2.2.2.1 idx = some (j, k)) (hN : xp_mi j = some N) (hfit : xm_fit M N = true)
    (hlen : as.length = k) (hsk : sk = as.reverse ++ .ref b :: rest) (hlow : xm_low rest = true) (hd : decode M.2.1 pc = .ok (.invokespecial idx, 3)) (hM : xs_Met l D aT B scr N (.ref b :: as) hp r hp') (hf : cells + (hp'.2.1 - hp.2.1) ≤ R.cells ∧ slots + (hp'.2.2 - hp.2.2) ≤ R.slots) :
    va_Run p l e R s m args below meth c H locs cells slots (hp'.2.1 - hp.2.1) (hp'.2.2 - hp.2.2) (F0 m pc ls sk) rest (xs_Qc D aT B scr r hp' (Value.ref b :: as).toArray) (fun q => B ≤ q) := by
  obtain ⟨c1, c2, c3, c4, c5, c6, c7, c8, c9⟩ := C
  obtain ⟨pp, hpp⟩ := xk_all_of xk_mp_all hT
  obtain ⟨hj, hkd, N', hN', hpar, hlk⟩ := xk_m_spec c4 hpp
  cases hN.symm.trans hN'
  obtain ⟨b1, b2, b3, b4, b5, b6, b7, b8⟩ := xp_mi_spec hj hN
  obtain ⟨w1, w2, w3⟩ := b8 hkd
  have hcode := xk_code_all j hj N hN
  unfold xs_Met at hM
  rw [w3] at hM hcode
  rcases hlk with hlk | ⟨host, hlk⟩
  · exact va_runI (cc := M.2.1) ⟨c1, c2, c3, c5, c6⟩ hM ⟨callB_of k c6 (xs_good hcode) rfl rfl rfl (c6 _ b4) (c6 _ hlk) ⟨b2.1, b2.2, hpar⟩ (xm_fit_spec hfit c8 c9), w2, c6 _ w1⟩ (xs_preS K rr) rfl hlen L hsk (lv_room (xm_low_spec hlow)) hd hf
  · exact va_runIN (cc := M.2.1) ⟨c1, c2, c3, c5, c6⟩ hM ⟨va_cnB k c6 (xs_good hcode) rfl rfl rfl (K.2.2.2 _ hlk) (c6 _ b4) ⟨b2.1, b2.2, hpar⟩ (xm_fit_spec hfit c8 c9), w2, c6 _ w1⟩ (xs_preS K rr) rfl hlen L hsk (lv_room (xm_low_spec hlow)) hd hf
end XW
