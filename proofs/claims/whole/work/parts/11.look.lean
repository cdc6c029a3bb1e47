/-- what stands at a place of a method's code -/
def xm_ins (j pc : Nat) : Option (Instr × Nat) := match xp_mi j with
  | some M => match decode M.2.1 pc with
    | .ok x => some x
    | .error _ => none
  | none => none
def xm_fl (j idx : Nat) : Option (Nat × Nat × Bool × FieldType) := match xp_mi j with
  | some M => xp_fl M.2.2.2.2.1 idx
  | none => none
def xm_ini (j : Nat) : Option (Bool × Nat) := match xp_mi j with
  | some M => some (M.2.2.2.2.2.2.2, M.2.2.2.2.1)
  | none => none
def xm_nw (j idx : Nat) : Option (Nat × List Value) := match xp_mi j with
  | some M => xp_nw M.2.2.2.2.1 idx
  | none => none
def xm_cn (j idx : Nat) : Option Int32 := match xp_mi j with
  | some M => xp_cn M.2.2.2.2.1 idx
  | none => none
def xm_rt (j : Nat) : Option (Option FieldType) := match xp_mi j with
  | some M => some M.2.2.2.1
  | none => none
def xm_to (j : Nat) (T : Nat → Nat → Option (Nat × Nat)) (idx : Nat) : Option (Nat × Nat × Nat) := match xp_mi j with
  | some M => match T M.2.2.2.2.1 idx with
    | some (j', k) => match xp_mi j' with
      | some M' => if xm_fit M M' = true then some (j', k, M'.2.2.2.2.1) else none
      | none => none
    | none => none
  | none => none
def xm_no (j : Nat) (T : Nat → Nat → Bool) (idx : Nat) : Option Bool := match xp_mi j with
  | some M => some (T M.2.2.2.2.1 idx)
  | none => none
/-- room for a frame of so many words -/
def xm_rm (j w : Nat) : Option Bool := match xp_mi j with
  | some M => some (decide (1 ≤ M.2.2.2.2.2.1) && decide (w ≤ M.2.2.2.2.2.2.1))
  | none => none
theorem xm_ins_of {j pc : Nat} {M : xm_M} {x : Instr × Nat} (hM : xp_mi j = some M) (hd : decode M.2.1 pc = .ok x) : xm_ins j pc = some x := by
  unfold xm_ins
  rw [hM]
  simp only [hd]
theorem xm_ins_decode {j pc n : Nat} {i : Instr} {M : xm_M} (hM : xp_mi j = some M) (hd : xm_ins j pc = some (i, n)) : decode M.2.1 pc = .ok (i, n) := by
  unfold xm_ins at hd
  rw [hM] at hd
  dsimp only at hd
  split at hd
  · rename_i x hx
    rw [hx, Option.some.inj hd]
  · cases hd
theorem xm_step_of' {j pc n : Nat} {i : Instr} {lo : xm_L} {sk : List Value} {hp : xm_H} (hd : xm_ins j pc = some (i, n)) : ∃ M, xp_mi j = some M ∧ xm_step j (pc, lo, sk, hp) = xm_ex M pc lo sk hp n i := by
  cases hM : xp_mi j with
  | none => simp [xm_ins, hM] at hd
  | some M =>
    refine ⟨M, rfl, ?_⟩
    have h := xm_ins_decode hM hd
    simp [xm_step, hM, h]
theorem xm_step_of {j pc n : Nat} {i : Instr} {lo : xm_L} {sk : List Value} {hp : xm_H} (hd : xm_ins j pc = some (i, n)) : ∃ M, xm_step j (pc, lo, sk, hp) = xm_ex M pc lo sk hp n i := by
  obtain ⟨M, -, h⟩ := xm_step_of' (lo := lo) (sk := sk) (hp := hp) hd
  exact ⟨M, h⟩
theorem xm_to_spec {j idx j' k oc : Nat} {T : Nat → Nat → Option (Nat × Nat)} {M : xm_M} (hM : xp_mi j = some M) (h : xm_to j T idx = some (j', k, oc)) : T M.2.2.2.2.1 idx = some (j', k) ∧ ∃ M', xp_mi j' = some M' ∧ xm_fit M M' = true ∧ M'.2.2.2.2.1 = oc := by
  simp only [xm_to, hM] at h
  split at h
  · rename_i a b hT
    split at h
    · rename_i M' hM'
      split at h
      · rename_i hl
        simp only [Option.some.injEq, Prod.mk.injEq] at h
        obtain ⟨rfl, rfl, rfl⟩ := h
        exact ⟨hT, M', hM', hl, rfl⟩
      · cases h
    · cases h
  · cases h
theorem xo_ldc {j pc idx : Nat} {lo : xm_L} {sk : List Value} {hp : xm_H} {v : Int32} (hd : xm_ins j pc = some (.ldc_w idx, 3)) (hv : xm_cn j idx = some v) : xm_out j (pc, lo, sk, hp) = xm_out j (pc + 3, lo, .int v :: sk, hp) := xo_next (by
  obtain ⟨M, hM, h⟩ := xm_step_of' (lo := lo) (sk := sk) (hp := hp) hd
  rw [h]; simp [xm_cn, hM] at hv; simp [xm_ex, hv, xm_ok])
/-- calls: the callee's answer as an equation -/
theorem xo_calS' {j pc idx j' k oc : Nat} {lo : xm_L} {sk As Ar rest : List Value} {hp hp' : xm_H} {r : Option Value} (hd : xm_ins j pc = some (.invokestatic idx, 3)) (ha : xm_no j xp_ac idx = some false) (hb : xm_no j xp_mm idx = some false) (hm : xm_to j xp_ms idx = some (j', k, oc)) (hk : k ≤ sk.length) (h1 : sk.take k = Ar) (h2 : Ar.reverse = As) (h3 : sk.drop k = rest) (hl : xm_low rest = true)
    (hc : xm_call j' As hp = some (r, hp')) : xm_out j (pc, lo, sk, hp) = xm_out j (pc + 3, lo, r.toList ++ rest, hp') := by
  obtain ⟨M, hM, h⟩ := xm_step_of' (lo := lo) (sk := sk) (hp := hp) hd
  obtain ⟨hT, M', hM', hlv, -⟩ := xm_to_spec hM hm
  simp [xm_no, hM] at ha hb
  subst h1 h2 h3
  have hs : xm_step j (pc, lo, sk, hp) = some (.inr (.inr ((j', (sk.take k).reverse), (pc + 3, lo, sk.drop k, hp)))) := by
    rw [h]; simp [xm_ex, ha, hb, xm_calS, hT, hM', hlv, hk, hl]
  exact xo_call hs hc
theorem xo_calV' {j pc idx j' k oc b : Nat} {lo : xm_L} {sk As Ar rest : List Value} {hp hp' : xm_H} {r : Option Value} {fs : List Value} (hd : xm_ins j pc = some (.invokevirtual idx, 3)) (hm : xm_to j xp_mv idx = some (j', k, oc)) (hk : k ≤ sk.length) (h1 : sk.take k = Ar) (h2 : Ar.reverse = As) (h3 : sk.drop k = .ref b :: rest) (hl : xm_low rest = true) (hb : hp.1 b = some (.inr (.inl (oc, fs))))
    (hc : xm_call j' (.ref b :: As) hp = some (r, hp')) : xm_out j (pc, lo, sk, hp) = xm_out j (pc + 3, lo, r.toList ++ rest, hp') := by
  obtain ⟨M, hM, h⟩ := xm_step_of' (lo := lo) (sk := sk) (hp := hp) hd
  obtain ⟨hT, M', hM', hlv, rfl⟩ := xm_to_spec hM hm
  subst h1 h2
  have hs : xm_step j (pc, lo, sk, hp) = some (.inr (.inr ((j', .ref b :: (sk.take k).reverse), (pc + 3, lo, rest, hp)))) := by
    rw [h]; simp [xm_ex, xm_calV, hT, hM', hlv, hk, hl, h3, xm_obj, hb]
  exact xo_call hs hc
theorem xo_calP' {j pc idx j' k oc b : Nat} {lo : xm_L} {sk As Ar rest : List Value} {hp hp' : xm_H} {r : Option Value} (hd : xm_ins j pc = some (.invokespecial idx, 3)) (ha : xm_no j xp_oi idx = some false) (hm : xm_to j xp_mp idx = some (j', k, oc)) (hk : k ≤ sk.length) (h1 : sk.take k = Ar) (h2 : Ar.reverse = As) (h3 : sk.drop k = .ref b :: rest) (hl : xm_low rest = true)
    (hc : xm_call j' (.ref b :: As) hp = some (r, hp')) : xm_out j (pc, lo, sk, hp) = xm_out j (pc + 3, lo, r.toList ++ rest, hp') := by
  obtain ⟨M, hM, h⟩ := xm_step_of' (lo := lo) (sk := sk) (hp := hp) hd
  obtain ⟨hT, M', hM', hlv, -⟩ := xm_to_spec hM hm
  simp [xm_no, hM] at ha
  subst h1 h2
  have hs : xm_step j (pc, lo, sk, hp) = some (.inr (.inr ((j', .ref b :: (sk.take k).reverse), (pc + 3, lo, rest, hp)))) := by
    rw [h]; simp [xm_ex, ha, xm_calP, hT, hM', hlv, hk, hl, h3]
  exact xo_call hs hc
theorem xo_oi {j pc idx a : Nat} {lo : xm_L} {rest : List Value} {hp : xm_H} (hd : xm_ins j pc = some (.invokespecial idx, 3)) (ha : xm_no j xp_oi idx = some true) (hl : xm_low rest = true) (hrm : xm_rm j 20 = some true) : xm_out j (pc, lo, .ref a :: rest, hp) = xm_out j (pc + 3, lo, rest, hp) := xo_next (by
  obtain ⟨M, hM, h⟩ := xm_step_of' (lo := lo) (sk := .ref a :: rest) (hp := hp) hd
  rw [h]; simp [xm_no, hM] at ha; simp [xm_rm, hM] at hrm; simp [xm_ex, xm_calP, ha, xm_ok, hl, hrm])
theorem xo_copy {j pc idx a a0 n0 n1 : Nat} {lo : xm_L} {rest : List Value} {hp : xm_H} {z dp sp : Int32} {f g : Nat → Int32} (hd : xm_ins j pc = some (.invokestatic idx, 3)) (ha : xm_no j xp_ac idx = some true) (h0 : hp.1 a0 = some (.inl (.int, n0, .inl f))) (h1 : hp.1 a = some (.inl (.int, n1, .inl g)))
    (hne : a0 ≠ a) (q1 : ¬ sp < 0) (q2 : ¬ dp < 0) (q3 : ¬ z < 0) (q4 : sp.toNatClampNeg + z.toNatClampNeg ≤ n0) (q5 : dp.toNatClampNeg + z.toNatClampNeg ≤ n1) (hl : xm_low rest = true) (hrm : xm_rm j 26 = some true) :
    xm_out j (pc, lo, .int z :: .int dp :: .ref a :: .int sp :: .ref a0 :: rest, hp) = xm_out j (pc + 3, lo, rest, xm_up hp a (.inl (.int, n1, .inl (va_cpy f g sp.toNatClampNeg dp.toNatClampNeg z.toNatClampNeg)))) := xo_next (by
  obtain ⟨M, hM, h⟩ := xm_step_of' (lo := lo) (sk := .int z :: .int dp :: .ref a :: .int sp :: .ref a0 :: rest) (hp := hp) hd
  rw [h]; simp [xm_no, hM] at ha; simp [xm_rm, hM] at hrm; simp only [xm_ex, ha, xm_copy, h0, h1, if_true]; rw [if_pos ⟨hne, q1, q2, q3, q4, q5, hl, hrm.1, hrm.2⟩]; rfl)
theorem xo_min {j pc idx : Nat} {lo : xm_L} {rest : List Value} {hp : xm_H} {x y : Int32} (hd : xm_ins j pc = some (.invokestatic idx, 3)) (ha : xm_no j xp_ac idx = some false) (hb : xm_no j xp_mm idx = some true) (hl : xm_low rest = true) (hrm : xm_rm j 21 = some true) : xm_out j (pc, lo, .int y :: .int x :: rest, hp) = xm_out j (pc + 3, lo, .int (if y < x then y else x) :: rest, hp) := xo_next (by
  obtain ⟨M, hM, h⟩ := xm_step_of' (lo := lo) (sk := .int y :: .int x :: rest) (hp := hp) hd
  rw [h]; simp [xm_no, hM] at ha hb; simp [xm_rm, hM] at hrm; simp [xm_ex, ha, hb, xm_min, xm_ok, hl, hrm])
/-- ends -/
theorem xo_ret {j pc : Nat} {lo : xm_L} {sk : List Value} {hp : xm_H} {i : Instr} {rt : Option FieldType} {r : Option Value} (hd : xm_ins j pc = some (i, 1)) (ht : xm_rt j = some rt) (hr : xm_ret rt i sk = some r) : xm_out j (pc, lo, sk, hp) = some (r, hp) := by
  obtain ⟨M, hM, h⟩ := xm_step_of' (lo := lo) (sk := sk) (hp := hp) hd
  simp [xm_rt, hM] at ht
  subst ht
  refine xo_done ?_
  rw [h]
  cases i <;> first | (simp [xm_ret] at hr; done) | simp [xm_ex, xm_end, hr]
theorem xm_call_of {j : Nat} {as : List Value} {hp : xm_H} {M : xm_M} {lo : xm_L} {r : xm_R} (hM : xp_mi j = some M) (hn : (xm_lay as).length ≤ M.2.2.1) (hl : xm_ent M.2.2.1 as = lo) (h : xm_out j (0, lo, [], hp) = some r) : xm_call j as hp = some r := by
  simp only [xm_call, xm_start, hM, hn, if_true, hl, h]
