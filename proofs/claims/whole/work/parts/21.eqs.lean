/-! equations of the small machine, without premises where it goes: what gen_steps.py lays a row an instruction out of -/
def xm_kl (o : Option Value) : Option Value := match o with
  | some v => if v.category = 2 then none else some v
  | none => none
theorem xm_kl_n : xm_kl none = none := rfl
theorem xm_kl_i (x : Int32) : xm_kl (some (.int x)) = some (.int x) := rfl
theorem xm_kl_a (x : Nat) : xm_kl (some (.ref x)) = some (.ref x) := rfl
theorem xm_kl_j (x : Int64) : xm_kl (some (.long x)) = none := rfl
theorem xm_kill_eq {lo : xm_L} {j : Nat} {o : Option Value} (h : lo[j]? = some o) : xm_kill lo (j + 1) = lo.set j (xm_kl o) := by
  have hs : ∀ o' : Option Value, lo[j]? = some o' → lo.set j o' = lo := by
    intro o' ho
    apply List.ext_getElem?
    intro i
    by_cases hi : i = j
    · subst hi
      rw [List.getElem?_set_self (List.getElem?_eq_some_iff.mp ho).1, ho]
    · rw [List.getElem?_set_ne (Ne.symm hi)]
  unfold xm_kill
  dsimp only
  rw [h]
  cases o with
  | none => exact (hs none h).symm
  | some v =>
    unfold xm_kl
    dsimp only
    split
    · rfl
    · exact (hs (some v) h).symm
theorem xm_st1_eq {lo lo' : xm_L} {j : Nat} {o : Option Value} {v : Value} (h : lo[j]? = some o) (h' : (lo.set j (xm_kl o)).set (j + 1) (some v) = lo') : xm_st1 lo (j + 1) v = lo' := by
  unfold xm_st1
  rw [xm_kill_eq h, h']
theorem xm_st2_eq {lo lo' : xm_L} {j : Nat} {o : Option Value} {v : Value} (h : lo[j]? = some o) (h' : ((lo.set j (xm_kl o)).set (j + 1) (some v)).set (j + 2) none = lo') : xm_st2 lo (j + 1) v = lo' := by
  unfold xm_st2
  rw [xm_kill_eq h, h']
/-- what is read, and what is written, as answers that may be wanting -/
def xm_fld (hp : xm_H) (a ci k : Nat) : Option Value := match hp.1 a with
  | some (.inr (.inl (cj, fs))) => if cj = ci then fs[k]? else none
  | _ => none
def xm_pf (hp : xm_H) (a ci k : Nat) (ty : FieldType) (v : Value) : Option xm_H := match hp.1 a with
  | some (.inr (.inl (cj, fs))) => if cj = ci ∧ k < fs.length ∧ narrow ty v = v ∧ fits ty v = true then some (xm_up hp a (.inr (.inl (ci, fs.set k v)))) else none
  | _ => none
def xm_ai (hp : xm_H) (a : Nat) (i : Int32) : Option Int32 := match hp.1 a with
  | some (.inl (.int, N, .inl f)) => if xm_out_of i N then none else some (f i.toNatClampNeg)
  | some (.inr (.inr (N, f))) => if xm_out_of i N then none else some (f i.toNatClampNeg)
  | _ => none
def xm_az (hp : xm_H) (a : Nat) (i : Int32) : Option Int32 := match hp.1 a with
  | some (.inl (.boolean, N, .inl f)) => if xm_out_of i N then none else some (f i.toNatClampNeg)
  | _ => none
def xm_aj (hp : xm_H) (a : Nat) (i : Int32) : Option Int64 := match hp.1 a with
  | some (.inl (.long, N, .inr (.inl f))) => if xm_out_of i N then none else some (f i.toNatClampNeg)
  | _ => none
def xm_wi (hp : xm_H) (a : Nat) (i x : Int32) : Option xm_H := match hp.1 a with
  | some (.inl (.int, N, .inl f)) => if xm_out_of i N then none else some (xm_up hp a (.inl (.int, N, .inl (upd f i.toNatClampNeg x))))
  | _ => none
def xm_wz (hp : xm_H) (a : Nat) (i x : Int32) : Option xm_H := match hp.1 a with
  | some (.inl (.boolean, N, .inl f)) => if xm_out_of i N then none else some (xm_up hp a (.inl (.boolean, N, .inl (upd f i.toNatClampNeg (vp_nar .boolean x)))))
  | _ => none
def xm_wj (hp : xm_H) (a : Nat) (i : Int32) (x : Int64) : Option xm_H := match hp.1 a with
  | some (.inl (.long, N, .inr (.inl f))) => if xm_out_of i N then none else some (xm_up hp a (.inl (.long, N, .inr (.inl (vp_updL f i.toNatClampNeg x)))))
  | _ => none
def xm_ln (hp : xm_H) (a : Nat) : Option Int32 := match hp.1 a with
  | some (.inl (_, N, _)) => some (Int32.ofNat N)
  | some (.inr (.inr (N, _))) => some (Int32.ofNat N)
  | _ => none
def xm_na (t : ArrayType) (k : Int32) (hp : xm_H) : Option xm_H := if k < 0 then none else if k.toNatClampNeg * 8 ≤ 536870912 then (match xm_blank t k.toNatClampNeg with
    | some e => some (xm_add hp e k.toNatClampNeg)
    | none => none) else none
def xm_cls (hp : xm_H) (a : Nat) : Option Nat := match hp.1 a with
  | some (.inr (.inl (c, _))) => some c
  | _ => none
theorem xo_stuck {j : Nat} {x : xm_S} (h : xm_step j x = none) : xm_out j x = none := by
  cases ho : xm_out j x with
  | none => rfl
  | some r =>
    obtain ⟨n, hn⟩ := xm_out_iff.mp ho
    cases n with
    | zero => simp [xm_run] at hn
    | succ n => rw [xm_run, h] at hn; cases hn
theorem xo_call_eq {j j' : Nat} {as : List Value} {x y : xm_S} (h : xm_step j x = some (.inr (.inr ((j', as), y)))) :
    xm_out j x = (xm_call j' as y.2.2.2).bind fun q => xm_out j (y.1, y.2.1, q.1.toList ++ y.2.2.1, q.2) := by
  cases hc : xm_call j' as y.2.2.2 with
  | some r => exact xo_call h hc
  | none =>
    show xm_out j x = none
    cases ho : xm_out j x with
    | none => rfl
    | some r =>
      obtain ⟨n, hn⟩ := xm_out_iff.mp ho
      cases n with
      | zero => simp [xm_run] at hn
      | succ n =>
        rw [xm_run, h] at hn
        dsimp only at hn
        unfold xm_call at hc
        split at hn
        · rename_i z hz
          rw [hz] at hc
          dsimp only at hc
          split at hn
          · rename_i r' hr
            have := xm_out_iff.mpr ⟨n, hr⟩
            rw [hc] at this
            cases this
          · cases hn
        · cases hn
section XQ
variable {j pc : Nat} {lo : xm_L} {sk : List Value} {hp : xm_H}
theorem xq_get {idx a ci k : Nat} {fin : Bool} {ty : FieldType} (hd : xm_ins j pc = some (.getfield idx, 3)) (hf : xm_fl j idx = some (ci, k, fin, ty)) : xm_out j (pc, lo, .ref a :: sk, hp) = (xm_fld hp a ci k).bind fun v => xm_out j (pc + 3, lo, v :: sk, hp) := by
  obtain ⟨M, hM, h⟩ := xm_step_of' (lo := lo) (sk := .ref a :: sk) (hp := hp) hd
  simp [xm_fl, hM] at hf
  cases ho : xm_fld hp a ci k with
  | some v =>
    unfold xm_fld at ho
    split at ho
    · rename_i cj fs he
      split at ho
      · rename_i hc
        subst hc
        exact xo_next (by rw [h]; simp [xm_ex, xm_get, xm_obj, xm_ok, hf, he, ho])
      · cases ho
    · cases ho
  | none =>
    refine xo_stuck ?_
    rw [h]
    simp only [xm_ex, xm_get, hf, xm_obj]
    unfold xm_fld at ho
    split at ho
    · rename_i cj fs he
      rw [he]
      split at ho
      · rename_i hc
        simp [hc, ho]
      · rename_i hc
        simp [hc]
    · rename_i hno
      cases he : hp.1 a with
      | none => rfl
      | some e =>
        rcases e with x | x | x
        · rfl
        · exact absurd he (hno x.1 x.2)
        · rfl
theorem xq_put {idx a ci k : Nat} {ty : FieldType} {v : Value} (hd : xm_ins j pc = some (.putfield idx, 3)) (hf : xm_fl j idx = some (ci, k, false, ty) ∨ ∃ fin, xm_fl j idx = some (ci, k, fin, ty) ∧ xm_ini j = some (true, ci)) : xm_out j (pc, lo, v :: .ref a :: sk, hp) = (xm_pf hp a ci k ty v).bind fun hp' => xm_out j (pc + 3, lo, sk, hp') := by
  obtain ⟨M, hM, h⟩ := xm_step_of' (lo := lo) (sk := v :: .ref a :: sk) (hp := hp) hd
  obtain ⟨fin, hf, hfin⟩ : ∃ fin, xp_fl M.2.2.2.2.1 idx = some (ci, k, fin, ty) ∧ (fin = false ∨ (M.2.2.2.2.2.2.2 = true ∧ M.2.2.2.2.1 = ci)) := by
    rcases hf with hf | ⟨fin, hf, hi⟩
    · simp [xm_fl, hM] at hf
      exact ⟨false, hf, Or.inl rfl⟩
    · simp [xm_fl, hM] at hf
      simp [xm_ini, hM] at hi
      exact ⟨fin, hf, Or.inr hi⟩
  cases ho : xm_pf hp a ci k ty v with
  | some hp' =>
    unfold xm_pf at ho
    split at ho
    · rename_i cj fs he
      split at ho
      · rename_i hc
        obtain ⟨rfl, h1, h2, h3⟩ := hc
        cases ho
        refine xo_next ?_
        rw [h]
        simp only [xm_ex, xm_put, xm_obj, hf, he]
        rw [if_pos ⟨trivial, h1, hfin, h2, h3⟩]
        rfl
      · cases ho
    · cases ho
  | none =>
    refine xo_stuck ?_
    rw [h]
    simp only [xm_ex, xm_put, hf, xm_obj]
    unfold xm_pf at ho
    split at ho
    · rename_i cj fs he
      rw [he]
      split at ho
      · cases ho
      · rename_i hc
        dsimp only
        rw [if_neg (fun q => hc ⟨q.1, q.2.1, q.2.2.2.1, q.2.2.2.2⟩)]
    · rename_i hno
      cases he : hp.1 a with
      | none => rfl
      | some e =>
        rcases e with x | x | x
        · rfl
        · exact absurd he (hno x.1 x.2)
        · rfl
theorem xm_call_low0 : xm_low [] = true := rfl
theorem xm_cat_le (v : Value) : v.category ≤ 2 := by cases v <;> simp [Value.category]
theorem xm_low1 (a : Value) : xm_low [a] = true := by
  have := xm_cat_le a
  simp [xm_low]; omega
theorem xm_low2 (a b : Value) : xm_low [a, b] = true := by
  have := xm_cat_le a
  have := xm_cat_le b
  simp [xm_low]; omega
theorem xm_low3 (a b c : Value) : xm_low [a, b, c] = true := by
  have := xm_cat_le a
  have := xm_cat_le b
  have := xm_cat_le c
  simp [xm_low]; omega
theorem xm_low4 (a b c d : Value) : xm_low [a, b, c, d] = true := by
  have := xm_cat_le a
  have := xm_cat_le b
  have := xm_cat_le c
  have := xm_cat_le d
  simp [xm_low]; omega
theorem xq_calS {idx j' k oc : Nat} {rest As Ar : List Value} (hd : xm_ins j pc = some (.invokestatic idx, 3)) (ha : xm_no j xp_ac idx = some false) (hb : xm_no j xp_mm idx = some false) (hm : xm_to j xp_ms idx = some (j', k, oc)) (hk : k ≤ sk.length) (h1 : sk.take k = Ar) (h2 : Ar.reverse = As) (h3 : sk.drop k = rest) (hl : xm_low rest = true) :
    xm_out j (pc, lo, sk, hp) = (xm_call j' As hp).bind fun q => xm_out j (pc + 3, lo, q.1.toList ++ rest, q.2) := by
  obtain ⟨M, hM, h⟩ := xm_step_of' (lo := lo) (sk := sk) (hp := hp) hd
  obtain ⟨hT, M', hM', hlv, -⟩ := xm_to_spec hM hm
  simp [xm_no, hM] at ha hb
  subst h1 h2 h3
  have hs : xm_step j (pc, lo, sk, hp) = some (.inr (.inr ((j', (sk.take k).reverse), (pc + 3, lo, sk.drop k, hp)))) := by
    rw [h]; simp [xm_ex, ha, hb, xm_calS, hT, hM', hlv, hk, hl]
  exact xo_call_eq hs
theorem xq_calV {idx j' k oc b : Nat} {rest As Ar : List Value} (hd : xm_ins j pc = some (.invokevirtual idx, 3)) (hm : xm_to j xp_mv idx = some (j', k, oc)) (hk : k ≤ sk.length) (h1 : sk.take k = Ar) (h2 : Ar.reverse = As) (h3 : sk.drop k = .ref b :: rest) (hl : xm_low rest = true) (hb : xm_cls hp b = some oc) :
    xm_out j (pc, lo, sk, hp) = (xm_call j' (.ref b :: As) hp).bind fun q => xm_out j (pc + 3, lo, q.1.toList ++ rest, q.2) := by
  obtain ⟨M, hM, h⟩ := xm_step_of' (lo := lo) (sk := sk) (hp := hp) hd
  obtain ⟨hT, M', hM', hlv, rfl⟩ := xm_to_spec hM hm
  subst h1 h2
  have hb' : ∃ fs, hp.1 b = some (.inr (.inl (M'.2.2.2.2.1, fs))) := by
    unfold xm_cls at hb
    split at hb
    · rename_i c fs he
      cases hb; exact ⟨fs, he⟩
    · cases hb
  obtain ⟨fs, hb'⟩ := hb'
  have hs : xm_step j (pc, lo, sk, hp) = some (.inr (.inr ((j', .ref b :: (sk.take k).reverse), (pc + 3, lo, rest, hp)))) := by
    rw [h]; simp [xm_ex, xm_calV, hT, hM', hlv, hk, hl, h3, xm_obj, hb']
  exact xo_call_eq hs
theorem xq_calP {idx j' k oc b : Nat} {rest As Ar : List Value} (hd : xm_ins j pc = some (.invokespecial idx, 3)) (ha : xm_no j xp_oi idx = some false) (hm : xm_to j xp_mp idx = some (j', k, oc)) (hk : k ≤ sk.length) (h1 : sk.take k = Ar) (h2 : Ar.reverse = As) (h3 : sk.drop k = .ref b :: rest) (hl : xm_low rest = true) :
    xm_out j (pc, lo, sk, hp) = (xm_call j' (.ref b :: As) hp).bind fun q => xm_out j (pc + 3, lo, q.1.toList ++ rest, q.2) := by
  obtain ⟨M, hM, h⟩ := xm_step_of' (lo := lo) (sk := sk) (hp := hp) hd
  obtain ⟨hT, M', hM', hlv, -⟩ := xm_to_spec hM hm
  simp [xm_no, hM] at ha
  subst h1 h2
  have hs : xm_step j (pc, lo, sk, hp) = some (.inr (.inr ((j', .ref b :: (sk.take k).reverse), (pc + 3, lo, rest, hp)))) := by
    rw [h]; simp [xm_ex, ha, xm_calP, hT, hM', hlv, hk, hl, h3]
  exact xo_call_eq hs
theorem xq_zret {v : Int32} (hd : xm_ins j pc = some (.ireturn, 1)) (ht : xm_rt j = some (some .boolean)) (hv : narrow .boolean (.int v) = .int v) : xm_out j (pc, lo, [.int v], hp) = some (some (.int v), hp) := xo_ret hd ht (by simp [xm_ret, hv])
theorem xq_tsw {x : Int32} {d l h : Int} {os : Array Int} {n : Nat} (hd : xm_ins j pc = some (.tableswitch d l h os, n)) : xm_out j (pc, lo, .int x :: sk, hp) = (xm_sw pc x d l h os).bind fun t => xm_out j (t, lo, sk, hp) := by
  obtain ⟨M, hM, hs⟩ := xm_step_of' (lo := lo) (sk := .int x :: sk) (hp := hp) hd
  cases ho : xm_sw pc x d l h os with
  | some t => exact xo_tsw hd ho
  | none => exact xo_stuck (by rw [hs]; simp [xm_ex, xm_tsw, ho])
end XQ
theorem xm_nar0 : narrow .boolean (.int (nI 0)) = .int (nI 0) := rfl
theorem xm_nar1 : narrow .boolean (.int (nI 1)) = .int (nI 1) := rfl
section XQ2
variable {j pc : Nat} {lo : xm_L} {sk : List Value} {hp : xm_H}
theorem xq_iald {a : Nat} {i : Int32} (hd : xm_ins j pc = some (.iaload, 1)) : xm_out j (pc, lo, .int i :: .ref a :: sk, hp) = (xm_ai hp a i).bind fun v => xm_out j (pc + 1, lo, .int v :: sk, hp) := by
  obtain ⟨M, hM, h⟩ := xm_step_of' (lo := lo) (sk := .int i :: .ref a :: sk) (hp := hp) hd
  have hx : xm_step j (pc, lo, .int i :: .ref a :: sk, hp) = xm_iald 1 pc lo (.int i :: .ref a :: sk) hp := h
  cases ho : xm_ai hp a i with
  | some v =>
    refine xo_next ?_
    rw [hx]
    unfold xm_iald
    unfold xm_ai at ho
    dsimp only
    (repeat' split at ho) <;> first | (cases ho; done) | (cases ho; simp [*, xm_ok])
  | none =>
    refine xo_stuck ?_
    rw [hx]
    unfold xm_iald
    unfold xm_ai at ho
    dsimp only
    (repeat' split at ho) <;> first | (cases ho; done) | (simp [*]; done) | (split <;> first | rfl | simp_all)
theorem xq_zald {a : Nat} {i : Int32} (hd : xm_ins j pc = some (.baload, 1)) : xm_out j (pc, lo, .int i :: .ref a :: sk, hp) = (xm_az hp a i).bind fun v => xm_out j (pc + 1, lo, .int v :: sk, hp) := by
  obtain ⟨M, hM, h⟩ := xm_step_of' (lo := lo) (sk := .int i :: .ref a :: sk) (hp := hp) hd
  have hx : xm_step j (pc, lo, .int i :: .ref a :: sk, hp) = xm_zald 1 pc lo (.int i :: .ref a :: sk) hp := h
  cases ho : xm_az hp a i with
  | some v =>
    refine xo_next ?_
    rw [hx]
    unfold xm_zald
    unfold xm_az at ho
    dsimp only
    (repeat' split at ho) <;> first | (cases ho; done) | (cases ho; simp [*, xm_ok])
  | none =>
    refine xo_stuck ?_
    rw [hx]
    unfold xm_zald
    unfold xm_az at ho
    dsimp only
    (repeat' split at ho) <;> first | (cases ho; done) | (simp [*]; done) | (split <;> first | rfl | simp_all)
theorem xq_lald {a : Nat} {i : Int32} (hd : xm_ins j pc = some (.laload, 1)) : xm_out j (pc, lo, .int i :: .ref a :: sk, hp) = (xm_aj hp a i).bind fun v => xm_out j (pc + 1, lo, .long v :: sk, hp) := by
  obtain ⟨M, hM, h⟩ := xm_step_of' (lo := lo) (sk := .int i :: .ref a :: sk) (hp := hp) hd
  have hx : xm_step j (pc, lo, .int i :: .ref a :: sk, hp) = xm_lald 1 pc lo (.int i :: .ref a :: sk) hp := h
  cases ho : xm_aj hp a i with
  | some v =>
    refine xo_next ?_
    rw [hx]
    unfold xm_lald
    unfold xm_aj at ho
    dsimp only
    (repeat' split at ho) <;> first | (cases ho; done) | (cases ho; simp [*, xm_ok])
  | none =>
    refine xo_stuck ?_
    rw [hx]
    unfold xm_lald
    unfold xm_aj at ho
    dsimp only
    (repeat' split at ho) <;> first | (cases ho; done) | (simp [*]; done) | (split <;> first | rfl | simp_all)
theorem xq_iast {a : Nat} {i : Int32} {x : Int32} (hd : xm_ins j pc = some (.iastore, 1)) : xm_out j (pc, lo, .int x :: .int i :: .ref a :: sk, hp) = (xm_wi hp a i x).bind fun hp' => xm_out j (pc + 1, lo, sk, hp') := by
  obtain ⟨M, hM, h⟩ := xm_step_of' (lo := lo) (sk := .int x :: .int i :: .ref a :: sk) (hp := hp) hd
  have hx : xm_step j (pc, lo, .int x :: .int i :: .ref a :: sk, hp) = xm_iast 1 pc lo (.int x :: .int i :: .ref a :: sk) hp := h
  cases ho : xm_wi hp a i x with
  | some v =>
    refine xo_next ?_
    rw [hx]
    unfold xm_iast
    unfold xm_wi at ho
    dsimp only
    (repeat' split at ho) <;> first | (cases ho; done) | (cases ho; simp [*, xm_ok])
  | none =>
    refine xo_stuck ?_
    rw [hx]
    unfold xm_iast
    unfold xm_wi at ho
    dsimp only
    (repeat' split at ho) <;> first | (cases ho; done) | (simp [*]; done) | (split <;> first | rfl | simp_all)
theorem xq_zast {a : Nat} {i : Int32} {x : Int32} (hd : xm_ins j pc = some (.bastore, 1)) : xm_out j (pc, lo, .int x :: .int i :: .ref a :: sk, hp) = (xm_wz hp a i x).bind fun hp' => xm_out j (pc + 1, lo, sk, hp') := by
  obtain ⟨M, hM, h⟩ := xm_step_of' (lo := lo) (sk := .int x :: .int i :: .ref a :: sk) (hp := hp) hd
  have hx : xm_step j (pc, lo, .int x :: .int i :: .ref a :: sk, hp) = xm_zast 1 pc lo (.int x :: .int i :: .ref a :: sk) hp := h
  cases ho : xm_wz hp a i x with
  | some v =>
    refine xo_next ?_
    rw [hx]
    unfold xm_zast
    unfold xm_wz at ho
    dsimp only
    (repeat' split at ho) <;> first | (cases ho; done) | (cases ho; simp [*, xm_ok])
  | none =>
    refine xo_stuck ?_
    rw [hx]
    unfold xm_zast
    unfold xm_wz at ho
    dsimp only
    (repeat' split at ho) <;> first | (cases ho; done) | (simp [*]; done) | (split <;> first | rfl | simp_all)
theorem xq_last {a : Nat} {i : Int32} {x : Int64} (hd : xm_ins j pc = some (.lastore, 1)) : xm_out j (pc, lo, .long x :: .int i :: .ref a :: sk, hp) = (xm_wj hp a i x).bind fun hp' => xm_out j (pc + 1, lo, sk, hp') := by
  obtain ⟨M, hM, h⟩ := xm_step_of' (lo := lo) (sk := .long x :: .int i :: .ref a :: sk) (hp := hp) hd
  have hx : xm_step j (pc, lo, .long x :: .int i :: .ref a :: sk, hp) = xm_last 1 pc lo (.long x :: .int i :: .ref a :: sk) hp := h
  cases ho : xm_wj hp a i x with
  | some v =>
    refine xo_next ?_
    rw [hx]
    unfold xm_last
    unfold xm_wj at ho
    dsimp only
    (repeat' split at ho) <;> first | (cases ho; done) | (cases ho; simp [*, xm_ok])
  | none =>
    refine xo_stuck ?_
    rw [hx]
    unfold xm_last
    unfold xm_wj at ho
    dsimp only
    (repeat' split at ho) <;> first | (cases ho; done) | (simp [*]; done) | (split <;> first | rfl | simp_all)
theorem xq_alen {a : Nat} (hd : xm_ins j pc = some (.arraylength, 1)) : xm_out j (pc, lo, .ref a :: sk, hp) = (xm_ln hp a).bind fun v => xm_out j (pc + 1, lo, .int v :: sk, hp) := by
  obtain ⟨M, hM, h⟩ := xm_step_of' (lo := lo) (sk := .ref a :: sk) (hp := hp) hd
  have hx : xm_step j (pc, lo, .ref a :: sk, hp) = xm_alen 1 pc lo (.ref a :: sk) hp := h
  cases ho : xm_ln hp a with
  | some v =>
    refine xo_next ?_
    rw [hx]
    unfold xm_alen
    unfold xm_ln at ho
    dsimp only
    (repeat' split at ho) <;> first | (cases ho; done) | (cases ho; simp [*, xm_ok])
  | none =>
    refine xo_stuck ?_
    rw [hx]
    unfold xm_alen
    unfold xm_ln at ho
    dsimp only
    (repeat' split at ho) <;> first | (cases ho; done) | (simp [*]; done) | (split <;> first | rfl | simp_all)
theorem xq_newa {t : ArrayType} {k : Int32} (hd : xm_ins j pc = some (.newarray t, 2)) : xm_out j (pc, lo, .int k :: sk, hp) = (xm_na t k hp).bind fun hp' => xm_out j (pc + 2, lo, .ref hp.2.1 :: sk, hp') := by
  obtain ⟨M, hM, h⟩ := xm_step_of' (lo := lo) (sk := .int k :: sk) (hp := hp) hd
  have hx : xm_step j (pc, lo, .int k :: sk, hp) = xm_newa 2 pc t lo (.int k :: sk) hp := h
  cases ho : xm_na t k hp with
  | some v =>
    refine xo_next ?_
    rw [hx]
    unfold xm_newa
    unfold xm_na at ho
    dsimp only
    (repeat' split at ho) <;> first | (cases ho; done) | (cases ho; simp [*, xm_ok])
  | none =>
    refine xo_stuck ?_
    rw [hx]
    unfold xm_newa
    unfold xm_na at ho
    dsimp only
    (repeat' split at ho) <;> first | (cases ho; done) | (simp [*]; done)
end XQ2
