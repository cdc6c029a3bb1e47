/-! the reference's small methods, in the class's rows -/
/-- the last of d numbers that has c -/
noncomputable def xla (c : Nat → Prop) : Nat → Nat → Option Nat → Option Nat
  | _, 0, f => f
  | k, d + 1, f => xla c (k + 1) d (@ite _ (c k) (Classical.propDecidable _) (some k) f)
theorem xla_t {c : Nat → Prop} {k d : Nat} {f : Option Nat} (h : c k) : xla c k (d + 1) f = xla c (k + 1) d (some k) := by
  show xla c (k + 1) d _ = _
  rw [if_pos h]
theorem xla_f {c : Nat → Prop} {k d : Nat} {f : Option Nat} (h : ¬ c k) : xla c k (d + 1) f = xla c (k + 1) d f := by
  show xla c (k + 1) d _ = _
  rw [if_neg h]
theorem xla_no {c : Nat → Prop} : ∀ d k f, (∀ i, k ≤ i → i < k + d → ¬ c i) → xla c k d f = f := by
  intro d
  induction d with
  | zero => intro k f h; rfl
  | succ d ih => intro k f h; rw [xla_f (h k (Nat.le_refl _) (by omega))]; exact ih (k + 1) f (fun i h1 h2 => h i (by omega) (by omega))
theorem xla_xfo {c : Nat → Prop} : ∀ d k, (∀ i j, k ≤ i → i < k + d → k ≤ j → j < k + d → c i → c j → i = j) → xla c k d none = xfo c k d := by
  intro d
  induction d with
  | zero => intro k h; rfl
  | succ d ih =>
    intro k h
    by_cases hc : c k
    · rw [xla_t hc, xfo_t hc]
      exact xla_no d (k + 1) (some k) (fun i h1 h2 q => by have := h k i (Nat.le_refl _) (by omega) (by omega) (by omega) hc q; omega)
    · rw [xla_f hc, xfo_f hc]
      exact ih (k + 1) (fun i j a b e f' => h i j (by omega) (by omega) (by omega) (by omega))
theorem in_iff {v : Int32} {n : Nat} (hn : n < 2 ^ 31) : (nI 0 ≤ v ∧ v ≤ nI n - nI 1) ↔ (0 ≤ v ∧ v < nI n) := by
  have h0 : nI 0 = 0 := rfl
  rw [h0]
  constructor
  · rintro ⟨h1, h2⟩
    refine ⟨h1, ?_⟩
    obtain ⟨j, hj, rfl⟩ := nI_of (Int32.not_lt.mpr h1)
    cases n with
    | zero =>
      exfalso
      have : nI 0 - nI 1 = -1 := by decide
      rw [this, Int32.le_iff_toInt_le, nI_toInt hj] at h2
      have b : (-1 : Int32).toInt = -1 := by decide
      omega
    | succ n =>
      rw [pk_sub (by omega), Nat.add_sub_cancel, nI_leI hj (by omega)] at h2
      exact nI_lt (by omega) hn
  · rintro ⟨h1, h2⟩
    refine ⟨h1, ?_⟩
    obtain ⟨j, hj, rfl⟩ := nI_of (Int32.not_lt.mpr h1)
    rw [nI_ltI hj hn] at h2
    rw [pk_sub (by omega)]
    exact nI_le (by omega) (by omega)
theorem in30 {v : Int32} : (nI 0 ≤ v ∧ v ≤ nI 30) ↔ (0 ≤ v ∧ v < nI 31) := by
  have h := in_iff (v := v) (n := 31) (by decide)
  have e : nI 31 - nI 1 = nI 30 := by decide
  rw [e] at h
  exact h
section MLEAF
variable {o : Nat} {V : pc_V} {J : Nat → Int64} {Ou : Nat → Option xm_E} {cap : Nat} {hp : xm_H}
theorem m_name (v : Int32) : xm_call 95 [.int v] hp = some (some (.int (xb (0 ≤ v ∧ v < nI 31))), hp) := by
  rw [m_isName, xb_cg in30]
theorem m_isModule (P : Pm o Ou V hp) (I : CInv V cap) (R : Rel V J) (v : Int32) : xm_call 91 [.ref (o + 36), .int v] hp = some (some (.int (xb (0 ≤ v ∧ v < V 1 0))), hp) := by
  have h := I.M
  simp only [k91, s91_0, s91_1, s91_2, s91_3, s91_6, s91_7, s91_8, s91_11, Option.bind_some, Option.toList_some, Option.toList_none, List.cons_append, List.nil_append, xm_kl_n, xm_kl_i, xm_kl_a, xm_kl_j, xl_0, xm_low1, xm_low2, xm_low3, xm_low4, xl_n0, xl_n1, xb_nar, xe_if0, xe_ifn, xm_ci1, xm_ca1, mf_36_0 P, R.nM, h.1, m_in]
  rw [xb_cg (in_iff (by omega))]
theorem m_isPack (P : Pm o Ou V hp) (I : CInv V cap) (R : Rel V J) (v : Int32) : xm_call 92 [.ref (o + 36), .int v] hp = some (some (.int (xb (0 ≤ v ∧ v < V 6 0))), hp) := by
  have h := I.P
  simp only [k92, s92_0, s92_1, s92_2, s92_3, s92_6, s92_7, s92_8, s92_11, Option.bind_some, Option.toList_some, Option.toList_none, List.cons_append, List.nil_append, xm_kl_n, xm_kl_i, xm_kl_a, xm_kl_j, xl_0, xm_low1, xm_low2, xm_low3, xm_low4, xl_n0, xl_n1, xb_nar, xe_if0, xe_ifn, xm_ci1, xm_ca1, mf_36_2 P, R.nP, h.1, m_in]
  rw [xb_cg (in_iff (by omega))]
theorem m_isType (P : Pm o Ou V hp) (I : CInv V cap) (R : Rel V J) (v : Int32) : xm_call 93 [.ref (o + 36), .int v] hp = some (some (.int (xb (0 ≤ v ∧ v < V 11 0))), hp) := by
  have h := I.T
  simp only [k93, s93_0, s93_1, s93_2, s93_3, s93_6, s93_7, s93_8, s93_11, Option.bind_some, Option.toList_some, Option.toList_none, List.cons_append, List.nil_append, xm_kl_n, xm_kl_i, xm_kl_a, xm_kl_j, xl_0, xm_low1, xm_low2, xm_low3, xm_low4, xl_n0, xl_n1, xb_nar, xe_if0, xe_ifn, xm_ci1, xm_ca1, mf_36_7 P, R.nT, h.1, m_in]
  rw [xb_cg (in_iff (by omega))]
theorem m_isUnit (P : Pm o Ou V hp) (I : CInv V cap) (R : Rel V J) (v : Int32) : xm_call 94 [.ref (o + 36), .int v] hp = some (some (.int (xb (0 ≤ v ∧ v < V 23 0))), hp) := by
  have h := I.U
  simp only [k94, s94_0, s94_1, s94_2, s94_3, s94_6, s94_7, s94_8, s94_11, Option.bind_some, Option.toList_some, Option.toList_none, List.cons_append, List.nil_append, xm_kl_n, xm_kl_i, xm_kl_a, xm_kl_j, xl_0, xm_low1, xm_low2, xm_low3, xm_low4, xl_n0, xl_n1, xb_nar, xe_if0, xe_ifn, xm_ci1, xm_ca1, mf_36_19 P, R.nU, h.1, m_in]
  rw [xb_cg (in_iff (by omega))]
theorem m_isLayer (P : Pm o Ou V hp) (I : CInv V cap) (R : Rel V J) (v : Int32) : xm_call 100 [.ref (o + 36), .int v] hp = some (some (.int (xb (0 ≤ v ∧ v < V 33 0))), hp) := by
  have h := I.L
  simp only [k100, s100_0, s100_1, s100_2, s100_3, s100_6, s100_7, s100_8, s100_11, Option.bind_some, Option.toList_some, Option.toList_none, List.cons_append, List.nil_append, xm_kl_n, xm_kl_i, xm_kl_a, xm_kl_j, xl_0, xm_low1, xm_low2, xm_low3, xm_low4, xl_n0, xl_n1, xb_nar, xe_if0, xe_ifn, xm_ci1, xm_ca1, mf_36_30 P, R.nL, h.1, m_in]
  rw [xb_cg (in_iff (by omega))]
theorem m_packOf (P : Pm o Ou V hp) (I : CInv V cap) (R : Rel V J) (m nm : Int32) : xm_call 44 [.ref (o + 36), .int m, .int nm] hp = some (some (.int (oI (xfo (fun p => V 7 p = m ∧ V 8 p = nm) 0 (zP V)))), hp) := by
  have hn := I.P
  have loop : ∀ d k f, k + d = zP V → xm_out 44 (5, [some (.ref (o + 36)), some (.int m), some (.int nm), some (.int (oI f)), some (.int (nI k))], [], hp) = some (some (.int (oI (xla (fun p => V 7 p = m ∧ V 8 p = nm) k d f))), hp) := by
    intro d
    induction d with
    | zero =>
      intro k f hk
      simp only [s44_5, s44_7, s44_8, s44_11, s44_49, s44_50, Option.bind_some, Option.toList_some, Option.toList_none, List.cons_append, List.nil_append, xm_kl_n, xm_kl_i, xm_kl_a, xm_kl_j, xl_0, xm_low1, xm_low2, xm_low3, xm_low4, xl_n0, xl_n1, xb_nar, xe_if0, xe_ifn, xm_ci1, xm_ca1, mf_36_2 P, R.nP, hn.1]
      rw [if_pos (nI_le (by omega) (by omega))]
      rfl
    | succ d ih =>
      intro k f hk
      simp only [s44_5, s44_7, s44_8, s44_11, s44_14, s44_15, s44_18, s44_20, s44_21, s44_22, s44_25, s44_26, s44_29, s44_31, s44_32, s44_33, s44_36, s44_38, s44_41, s44_42, s44_43, Option.bind_some, Option.toList_some, Option.toList_none, List.cons_append, List.nil_append, xm_kl_n, xm_kl_i, xm_kl_a, xm_kl_j, xl_0, xm_low1, xm_low2, xm_low3, xm_low4, xl_n0, xl_n1, xb_nar, xe_if0, xe_ifn, xm_ci1, xm_ca1, mf_36_2 P, R.nP, hn.1, mf_36_3 P, mf_36_4 P, mai_38 P (show k < 30 by omega), mai_39 P (show k < 30 by omega), R.r38, R.r39, nI_add]
      rw [if_neg (nI_ge (by omega) (by omega))]
      simp only [s44_46]
      by_cases h : V 7 k = m ∧ V 8 k = nm
      · rw [if_neg (fun z => z h.1), if_neg (fun z => z h.2), xla_t (c := fun p => V 7 p = m ∧ V 8 p = nm) h]
        exact ih (k + 1) (some k) (by omega)
      · rw [xla_f (c := fun p => V 7 p = m ∧ V 8 p = nm) h]
        by_cases h1 : V 7 k = m
        · rw [if_neg (fun z => z h1), if_pos (fun z => h ⟨h1, z⟩)]
          exact ih (k + 1) f (by omega)
        · rw [if_pos h1]
          exact ih (k + 1) f (by omega)
  simp only [k44, s44_0, s44_1, s44_2, s44_3, Option.bind_some, Option.toList_some, Option.toList_none, List.cons_append, List.nil_append, xm_kl_n, xm_kl_i, xm_kl_a, xm_kl_j, xl_0, xm_low1, xm_low2, xm_low3, xm_low4, xl_n0, xl_n1, xb_nar, xe_if0, xe_ifn, xm_ci1, xm_ca1]
  refine (loop (zP V) 0 none (by omega)).trans ?_
  rw [xla_xfo (zP V) 0 (fun i j _ hi _ hj q1 q2 => R.up i j (by omega) (by omega) (q1.1.trans q2.1.symm) (q1.2.trans q2.2.symm))]
theorem m_typeOf (P : Pm o Ou V hp) (I : CInv V cap) (R : Rel V J) (m nm : Int32) : xm_call 45 [.ref (o + 36), .int m, .int nm] hp = some (some (.int (oI (xfo (fun p => V 12 p = m ∧ V 13 p = nm) 0 (zT V)))), hp) := by
  have hn := I.T
  have loop : ∀ d k f, k + d = zT V → xm_out 45 (5, [some (.ref (o + 36)), some (.int m), some (.int nm), some (.int (oI f)), some (.int (nI k))], [], hp) = some (some (.int (oI (xla (fun p => V 12 p = m ∧ V 13 p = nm) k d f))), hp) := by
    intro d
    induction d with
    | zero =>
      intro k f hk
      simp only [s45_5, s45_7, s45_8, s45_11, s45_49, s45_50, Option.bind_some, Option.toList_some, Option.toList_none, List.cons_append, List.nil_append, xm_kl_n, xm_kl_i, xm_kl_a, xm_kl_j, xl_0, xm_low1, xm_low2, xm_low3, xm_low4, xl_n0, xl_n1, xb_nar, xe_if0, xe_ifn, xm_ci1, xm_ca1, mf_36_7 P, R.nT, hn.1]
      rw [if_pos (nI_le (by omega) (by omega))]
      rfl
    | succ d ih =>
      intro k f hk
      simp only [s45_5, s45_7, s45_8, s45_11, s45_14, s45_15, s45_18, s45_20, s45_21, s45_22, s45_25, s45_26, s45_29, s45_31, s45_32, s45_33, s45_36, s45_38, s45_41, s45_42, s45_43, Option.bind_some, Option.toList_some, Option.toList_none, List.cons_append, List.nil_append, xm_kl_n, xm_kl_i, xm_kl_a, xm_kl_j, xl_0, xm_low1, xm_low2, xm_low3, xm_low4, xl_n0, xl_n1, xb_nar, xe_if0, xe_ifn, xm_ci1, xm_ca1, mf_36_7 P, R.nT, hn.1, mf_36_8 P, mf_36_9 P, mai_42 P (show k < 40 by omega), mai_43 P (show k < 40 by omega), R.r42, R.r43, nI_add]
      rw [if_neg (nI_ge (by omega) (by omega))]
      simp only [s45_46]
      by_cases h : V 12 k = m ∧ V 13 k = nm
      · rw [if_neg (fun z => z h.1), if_neg (fun z => z h.2), xla_t (c := fun p => V 12 p = m ∧ V 13 p = nm) h]
        exact ih (k + 1) (some k) (by omega)
      · rw [xla_f (c := fun p => V 12 p = m ∧ V 13 p = nm) h]
        by_cases h1 : V 12 k = m
        · rw [if_neg (fun z => z h1), if_pos (fun z => h ⟨h1, z⟩)]
          exact ih (k + 1) f (by omega)
        · rw [if_pos h1]
          exact ih (k + 1) f (by omega)
  simp only [k45, s45_0, s45_1, s45_2, s45_3, Option.bind_some, Option.toList_some, Option.toList_none, List.cons_append, List.nil_append, xm_kl_n, xm_kl_i, xm_kl_a, xm_kl_j, xl_0, xm_low1, xm_low2, xm_low3, xm_low4, xl_n0, xl_n1, xb_nar, xe_if0, xe_ifn, xm_ci1, xm_ca1]
  refine (loop (zT V) 0 none (by omega)).trans ?_
  rw [xla_xfo (zT V) 0 (fun i j _ hi _ hj q1 q2 => R.ut i j (by omega) (by omega) (q1.1.trans q2.1.symm) (q1.2.trans q2.2.symm))]
theorem m_ownMember (P : Pm o Ou V hp) (I : CInv V cap) (R : Rel V J) (t nm kd : Int32) : xm_call 46 [.ref (o + 36), .int t, .int nm, .int kd] hp = some (some (.int (oI (xfo (fun p => V 18 p = t ∧ V 19 p = nm ∧ V 20 p = kd) 0 (zB V)))), hp) := by
  have hn := I.B
  have loop : ∀ d k f, k + d = zB V → xm_out 46 (6, [some (.ref (o + 36)), some (.int t), some (.int nm), some (.int kd), some (.int (oI f)), some (.int (nI k))], [], hp) = some (some (.int (oI (xla (fun p => V 18 p = t ∧ V 19 p = nm ∧ V 20 p = kd) k d f))), hp) := by
    intro d
    induction d with
    | zero =>
      intro k f hk
      simp only [s46_6, s46_8, s46_9, s46_12, s46_63, s46_65, Option.bind_some, Option.toList_some, Option.toList_none, List.cons_append, List.nil_append, xm_kl_n, xm_kl_i, xm_kl_a, xm_kl_j, xl_0, xm_low1, xm_low2, xm_low3, xm_low4, xl_n0, xl_n1, xb_nar, xe_if0, xe_ifn, xm_ci1, xm_ca1, mf_36_13 P, R.nB, hn.1]
      rw [if_pos (nI_le (by omega) (by omega))]
      rfl
    | succ d ih =>
      intro k f hk
      simp only [s46_6, s46_8, s46_9, s46_12, s46_15, s46_16, s46_19, s46_21, s46_22, s46_23, s46_26, s46_27, s46_30, s46_32, s46_33, s46_34, s46_37, s46_38, s46_41, s46_43, s46_44, s46_45, s46_48, s46_50, s46_53, s46_55, s46_57, Option.bind_some, Option.toList_some, Option.toList_none, List.cons_append, List.nil_append, xm_kl_n, xm_kl_i, xm_kl_a, xm_kl_j, xl_0, xm_low1, xm_low2, xm_low3, xm_low4, xl_n0, xl_n1, xb_nar, xe_if0, xe_ifn, xm_ci1, xm_ca1, mf_36_13 P, R.nB, hn.1, mf_36_14 P, mf_36_15 P, mf_36_16 P, mai_47 P (show k < 60 by omega), mai_48 P (show k < 60 by omega), mai_49 P (show k < 60 by omega), R.r47, R.r48, R.r49, nI_add]
      rw [if_neg (nI_ge (by omega) (by omega))]
      simp only [s46_60]
      by_cases h : V 18 k = t ∧ V 19 k = nm ∧ V 20 k = kd
      · rw [if_neg (fun z => z h.1), if_neg (fun z => z h.2.1), if_neg (fun z => z h.2.2), xla_t (c := fun p => V 18 p = t ∧ V 19 p = nm ∧ V 20 p = kd) h]
        exact ih (k + 1) (some k) (by omega)
      · rw [xla_f (c := fun p => V 18 p = t ∧ V 19 p = nm ∧ V 20 p = kd) h]
        by_cases h1 : V 18 k = t
        · rw [if_neg (fun z => z h1)]
          by_cases h2 : V 19 k = nm
          · rw [if_neg (fun z => z h2), if_pos (fun z => h ⟨h1, h2, z⟩)]
            exact ih (k + 1) f (by omega)
          · rw [if_pos h2]
            exact ih (k + 1) f (by omega)
        · rw [if_pos h1]
          exact ih (k + 1) f (by omega)
  simp only [k46, s46_0, s46_1, s46_3, s46_4, Option.bind_some, Option.toList_some, Option.toList_none, List.cons_append, List.nil_append, xm_kl_n, xm_kl_i, xm_kl_a, xm_kl_j, xl_0, xm_low1, xm_low2, xm_low3, xm_low4, xl_n0, xl_n1, xb_nar, xe_if0, xe_ifn, xm_ci1, xm_ca1]
  refine (loop (zB V) 0 none (by omega)).trans ?_
  rw [xla_xfo (zB V) 0 (fun i j _ hi _ hj q1 q2 => R.ub i j (by omega) (by omega) (q1.1.trans q2.1.symm) (q1.2.1.trans q2.2.1.symm) (q1.2.2.trans q2.2.2.symm))]
theorem fl1 (R : Rel V J) {t : Nat} (ht : t < zT V) : (V 15 t &&& nI 1 = nI 1) ↔ ¬ V 15 t &&& nI 1 = 0 := by
  rcases R.fl t ht with h | h | h | h <;> rw [h] <;> decide
theorem m_isOpen (P : Pm o Ou V hp) (I : CInv V cap) (R : Rel V J) {t : Nat} (ht : t < zT V) : xm_call 47 [.ref (o + 36), .int (nI t)] hp = some (some (.int (xb (¬ V 15 t &&& nI 1 = 0))), hp) := by
  have hT := I.T.2
  simp only [k47, s47_0, s47_1, s47_4, s47_5, s47_6, s47_7, s47_8, s47_9, s47_12, s47_13, s47_16, s47_17, Option.bind_some, Option.toList_some, Option.toList_none, List.cons_append, List.nil_append, xm_kl_n, xm_kl_i, xm_kl_a, xm_kl_j, xl_0, xm_low1, xm_low2, xm_low3, xm_low4, xl_n0, xl_n1, xb_nar, xe_if0, xe_ifn, xm_ci1, xm_ca1, mf_36_11 P, mai_45 P (show t < 40 by omega), R.r45]
  by_cases h : V 15 t &&& nI 1 = nI 1
  · rw [if_neg (fun z => z h), xb_t ((fl1 R ht).mp h)]
  · rw [if_pos h, xb_f (fun z => h ((fl1 R ht).mpr z))]
theorem m_moduleOf (P : Pm o Ou V hp) (I : CInv V cap) (R : Rel V J) {t : Nat} (ht : t < zT V) : xm_call 48 [.ref (o + 36), .int (nI t)] hp = some (some (.int (V 7 (ftpk V t))), hp) := by
  have hT := I.T.2
  have hP := I.P.2
  have h2 := I.tpk t ht
  simp only [k48, s48_0, s48_1, s48_4, s48_5, s48_8, s48_9, s48_10, s48_11, Option.bind_some, Option.toList_some, Option.toList_none, List.cons_append, List.nil_append, xm_kl_n, xm_kl_i, xm_kl_a, xm_kl_j, xl_0, xm_low1, xm_low2, xm_low3, xm_low4, xl_n0, xl_n1, xb_nar, xe_if0, xe_ifn, xm_ci1, xm_ca1, mf_36_3 P, mf_36_8 P, mai_42 P (show t < 40 by omega), R.r42, h2.1, mai_38 P (show ftpk V t < 30 by omega), R.r38]
theorem m_home (P : Pm o Ou V hp) (I : CInv V cap) (R : Rel V J) {u : Nat} (hu : u < zU V) : xm_call 55 [.ref (o + 36), .int (nI u)] hp = some (some (.int (V 7 (fupk V u))), hp) := by
  have hU := I.U.2
  have hP := I.P.2
  have h2 := I.upk u hu
  simp only [k55, s55_0, s55_1, s55_4, s55_5, s55_8, s55_9, s55_10, s55_11, Option.bind_some, Option.toList_some, Option.toList_none, List.cons_append, List.nil_append, xm_kl_n, xm_kl_i, xm_kl_a, xm_kl_j, xl_0, xm_low1, xm_low2, xm_low3, xm_low4, xl_n0, xl_n1, xb_nar, xe_if0, xe_ifn, xm_ci1, xm_ca1, mf_36_3 P, mf_36_20 P, mai_52 P (show u < 12 by omega), R.r52, h2.1, mai_38 P (show fupk V u < 30 by omega), R.r38]
/-- fuel beyond the way up changes nothing -/
theorem xsub_more (I : CInv V cap) (of : Int32) : ∀ t d, t < zT V → t < d → xsub (fpar V) of d (some t) = xsub (fpar V) of (t + 1) (some t) := by
  intro t
  induction t using Nat.strongRecOn with
  | ind t ih =>
    intro d ht hd
    cases d with
    | zero => omega
    | succ d =>
      by_cases h : nI t = of
      · simp [xsub, h]
      · simp only [xsub, h, if_false]
        cases hq : fpar V t with
        | none => cases d <;> cases t <;> rfl
        | some s =>
          have hs := (I.par t ht).2 s hq
          rw [ih s hs d (by omega) (by omega), ih s hs t (by omega) hs]
theorem m_isSubtype (P : Pm o Ou V hp) (I : CInv V cap) (R : Rel V J) {s : Nat} (hs : s < zT V) {t : Nat} (ht : t < zT V) : xm_call 49 [.ref (o + 36), .int (nI t), .int (nI s)] hp = some (some (.int (xb (xsub (fpar V) (nI s) 40 (some t) = true))), hp) := by
  have hT := I.T.2
  have loop : ∀ t x0, t < zT V → xm_out 49 (2, [some (.ref (o + 36)), some (.int x0), some (.int (nI s)), some (.int (nI t))], [], hp) = some (some (.int (xb (xsub (fpar V) (nI s) (t + 1) (some t) = true))), hp) := by
    intro t
    induction t using Nat.strongRecOn with
    | ind t ih =>
      intro x0 ht
      have hp2 := I.par t ht
      simp only [s49_2, s49_3, s49_6, s49_7, s49_8, s49_11, s49_12, s49_15, s49_16, s49_17, s49_21, s49_22, s49_23, s49_26, s49_27, s49_30, s49_31, Option.bind_some, Option.toList_some, Option.toList_none, List.cons_append, List.nil_append, xm_kl_n, xm_kl_i, xm_kl_a, xm_kl_j, xl_0, xm_low1, xm_low2, xm_low3, xm_low4, xl_n0, xl_n1, xb_nar, xe_if0, xe_ifn, xm_ci1, xm_ca1, mf_36_12 P, mai_46 P (show t < 40 by omega), R.r46, hp2.1]
      rw [if_neg (nI_pos (by omega))]
      by_cases h : nI t = nI s
      · rw [if_pos h, if_neg (fun z => z h), xb_t (by simp [xsub, h])]
      · rw [if_neg h]
        simp only [s49_18]
        rw [show xsub (fpar V) (nI s) (t + 1) (some t) = xsub (fpar V) (nI s) t (fpar V t) by simp only [xsub, h, if_false]]
        cases hq : fpar V t with
        | none =>
          simp only [oI_n, s49_2, s49_3, s49_21, s49_22, s49_23, s49_26, s49_27, s49_30, s49_31, Option.bind_some, Option.toList_some, Option.toList_none, List.cons_append, List.nil_append, xm_kl_n, xm_kl_i, xm_kl_a, xm_kl_j, xl_0, xm_low1, xm_low2, xm_low3, xm_low4, xl_n0, xl_n1, xb_nar, xe_if0, xe_ifn, xm_ci1, xm_ca1]
          rw [if_pos (by decide), if_pos (fun z => nI_m1 (show s < 2 ^ 31 by omega) z.symm)]
          cases t <;> simp [xsub, xb_f]
        | some q =>
          have hql := hp2.2 q hq
          rw [oI_s, ih q hql x0 (by omega), xsub_more I (nI s) q t (by omega) hql]
  simp only [k49, s49_0, s49_1, Option.bind_some, Option.toList_some, Option.toList_none, List.cons_append, List.nil_append, xm_kl_n, xm_kl_i, xm_kl_a, xm_kl_j, xl_0, xm_low1, xm_low2, xm_low3, xm_low4, xl_n0, xl_n1, xb_nar, xe_if0, xe_ifn, xm_ci1, xm_ca1]
  rw [loop t _ ht, xsub_more I (nI s) t 40 ht (by omega)]
end MLEAF
