/-! the reference's members, layers, splits -/
theorem xfo_cg {c c' : Nat → Prop} : ∀ d k, (∀ i, k ≤ i → i < k + d → (c i ↔ c' i)) → xfo c k d = xfo c' k d := by
  intro d
  induction d with
  | zero => intro k h; rfl
  | succ d ih =>
    intro k h
    have hk := h k (Nat.le_refl _) (by omega)
    by_cases hc : c k
    · rw [xfo_t hc, xfo_t (hk.mp hc)]
    · rw [xfo_f hc, xfo_f (fun q => hc (hk.mpr q)), ih (k + 1) (fun i h1 h2 => h i (by omega) (by omega))]
/-- how many of d numbers have c -/
noncomputable def nct (c : Nat → Prop) : Nat → Nat → Nat
  | _, 0 => 0
  | k, d + 1 => @ite _ (c k) (Classical.propDecidable _) 1 0 + nct c (k + 1) d
theorem nct_t {c : Nat → Prop} {k d : Nat} (h : c k) : nct c k (d + 1) = 1 + nct c (k + 1) d := by
  show _ + _ = _
  rw [if_pos h]
theorem nct_f {c : Nat → Prop} {k d : Nat} (h : ¬ c k) : nct c k (d + 1) = nct c (k + 1) d := by
  show _ + _ = _
  rw [if_neg h, Nat.zero_add]
theorem nct_le {c : Nat → Prop} : ∀ d k, nct c k d ≤ d := by
  intro d
  induction d with
  | zero => intro k; exact Nat.le_refl _
  | succ d ih =>
    intro k
    have := ih (k + 1)
    by_cases h : c k
    · rw [nct_t h]; omega
    · rw [nct_f h]; omega
section MUSED
variable {o : Nat} {V : pc_V} {J : Nat → Int64} {Ou : Nat → Option xm_E} {cap : Nat} {hp : xm_H} {F : Nat → Int32}
theorem spF_spec (I : CInv V cap) (m rd : Int32) {x : Nat} (hx : x < 31) : ∀ d k a b, k + d = zP V → (tb (spF V m rd k d a b) x ↔ tb b x ∨ (tb a x ∧ 1 ≤ nct (fun p => V 8 p = nI x ∧ xsb V p m rd) k d) ∨ 2 ≤ nct (fun p => V 8 p = nI x ∧ xsb V p m rd) k d) := by
  intro d
  induction d with
  | zero =>
    intro k a b hk
    show tb b x ↔ _
    refine ⟨Or.inl, fun z => z.elim id (fun w => w.elim (fun w => ?_) (fun w => ?_))⟩
    · exact absurd w.2 (by show ¬ 1 ≤ 0; omega)
    · exact absurd w (by show ¬ 2 ≤ 0; omega)
  | succ d ih =>
    intro k a b hk
    have hn := I.pnm k (by omega)
    by_cases h1 : xsb V k m rd
    · rw [show spF V m rd k (d + 1) a b = spF V m rd (k + 1) d (a ||| (nI 1 <<< (V 8 k &&& 31))) (b ||| (a &&& (nI 1 <<< (V 8 k &&& 31)))) from if_pos h1, ih (k + 1) _ _ (by omega)]
      rw [tb_or (by omega), tb_or (by omega), tb_and (by omega), hn.1, tb_bit (by omega) (by omega)]
      by_cases h2 : fpnm V k = x
      · rw [nct_t (c := fun p => V 8 p = nI x ∧ xsb V p m rd) ⟨by rw [hn.1, h2], h1⟩]
        constructor
        · rintro ((h | h) | h | h)
          · exact Or.inl h
          · exact Or.inr (Or.inl ⟨h.1, by omega⟩)
          · exact Or.inr (Or.inr (by omega))
          · exact Or.inr (Or.inr (by omega))
        · rintro (h | h | h)
          · exact Or.inl (Or.inl h)
          · exact Or.inl (Or.inr ⟨h.1, h2⟩)
          · exact Or.inr (Or.inl ⟨Or.inr h2, by omega⟩)
      · rw [nct_f (c := fun p => V 8 p = nI x ∧ xsb V p m rd) (fun z => h2 (by have := hn.1.symm.trans z.1; rwa [nI_eq (by omega) (by omega)] at this))]
        constructor
        · rintro ((h | h) | h | h)
          · exact Or.inl h
          · exact absurd h.2 h2
          · exact Or.inr (Or.inl ⟨h.1.elim id (fun z => absurd z h2), h.2⟩)
          · exact Or.inr (Or.inr h)
        · rintro (h | h | h)
          · exact Or.inl (Or.inl h)
          · exact Or.inr (Or.inl ⟨Or.inl h.1, h.2⟩)
          · exact Or.inr (Or.inr h)
    · rw [show spF V m rd k (d + 1) a b = spF V m rd (k + 1) d a b from if_neg h1, ih (k + 1) _ _ (by omega), nct_f (c := fun p => V 8 p = nI x ∧ xsb V p m rd) (fun z => h1 z.2)]
theorem spl_eq (I : CInv V cap) (m : Nat) : spl V m = xfo (fun x => 2 ≤ nct (fun p => V 8 p = nI x ∧ xsb V p (nI m) (xrd V m False)) 0 (zP V)) 0 31 := by
  unfold spl
  refine xfo_cg 31 0 (fun x _ hx => ?_)
  have h := spF_spec I (nI m) (xrd V m False) (x := x) (by omega) (zP V) 0 (nI 0) (nI 0) (by omega)
  refine Iff.trans h ⟨fun z => z.elim (fun w => absurd w (tb_0 (by omega))) (fun w => w.elim (fun w => absurd w.1 (tb_0 (by omega))) id), fun z => Or.inr (Or.inr z)⟩
theorem m_splitOf (I : CInv V cap) (R : Rel V J) {m : Nat} (hm : m < zM V) (P : Pm o Ou (pv_row V 63 F) hp) : ∃ F' hp', xm_call 145 [.ref (o + 36), .int (nI m)] hp = some (some (.int (oI (spl V m))), hp') ∧ Pm o Ou (pv_row V 63 F') hp' ∧ hp'.2 = hp.2 := by
  have hP := I.P
  obtain ⟨F', hp', er, P', hs, hF⟩ := m_read I R hm False P
  rw [xb_f (c := False) id] at er
  refine ⟨F', hp', ?_, P', hs⟩
  have inner : ∀ d k x n, k + d = zP V → n ≤ k → xm_out 145 (19, [some (.ref (o + 36)), some (.int (nI m)), some (.int (nI x)), some (.int (nI n)), some (.int (nI k))], [], hp') = xm_out 145 (63, [some (.ref (o + 36)), some (.int (nI m)), some (.int (nI x)), some (.int (nI (n + nct (fun p => V 8 p = nI x ∧ xsb V p (nI m) (xrd V m False)) k d))), some (.int (nI (zP V)))], [], hp') := by
    intro d
    induction d with
    | zero =>
      intro k x n hk hn
      simp only [s145_19, s145_21, s145_22, s145_25, Option.bind_some, Option.toList_some, Option.toList_none, List.cons_append, List.nil_append, xm_kl_n, xm_kl_i, xm_kl_a, xm_kl_j, xl_0, xm_low1, xm_low2, xm_low3, xm_low4, xl_n0, xl_n1, xb_nar, xe_if0, xe_ifn, xm_ci1, xm_ca1, mf_36_2 P', pv63_36, R.nP, hP.1]
      rw [if_pos (nI_le (by omega) (by omega)), show k = zP V by omega]
      rfl
    | succ d ih =>
      intro k x n hk hn
      simp only [s145_19, s145_21, s145_22, s145_25, s145_28, s145_29, s145_32, s145_34, s145_35, s145_36, s145_39, s145_40, s145_41, s145_43, s145_46, s145_49, s145_50, s145_51, s145_52, s145_55, s145_56, s145_57, Option.bind_some, Option.toList_some, Option.toList_none, List.cons_append, List.nil_append, xm_kl_n, xm_kl_i, xm_kl_a, xm_kl_j, xl_0, xm_low1, xm_low2, xm_low3, xm_low4, xl_n0, xl_n1, xb_nar, xe_if0, xe_ifn, xm_ci1, xm_ca1, mf_36_2 P', mf_36_4 P', pv63_36, R.nP, hP.1, mai_39 P' (show k < 30 by omega), pv63_39, R.r39, mcl_36 P', m_seesPack P' I R (show k < zP V by omega) hm hF, nI_add]
      rw [if_neg (nI_ge (by omega) (by omega))]
      simp only [s145_60]
      by_cases h1 : V 8 k = nI x
      · rw [if_neg (fun z => z h1)]
        by_cases h2 : xsb V k (nI m) (xrd V m False)
        · rw [if_pos h2, ih (k + 1) x (n + 1) (by omega) (by omega), nct_t (c := fun p => V 8 p = nI x ∧ xsb V p (nI m) (xrd V m False)) ⟨h1, h2⟩, show n + 1 + nct (fun p => V 8 p = nI x ∧ xsb V p (nI m) (xrd V m False)) (k + 1) d = n + (1 + nct (fun p => V 8 p = nI x ∧ xsb V p (nI m) (xrd V m False)) (k + 1) d) by omega]
        · rw [if_neg h2, ih (k + 1) x n (by omega) (by omega), nct_f (c := fun p => V 8 p = nI x ∧ xsb V p (nI m) (xrd V m False)) (fun z => h2 z.2)]
      · rw [if_pos h1, ih (k + 1) x n (by omega) (by omega), nct_f (c := fun p => V 8 p = nI x ∧ xsb V p (nI m) (xrd V m False)) (fun z => h1 z.1)]
  have outer : ∀ d x x3 x4, x + d = 31 → xm_out 145 (8, [some (.ref (o + 36)), some (.int (nI m)), some (.int (nI x)), x3, x4], [], hp') = some (some (.int (oI (xfo (fun x => 2 ≤ nct (fun p => V 8 p = nI x ∧ xsb V p (nI m) (xrd V m False)) 0 (zP V)) x d))), hp') := by
    intro d
    induction d with
    | zero =>
      intro x x3 x4 hk
      simp only [s145_8, s145_9, s145_11, s145_76, s145_77, Option.bind_some, Option.toList_some, Option.toList_none, List.cons_append, List.nil_append, xm_kl_n, xm_kl_i, xm_kl_a, xm_kl_j, xl_0, xm_low1, xm_low2, xm_low3, xm_low4, xl_n0, xl_n1, xb_nar, xe_if0, xe_ifn, xm_ci1, xm_ca1]
      rw [if_pos (nI_lt (by omega) (by omega))]
      rfl
    | succ d ih =>
      intro x x3 x4 hk
      simp only [s145_8, s145_9, s145_11, s145_14, s145_15, s145_16, s145_17, Option.bind_some, Option.toList_some, Option.toList_none, List.cons_append, List.nil_append, xm_kl_n, xm_kl_i, xm_kl_a, xm_kl_j, xl_0, xm_low1, xm_low2, xm_low3, xm_low4, xl_n0, xl_n1, xb_nar, xe_if0, xe_ifn, xm_ci1, xm_ca1]
      rw [if_neg (nI_nlt (by omega) (by omega)), inner (zP V) 0 x 0 (by omega) (by omega), Nat.zero_add]
      simp only [s145_63, s145_64, s145_65, s145_68, s145_69, s145_70, Option.bind_some, Option.toList_some, Option.toList_none, List.cons_append, List.nil_append, xm_kl_n, xm_kl_i, xm_kl_a, xm_kl_j, xl_0, xm_low1, xm_low2, xm_low3, xm_low4, xl_n0, xl_n1, xb_nar, xe_if0, xe_ifn, xm_ci1, xm_ca1, nI_add]
      have hle := nct_le (c := fun p => V 8 p = nI x ∧ xsb V p (nI m) (xrd V m False)) (zP V) 0
      by_cases h : 2 ≤ nct (fun p => V 8 p = nI x ∧ xsb V p (nI m) (xrd V m False)) 0 (zP V)
      · rw [xfo_t (c := fun x => 2 ≤ nct (fun p => V 8 p = nI x ∧ xsb V p (nI m) (xrd V m False)) 0 (zP V)) h, if_neg (nI_ge (by omega) (by omega))]
        rfl
      · rw [xfo_f (c := fun x => 2 ≤ nct (fun p => V 8 p = nI x ∧ xsb V p (nI m) (xrd V m False)) 0 (zP V)) h, if_pos (nI_le (by omega) (by omega))]
        simp only [s145_73]
        exact ih (x + 1) _ _ (by omega)
  simp only [k145, s145_0, s145_1, s145_2, s145_3, s145_6, s145_7, Option.bind_some, Option.toList_some, Option.toList_none, List.cons_append, List.nil_append, xm_kl_n, xm_kl_i, xm_kl_a, xm_kl_j, xl_0, xm_low1, xm_low2, xm_low3, xm_low4, xl_n0, xl_n1, xb_nar, xe_if0, xe_ifn, xm_ci1, xm_ca1, mcl_36 P, er]
  rw [outer 31 0 _ _ (by omega), ← spl_eq I m]
/-- fuel beyond the way up changes nothing -/
theorem xnm_more (I : CInv V cap) (nm kd : Int32) : ∀ t d, t < zT V → t < d → xnm V nm kd d (some t) = xnm V nm kd (t + 1) (some t) := by
  intro t
  induction t using Nat.strongRecOn with
  | ind t ih =>
    intro d ht hd
    cases d with
    | zero => omega
    | succ d =>
      cases h : xom V nm kd t with
      | some b => simp only [xnm, h]
      | none =>
        simp only [xnm, h]
        cases hq : fpar V t with
        | none => cases d <;> cases t <;> rfl
        | some s =>
          have hs := (I.par t ht).2 s hq
          rw [ih s hs d (by omega) (by omega), ih s hs t (by omega) hs]
theorem m_usable (P : Pm o Ou (pv_row V 63 F) hp) (I : CInv V cap) (R : Rel V J) {u t : Nat} (hu : u < zU V) (ht : t < zT V) (nm kd : Int32) : xm_call 99 [.ref (o + 36), .int (nI u), .int (nI t), .int nm, .int kd] hp = some (some (.int (oI (xum V u t nm kd))), hp) := by
  have hT := I.T.2
  have hB := I.B.2
  have loop : ∀ t x2, t < zT V → ∃ x6, xm_out 99 (6, [some (.ref (o + 36)), some (.int (nI u)), x2, some (.int nm), some (.int kd), some (.int (-1)), some (.int (nI t))], [], hp) = xm_out 99 (39, [some (.ref (o + 36)), some (.int (nI u)), x2, some (.int nm), some (.int kd), some (.int (oI (xnm V nm kd (t + 1) (some t)))), x6], [], hp) := by
    intro t
    induction t using Nat.strongRecOn with
    | ind t ih =>
      intro x2 ht
      have hp2 := I.par t ht
      have e : xm_out 99 (6, [some (.ref (o + 36)), some (.int (nI u)), x2, some (.int nm), some (.int kd), some (.int (-1)), some (.int (nI t))], [], hp) = xm_out 99 (6, [some (.ref (o + 36)), some (.int (nI u)), x2, some (.int nm), some (.int kd), some (.int (oI (xom V nm kd t))), some (.int (oI (fpar V t)))], [], hp) := by
        conv => lhs; simp only [s99_6, s99_8, s99_11, s99_13, s99_16, s99_17, s99_19, s99_20, s99_22, s99_25, s99_27, s99_28, s99_31, s99_33, s99_34, Option.bind_some, Option.toList_some, Option.toList_none, List.cons_append, List.nil_append, xm_kl_n, xm_kl_i, xm_kl_a, xm_kl_j, xl_0, xm_low1, xm_low2, xm_low3, xm_low4, xl_n0, xl_n1, xb_nar, xe_if0, xe_ifn, xm_ci1, xm_ca1, mcl_36 P, n_ownMember P I R, mf_36_12 P, mai_46 P (show t < 40 by omega), pv63_46, R.r46, hp2.1]
        rw [if_neg (nI_pos (by omega)), if_neg (show ¬ (0 : Int32) ≤ -1 by decide)]
        simp only [s99_36]
        rfl
      rw [e]
      cases hr : xom V nm kd t with
      | none =>
        rw [show xnm V nm kd (t + 1) (some t) = xnm V nm kd t (fpar V t) by simp only [xnm, hr]]
        cases hq : fpar V t with
        | none =>
          refine ⟨some (.int (-1)), ?_⟩
          rw [show xnm V nm kd t none = none by cases t <;> rfl]
          simp only [oI_n, s99_6, s99_8, Option.bind_some, Option.toList_some, Option.toList_none, List.cons_append, List.nil_append, xm_kl_n, xm_kl_i, xm_kl_a, xm_kl_j, xl_0, xm_low1, xm_low2, xm_low3, xm_low4, xl_n0, xl_n1, xb_nar, xe_if0, xe_ifn, xm_ci1, xm_ca1]
          rw [if_pos (show (-1 : Int32) < 0 by decide)]
        | some s =>
          have hs := hp2.2 s hq
          obtain ⟨x6, e6⟩ := ih s hs x2 (by omega)
          refine ⟨x6, ?_⟩
          rw [oI_n, oI_s, e6, xnm_more I nm kd s t (by omega) hs]
      | some b =>
        have hb : b < zB V := by have := xfo_lt hr; omega
        rw [show xnm V nm kd (t + 1) (some t) = some b by simp only [xnm, hr]]
        cases hq : fpar V t with
        | none =>
          refine ⟨some (.int (-1)), ?_⟩
          simp only [oI_n, s99_6, s99_8, Option.bind_some, Option.toList_some, Option.toList_none, List.cons_append, List.nil_append, xm_kl_n, xm_kl_i, xm_kl_a, xm_kl_j, xl_0, xm_low1, xm_low2, xm_low3, xm_low4, xl_n0, xl_n1, xb_nar, xe_if0, xe_ifn, xm_ci1, xm_ca1]
          rw [if_pos (show (-1 : Int32) < 0 by decide)]
        | some s =>
          have hs := hp2.2 s hq
          refine ⟨some (.int (nI s)), ?_⟩
          simp only [oI_s, s99_6, s99_8, s99_11, s99_13, Option.bind_some, Option.toList_some, Option.toList_none, List.cons_append, List.nil_append, xm_kl_n, xm_kl_i, xm_kl_a, xm_kl_j, xl_0, xm_low1, xm_low2, xm_low3, xm_low4, xl_n0, xl_n1, xb_nar, xe_if0, xe_ifn, xm_ci1, xm_ca1]
          rw [if_neg (nI_pos (by omega)), if_pos (Int32.not_lt.mp (nI_pos (by omega)))]
  simp only [k99, s99_0, s99_1, s99_3, s99_4, Option.bind_some, Option.toList_some, Option.toList_none, List.cons_append, List.nil_append, xm_kl_n, xm_kl_i, xm_kl_a, xm_kl_j, xl_0, xm_low1, xm_low2, xm_low3, xm_low4, xl_n0, xl_n1, xb_nar, xe_if0, xe_ifn, xm_ci1, xm_ca1]
  obtain ⟨x6, e6⟩ := loop t (some (.int (nI t))) ht
  rw [e6, ← xnm_more I nm kd t 40 ht (by omega)]
  unfold xum
  cases hr : xnm V nm kd 40 (some t) with
  | none =>
    simp only [oI_n, s99_39, s99_41, s99_78, s99_79, Option.bind_some, Option.toList_some, Option.toList_none, List.cons_append, List.nil_append, xm_kl_n, xm_kl_i, xm_kl_a, xm_kl_j, xl_0, xm_low1, xm_low2, xm_low3, xm_low4, xl_n0, xl_n1, xb_nar, xe_if0, xe_ifn, xm_ci1, xm_ca1]
    rw [if_pos (show (-1 : Int32) < 0 by decide)]
  | some b =>
    have hb := xnm_lt _ _ _ hr
    have hty := I.bty b hb
    have hop := I.bop b hb
    simp only [oI_s, s99_39, s99_41, s99_44, s99_45, s99_48, s99_50, s99_51, s99_54, s99_55, s99_56, s99_59, s99_61, s99_62, s99_65, s99_66, s99_67, s99_70, s99_73, s99_75, s99_78, s99_79, Option.bind_some, Option.toList_some, Option.toList_none, List.cons_append, List.nil_append, xm_kl_n, xm_kl_i, xm_kl_a, xm_kl_j, xl_0, xm_low1, xm_low2, xm_low3, xm_low4, xl_n0, xl_n1, xb_nar, xe_if0, xe_ifn, xm_ci1, xm_ca1, mcl_36 P, mf_36_17 P, mf_36_14 P, maz_50 P (show b < 60 by omega), mai_47 P (show b < 60 by omega), pv63_50, pv63_47, R.r50, R.r47, hty.1, n_moduleOf P I R hty.2, n_home P I R hu]
    rw [if_neg (nI_pos (by omega)), hop]
    by_cases h2 : V 21 b = nI 1
    · rw [xb_t h2, if_pos (show ¬ nI 1 = 0 by decide), if_pos (show xus1 V u b from Or.inr h2)]
      rfl
    · rw [xb_f h2, if_neg (show ¬ ¬ nI 0 = 0 by decide)]
      by_cases h1 : V 7 (ftpk V (fbty V b)) = V 7 (fupk V u)
      · rw [if_neg (fun z => z h1), if_pos (show xus1 V u b from Or.inl h1)]
        rfl
      · rw [if_pos h1, if_neg (show ¬ xus1 V u b from fun z => z.elim h1 h2)]
        rfl
theorem xhm_more (I : CInv V cap) (b : Int32) : ∀ t d, t < zL V → t < d → xhm (V 35) (flpr V) b d (some t) = xhm (V 35) (flpr V) b (t + 1) (some t) := by
  intro t
  induction t using Nat.strongRecOn with
  | ind t ih =>
    intro d ht hd
    cases d with
    | zero => omega
    | succ d =>
      simp only [xhm]
      cases hq : flpr V t with
      | none => cases d <;> cases t <;> rfl
      | some s =>
        have hs := (I.lpr t ht).2 s hq
        rw [ih s hs d (by omega) (by omega), ih s hs t (by omega) hs]
theorem m_loaderOf (P : Pm o Ou (pv_row V 63 F) hp) (I : CInv V cap) (R : Rel V J) {m : Nat} (hm : m < 12) (q : Option Nat) (hq : ∀ t, q = some t → t < zL V) : xm_call 56 [.ref (o + 36), .int (oI q), .int (nI m)] hp = some (some (.int (xhm (V 35) (flpr V) (nI m) 4 q)), hp) := by
  have hL := I.L.2
  have none_ : ∀ x0, xm_out 56 (2, [some (.ref (o + 36)), x0, some (.int (nI m)), some (.int (-1))], [], hp) = some (some (.int (-1)), hp) := by
    intro x0
    simp only [s56_2, s56_3, s56_30, s56_31, Option.bind_some, Option.toList_some, Option.toList_none, List.cons_append, List.nil_append, xm_kl_n, xm_kl_i, xm_kl_a, xm_kl_j, xl_0, xm_low1, xm_low2, xm_low3, xm_low4, xl_n0, xl_n1, xb_nar, xe_if0, xe_ifn, xm_ci1, xm_ca1]
    rw [if_pos (show (-1 : Int32) < 0 by decide)]
  have loop : ∀ t x0, t < zL V → xm_out 56 (2, [some (.ref (o + 36)), x0, some (.int (nI m)), some (.int (nI t))], [], hp) = some (some (.int (xhm (V 35) (flpr V) (nI m) (t + 1) (some t))), hp) := by
    intro t
    induction t using Nat.strongRecOn with
    | ind t ih =>
      intro x0 ht
      have hp2 := I.lpr t ht
      have hlh := R.lh t m ht hm
      simp only [s56_2, s56_3, s56_6, s56_7, s56_10, s56_12, s56_13, s56_14, s56_15, s56_16, s56_17, s56_20, s56_21, s56_24, s56_25, s56_26, s56_30, s56_31, Option.bind_some, Option.toList_some, Option.toList_none, List.cons_append, List.nil_append, xm_kl_n, xm_kl_i, xm_kl_a, xm_kl_j, xl_0, xm_low1, xm_low2, xm_low3, xm_low4, xl_n0, xl_n1, xb_nar, xe_if0, xe_ifn, xm_ci1, xm_ca1, mf_36_32 P, mf_36_31 P, pk_mul, nI_add, maz_62 P (show 12 * t + m < 48 by omega), mai_61 P (show t < 4 by omega), pv63_62, pv63_61, R.r61, hlh, hp2.1]
      rw [if_neg (nI_pos (by omega))]
      by_cases h : tb (V 35 t) m
      · rw [if_pos h, show xhm (V 35) (flpr V) (nI m) (t + 1) (some t) = nI t from if_neg h]
      · rw [if_neg h, show xhm (V 35) (flpr V) (nI m) (t + 1) (some t) = xhm (V 35) (flpr V) (nI m) t (flpr V t) from if_pos (Classical.not_not.mp h)]
        simp only [s56_27]
        cases hq : flpr V t with
        | none =>
          rw [oI_n, none_ x0]
          cases t <;> rfl
        | some s =>
          have hs := hp2.2 s hq
          rw [oI_s, ih s hs x0 (by omega), xhm_more I (nI m) s t (by omega) hs]
  simp only [k56, s56_0, s56_1, Option.bind_some, Option.toList_some, Option.toList_none, List.cons_append, List.nil_append, xm_kl_n, xm_kl_i, xm_kl_a, xm_kl_j, xl_0, xm_low1, xm_low2, xm_low3, xm_low4, xl_n0, xl_n1, xb_nar, xe_if0, xe_ifn, xm_ci1, xm_ca1]
  cases q with
  | none => rw [oI_n, none_ _]; rfl
  | some t => rw [oI_s, loop t _ (hq t rfl), xhm_more I (nI m) t 4 (hq t rfl) (by have := hq t rfl; omega)]
/-- the rules 1 to 7 -/
noncomputable def xpq (V : pc_V) (m s t : Nat) : Int32 := @ite _ (xts V m s) (Classical.propDecidable _) (@ite _ (V 7 (ftpk V t) = nI m) (Classical.propDecidable _) (@ite _ (V 15 t &&& nI 1 = 0) (Classical.propDecidable _) (nI 3) (xp47 V t (nI s))) (nI 2)) (nI 1)
theorem m_provideRule (P : Pm o Ou (pv_row V 63 F) hp) (I : CInv V cap) (R : Rel V J) {m s t : Nat} (hm : m < zM V) (hs : s < zT V) (ht : t < zT V) : ∃ F' hp', xm_call 147 [.ref (o + 36), .int (nI m), .int (nI s), .int (nI t)] hp = some (some (.int (xpq V m s t)), hp') ∧ Pm o Ou (pv_row V 63 F') hp' ∧ hp'.2 = hp.2 := by
  have hT := I.T.2
  have hB := I.B.2
  obtain ⟨F', hp', er, P', hsz, hF⟩ := m_read I R hm False P
  rw [xb_f (c := False) id] at er
  refine ⟨F', hp', ?_, P', hsz⟩
  have tail : ∀ x4, xm_out 147 (93, [some (.ref (o + 36)), some (.int (nI m)), some (.int (nI s)), some (.int (nI t)), x4], [], hp') = some (some (.int (xmk V t (nI s))), hp') := by
    intro x4
    simp only [s147_93, s147_94, s147_97, s147_98, s147_99, s147_102, s147_103, s147_106, s147_107, s147_110, s147_111, s147_112, s147_113, s147_114, s147_117, s147_119, s147_122, s147_123, s147_124, s147_125, s147_128, s147_131, s147_132, s147_135, s147_137, Option.bind_some, Option.toList_some, Option.toList_none, List.cons_append, List.nil_append, xm_kl_n, xm_kl_i, xm_kl_a, xm_kl_j, xl_0, xm_low1, xm_low2, xm_low3, xm_low4, xl_n0, xl_n1, xb_nar, xe_if0, xe_ifn, xm_ci1, xm_ca1, mcl_36 P', mf_36_10 P', mf_36_11 P', mai_44 P' (show t < 40 by omega), mai_45 P' (show t < 40 by omega), pv63_44, pv63_45, R.r44, R.r45, n_isSubtype P' I R hs ht]
    unfold xmk
    by_cases h1 : V 14 t = 0
    · rw [if_pos h1, if_pos h1]
      by_cases h2 : V 15 t &&& nI 2 = 0
      · rw [if_neg (fun z => z h2), if_pos h2]
      · rw [if_pos h2, if_neg h2]
        by_cases h3 : xsub (fpar V) (nI s) 40 (some t) = true
        · rw [if_pos h3, if_pos h3]
        · rw [if_neg h3, if_neg h3]
    · rw [if_neg h1, if_neg h1]
  unfold xpq
  simp only [k147, s147_0, s147_1, s147_2, s147_3, s147_6, s147_7, s147_8, s147_9, s147_12, s147_15, s147_16, s147_17, s147_18, s147_19, s147_22, s147_23, s147_26, s147_27, s147_28, s147_29, s147_30, s147_33, s147_36, s147_37, Option.bind_some, Option.toList_some, Option.toList_none, List.cons_append, List.nil_append, xm_kl_n, xm_kl_i, xm_kl_a, xm_kl_j, xl_0, xm_low1, xm_low2, xm_low3, xm_low4, xl_n0, xl_n1, xb_nar, xe_if0, xe_ifn, xm_ci1, xm_ca1, mcl_36 P, er, mcl_36 P', m_seesType P' I R hs hm hF, n_moduleOf P' I R ht, n_isOpen P' I R ht]
  by_cases h1 : xts V m s
  · rw [if_pos h1, if_pos h1]
    by_cases h2 : V 7 (ftpk V t) = nI m
    · rw [if_pos h2, if_pos h2]
      by_cases h3 : V 15 t &&& nI 1 = 0
      · rw [if_neg (fun z => z h3), if_pos h3]
      · rw [if_pos h3, if_neg h3]
        simp only [s147_38, s147_39, s147_40, s147_41, s147_42, s147_45, s147_47, s147_49, Option.bind_some, Option.toList_some, Option.toList_none, List.cons_append, List.nil_append, xm_kl_n, xm_kl_i, xm_kl_a, xm_kl_j, xl_0, xm_low1, xm_low2, xm_low3, xm_low4, xl_n0, xl_n1, xb_nar, xe_if0, xe_ifn, xm_ci1, xm_ca1, mcl_36 P', n_ownMember P' I R]
        unfold xp47
        have hx : xom V (nI 0) (nI 1) t = xfo (fun p => V 18 p = nI t ∧ V 19 p = nI 0 ∧ V 20 p = nI 1) 0 (zB V) := rfl
        cases hr : xom V (nI 0) (nI 1) t with
        | none =>
          rw [← hx, hr, oI_n, if_pos (show (-1 : Int32) < 0 by decide)]
          exact tail _
        | some b =>
          have hb : b < zB V := by have := xfo_lt (hx.symm.trans hr); omega
          have hg := I.bgv b hb
          rw [← hx, hr, oI_s, if_neg (nI_pos (by omega))]
          simp only [s147_52, s147_53, s147_56, s147_58, s147_59, Option.bind_some, Option.toList_some, Option.toList_none, List.cons_append, List.nil_append, xm_kl_n, xm_kl_i, xm_kl_a, xm_kl_j, xl_0, xm_low1, xm_low2, xm_low3, xm_low4, xl_n0, xl_n1, xb_nar, xe_if0, xe_ifn, xm_ci1, xm_ca1, mf_36_17 P', maz_50 P' (show b < 60 by omega), pv63_50, R.r50]
          rw [I.bop b hb]
          by_cases h4 : V 21 b = nI 1
          · rw [xb_t h4, if_neg (show ¬ nI 1 = 0 by decide), if_pos rfl]
            unfold xgv
            simp only [s147_62, s147_63, s147_66, s147_68, s147_69, Option.bind_some, Option.toList_some, Option.toList_none, List.cons_append, List.nil_append, xm_kl_n, xm_kl_i, xm_kl_a, xm_kl_j, xl_0, xm_low1, xm_low2, xm_low3, xm_low4, xl_n0, xl_n1, xb_nar, xe_if0, xe_ifn, xm_ci1, xm_ca1, mf_36_18 P', mai_51 P' (show b < 60 by omega), pv63_51, R.r51, hg.1]
            cases hq : fbgv V b with
            | none =>
              rw [oI_n, if_pos (show (-1 : Int32) < 0 by decide), if_neg (show ¬ xsub (fpar V) (nI s) 40 none = true by simp [xsub])]
              simp only [s147_91, s147_92, Option.bind_some, Option.toList_some, Option.toList_none, List.cons_append, List.nil_append, xm_kl_n, xm_kl_i, xm_kl_a, xm_kl_j, xl_0, xm_low1, xm_low2, xm_low3, xm_low4, xl_n0, xl_n1, xb_nar, xe_if0, xe_ifn, xm_ci1, xm_ca1]
            | some g =>
              have hgl := hg.2 g hq
              have h51 : V 22 b = nI g := by rw [hg.1, hq]; rfl
              rw [oI_s, if_neg (nI_pos (by omega))]
              simp only [s147_72, s147_73, s147_74, s147_77, s147_79, s147_80, s147_81, s147_84, s147_87, s147_88, s147_91, s147_92, Option.bind_some, Option.toList_some, Option.toList_none, List.cons_append, List.nil_append, xm_kl_n, xm_kl_i, xm_kl_a, xm_kl_j, xl_0, xm_low1, xm_low2, xm_low3, xm_low4, xl_n0, xl_n1, xb_nar, xe_if0, xe_ifn, xm_ci1, xm_ca1, mcl_36 P', mf_36_18 P', mai_51 P' (show b < 60 by omega), pv63_51, R.r51, h51, n_isSubtype P' I R hs hgl]
              by_cases h5 : xsub (fpar V) (nI s) 40 (some g) = true
              · rw [if_pos h5, if_pos h5]
              · rw [if_neg h5, if_neg h5]
          · rw [xb_f h4, if_pos (show nI 0 = 0 from rfl), if_neg (show ¬ nI 0 = nI 1 by decide)]
            exact tail _
    · rw [if_neg h2, if_neg h2]
  · rw [if_neg h1, if_neg h1]
end MUSED
