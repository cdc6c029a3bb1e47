/-! the reference's closures -/
/-- a row of truths, as a set -/
def CS (F : Nat → Int32) (C : Nat → Prop) : Prop := ∀ i, i < 12 → F i = xb (C i)
theorem CS.add {F : Nat → Int32} {C : Nat → Prop} (h : CS F C) (k : Nat) : CS (upd F k (nI 1)) (fun i => C i ∨ i = k) := by
  intro i hi
  by_cases hik : i = k
  · subst hik; rw [pk_us, xb_t (Or.inr rfl)]
  · rw [pk_un hik, h i hi]; exact xb_cg ⟨Or.inl, fun z => z.elim id (fun w => absurd w hik)⟩
theorem CS.cg {F : Nat → Int32} {C D : Nat → Prop} (h : CS F C) (hd : ∀ i, i < 12 → (C i ↔ D i)) : CS F D := fun i hi => (h i hi).trans (xb_cg (hd i hi))
def grew (C0 C : Nat → Prop) : Prop := ∃ i, C i ∧ ¬ C0 i
theorem vp_nar1 : vp_nar .boolean (nI 1) = nI 1 := rfl
theorem vp_nar0 : vp_nar .boolean (nI 0) = nI 0 := rfl
section GOES
variable {o : Nat} {V : pc_V} {J : Nat → Int64} {Ou : Nat → Option xm_E} {cap : Nat}
/-- the edges that goesOn takes -/
def xeg (V : pc_V) (on run : Prop) (but : Int32) (j k : Nat) : Prop := j < zM V ∧ k < zM V ∧ ¬ nI j = but ∧ xed V on run j k
theorem m_goes_in (I : CInv V cap) (R : Rel V J) (on run : Prop) (but : Int32) (C0 : Nat → Prop) {m : Nat} (hm : m < zM V) : ∀ d k F C hp, k + d = zM V → Pm o Ou (pv_row V 63 F) hp → CS F C → (∀ i, C0 i → C i) → (∀ i, C i → Rch (xeg V on run but) C0 i) → (∀ i, C i → i < 12) →
    ∃ F' C' hp' x6, xm_out 96 (18, [some (.ref (o + 36)), some (.int (xb on)), some (.int (xb run)), some (.int but), some (.int (xb (grew C0 C))), some (.int (nI m)), some (.int (nI k))], [], hp) = xm_out 96 (83, [some (.ref (o + 36)), some (.int (xb on)), some (.int (xb run)), some (.int but), some (.int (xb (grew C0 C'))), some (.int (nI m)), x6], [], hp') ∧ Pm o Ou (pv_row V 63 F') hp' ∧ hp'.2 = hp.2 ∧ CS F' C' ∧ (∀ i, C i → C' i) ∧ (∀ i, C' i → Rch (xeg V on run but) C0 i) ∧ (∀ i, C' i → i < 12) ∧ (¬ grew C0 C' → ∀ q, k ≤ q → q < zM V → C0 m → xeg V on run but m q → C0 q) := by
  have hM := I.M
  intro d
  induction d with
  | zero =>
    intro k F C hp hk P hF h0 hR h12
    refine ⟨F, C, hp, some (.int (nI k)), ?_, P, rfl, hF, fun i q => q, hR, h12, fun _ q h1 h2 => by omega⟩
    simp only [s96_18, s96_20, s96_21, s96_24, Option.bind_some, Option.toList_some, Option.toList_none, List.cons_append, List.nil_append, xm_kl_n, xm_kl_i, xm_kl_a, xm_kl_j, xl_0, xm_low1, xm_low2, xm_low3, xm_low4, xl_n0, xl_n1, xb_nar, xe_if0, xe_ifn, xm_ci1, xm_ca1, mf_36_0 P, pv63_36, R.nM, hM.1]
    rw [if_pos (nI_le (by omega) (by omega))]
  | succ d ih =>
    intro k F C hp hk P hF h0 hR h12
    have hFm := hF m (by omega)
    have hFk := hF k (by omega)
    simp only [s96_18, s96_20, s96_21, s96_24, s96_27, s96_28, s96_31, s96_33, s96_34, s96_37, s96_39, s96_40, s96_43, s96_44, s96_47, s96_49, s96_50, s96_53, s96_54, s96_56, s96_58, s96_59, s96_60, s96_63, s96_66, s96_67, s96_70, s96_72, s96_73, s96_74, s96_75, s96_77, Option.bind_some, Option.toList_some, Option.toList_none, List.cons_append, List.nil_append, xm_kl_n, xm_kl_i, xm_kl_a, xm_kl_j, xl_0, xm_low1, xm_low2, xm_low3, xm_low4, xl_n0, xl_n1, xb_nar, xe_if0, xe_ifn, xm_ci1, xm_ca1, mf_36_0 P, pv63_36, R.nM, hM.1, mf_36_33 P, maz_63 P (show m < 12 by omega), maz_63 P (show k < 12 by omega), pv63_63, hFm, hFk, mcl_36 P, m_isEdge P R (show m < 12 by omega) (show k < 12 by omega), mwz_63 P (show k < 12 by omega), vp_nar1, nI_add]
    rw [if_neg (nI_ge (by omega) (by omega))]
    simp only [s96_80]
    by_cases hc : C m
    · rw [if_pos hc]
      by_cases hb : nI m = but
      · rw [if_pos hb]
        exact ⟨F, C, hp, some (.int (nI k)), rfl, P, rfl, hF, fun i q => q, hR, h12, fun _ q _ _ _ e => absurd hb e.2.2.1⟩
      · rw [if_neg hb]
        by_cases hk2 : C k
        · rw [if_pos hk2]
          obtain ⟨F', C', hp', x6, e, Q, hs, hF', h1, h2, h3, h4⟩ := ih (k + 1) F C hp (by omega) P hF h0 hR h12
          refine ⟨F', C', hp', x6, e, Q, hs, hF', h1, h2, h3, fun hg q hq1 hq2 hcm he => ?_⟩
          by_cases hqk : q = k
          · subst hqk
            exact Classical.byContradiction fun w => hg ⟨q, h1 q hk2, w⟩
          · exact h4 hg q (by omega) hq2 hcm he
        · rw [if_neg hk2]
          by_cases he : xed V on run m k
          · rw [if_pos he]
            have hg : grew C0 (fun i => C i ∨ i = k) := ⟨k, Or.inr rfl, fun z => hk2 (h0 k z)⟩
            have e1 : nI 1 = xb (grew C0 (fun i => C i ∨ i = k)) := (xb_t hg).symm
            obtain ⟨F', C', hp', x6, e, Q, hs, hF', h1, h2, h3, h4⟩ := ih (k + 1) (upd F k (nI 1)) (fun i => C i ∨ i = k) _ (by omega) (P.w63 _) (hF.add k) (fun i q => Or.inl (h0 i q)) (fun i q => q.elim (hR i) (fun w => by subst w; exact (hR m hc).step ⟨hm, by omega, hb, he⟩)) (fun i q => q.elim (h12 i) (fun w => by omega))
            rw [← e1] at e
            exact ⟨F', C', hp', x6, e, Q, hs, hF', fun i q => h1 i (Or.inl q), h2, h3, fun hng => absurd ⟨k, h1 k (Or.inr rfl), fun z => hk2 (h0 k z)⟩ hng⟩
          · rw [if_neg he]
            obtain ⟨F', C', hp', x6, e, Q, hs, hF', h1, h2, h3, h4⟩ := ih (k + 1) F C hp (by omega) P hF h0 hR h12
            refine ⟨F', C', hp', x6, e, Q, hs, hF', h1, h2, h3, fun hg q hq1 hq2 hcm hee => ?_⟩
            by_cases hqk : q = k
            · subst hqk; exact absurd hee.2.2.2 he
            · exact h4 hg q (by omega) hq2 hcm hee
    · rw [if_neg hc]
      exact ⟨F, C, hp, some (.int (nI k)), rfl, P, rfl, hF, fun i q => q, hR, h12, fun _ q _ _ hcm _ => absurd (h0 m hcm) hc⟩
theorem m_goesOn (I : CInv V cap) (R : Rel V J) (on run : Prop) (but : Int32) {F : Nat → Int32} {C0 : Nat → Prop} {hp : xm_H} (P : Pm o Ou (pv_row V 63 F) hp) (hF : CS F C0) (h12 : ∀ i, C0 i → i < 12) :
    ∃ F' C' hp', xm_call 96 [.ref (o + 36), .int (xb on), .int (xb run), .int but] hp = some (some (.int (xb (grew C0 C'))), hp') ∧ Pm o Ou (pv_row V 63 F') hp' ∧ hp'.2 = hp.2 ∧ CS F' C' ∧ (∀ i, C0 i → C' i) ∧ (∀ i, C' i → Rch (xeg V on run but) C0 i) ∧ (∀ i, C' i → i < 12) ∧ (¬ grew C0 C' → ∀ j q, C0 j → xeg V on run but j q → C0 q) := by
  have hM := I.M
  have outer : ∀ d m F C hp x6, m + d = zM V → Pm o Ou (pv_row V 63 F) hp → CS F C → (∀ i, C0 i → C i) → (∀ i, C i → Rch (xeg V on run but) C0 i) → (∀ i, C i → i < 12) → (¬ grew C0 C → ∀ j q, j < m → C0 j → xeg V on run but j q → C0 q) →
      ∃ F' C' hp', xm_out 96 (6, [some (.ref (o + 36)), some (.int (xb on)), some (.int (xb run)), some (.int but), some (.int (xb (grew C0 C))), some (.int (nI m)), x6], [], hp) = some (some (.int (xb (grew C0 C'))), hp') ∧ Pm o Ou (pv_row V 63 F') hp' ∧ hp'.2 = hp.2 ∧ CS F' C' ∧ (∀ i, C0 i → C' i) ∧ (∀ i, C' i → Rch (xeg V on run but) C0 i) ∧ (∀ i, C' i → i < 12) ∧ (¬ grew C0 C' → ∀ j q, C0 j → xeg V on run but j q → C0 q) := by
    intro d
    induction d with
    | zero =>
      intro m F C hp x6 hk P hF h0 hR h12 hcl
      refine ⟨F, C, hp, ?_, P, rfl, hF, h0, hR, h12, fun hg j q hj he => hcl hg j q (by have := he.1; omega) hj he⟩
      simp only [s96_6, s96_8, s96_9, s96_12, s96_89, s96_91, Option.bind_some, Option.toList_some, Option.toList_none, List.cons_append, List.nil_append, xm_kl_n, xm_kl_i, xm_kl_a, xm_kl_j, xl_0, xm_low1, xm_low2, xm_low3, xm_low4, xl_n0, xl_n1, xb_nar, xe_if0, xe_ifn, xm_ci1, xm_ca1, mf_36_0 P, pv63_36, R.nM, hM.1]
      rw [if_pos (nI_le (by omega) (by omega))]
    | succ d ih =>
      intro m F C hp x6 hk P hF h0 hR h12 hcl
      obtain ⟨F1, C1, hp1, x6', e1, P1, s1, hF1, a1, a2, a3, a4⟩ := m_goes_in (o := o) (Ou := Ou) I R on run but C0 (show m < zM V by omega) (zM V) 0 F C hp (by omega) P hF h0 hR h12
      obtain ⟨F2, C2, hp2, e2, P2, s2, hF2, b1, b2, b3, b4⟩ := ih (m + 1) F1 C1 hp1 x6' (by omega) P1 hF1 (fun i q => a1 i (h0 i q)) a2 a3 (fun hg j q hj hcj he => by
        by_cases hjm : j = m
        · subst hjm
          exact a4 hg q (Nat.zero_le _) he.2.1 hcj he
        · exact hcl (fun w => hg (by obtain ⟨i, w1, w2⟩ := w; exact ⟨i, a1 i w1, w2⟩)) j q (by omega) hcj he)
      refine ⟨F2, C2, hp2, ?_, P2, s2.trans s1, hF2, b1, b2, b3, b4⟩
      simp only [s96_6, s96_8, s96_9, s96_12, s96_15, s96_16, Option.bind_some, Option.toList_some, Option.toList_none, List.cons_append, List.nil_append, xm_kl_n, xm_kl_i, xm_kl_a, xm_kl_j, xl_0, xm_low1, xm_low2, xm_low3, xm_low4, xl_n0, xl_n1, xb_nar, xe_if0, xe_ifn, xm_ci1, xm_ca1, mf_36_0 P, pv63_36, R.nM, hM.1]
      rw [if_neg (nI_ge (by omega) (by omega)), e1]
      simp only [s96_83, s96_86, Option.bind_some, Option.toList_some, Option.toList_none, List.cons_append, List.nil_append, xm_kl_n, xm_kl_i, xm_kl_a, xm_kl_j, xl_0, xm_low1, xm_low2, xm_low3, xm_low4, xl_n0, xl_n1, xb_nar, xe_if0, xe_ifn, xm_ci1, xm_ca1, nI_add]
      exact e2
  have hng : ¬ grew C0 C0 := fun ⟨i, h1, h2⟩ => h2 h1
  have h := outer (zM V) 0 F C0 hp none (by omega) P hF (fun i q => q) (fun i q => .of q) h12 (fun _ j q hj => by omega)
  rw [xb_f hng] at h
  simp only [k96, s96_0, s96_1, s96_3, s96_4, Option.bind_some, Option.toList_some, Option.toList_none, List.cons_append, List.nil_append, xm_kl_n, xm_kl_i, xm_kl_a, xm_kl_j, xl_0, xm_low1, xm_low2, xm_low3, xm_low4, xl_n0, xl_n1, xb_nar, xe_if0, xe_ifn, xm_ci1, xm_ca1]
  exact h
/-- how many are there -/
noncomputable def ccn (C : Nat → Prop) : Nat → Nat
  | 0 => 0
  | n + 1 => ccn C n + @ite _ (C n) (Classical.propDecidable _) 1 0
theorem ccn_le (C : Nat → Prop) : ∀ n, ccn C n ≤ n := by
  intro n
  induction n with
  | zero => exact Nat.le_refl _
  | succ n ih =>
    show ccn C n + _ ≤ _
    by_cases h : C n
    · rw [if_pos h]; omega
    · rw [if_neg h]; omega
theorem ccn_mono {C D : Nat → Prop} (h : ∀ i, C i → D i) : ∀ n, ccn C n ≤ ccn D n := by
  intro n
  induction n with
  | zero => exact Nat.le_refl _
  | succ n ih =>
    show ccn C n + _ ≤ ccn D n + _
    by_cases h1 : C n
    · rw [if_pos h1, if_pos (h n h1)]; omega
    · rw [if_neg h1]; omega
theorem ccn_lt {C D : Nat → Prop} (h : ∀ i, C i → D i) {j : Nat} (hj : D j) (hs : ¬ C j) : ∀ n, j < n → ccn C n < ccn D n := by
  intro n
  induction n with
  | zero => intro h; omega
  | succ n ih =>
    intro hjn
    show ccn C n + _ < ccn D n + _
    by_cases hjn' : j = n
    · subst hjn'
      rw [if_pos hj, if_neg hs]
      have := ccn_mono h j
      omega
    · have := ih (by omega)
      by_cases h1 : C n
      · rw [if_pos h1, if_pos (h n h1)]; omega
      · rw [if_neg h1]; omega
/-- read: what module m reads -/
def xmr (V : pc_V) (m : Nat) (run : Prop) (i : Nat) : Prop := i = m ∨ Rch (xeg V True run (nI m)) (fun j => j < zM V ∧ xed V False run m j) i
theorem m_read (I : CInv V cap) (R : Rel V J) {m : Nat} (hm : m < zM V) (run : Prop) {F : Nat → Int32} {hp : xm_H} (P : Pm o Ou (pv_row V 63 F) hp) : ∃ F' hp', xm_call 123 [.ref (o + 36), .int (nI m), .int (xb run)] hp = some (none, hp') ∧ Pm o Ou (pv_row V 63 F') hp' ∧ hp'.2 = hp.2 ∧ CS F' (xmr V m run) := by
  have hM := I.M
  obtain ⟨hp1, G, ec, P1, s1, hG⟩ := m_clear P
  -- the first edges
  have first : ∀ d k F hp, k + d = zM V → Pm o Ou (pv_row V 63 F) hp → CS F (fun i => i < k ∧ xed V False run m i) → ∃ F' hp' , xm_out 123 (6, [some (.ref (o + 36)), some (.int (nI m)), some (.int (xb run)), some (.int (nI k))], [], hp) = xm_out 123 (34, [some (.ref (o + 36)), some (.int (nI m)), some (.int (xb run)), some (.int (nI (zM V)))], [], hp') ∧ Pm o Ou (pv_row V 63 F') hp' ∧ hp'.2 = hp.2 ∧ CS F' (fun i => i < zM V ∧ xed V False run m i) := by
    intro d
    induction d with
    | zero =>
      intro k F hp hk P hF
      have hkk : k = zM V := by omega
      subst hkk
      refine ⟨F, hp, ?_, P, rfl, hF⟩
      simp only [s123_6, s123_7, s123_8, s123_11, Option.bind_some, Option.toList_some, Option.toList_none, List.cons_append, List.nil_append, xm_kl_n, xm_kl_i, xm_kl_a, xm_kl_j, xl_0, xm_low1, xm_low2, xm_low3, xm_low4, xl_n0, xl_n1, xb_nar, xe_if0, xe_ifn, xm_ci1, xm_ca1, mf_36_0 P, pv63_36, R.nM, hM.1]
      rw [if_pos (nI_le (by omega) (by omega))]
    | succ d ih =>
      intro k F hp hk P hF
      have h2 : CS (upd F k (xb (xed V False run m k))) (fun i => i < k + 1 ∧ xed V False run m i) := by
        intro i hi
        by_cases hik : i = k
        · subst hik; rw [pk_us]; exact xb_cg ⟨fun z => ⟨by omega, z⟩, fun z => z.2⟩
        · rw [pk_un hik, hF i hi]; exact xb_cg ⟨fun z => ⟨by omega, z.2⟩, fun z => ⟨by omega, z.2⟩⟩
      obtain ⟨F', hp', e, Q, hs, hF'⟩ := ih (k + 1) (upd F k (xb (xed V False run m k))) _ (by omega) (P.w63 _) h2
      refine ⟨F', hp', ?_, Q, hs, hF'⟩
      have hed := m_isEdge P R (show m < 12 by omega) (show k < 12 by omega) False run
      rw [xb_f (c := False) id] at hed
      conv => lhs; simp only [s123_6, s123_7, s123_8, s123_11, s123_14, s123_15, s123_18, s123_19, s123_20, s123_21, s123_22, s123_23, s123_24, s123_27, s123_28, Option.bind_some, Option.toList_some, Option.toList_none, List.cons_append, List.nil_append, xm_kl_n, xm_kl_i, xm_kl_a, xm_kl_j, xl_0, xm_low1, xm_low2, xm_low3, xm_low4, xl_n0, xl_n1, xb_nar, xe_if0, xe_ifn, xm_ci1, xm_ca1, mf_36_0 P, pv63_36, R.nM, hM.1, mf_36_33 P, mcl_36 P, hed, mwz_63 P (show k < 12 by omega), pv63_63, xb_vn, nI_add]
      rw [if_neg (nI_ge (by omega) (by omega))]
      conv => lhs; simp only [s123_31]
      exact e
  -- the closure
  have whil : ∀ f F C hp c0, 13 ≤ ccn C 12 + f → Pm o Ou (pv_row V 63 F) hp → CS F C → (∀ i, C i → i < 12) → (∀ i, i < zM V ∧ xed V False run m i → C i) → (∀ i, C i → Rch (xeg V True run (nI m)) (fun j => j < zM V ∧ xed V False run m j) i) → c0 = nI 1 → ∃ F' hp' C', xm_out 123 (36, [some (.ref (o + 36)), some (.int (nI m)), some (.int (xb run)), some (.int c0)], [], hp) = xm_out 123 (51, [some (.ref (o + 36)), some (.int (nI m)), some (.int (xb run)), some (.int (nI 0))], [], hp') ∧ Pm o Ou (pv_row V 63 F') hp' ∧ hp'.2 = hp.2 ∧ CS F' C' ∧ (∀ i, C' i ↔ Rch (xeg V True run (nI m)) (fun j => j < zM V ∧ xed V False run m j) i) := by
    intro f
    induction f with
    | zero => intro F C hp c0 hf; have := ccn_le C 12; omega
    | succ f ih =>
      intro F C hp c0 hf P hF h12 h0 hR hc0
      subst hc0
      obtain ⟨F', C', hp', e, P', s', hF', a1, a2, a3, a4⟩ := m_goesOn I R True run (nI m) P hF h12
      rw [xb_t (c := True) trivial] at e
      have hR' : ∀ i, C' i → Rch (xeg V True run (nI m)) (fun j => j < zM V ∧ xed V False run m j) i := fun i q => (a2 i q).mono (fun j w => hR j w) (fun _ _ w => w)
      by_cases hg : grew C C'
      · obtain ⟨i, g1, g2⟩ := hg
        have hlt := ccn_lt a1 g1 g2 12 (a3 i g1)
        obtain ⟨F2, hp2, C2, e2, P2, s2, hF2, hC2⟩ := ih F' C' hp' (xb (grew C C')) (by omega) P' hF' a3 (fun i q => a1 i (h0 i q)) hR' (xb_t ⟨i, g1, g2⟩)
        refine ⟨F2, hp2, C2, ?_, P2, s2.trans s', hF2, hC2⟩
        conv => lhs; simp only [s123_36, s123_37, s123_40, s123_41, s123_42, s123_43, s123_44, s123_47, Option.bind_some, Option.toList_some, Option.toList_none, List.cons_append, List.nil_append, xm_kl_n, xm_kl_i, xm_kl_a, xm_kl_j, xl_0, xm_low1, xm_low2, xm_low3, xm_low4, xl_n0, xl_n1, xb_nar, xe_if0, xe_ifn, xm_ci1, xm_ca1, mcl_36 P, e]
        rw [if_neg (by decide)]
        conv => lhs; simp only [s123_48]
        exact e2
      · have hcl := a4 hg
        have hCC : ∀ i, C' i ↔ C i := fun i => ⟨fun q => Classical.byContradiction fun w => hg ⟨i, q, w⟩, a1 i⟩
        refine ⟨F', hp', C', ?_, P', s', hF', fun i => ?_⟩
        · conv => lhs; simp only [s123_36, s123_37, s123_40, s123_41, s123_42, s123_43, s123_44, s123_47, Option.bind_some, Option.toList_some, Option.toList_none, List.cons_append, List.nil_append, xm_kl_n, xm_kl_i, xm_kl_a, xm_kl_j, xl_0, xm_low1, xm_low2, xm_low3, xm_low4, xl_n0, xl_n1, xb_nar, xe_if0, xe_ifn, xm_ci1, xm_ca1, mcl_36 P, e]
          rw [if_neg (by decide)]
          conv => lhs; simp only [s123_36, s123_37, s123_48, Option.bind_some, Option.toList_some, Option.toList_none, List.cons_append, List.nil_append, xm_kl_n, xm_kl_i, xm_kl_a, xm_kl_j, xl_0, xm_low1, xm_low2, xm_low3, xm_low4, xl_n0, xl_n1, xb_nar, xe_if0, xe_ifn, xm_ci1, xm_ca1]
          rw [if_neg hg, xb_f hg]
        · rw [hCC i]
          exact Rch.eq h0 hcl hR i
  obtain ⟨F2, hp2, e2, P2, s2, hF2⟩ := first (zM V) 0 G hp1 (by omega) P1 (fun i hi => by rw [hG i hi]; exact (xb_f (fun z => by omega)).symm)
  obtain ⟨F3, hp3, C3, e3, P3, s3, hF3, hC3⟩ := whil 13 F2 _ hp2 (nI 1) (by omega) P2 hF2 (fun i q => by have := q.1; omega) (fun i q => q) (fun i q => .of q) rfl
  refine ⟨upd F3 m (nI 1), pw o (fun _ => 0) 0 0 hp3 63 (upd F3 m (nI 1)), ?_, P3.w63 _, s3.trans (s2.trans s1), ?_⟩
  · simp only [k123, s123_0, s123_1, s123_4, s123_5, Option.bind_some, Option.toList_some, Option.toList_none, List.cons_append, List.nil_append, xm_kl_n, xm_kl_i, xm_kl_a, xm_kl_j, xl_0, xm_low1, xm_low2, xm_low3, xm_low4, xl_n0, xl_n1, xb_nar, xe_if0, xe_ifn, xm_ci1, xm_ca1, mcl_36 P, ec]
    rw [e2]
    simp only [s123_34, s123_35, Option.bind_some, Option.toList_some, Option.toList_none, List.cons_append, List.nil_append, xm_kl_n, xm_kl_i, xm_kl_a, xm_kl_j, xl_0, xm_low1, xm_low2, xm_low3, xm_low4, xl_n0, xl_n1, xb_nar, xe_if0, xe_ifn, xm_ci1, xm_ca1]
    rw [e3]
    simp only [s123_51, s123_52, s123_55, s123_56, s123_57, s123_58, Option.bind_some, Option.toList_some, Option.toList_none, List.cons_append, List.nil_append, xm_kl_n, xm_kl_i, xm_kl_a, xm_kl_j, xl_0, xm_low1, xm_low2, xm_low3, xm_low4, xl_n0, xl_n1, xb_nar, xe_if0, xe_ifn, xm_ci1, xm_ca1, mf_36_33 P3, mwz_63 P3 (show m < 12 by omega), pv63_63, vp_nar1]
  · refine (hF3.add m).cg (fun i hi => ?_)
    rw [hC3 i]
    exact ⟨fun z => z.elim Or.inr Or.inl, fun z => z.elim Or.inr Or.inl⟩
end GOES
