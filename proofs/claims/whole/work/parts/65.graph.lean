/-! the reference's graphs and loaders -/
section GRAPH
variable {o : Nat} {V : pc_V} {J : Nat → Int64} {Ou : Nat → Option xm_E} {cap : Nat}
/-- module m provides service s -/
def xpv (V : pc_V) (m : Nat) (s : Int32) : Prop := ∃ k, k < zS V ∧ V 7 (ftpk V (fsty V k)) = nI m ∧ V 31 k = s
theorem m_isProviding (I : CInv V cap) (R : Rel V J) (hS : zS V ≤ 520) (m : Nat) (s : Int32) {F : Nat → Int32} {hp : xm_H} (P : Pm o Ou (pv_row V 63 F) hp) : xm_call 53 [.ref (o + 36), .int (nI m), .int s] hp = some (some (.int (xb (xpv V m s))), hp) := by
  have hn := I.S
  have loop : ∀ d k c, k + d = zS V → (c ↔ ∃ q, q < k ∧ V 7 (ftpk V (fsty V q)) = nI m ∧ V 31 q = s) → xm_out 53 (5, [some (.ref (o + 36)), some (.int (nI m)), some (.int s), some (.int (xb c)), some (.int (nI k))], [], hp) = some (some (.int (xb (xpv V m s))), hp) := by
    intro d
    induction d with
    | zero =>
      intro k c hk hc
      simp only [s53_5, s53_7, s53_8, s53_11, s53_52, s53_53, Option.bind_some, Option.toList_some, Option.toList_none, List.cons_append, List.nil_append, xm_kl_n, xm_kl_i, xm_kl_a, xm_kl_j, xl_0, xm_low1, xm_low2, xm_low3, xm_low4, xl_n0, xl_n1, xb_nar, xe_if0, xe_ifn, xm_ci1, xm_ca1, mf_36_26 P, pv63_36, R.nS, hn.1]
      rw [if_pos (nI_le (by omega) (by omega))]
      rw [xb_cg (show c ↔ xpv V m s by rw [hc]; unfold xpv; rw [show k = zS V by omega])]
    | succ d ih =>
      intro k c hk hc
      have hpm := R.pm k (by omega)
      simp only [s53_5, s53_7, s53_8, s53_11, s53_14, s53_15, s53_18, s53_19, s53_22, s53_24, s53_25, s53_26, s53_29, s53_30, s53_33, s53_35, s53_36, s53_37, s53_40, s53_41, s53_44, s53_45, s53_46, Option.bind_some, Option.toList_some, Option.toList_none, List.cons_append, List.nil_append, xm_kl_n, xm_kl_i, xm_kl_a, xm_kl_j, xl_0, xm_low1, xm_low2, xm_low3, xm_low4, xl_n0, xl_n1, xb_nar, xe_if0, xe_ifn, xm_ci1, xm_ca1, mf_36_26 P, pv63_36, R.nS, hn.1, mf_36_27 P, mf_36_28 P, mai_58 P (show k < 520 by omega), mai_59 P (show k < 520 by omega), pv63_58, pv63_59, hpm, R.r59, nI_add]
      rw [if_neg (nI_ge (by omega) (by omega))]
      simp only [s53_49]
      have key : ∀ c', (c' ↔ (c ∨ (V 7 (ftpk V (fsty V k)) = nI m ∧ V 31 k = s))) → (c' ↔ ∃ q, q < k + 1 ∧ V 7 (ftpk V (fsty V q)) = nI m ∧ V 31 q = s) := by
        intro c' h
        rw [h, hc]
        constructor
        · rintro (⟨q, a, b⟩ | b)
          · exact ⟨q, by omega, b⟩
          · exact ⟨k, by omega, b⟩
        · rintro ⟨q, a, b⟩
          by_cases hqk : q = k
          · subst hqk; exact Or.inr b
          · exact Or.inl ⟨q, by omega, b⟩
      have t1 : nI 1 = xb True := (xb_t trivial).symm
      have t0 : nI 0 = xb False := (xb_f id).symm
      by_cases h0 : c
      · rw [if_pos h0, t1]
        exact ih (k + 1) True (by omega) (key True ⟨fun _ => Or.inl h0, fun _ => trivial⟩)
      · rw [if_neg h0]
        by_cases h1 : V 7 (ftpk V (fsty V k)) = nI m
        · rw [if_neg (fun z => z h1)]
          by_cases h2 : V 31 k = s
          · rw [if_neg (fun z => z h2), t1]
            exact ih (k + 1) True (by omega) (key True ⟨fun _ => Or.inr ⟨h1, h2⟩, fun _ => trivial⟩)
          · rw [if_pos h2, t0]
            exact ih (k + 1) False (by omega) (key False ⟨fun z => z.elim, fun z => z.elim h0 (fun w => h2 w.2)⟩)
        · rw [if_pos h1, t0]
          exact ih (k + 1) False (by omega) (key False ⟨fun z => z.elim, fun z => z.elim h0 (fun w => h1 w.1)⟩)
  simp only [k53, s53_0, s53_1, s53_2, s53_3, Option.bind_some, Option.toList_some, Option.toList_none, List.cons_append, List.nil_append, xm_kl_n, xm_kl_i, xm_kl_a, xm_kl_j, xl_0, xm_low1, xm_low2, xm_low3, xm_low4, xl_n0, xl_n1, xb_nar, xe_if0, xe_ifn, xm_ci1, xm_ca1]
  have h := loop (zS V) 0 False (by omega) ⟨fun z => z.elim, fun ⟨q, a, _⟩ => by omega⟩
  rw [xb_f (c := False) id] at h
  exact h
/-- one of these uses service t -/
def xuu (V : pc_V) (J : Nat → Int64) (C : Nat → Prop) (t : Nat) : Prop := ∃ m, m < zM V ∧ C m ∧ tj (J m) t
theorem m_isUsed (I : CInv V cap) (R : Rel V J) {t : Nat} (ht : t < 40) {F : Nat → Int32} {C : Nat → Prop} {hp : xm_H} (P : Pm o Ou (pv_row V 63 F) hp) (hF : CS F C) : xm_call 54 [.ref (o + 36), .int (nI t)] hp = some (some (.int (xb (xuu V J C t))), hp) := by
  have hn := I.M
  have loop : ∀ d k c, k + d = zM V → (c ↔ ∃ q, q < k ∧ C q ∧ tj (J q) t) → xm_out 54 (4, [some (.ref (o + 36)), some (.int (nI t)), some (.int (xb c)), some (.int (nI k))], [], hp) = some (some (.int (xb (xuu V J C t))), hp) := by
    intro d
    induction d with
    | zero =>
      intro k c hk hc
      simp only [s54_4, s54_5, s54_6, s54_9, s54_51, s54_52, Option.bind_some, Option.toList_some, Option.toList_none, List.cons_append, List.nil_append, xm_kl_n, xm_kl_i, xm_kl_a, xm_kl_j, xl_0, xm_low1, xm_low2, xm_low3, xm_low4, xl_n0, xl_n1, xb_nar, xe_if0, xe_ifn, xm_ci1, xm_ca1, mf_36_0 P, pv63_36, R.nM, hn.1]
      rw [if_pos (nI_le (by omega) (by omega))]
      rw [xb_cg (show c ↔ xuu V J C t by rw [hc]; unfold xuu; rw [show k = zM V by omega])]
    | succ d ih =>
      intro k c hk hc
      have hk12 : k < 12 := by omega
      have hu := R.us k t hk12 ht
      simp only [s54_4, s54_5, s54_6, s54_9, s54_12, s54_13, s54_16, s54_17, s54_20, s54_21, s54_22, s54_25, s54_26, s54_29, s54_31, s54_32, s54_33, s54_34, s54_35, s54_36, s54_39, s54_40, s54_43, s54_44, s54_45, Option.bind_some, Option.toList_some, Option.toList_none, List.cons_append, List.nil_append, xm_kl_n, xm_kl_i, xm_kl_a, xm_kl_j, xl_0, xm_low1, xm_low2, xm_low3, xm_low4, xl_n0, xl_n1, xb_nar, xe_if0, xe_ifn, xm_ci1, xm_ca1, mf_36_0 P, pv63_36, R.nM, hn.1, mf_36_33 P, mf_36_25 P, maz_63 P hk12, pv63_63, hF k hk12, pk_mul, nI_add, maz_57 P (show 40 * k + t < 480 by omega), pv63_57, hu]
      rw [if_neg (nI_ge (by omega) (by omega))]
      simp only [s54_48]
      have key : ∀ c', (c' ↔ (c ∨ (C k ∧ tj (J k) t))) → (c' ↔ ∃ q, q < k + 1 ∧ C q ∧ tj (J q) t) := by
        intro c' h
        rw [h, hc]
        constructor
        · rintro (⟨q, a, b⟩ | b)
          · exact ⟨q, by omega, b⟩
          · exact ⟨k, by omega, b⟩
        · rintro ⟨q, a, b⟩
          by_cases hqk : q = k
          · subst hqk; exact Or.inr b
          · exact Or.inl ⟨q, by omega, b⟩
      have t1 : nI 1 = xb True := (xb_t trivial).symm
      have t0 : nI 0 = xb False := (xb_f id).symm
      by_cases h0 : c
      · rw [if_pos h0, t1]
        exact ih (k + 1) True (by omega) (key True ⟨fun _ => Or.inl h0, fun _ => trivial⟩)
      · rw [if_neg h0]
        by_cases h1 : C k
        · rw [if_pos h1]
          by_cases h2 : tj (J k) t
          · rw [if_pos h2, t1]
            exact ih (k + 1) True (by omega) (key True ⟨fun _ => Or.inr ⟨h1, h2⟩, fun _ => trivial⟩)
          · rw [if_neg h2, t0]
            exact ih (k + 1) False (by omega) (key False ⟨fun z => z.elim, fun z => z.elim h0 (fun w => h2 w.2)⟩)
        · rw [if_neg h1, t0]
          exact ih (k + 1) False (by omega) (key False ⟨fun z => z.elim, fun z => z.elim h0 (fun w => h1 w.1)⟩)
  simp only [k54, s54_0, s54_1, s54_2, s54_3, Option.bind_some, Option.toList_some, Option.toList_none, List.cons_append, List.nil_append, xm_kl_n, xm_kl_i, xm_kl_a, xm_kl_j, xl_0, xm_low1, xm_low2, xm_low3, xm_low4, xl_n0, xl_n1, xb_nar, xe_if0, xe_ifn, xm_ci1, xm_ca1]
  have h := loop (zM V) 0 False (by omega) ⟨fun z => z.elim, fun ⟨q, a, _⟩ => by omega⟩
  rw [xb_f (c := False) id] at h
  exact h
/-- j uses what k provides -/
def xbd (V : pc_V) (J : Nat → Int64) (j k : Nat) : Prop := j < zM V ∧ k < zM V ∧ ∃ t, t < zT V ∧ tj (J j) t ∧ xpv V k (nI t)
theorem m_binds_in (I : CInv V cap) (R : Rel V J) (hS : zS V ≤ 520) (C0 : Nat → Prop) {t : Nat} (ht : t < zT V) (u : Prop) (hu : u → ∃ j, Rch (xbd V J) C0 j ∧ j < zM V ∧ tj (J j) t) : ∀ d k F C hp, k + d = zM V → Pm o Ou (pv_row V 63 F) hp → CS F C → (∀ i, C0 i → C i) → (∀ i, C i → Rch (xbd V J) C0 i) → (∀ i, C i → i < 12) →
    ∃ F' C' hp' x4, xm_out 98 (21, [some (.ref (o + 36)), some (.int (xb (grew C0 C))), some (.int (nI t)), some (.int (xb u)), some (.int (nI k))], [], hp) = xm_out 98 (70, [some (.ref (o + 36)), some (.int (xb (grew C0 C'))), some (.int (nI t)), some (.int (xb u)), x4], [], hp') ∧ Pm o Ou (pv_row V 63 F') hp' ∧ hp'.2 = hp.2 ∧ CS F' C' ∧ (∀ i, C i → C' i) ∧ (∀ i, C' i → Rch (xbd V J) C0 i) ∧ (∀ i, C' i → i < 12) ∧ (¬ grew C0 C' → ∀ q, k ≤ q → q < zM V → u → xpv V q (nI t) → C0 q) := by
  have hM := I.M
  intro d
  induction d with
  | zero =>
    intro k F C hp hk P hF h0 hR h12
    refine ⟨F, C, hp, some (.int (nI k)), ?_, P, rfl, hF, fun i q => q, hR, h12, fun _ q h1 h2 => by omega⟩
    simp only [s98_21, s98_23, s98_24, s98_27, Option.bind_some, Option.toList_some, Option.toList_none, List.cons_append, List.nil_append, xm_kl_n, xm_kl_i, xm_kl_a, xm_kl_j, xl_0, xm_low1, xm_low2, xm_low3, xm_low4, xl_n0, xl_n1, xb_nar, xe_if0, xe_ifn, xm_ci1, xm_ca1, mf_36_0 P, pv63_36, R.nM, hM.1]
    rw [if_pos (nI_le (by omega) (by omega))]
  | succ d ih =>
    intro k F C hp hk P hF h0 hR h12
    have hk12 : k < 12 := by omega
    simp only [s98_21, s98_23, s98_24, s98_27, s98_30, s98_31, s98_34, s98_35, s98_38, s98_40, s98_41, s98_44, s98_45, s98_47, s98_48, s98_51, s98_54, s98_55, s98_58, s98_60, s98_61, s98_62, s98_63, s98_64, Option.bind_some, Option.toList_some, Option.toList_none, List.cons_append, List.nil_append, xm_kl_n, xm_kl_i, xm_kl_a, xm_kl_j, xl_0, xm_low1, xm_low2, xm_low3, xm_low4, xl_n0, xl_n1, xb_nar, xe_if0, xe_ifn, xm_ci1, xm_ca1, mf_36_0 P, pv63_36, R.nM, hM.1, mf_36_33 P, maz_63 P hk12, pv63_63, hF k hk12, mcl_36 P, m_isProviding I R hS k (nI t) P, mwz_63 P hk12, vp_nar1, nI_add]
    rw [if_neg (nI_ge (by omega) (by omega))]
    simp only [s98_67]
    by_cases hu1 : u
    · rw [if_pos hu1]
      by_cases hk2 : C k
      · rw [if_pos hk2]
        obtain ⟨F', C', hp', x6, e, Q, hs, hF', h1, h2, h3, h4⟩ := ih (k + 1) F C hp (by omega) P hF h0 hR h12
        refine ⟨F', C', hp', x6, e, Q, hs, hF', h1, h2, h3, fun hg q hq1 hq2 hcm he => ?_⟩
        by_cases hqk : q = k
        · subst hqk
          exact Classical.byContradiction fun w => hg ⟨q, h1 q hk2, w⟩
        · exact h4 hg q (by omega) hq2 hcm he
      · rw [if_neg hk2]
        by_cases he : xpv V k (nI t)
        · rw [if_pos he]
          have hg : grew C0 (fun i => C i ∨ i = k) := ⟨k, Or.inr rfl, fun z => hk2 (h0 k z)⟩
          have e1 : nI 1 = xb (grew C0 (fun i => C i ∨ i = k)) := (xb_t hg).symm
          obtain ⟨j, hj1, hj2, hj3⟩ := hu hu1
          obtain ⟨F', C', hp', x6, e, Q, hs, hF', h1, h2, h3, h4⟩ := ih (k + 1) (upd F k (nI 1)) (fun i => C i ∨ i = k) _ (by omega) (P.w63 _) (hF.add k) (fun i q => Or.inl (h0 i q)) (fun i q => q.elim (hR i) (fun w => by subst w; exact hj1.step ⟨hj2, by omega, t, ht, hj3, he⟩)) (fun i q => q.elim (h12 i) (fun w => by omega))
          rw [← e1] at e
          exact ⟨F', C', hp', x6, e, Q, hs, hF', fun i q => h1 i (Or.inl q), h2, h3, fun hng => absurd ⟨k, h1 k (Or.inr rfl), fun z => hk2 (h0 k z)⟩ hng⟩
        · rw [if_neg he]
          obtain ⟨F', C', hp', x6, e, Q, hs, hF', h1, h2, h3, h4⟩ := ih (k + 1) F C hp (by omega) P hF h0 hR h12
          refine ⟨F', C', hp', x6, e, Q, hs, hF', h1, h2, h3, fun hg q hq1 hq2 hcm hee => ?_⟩
          by_cases hqk : q = k
          · subst hqk; exact absurd hee he
          · exact h4 hg q (by omega) hq2 hcm hee
    · rw [if_neg hu1]
      exact ⟨F, C, hp, some (.int (nI k)), rfl, P, rfl, hF, fun i q => q, hR, h12, fun _ q _ _ hcm _ => absurd hcm hu1⟩
theorem m_binds (I : CInv V cap) (R : Rel V J) (hS : zS V ≤ 520) {F : Nat → Int32} {C0 : Nat → Prop} {hp : xm_H} (P : Pm o Ou (pv_row V 63 F) hp) (hF : CS F C0) (h12 : ∀ i, C0 i → i < 12) :
    ∃ F' C' hp', xm_call 98 [.ref (o + 36)] hp = some (some (.int (xb (grew C0 C'))), hp') ∧ Pm o Ou (pv_row V 63 F') hp' ∧ hp'.2 = hp.2 ∧ CS F' C' ∧ (∀ i, C0 i → C' i) ∧ (∀ i, C' i → Rch (xbd V J) C0 i) ∧ (∀ i, C' i → i < 12) ∧ (¬ grew C0 C' → ∀ j q, C0 j → xbd V J j q → C0 q) := by
  have hM := I.M
  have hT := I.T
  have outer : ∀ d t F C hp x3 x4, t + d = zT V → Pm o Ou (pv_row V 63 F) hp → CS F C → (∀ i, C0 i → C i) → (∀ i, C i → Rch (xbd V J) C0 i) → (∀ i, C i → i < 12) → (¬ grew C0 C → ∀ j q t', t' < t → C0 j → j < zM V → q < zM V → tj (J j) t' → xpv V q (nI t') → C0 q) →
      ∃ F' C' hp', xm_out 98 (4, [some (.ref (o + 36)), some (.int (xb (grew C0 C))), some (.int (nI t)), x3, x4], [], hp) = some (some (.int (xb (grew C0 C'))), hp') ∧ Pm o Ou (pv_row V 63 F') hp' ∧ hp'.2 = hp.2 ∧ CS F' C' ∧ (∀ i, C0 i → C' i) ∧ (∀ i, C' i → Rch (xbd V J) C0 i) ∧ (∀ i, C' i → i < 12) ∧ (¬ grew C0 C' → ∀ j q, C0 j → xbd V J j q → C0 q) := by
    intro d
    induction d with
    | zero =>
      intro t F C hp x3 x4 hk P hF h0 hR h12 hcl
      refine ⟨F, C, hp, ?_, P, rfl, hF, h0, hR, h12, fun hg j q hj he => ?_⟩
      · simp only [s98_4, s98_5, s98_6, s98_9, s98_76, s98_77, Option.bind_some, Option.toList_some, Option.toList_none, List.cons_append, List.nil_append, xm_kl_n, xm_kl_i, xm_kl_a, xm_kl_j, xl_0, xm_low1, xm_low2, xm_low3, xm_low4, xl_n0, xl_n1, xb_nar, xe_if0, xe_ifn, xm_ci1, xm_ca1, mf_36_7 P, pv63_36, R.nT, hT.1]
        rw [if_pos (nI_le (by omega) (by omega))]
      · obtain ⟨e1, e2, t', e3, e4, e5⟩ := he
        exact hcl hg j q t' (by omega) hj e1 e2 e4 e5
    | succ d ih =>
      intro t F C hp x3 x4 hk P hF h0 hR h12 hcl
      obtain ⟨F1, C1, hp1, x4', e1, P1, s1, hF1, a1, a2, a3, a4⟩ := m_binds_in (o := o) (Ou := Ou) I R hS C0 (show t < zT V by omega) (xuu V J C t) (fun ⟨j, j1, j2, j3⟩ => ⟨j, hR j j2, j1, j3⟩) (zM V) 0 F C hp (by omega) P hF h0 hR h12
      obtain ⟨F2, C2, hp2, e2, P2, s2, hF2, b1, b2, b3, b4⟩ := ih (t + 1) F1 C1 hp1 (some (.int (xb (xuu V J C t)))) x4' (by omega) P1 hF1 (fun i q => a1 i (h0 i q)) a2 a3 (fun hg j q t' ht' hcj hj hq htj hpv => by
        by_cases htt : t' = t
        · subst htt
          exact a4 hg q (Nat.zero_le _) hq ⟨j, hj, h0 j hcj, htj⟩ hpv
        · exact hcl (fun w => hg (by obtain ⟨i, w1, w2⟩ := w; exact ⟨i, a1 i w1, w2⟩)) j q t' (by omega) hcj hj hq htj hpv)
      refine ⟨F2, C2, hp2, ?_, P2, s2.trans s1, hF2, b1, b2, b3, b4⟩
      simp only [s98_4, s98_5, s98_6, s98_9, s98_12, s98_13, s98_14, s98_17, s98_18, s98_19, Option.bind_some, Option.toList_some, Option.toList_none, List.cons_append, List.nil_append, xm_kl_n, xm_kl_i, xm_kl_a, xm_kl_j, xl_0, xm_low1, xm_low2, xm_low3, xm_low4, xl_n0, xl_n1, xb_nar, xe_if0, xe_ifn, xm_ci1, xm_ca1, mf_36_7 P, pv63_36, R.nT, hT.1, mcl_36 P, m_isUsed I R (show t < 40 by omega) P hF]
      rw [if_neg (nI_ge (by omega) (by omega)), e1]
      simp only [s98_70, s98_73, Option.bind_some, Option.toList_some, Option.toList_none, List.cons_append, List.nil_append, xm_kl_n, xm_kl_i, xm_kl_a, xm_kl_j, xl_0, xm_low1, xm_low2, xm_low3, xm_low4, xl_n0, xl_n1, xb_nar, xe_if0, xe_ifn, xm_ci1, xm_ca1, nI_add]
      exact e2
  have hng : ¬ grew C0 C0 := fun ⟨i, h1, h2⟩ => h2 h1
  have h := outer (zT V) 0 F C0 hp none none (by omega) P hF (fun i q => q) (fun i q => .of q) h12 (fun _ j q t' ht' => by omega)
  rw [xb_f hng] at h
  simp only [k98, s98_0, s98_1, s98_2, s98_3, Option.bind_some, Option.toList_some, Option.toList_none, List.cons_append, List.nil_append, xm_kl_n, xm_kl_i, xm_kl_a, xm_kl_j, xl_0, xm_low1, xm_low2, xm_low3, xm_low4, xl_n0, xl_n1, xb_nar, xe_if0, xe_ifn, xm_ci1, xm_ca1]
  exact h
/-- the edges of a graph -/
def xge (V : pc_V) (J : Nat → Int64) (bound : Prop) (j k : Nat) : Prop := xeg V False True (-1) j k ∨ (bound ∧ xbd V J j k)
theorem m_graphOf (I : CInv V cap) (R : Rel V J) (hS : zS V ≤ 520) {root : Nat} (hr : root < zM V) (bound : Prop) {F : Nat → Int32} {hp : xm_H} (P : Pm o Ou (pv_row V 63 F) hp) : ∃ F' hp', xm_call 128 [.ref (o + 36), .int (nI root), .int (xb bound)] hp = some (none, hp') ∧ Pm o Ou (pv_row V 63 F') hp' ∧ hp'.2 = hp.2 ∧ CS F' (Rch (xge V J bound) (fun j => j = root)) := by
  have hM := I.M
  obtain ⟨hp1, G, ec, P1, s1, hG⟩ := m_clear P
  have whil : ∀ f F C hp c0, 13 ≤ ccn C 12 + f → Pm o Ou (pv_row V 63 F) hp → CS F C → (∀ i, C i → i < 12) → C root → (∀ i, C i → Rch (xge V J bound) (fun j => j = root) i) → c0 = nI 1 → ∃ F' hp' C', xm_out 128 (13, [some (.ref (o + 36)), some (.int (nI root)), some (.int (xb bound)), some (.int c0)], [], hp) = some (none, hp') ∧ Pm o Ou (pv_row V 63 F') hp' ∧ hp'.2 = hp.2 ∧ CS F' C' ∧ (∀ i, C' i ↔ Rch (xge V J bound) (fun j => j = root) i) := by
    intro f
    induction f with
    | zero => intro F C hp c0 hf; have := ccn_le C 12; omega
    | succ f ih =>
      intro F C hp c0 hf P hF h12 h0 hR hc0
      subst hc0
      obtain ⟨F1, C1, hp1, e1, P1, s1, hF1, a1, a2, a3, a4⟩ := m_goesOn I R False True (-1) P hF h12
      rw [xb_t (c := True) trivial, xb_f (c := False) id] at e1
      have hR1 : ∀ i, C1 i → Rch (xge V J bound) (fun j => j = root) i := fun i q => (a2 i q).mono (fun j w => hR j w) (fun _ _ w => Or.inl w)
      have t1 : nI 1 = xb True := (xb_t trivial).symm
      have t0 : nI 0 = xb False := (xb_f id).symm
      by_cases hb : bound
      · obtain ⟨F2, C2, hp2, e2, P2, s2, hF2, b1, b2, b3, b4⟩ := m_binds I R hS P1 hF1 a3
        have hR2 : ∀ i, C2 i → Rch (xge V J bound) (fun j => j = root) i := fun i q => (b2 i q).mono (fun j w => hR1 j w) (fun _ _ w => Or.inr ⟨hb, w⟩)
        have hrun : xm_out 128 (13, [some (.ref (o + 36)), some (.int (nI root)), some (.int (xb bound)), some (.int (nI 1))], [], hp) = xm_out 128 (13, [some (.ref (o + 36)), some (.int (nI root)), some (.int (xb bound)), some (.int (xb (grew C1 C2 ∨ grew C C1)))], [], hp2) := by
          conv => lhs; simp only [s128_13, s128_14, s128_17, s128_18, s128_19, s128_20, s128_21, s128_24, s128_25, s128_26, s128_29, s128_30, s128_33, s128_36, s128_37, s128_40, s128_41, s128_44, s128_45, Option.bind_some, Option.toList_some, Option.toList_none, List.cons_append, List.nil_append, xm_kl_n, xm_kl_i, xm_kl_a, xm_kl_j, xl_0, xm_low1, xm_low2, xm_low3, xm_low4, xl_n0, xl_n1, xb_nar, xe_if0, xe_ifn, xm_ci1, xm_ca1, mcl_36 P, mcl_36 P1, e1, e2]
          rw [if_neg (by decide), if_pos hb]
          conv => lhs; simp only [s128_46]
          by_cases g2 : grew C1 C2
          · rw [if_pos g2, t1]
            rw [xb_cg (show True ↔ (grew C1 C2 ∨ grew C C1) from ⟨fun _ => Or.inl g2, fun _ => trivial⟩)]
          · rw [if_neg g2]
            by_cases g1 : grew C C1
            · rw [if_pos g1, t1, xb_cg (show True ↔ (grew C1 C2 ∨ grew C C1) from ⟨fun _ => Or.inr g1, fun _ => trivial⟩)]
            · rw [if_neg g1, t0, xb_cg (show False ↔ (grew C1 C2 ∨ grew C C1) from ⟨fun z => z.elim, fun z => z.elim g2 g1⟩)]
        by_cases hg : grew C1 C2 ∨ grew C C1
        · have hlt : ccn C 12 < ccn C2 12 := by
            rcases hg with ⟨i, g1, g2⟩ | ⟨i, g1, g2⟩
            · exact ccn_lt (fun j q => b1 j (a1 j q)) g1 (fun w => g2 (a1 i w)) 12 (b3 i g1)
            · exact ccn_lt (fun j q => b1 j (a1 j q)) (b1 i g1) g2 12 (a3 i g1)
          obtain ⟨F', hp', C', e, Q, hs, hF', hC'⟩ := ih F2 C2 hp2 (xb (grew C1 C2 ∨ grew C C1)) (by omega) P2 hF2 b3 (b1 _ (a1 _ h0)) hR2 (xb_t hg)
          exact ⟨F', hp', C', hrun.trans e, Q, hs.trans (s2.trans s1), hF', hC'⟩
        · have n2 : ¬ grew C1 C2 := fun w => hg (Or.inl w)
          have n1 : ¬ grew C C1 := fun w => hg (Or.inr w)
          have q1 : ∀ i, C1 i ↔ C i := fun i => ⟨fun q => Classical.byContradiction fun w => n1 ⟨i, q, w⟩, a1 i⟩
          have q2 : ∀ i, C2 i ↔ C1 i := fun i => ⟨fun q => Classical.byContradiction fun w => n2 ⟨i, q, w⟩, b1 i⟩
          refine ⟨F2, hp2, C2, ?_, P2, s2.trans s1, hF2, fun i => ?_⟩
          · rw [hrun]
            simp only [s128_13, s128_14, s128_49, Option.bind_some, Option.toList_some, Option.toList_none, List.cons_append, List.nil_append, xm_kl_n, xm_kl_i, xm_kl_a, xm_kl_j, xl_0, xm_low1, xm_low2, xm_low3, xm_low4, xl_n0, xl_n1, xb_nar, xe_if0, xe_ifn, xm_ci1, xm_ca1]
            rw [if_neg hg]
          · refine Rch.eq (C := fun j => j = root) (fun j w => by subst w; exact b1 _ (a1 _ h0)) (fun j k w e => ?_) hR2 i
            rcases e with e | ⟨_, e⟩
            · exact (q2 k).mpr ((q1 k).mpr (a4 n1 j k ((q1 j).mp ((q2 j).mp w)) e))
            · exact (q2 k).mpr (b4 n2 j k ((q2 j).mp w) e)
      · have hrun : xm_out 128 (13, [some (.ref (o + 36)), some (.int (nI root)), some (.int (xb bound)), some (.int (nI 1))], [], hp) = xm_out 128 (13, [some (.ref (o + 36)), some (.int (nI root)), some (.int (xb bound)), some (.int (xb (grew C C1)))], [], hp1) := by
          conv => lhs; simp only [s128_13, s128_14, s128_17, s128_18, s128_19, s128_20, s128_21, s128_24, s128_25, s128_26, s128_36, s128_37, s128_40, s128_41, s128_44, s128_45, Option.bind_some, Option.toList_some, Option.toList_none, List.cons_append, List.nil_append, xm_kl_n, xm_kl_i, xm_kl_a, xm_kl_j, xl_0, xm_low1, xm_low2, xm_low3, xm_low4, xl_n0, xl_n1, xb_nar, xe_if0, xe_ifn, xm_ci1, xm_ca1, mcl_36 P, e1]
          rw [if_neg (by decide), if_neg hb]
          conv => lhs; simp only [s128_46]
          by_cases g1 : grew C C1
          · rw [if_pos g1, xb_t g1]
          · rw [if_neg g1, xb_f g1]
        by_cases hg : grew C C1
        · obtain ⟨i, g1, g2⟩ := id hg
          have hlt := ccn_lt a1 g1 g2 12 (a3 i g1)
          obtain ⟨F', hp', C', e, Q, hs, hF', hC'⟩ := ih F1 C1 hp1 (xb (grew C C1)) (by omega) P1 hF1 a3 (a1 _ h0) hR1 (xb_t hg)
          exact ⟨F', hp', C', hrun.trans e, Q, hs.trans s1, hF', hC'⟩
        · have q1 : ∀ i, C1 i ↔ C i := fun i => ⟨fun q => Classical.byContradiction fun w => hg ⟨i, q, w⟩, a1 i⟩
          refine ⟨F1, hp1, C1, ?_, P1, s1, hF1, fun i => ?_⟩
          · rw [hrun]
            simp only [s128_13, s128_14, s128_49, Option.bind_some, Option.toList_some, Option.toList_none, List.cons_append, List.nil_append, xm_kl_n, xm_kl_i, xm_kl_a, xm_kl_j, xl_0, xm_low1, xm_low2, xm_low3, xm_low4, xl_n0, xl_n1, xb_nar, xe_if0, xe_ifn, xm_ci1, xm_ca1]
            rw [if_neg hg]
          · refine Rch.eq (C := fun j => j = root) (fun j w => by subst w; exact a1 _ h0) (fun j k w e => ?_) hR1 i
            rcases e with e | ⟨e, _⟩
            · exact (q1 k).mpr (a4 hg j k ((q1 j).mp w) e)
            · exact absurd e hb
  have hG0 : CS G (fun _ => False) := fun i hi => by rw [hG i hi]; exact (xb_f id).symm
  obtain ⟨F', hp', C', e, Q, hs, hF', hC'⟩ := whil 13 (upd G root (nI 1)) (fun i => i = root) _ (nI 1) (by omega) (P1.w63 _) ((hG0.add root).cg (fun i _ => ⟨fun z => z.elim (fun w => w.elim) id, Or.inr⟩)) (fun i q => by omega) rfl (fun i q => .of q) rfl
  refine ⟨F', hp', ?_, Q, hs.trans s1, hF'.cg (fun i _ => hC' i)⟩
  simp only [k128, s128_0, s128_1, s128_4, s128_5, s128_8, s128_9, s128_10, s128_11, s128_12, Option.bind_some, Option.toList_some, Option.toList_none, List.cons_append, List.nil_append, xm_kl_n, xm_kl_i, xm_kl_a, xm_kl_j, xl_0, xm_low1, xm_low2, xm_low3, xm_low4, xl_n0, xl_n1, xb_nar, xe_if0, xe_ifn, xm_ci1, xm_ca1, mcl_36 P, ec, mf_36_33 P1, mwz_63 P1 (show root < 12 by omega), pv63_63, vp_nar1]
  exact e
end GRAPH
