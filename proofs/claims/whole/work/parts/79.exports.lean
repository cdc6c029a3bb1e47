/-! exports, provides -/
section EXPORTS
variable {o n : Nat} {V : pc_V} {J : Nat → Int64} {p1 p2 cap : Nat} {hp hp' : xm_H} {F : Nat → Int32} {Ou : Nat → Option xm_E}
theorem m_expFront (I : CInv V cap) (R : Rel V J) {p ti : Nat} (hpp : p < zP V) {to : Int32} (c : Prop) (hto : to = -1 ∨ (0 ≤ to ∧ to < V 1 0)) (Q : Pm o Ou V hp) : ∃ x5, xm_call 125 [.ref (o + 36), .int (nI p), .int to, .int (xb c)] hp = xm_out 125 (68, [some (.ref (o + 36)), some (.int (nI p)), some (.int to), some (.int (xb c)), some (.int (xb (xan (fun t => V 12 t = nI p) 0 (zT V) = true))), x5], [], hp) := by
  have hPz := I.P
  have hT := I.T
  have ha : 0 ≤ nI p ∧ nI p < V 6 0 := ⟨Int32.not_lt.mp (nI_pos (by omega)), by rw [hPz.1]; exact nI_lt hpp (by omega)⟩
  have loop : ∀ d k e, k + d = zT V → (e ↔ ∃ t, t < k ∧ V 12 t = nI p) → ∃ x5, xm_out 125 (30, [some (.ref (o + 36)), some (.int (nI p)), some (.int to), some (.int (xb c)), some (.int (xb e)), some (.int (nI k))], [], hp) = xm_out 125 (68, [some (.ref (o + 36)), some (.int (nI p)), some (.int to), some (.int (xb c)), some (.int (xb (xan (fun t => V 12 t = nI p) 0 (zT V) = true))), x5], [], hp) := by
    intro d
    induction d with
    | zero =>
      intro k e hk he
      refine ⟨some (.int (nI k)), ?_⟩
      simp only [s125_30, s125_32, s125_33, s125_36, Option.bind_some, Option.toList_some, Option.toList_none, List.cons_append, List.nil_append, xm_kl_n, xm_kl_i, xm_kl_a, xm_kl_j, xl_0, xm_low1, xm_low2, xm_low3, xm_low4, xl_n0, xl_n1, xb_nar, xe_if0, xe_ifn, xm_ci1, xm_ca1, mf_36_7 Q, R.nT, hT.1]
      rw [if_pos (nI_le (by omega) (by omega))]
      have : e ↔ xan (fun t => V 12 t = nI p) 0 (zT V) = true := by
        rw [he, xan_spec]
        exact ⟨fun ⟨p, h1, h2⟩ => ⟨p, by omega, by omega, h2⟩, fun ⟨p, _, h1, h2⟩ => ⟨p, by omega, h2⟩⟩
      rw [xb_cg this]
    | succ d ih =>
      intro k e hk he
      have hx : ∃ e', (e' ↔ (e ∨ V 12 k = nI p)) ∧ xm_out 125 (30, [some (.ref (o + 36)), some (.int (nI p)), some (.int to), some (.int (xb c)), some (.int (xb e)), some (.int (nI k))], [], hp) = xm_out 125 (30, [some (.ref (o + 36)), some (.int (nI p)), some (.int to), some (.int (xb c)), some (.int (xb e')), some (.int (nI (k + 1)))], [], hp) := by
        refine ⟨_, Iff.rfl, ?_⟩
        conv => lhs; simp only [s125_30, s125_32, s125_33, s125_36, s125_39, s125_41, s125_44, s125_45, s125_48, s125_50, s125_51, s125_52, s125_55, s125_56, s125_59, s125_60, s125_62, Option.bind_some, Option.toList_some, Option.toList_none, List.cons_append, List.nil_append, xm_kl_n, xm_kl_i, xm_kl_a, xm_kl_j, xl_0, xm_low1, xm_low2, xm_low3, xm_low4, xl_n0, xl_n1, xb_nar, xe_if0, xe_ifn, xm_ci1, xm_ca1, mf_36_7 Q, R.nT, hT.1, mf_36_8 Q, mai_42 Q (show k < 40 by omega), R.r42, nI_add]
        rw [if_neg (nI_ge (by omega) (by omega))]
        conv => lhs; simp only [s125_65]
        by_cases h0 : e
        · rw [if_pos h0, xb_t (c := e ∨ V 12 k = nI p) (Or.inl h0)]
        · rw [if_neg h0]
          by_cases h1 : V 12 k = nI p
          · rw [if_neg (fun z => z h1), xb_t (c := e ∨ V 12 k = nI p) (Or.inr h1)]
          · rw [if_pos h1, xb_f (c := e ∨ V 12 k = nI p) (fun z => z.elim h0 h1)]
      obtain ⟨e', he', ee⟩ := hx
      obtain ⟨x5, e5⟩ := ih (k + 1) e' (by omega) (by
        rw [he', he]
        constructor
        · rintro (⟨t, h1, h2⟩ | h)
          · exact ⟨t, by omega, h2⟩
          · exact ⟨k, by omega, h⟩
        · rintro ⟨t, h1, h2⟩
          by_cases htk : t = k
          · subst htk; exact Or.inr h2
          · exact Or.inl ⟨t, by omega, h2⟩)
      exact ⟨x5, ee.trans e5⟩
  obtain ⟨x5, e5⟩ := loop (zT V) 0 False (by omega) ⟨fun z => z.elim, fun ⟨t, h, _⟩ => by omega⟩
  rw [xb_f (c := False) id] at e5
  refine ⟨x5, ?_⟩
  rw [← e5]
  conv => lhs; simp only [k125, s125_0, s125_1, s125_2, s125_5, s125_8, s125_9, s125_10, s125_13, s125_14, s125_15, s125_18, s125_21, s125_23, s125_24, s125_25, s125_27, s125_28, Option.bind_some, Option.toList_some, Option.toList_none, List.cons_append, List.nil_append, xm_kl_n, xm_kl_i, xm_kl_a, xm_kl_j, xl_0, xm_low1, xm_low2, xm_low3, xm_low4, xl_n0, xl_n1, xb_nar, xe_if0, xe_ifn, xm_ci1, xm_ca1, mcl_36 Q, m_isPack Q I R, m_isModule Q I R]
  rw [if_pos ha]
  by_cases h1 : to = -1
  · rw [if_pos h1]
  · rw [if_neg h1, if_pos (hto.elim (fun z => absurd z h1) id)]
theorem to_bit (I : CInv V cap) {to : Int32} (h : to = -1 ∨ (0 ≤ to ∧ to < V 1 0)) : ∃ ti, ti ≤ 12 ∧ xbit to = nI 1 <<< (nI ti &&& 31) ∧ ((to = -1 ∧ ti = 12) ∨ (to = nI ti ∧ ti < 12)) := by
  have hM := I.M
  rcases h with rfl | h
  · exact ⟨12, by omega, by decide, Or.inl ⟨rfl, rfl⟩⟩
  · obtain ⟨m, hm, rfl⟩ := rng h hM.1 (by omega)
    exact ⟨m, by omega, xbit_nI (by omega), Or.inr ⟨rfl, by omega⟩⟩
theorem tell_new {f g : Nat → Int32} {p ti : Nat} {to : Int32} (hp_ : p < 30) (hti : ti ≤ 12) (hb : xbit to = nI 1 <<< (nI ti &&& 31)) (h : ∀ p t, p < 30 → t ≤ 12 → g (13 * p + t) = xb (tb (f p) t)) : ∀ p' t, p' < 30 → t ≤ 12 → upd g (13 * p + ti) (nI 1) (13 * p' + t) = xb (tb (upd f p (f p ||| xbit to) p') t) := by
  intro p' t g1 g2
  by_cases hpp : p' = p
  · subst hpp
    rw [pk_us, hb]
    by_cases htt : t = ti
    · subst htt
      rw [pk_us, xb_t ((tb_or (by omega)).mpr (Or.inr ((tb_bit (by omega) (by omega)).mpr rfl)))]
    · rw [pk_un (by omega), h p' t g1 g2]
      exact xb_cg ⟨fun z => (tb_or (by omega)).mpr (Or.inl z), fun z => ((tb_or (by omega)).mp z).elim id (fun w => absurd ((tb_bit (by omega) (by omega)).mp w).symm htt)⟩
  · rw [pk_un hpp, pk_un (by omega)]
    exact h p' t g1 g2
theorem sim_exports (S : Stb o n V J p1 p2 cap hp) (a to : Int32) (c : Prop) : Sim o n 109 125 [.int a, .int to, .int (xb c)] hp := by
  have P := S.P
  have I := S.I
  have R := S.R
  have hM := I.M
  have hPz := I.P
  have hT := I.T
  have Q : Pm o hp.1 V hp := S.P.m (fun _ _ => rfl)
  by_cases hg : (0 ≤ a ∧ a < V 6 0) ∧ (to = -1 ∨ (0 ≤ to ∧ to < V 1 0))
  · obtain ⟨ha, hto⟩ := hg
    obtain ⟨p, hpp, rfl⟩ := rng ha hPz.1 (by omega)
    obtain ⟨ti, hti, hbit, hcase⟩ := to_bit I hto
    have cfront : xm_call 109 [.ref o, .int (nI p), .int to, .int (xb c)] hp = xm_out 109 (30, [some (.ref o), some (.int (nI p)), some (.int to), some (.int (xb c))], [], hp) := by
      simp only [k109, s109_0, s109_1, s109_4, s109_5, s109_8, s109_11, s109_12, s109_13, s109_16, s109_17, s109_20, s109_21, s109_24, Option.bind_some, Option.toList_some, Option.toList_none, List.cons_append, List.nil_append, xm_kl_n, xm_kl_i, xm_kl_a, xm_kl_j, xl_0, xm_low1, xm_low2, xm_low3, xm_low4, xl_n0, xl_n1, xb_nar, xe_if0, xe_ifn, xm_ci1, xm_ca1, pf_0_0 P, pf_0_1 P, pcl_1 P, pcl_6 P, c_Modules_holds P, c_Packs_holds P]
      rw [if_pos ha]
      by_cases h1 : to = -1
      · rw [if_pos h1]
      · rw [if_neg h1, if_pos (hto.elim (fun z => absurd z h1) id)]
    have m82 : ∀ (Ou : Nat → Option xm_E) hp' (e : Prop) x5, Pm o Ou V hp' → xm_out 125 (82, [some (.ref (o + 36)), some (.int (nI p)), some (.int to), some (.int (xb c)), some (.int (xb e)), x5], [], hp') = xm_out 125 (100, [some (.ref (o + 36)), some (.int (nI p)), some (.int to), some (.int (xb c)), some (.int (xb e)), some (.int (nI (13 * p + ti)))], [], hp') := by
      intro Ou hp' e x5 Q
      rcases hcase with ⟨h1, h2⟩ | ⟨h1, h2⟩
      · simp only [s125_82, s125_84, s125_85, s125_86, s125_87, s125_88, s125_91, s125_93, s125_96, s125_97, s125_98, Option.bind_some, Option.toList_some, Option.toList_none, List.cons_append, List.nil_append, xm_kl_n, xm_kl_i, xm_kl_a, xm_kl_j, xl_0, xm_low1, xm_low2, xm_low3, xm_low4, xl_n0, xl_n1, xb_nar, xe_if0, xe_ifn, xm_ci1, xm_ca1, pk_mul, nI_add]
        rw [if_neg (fun z => z h1), h2]
      · have hne : ¬ to = -1 := by rw [h1]; exact nI_m1 (by omega)
        simp only [s125_82, s125_84, s125_85, s125_86, s125_87, s125_88, s125_91, s125_93, s125_96, s125_97, s125_98, Option.bind_some, Option.toList_some, Option.toList_none, List.cons_append, List.nil_append, xm_kl_n, xm_kl_i, xm_kl_a, xm_kl_j, xl_0, xm_low1, xm_low2, xm_low3, xm_low4, xl_n0, xl_n1, xb_nar, xe_if0, xe_ifn, xm_ci1, xm_ca1, pk_mul, nI_add]
        rw [if_pos hne, h1, nI_add]
    have htold : ∀ r : Int32, (¬ r &&& xbit to = 0) ↔ tb r ti := fun r => by rw [hbit]; exact Iff.rfl
    have hex := R.ex p ti (by omega) hti
    have hop := R.op p ti (by omega) hti
    obtain ⟨x5, mf⟩ := m_expFront I R (ti := ti) hpp c hto Q
    by_cases h1 : ¬ c ∧ ¬ xan (fun t => V 12 t = nI p) 0 (zT V) = true
    · refine ⟨(-10) - nI 1, hp, hp, ?_, ?_, S.s⟩
      · show xm_call 109 [.ref o, .int (nI p), .int to, .int (xb c)] hp = _
        rw [cfront]
        simp only [s109_30, s109_31, s109_34, s109_35, s109_38, s109_39, s109_42, s109_45, s109_46, s109_49, Option.bind_some, Option.toList_some, Option.toList_none, List.cons_append, List.nil_append, xm_kl_n, xm_kl_i, xm_kl_a, xm_kl_j, xl_0, xm_low1, xm_low2, xm_low3, xm_low4, xl_n0, xl_n1, xb_nar, xe_if0, xe_ifn, xm_ci1, xm_ca1, pf_0_2 P, pcl_11 P, c_Types_anyIn P hT.1 hT.2, c_broken]
        rw [if_neg h1.1, if_neg h1.2]
      · show xm_call 125 [.ref (o + 36), .int (nI p), .int to, .int (xb c)] hp = _
        rw [mf]
        simp only [s125_68, s125_69, s125_72, s125_74, s125_77, s125_78, s125_81, Option.bind_some, Option.toList_some, Option.toList_none, List.cons_append, List.nil_append, xm_kl_n, xm_kl_i, xm_kl_a, xm_kl_j, xl_0, xm_low1, xm_low2, xm_low3, xm_low4, xl_n0, xl_n1, xb_nar, xe_if0, xe_ifn, xm_ci1, xm_ca1, m_broken]
        rw [if_neg h1.1, if_neg h1.2]
    · have c50 : xm_out 109 (30, [some (.ref o), some (.int (nI p)), some (.int to), some (.int (xb c))], [], hp) = xm_out 109 (50, [some (.ref o), some (.int (nI p)), some (.int to), some (.int (xb c))], [], hp) := by
        simp only [s109_30, s109_31, s109_34, s109_35, s109_38, s109_39, s109_42, Option.bind_some, Option.toList_some, Option.toList_none, List.cons_append, List.nil_append, xm_kl_n, xm_kl_i, xm_kl_a, xm_kl_j, xl_0, xm_low1, xm_low2, xm_low3, xm_low4, xl_n0, xl_n1, xb_nar, xe_if0, xe_ifn, xm_ci1, xm_ca1, pf_0_2 P, pcl_11 P, c_Types_anyIn P hT.1 hT.2]
        by_cases hc : c
        · rw [if_pos hc]
        · rw [if_neg hc, if_pos (Classical.byContradiction (fun z => h1 ⟨hc, z⟩))]
      have m100 : ∀ (Ou : Nat → Option xm_E) hp' x5, Pm o Ou V hp' → xm_out 125 (68, [some (.ref (o + 36)), some (.int (nI p)), some (.int to), some (.int (xb c)), some (.int (xb (xan (fun t => V 12 t = nI p) 0 (zT V) = true))), x5], [], hp') = xm_out 125 (100, [some (.ref (o + 36)), some (.int (nI p)), some (.int to), some (.int (xb c)), some (.int (xb (xan (fun t => V 12 t = nI p) 0 (zT V) = true))), some (.int (nI (13 * p + ti)))], [], hp') := by
        intro Ou hp' x5 Q
        rw [← m82 Ou hp' _ x5 Q]
        conv => lhs; simp only [s125_68, s125_69, s125_72, s125_74, Option.bind_some, Option.toList_some, Option.toList_none, List.cons_append, List.nil_append, xm_kl_n, xm_kl_i, xm_kl_a, xm_kl_j, xl_0, xm_low1, xm_low2, xm_low3, xm_low4, xl_n0, xl_n1, xb_nar, xe_if0, xe_ifn, xm_ci1, xm_ca1]
        by_cases hc : c
        · rw [if_pos hc]
        · rw [if_neg hc, if_pos (Classical.byContradiction (fun z => h1 ⟨hc, z⟩))]
      by_cases h2 : (c ∧ tb (V 10 p) ti) ∨ (¬ c ∧ tb (V 9 p) ti)
      · refine ⟨(-10) - nI 2, hp, hp, ?_, ?_, S.s⟩
        · show xm_call 109 [.ref o, .int (nI p), .int to, .int (xb c)] hp = _
          rw [cfront, c50]
          simp only [s109_50, s109_51, s109_54, s109_55, s109_56, s109_57, s109_60, s109_63, s109_64, s109_67, Option.bind_some, Option.toList_some, Option.toList_none, List.cons_append, List.nil_append, xm_kl_n, xm_kl_i, xm_kl_a, xm_kl_j, xl_0, xm_low1, xm_low2, xm_low3, xm_low4, xl_n0, xl_n1, xb_nar, xe_if0, xe_ifn, xm_ci1, xm_ca1, pf_0_1 P, pcl_6 P, c_Packs_isTold P (show p < 30 by omega), c_broken]
          rw [if_pos (h2.elim (fun z => Or.inl ⟨z.1, (htold _).mpr z.2⟩) (fun z => Or.inr ⟨z.1, (htold _).mpr z.2⟩))]
        · show xm_call 125 [.ref (o + 36), .int (nI p), .int to, .int (xb c)] hp = _
          rw [mf, m100 _ _ _ Q]
          simp only [s125_100, s125_101, s125_104, s125_105, s125_108, s125_110, s125_111, s125_114, s125_117, s125_118, s125_121, s125_123, s125_124, s125_127, s125_128, s125_131, Option.bind_some, Option.toList_some, Option.toList_none, List.cons_append, List.nil_append, xm_kl_n, xm_kl_i, xm_kl_a, xm_kl_j, xl_0, xm_low1, xm_low2, xm_low3, xm_low4, xl_n0, xl_n1, xb_nar, xe_if0, xe_ifn, xm_ci1, xm_ca1, mf_36_5 Q, mf_36_6 Q, maz_40 Q (show 13 * p + ti < 390 by omega), maz_41 Q (show 13 * p + ti < 390 by omega), hex, hop, m_broken]
          by_cases hc : c
          · rw [if_pos hc, if_pos (h2.elim (fun z => z.2) (fun z => absurd hc z.1))]
          · rw [if_neg hc, if_pos (h2.elim (fun z => absurd z.1 hc) (fun z => z.2))]
      · have c68 : xm_out 109 (50, [some (.ref o), some (.int (nI p)), some (.int to), some (.int (xb c))], [], hp) = xm_out 109 (68, [some (.ref o), some (.int (nI p)), some (.int to), some (.int (xb c))], [], hp) := by
          simp only [s109_50, s109_51, s109_54, s109_55, s109_56, s109_57, s109_60, Option.bind_some, Option.toList_some, Option.toList_none, List.cons_append, List.nil_append, xm_kl_n, xm_kl_i, xm_kl_a, xm_kl_j, xl_0, xm_low1, xm_low2, xm_low3, xm_low4, xl_n0, xl_n1, xb_nar, xe_if0, xe_ifn, xm_ci1, xm_ca1, pf_0_1 P, pcl_6 P, c_Packs_isTold P (show p < 30 by omega)]
          rw [if_neg (fun z => h2 (z.elim (fun w => Or.inl ⟨w.1, (htold _).mp w.2⟩) (fun w => Or.inr ⟨w.1, (htold _).mp w.2⟩)))]
        have m132 : ∀ (Ou : Nat → Option xm_E) hp' (e : Prop), Pm o Ou V hp' → xm_out 125 (100, [some (.ref (o + 36)), some (.int (nI p)), some (.int to), some (.int (xb c)), some (.int (xb e)), some (.int (nI (13 * p + ti)))], [], hp') = xm_out 125 (132, [some (.ref (o + 36)), some (.int (nI p)), some (.int to), some (.int (xb c)), some (.int (xb e)), some (.int (nI (13 * p + ti)))], [], hp') := by
          intro Ou hp' e Q
          simp only [s125_100, s125_101, s125_104, s125_105, s125_108, s125_110, s125_111, s125_114, s125_117, s125_118, s125_121, s125_123, s125_124, Option.bind_some, Option.toList_some, Option.toList_none, List.cons_append, List.nil_append, xm_kl_n, xm_kl_i, xm_kl_a, xm_kl_j, xl_0, xm_low1, xm_low2, xm_low3, xm_low4, xl_n0, xl_n1, xb_nar, xe_if0, xe_ifn, xm_ci1, xm_ca1, mf_36_5 Q, mf_36_6 Q, maz_40 Q (show 13 * p + ti < 390 by omega), maz_41 Q (show 13 * p + ti < 390 by omega), hex, hop]
          by_cases hc : c
          · rw [if_pos hc, if_neg (fun z => h2 (Or.inl ⟨hc, z⟩))]
          · rw [if_neg hc, if_neg (fun z => h2 (Or.inr ⟨hc, z⟩))]
        by_cases h3 : V 7 p = to
        · refine ⟨(-10) - nI 3, hp, hp, ?_, ?_, S.s⟩
          · show xm_call 109 [.ref o, .int (nI p), .int to, .int (xb c)] hp = _
            rw [cfront, c50, c68]
            simp only [s109_68, s109_69, s109_72, s109_73, s109_76, s109_77, s109_80, s109_81, s109_84, Option.bind_some, Option.toList_some, Option.toList_none, List.cons_append, List.nil_append, xm_kl_n, xm_kl_i, xm_kl_a, xm_kl_j, xl_0, xm_low1, xm_low2, xm_low3, xm_low4, xl_n0, xl_n1, xb_nar, xe_if0, xe_ifn, xm_ci1, xm_ca1, pf_0_1 P, pcl_6 P, c_Packs_ownerOf P (show p < 30 by omega), c_broken]
            rw [if_neg (fun z => z h3)]
          · show xm_call 125 [.ref (o + 36), .int (nI p), .int to, .int (xb c)] hp = _
            rw [mf, m100 _ _ _ Q, m132 _ _ _ Q]
            simp only [s125_132, s125_133, s125_134, s125_137, s125_138, s125_139, s125_142, s125_143, s125_146, Option.bind_some, Option.toList_some, Option.toList_none, List.cons_append, List.nil_append, xm_kl_n, xm_kl_i, xm_kl_a, xm_kl_j, xl_0, xm_low1, xm_low2, xm_low3, xm_low4, xl_n0, xl_n1, xb_nar, xe_if0, xe_ifn, xm_ci1, xm_ca1, mf_36_3 Q, mai_38 Q (show p < 30 by omega), R.r38, m_broken]
            rw [if_neg (fun z => z h3.symm)]
        · obtain ⟨hp1, ea, P1, hs1⟩ := c_Packs_tell P (show p < 30 by omega) to c
          have ecl : xm_call 109 [.ref o, .int (nI p), .int to, .int (xb c)] hp = some (some (.int (nI 1)), hp1) := by
            rw [cfront, c50, c68]
            simp only [s109_68, s109_69, s109_72, s109_73, s109_76, s109_77, s109_80, s109_81, s109_84, s109_85, s109_86, s109_89, s109_90, s109_91, s109_92, s109_95, s109_96, Option.bind_some, Option.toList_some, Option.toList_none, List.cons_append, List.nil_append, xm_kl_n, xm_kl_i, xm_kl_a, xm_kl_j, xl_0, xm_low1, xm_low2, xm_low3, xm_low4, xl_n0, xl_n1, xb_nar, xe_if0, xe_ifn, xm_ci1, xm_ca1, pf_0_1 P, pcl_6 P, c_Packs_ownerOf P (show p < 30 by omega), ea]
            rw [if_pos h3]
          have m147 : ∀ (Ou : Nat → Option xm_E) hp' (e : Prop), Pm o Ou V hp' → xm_out 125 (132, [some (.ref (o + 36)), some (.int (nI p)), some (.int to), some (.int (xb c)), some (.int (xb e)), some (.int (nI (13 * p + ti)))], [], hp') = xm_out 125 (147, [some (.ref (o + 36)), some (.int (nI p)), some (.int to), some (.int (xb c)), some (.int (xb e)), some (.int (nI (13 * p + ti)))], [], hp') := by
            intro Ou hp' e Q
            simp only [s125_132, s125_133, s125_134, s125_137, s125_138, s125_139, Option.bind_some, Option.toList_some, Option.toList_none, List.cons_append, List.nil_append, xm_kl_n, xm_kl_i, xm_kl_a, xm_kl_j, xl_0, xm_low1, xm_low2, xm_low3, xm_low4, xl_n0, xl_n1, xb_nar, xe_if0, xe_ifn, xm_ci1, xm_ca1, mf_36_3 Q, mai_38 Q (show p < 30 by omega), R.r38]
            rw [if_pos (fun z => h3 z.symm)]
          rcases P1 with ⟨hc, P1⟩ | ⟨hc, P1⟩
          · have Q1 : Pm o hp1.1 V hp1 := P1.m (pvh (by decide) (fun _ _ => rfl))
            obtain ⟨x5', mf'⟩ := m_expFront I R (ti := ti) hpp c hto Q1
            refine ⟨nI 1, hp1, _, ecl, ?_, S.w P1 hs1 (Q1.w 41 (by decide) (by decide) (upd (V 41) (13 * p + ti) (nI 1))) rfl I ?_ S.L0 rfl⟩
            · show xm_call 125 [.ref (o + 36), .int (nI p), .int to, .int (xb c)] hp1 = _
              rw [mf', m100 _ _ _ Q1, m132 _ _ _ Q1, m147 _ _ _ Q1]
              simp only [s125_147, s125_148, s125_151, s125_152, s125_155, s125_157, s125_158, s125_159, s125_162, s125_163, s125_166, s125_168, s125_169, s125_170, s125_171, Option.bind_some, Option.toList_some, Option.toList_none, List.cons_append, List.nil_append, xm_kl_n, xm_kl_i, xm_kl_a, xm_kl_j, xl_0, xm_low1, xm_low2, xm_low3, xm_low4, xl_n0, xl_n1, xb_nar, xe_if0, xe_ifn, xm_ci1, xm_ca1, mf_36_6 Q1, mwz_41 Q1 (show 13 * p + ti < 390 by omega), vp_nar1]
              rw [if_pos hc]
            · refine ⟨R.nM, R.nP, R.nT, R.nB, R.nU, R.nS, R.nL, R.r38, R.r39, R.r42, R.r43, R.r44, R.r45, R.r46, R.r47, R.r48, R.r49, R.r50, R.r51, R.r52, R.r53, R.r54, R.r55, R.r56, R.r59, R.r60, R.r61, R.rq, R.e2, R.e3, R.e4, R.e5, R.ex, ?_, R.us, R.lh, R.lz, R.pm, R.z3, R.up, R.ut, R.ub, R.kd, R.fl, R.us0, R.iu⟩
              exact tell_new (f := V 10) (g := V 41) (show p < 30 by omega) hti hbit R.op
          · have Q1 : Pm o hp1.1 V hp1 := P1.m (pvh (by decide) (fun _ _ => rfl))
            obtain ⟨x5', mf'⟩ := m_expFront I R (ti := ti) hpp c hto Q1
            refine ⟨nI 1, hp1, _, ecl, ?_, S.w P1 hs1 (Q1.w 40 (by decide) (by decide) (upd (V 40) (13 * p + ti) (nI 1))) rfl I ?_ S.L0 rfl⟩
            · show xm_call 125 [.ref (o + 36), .int (nI p), .int to, .int (xb c)] hp1 = _
              rw [mf', m100 _ _ _ Q1, m132 _ _ _ Q1, m147 _ _ _ Q1]
              simp only [s125_147, s125_148, s125_151, s125_152, s125_155, s125_157, s125_158, s125_159, s125_162, s125_163, s125_166, s125_168, s125_169, s125_170, s125_171, Option.bind_some, Option.toList_some, Option.toList_none, List.cons_append, List.nil_append, xm_kl_n, xm_kl_i, xm_kl_a, xm_kl_j, xl_0, xm_low1, xm_low2, xm_low3, xm_low4, xl_n0, xl_n1, xb_nar, xe_if0, xe_ifn, xm_ci1, xm_ca1, mf_36_5 Q1, mwz_40 Q1 (show 13 * p + ti < 390 by omega), vp_nar1]
              rw [if_neg hc]
            · refine ⟨R.nM, R.nP, R.nT, R.nB, R.nU, R.nS, R.nL, R.r38, R.r39, R.r42, R.r43, R.r44, R.r45, R.r46, R.r47, R.r48, R.r49, R.r50, R.r51, R.r52, R.r53, R.r54, R.r55, R.r56, R.r59, R.r60, R.r61, R.rq, R.e2, R.e3, R.e4, R.e5, ?_, R.op, R.us, R.lh, R.lz, R.pm, R.z3, R.up, R.ut, R.ub, R.kd, R.fl, R.us0, R.iu⟩
              exact tell_new (f := V 9) (g := V 40) (show p < 30 by omega) hti hbit R.ex
  · refine ⟨-2, hp, hp, ?_, ?_, S.s⟩
    · simp only [k109, s109_0, s109_1, s109_4, s109_5, s109_8, s109_11, s109_12, s109_13, s109_16, s109_17, s109_20, s109_21, s109_24, s109_27, s109_29, Option.bind_some, Option.toList_some, Option.toList_none, List.cons_append, List.nil_append, xm_kl_n, xm_kl_i, xm_kl_a, xm_kl_j, xl_0, xm_low1, xm_low2, xm_low3, xm_low4, xl_n0, xl_n1, xb_nar, xe_if0, xe_ifn, xm_ci1, xm_ca1, pf_0_0 P, pf_0_1 P, pcl_1 P, pcl_6 P, c_Modules_holds P, c_Packs_holds P]
      by_cases h1 : 0 ≤ a ∧ a < V 6 0
      · rw [if_pos h1, if_neg (fun z => hg ⟨h1, Or.inl z⟩), if_neg (fun z => hg ⟨h1, Or.inr z⟩)]
      · rw [if_neg h1]
    · simp only [k125, s125_0, s125_1, s125_2, s125_5, s125_8, s125_9, s125_10, s125_13, s125_14, s125_15, s125_18, s125_21, s125_23, Option.bind_some, Option.toList_some, Option.toList_none, List.cons_append, List.nil_append, xm_kl_n, xm_kl_i, xm_kl_a, xm_kl_j, xl_0, xm_low1, xm_low2, xm_low3, xm_low4, xl_n0, xl_n1, xb_nar, xe_if0, xe_ifn, xm_ci1, xm_ca1, mcl_36 Q, m_isPack Q I R, m_isModule Q I R]
      by_cases h1 : 0 ≤ a ∧ a < V 6 0
      · rw [if_pos h1, if_neg (fun z => hg ⟨h1, Or.inl z⟩), if_neg (fun z => hg ⟨h1, Or.inr z⟩)]
      · rw [if_neg h1]
/-- rule 8 behind the others -/
theorem xpr_eq (m s t : Nat) : xpr V m s t = xpt V s t (xpq V m s t) := by
  unfold xpr xpq
  by_cases h1 : xts V m s
  · rw [if_pos h1, if_pos h1]
    by_cases h2 : V 7 (ftpk V t) = nI m
    · rw [if_pos h2, if_pos h2]
      by_cases h3 : V 15 t &&& nI 1 = 0
      · rw [if_pos h3, if_pos h3]; exact (if_neg (show ¬ nI 3 = nI 0 by decide)).symm
      · rw [if_neg h3, if_neg h3]
    · rw [if_neg h2, if_neg h2]; exact (if_neg (show ¬ nI 2 = nI 0 by decide)).symm
  · rw [if_neg h1, if_neg h1]; exact (if_neg (show ¬ nI 1 = nI 0 by decide)).symm
theorem xmk_le (t : Nat) (s : Int32) : ∃ j, j ≤ 7 ∧ xmk V t s = nI j := by
  unfold xmk
  by_cases h1 : V 14 t = 0
  · rw [if_pos h1]
    by_cases h2 : V 15 t &&& nI 2 = 0
    · rw [if_pos h2]; exact ⟨6, by omega, rfl⟩
    · rw [if_neg h2]
      by_cases h3 : xsub (fpar V) s 40 (some t) = true
      · rw [if_pos h3]; exact ⟨0, by omega, rfl⟩
      · rw [if_neg h3]; exact ⟨7, by omega, rfl⟩
  · rw [if_neg h1]; exact ⟨5, by omega, rfl⟩
theorem xpq_le (m s t : Nat) : ∃ j, j ≤ 7 ∧ xpq V m s t = nI j := by
  unfold xpq
  by_cases h1 : xts V m s
  · rw [if_pos h1]
    by_cases h2 : V 7 (ftpk V t) = nI m
    · rw [if_pos h2]
      by_cases h3 : V 15 t &&& nI 1 = 0
      · rw [if_pos h3]; exact ⟨3, by omega, rfl⟩
      · rw [if_neg h3]
        unfold xp47
        cases xom V (nI 0) (nI 1) t with
        | none => exact xmk_le t (nI s)
        | some b =>
          show ∃ j, j ≤ 7 ∧ (@ite _ (V 21 b = nI 1) (Classical.propDecidable _) (xgv V b (nI s)) (xmk V t (nI s))) = nI j
          by_cases h4 : V 21 b = nI 1
          · rw [if_pos h4]
            unfold xgv
            by_cases h5 : xsub (fpar V) (nI s) 40 (fbgv V b) = true
            · rw [if_pos h5]; exact ⟨0, by omega, rfl⟩
            · rw [if_neg h5]; exact ⟨4, by omega, rfl⟩
          · rw [if_neg h4]; exact xmk_le t (nI s)
    · rw [if_neg h2]; exact ⟨2, by omega, rfl⟩
  · rw [if_neg h1]; exact ⟨1, by omega, rfl⟩
theorem xpq_own {m s t : Nat} (h : xpq V m s t = nI 0) : V 7 (ftpk V t) = nI m := by
  unfold xpq at h
  by_cases h1 : xts V m s
  · rw [if_pos h1] at h
    by_cases h2 : V 7 (ftpk V t) = nI m
    · exact h2
    · rw [if_neg h2] at h; exact absurd h (by decide)
  · rw [if_neg h1] at h; exact absurd h (by decide)
theorem m_provFront (I : CInv V cap) (R : Rel V J) (hS520 : zS V ≤ 520) {m s t : Nat} (hm : m < zM V) (hs : s < zT V) (ht : t < zT V) (Q : Pm o Ou (pv_row V 63 F) hp) : ∃ F' hp' x5, xm_call 164 [.ref (o + 36), .int (nI m), .int (nI s), .int (nI t)] hp = xm_out 164 (100, [some (.ref (o + 36)), some (.int (nI m)), some (.int (nI s)), some (.int (nI t)), some (.int (xpr V m s t)), x5], [], hp') ∧ Pm o Ou (pv_row V 63 F') hp' ∧ hp'.2 = hp.2 := by
  have hM := I.M
  have hT := I.T
  have hSv := I.S
  have ha : 0 ≤ nI m ∧ nI m < V 1 0 := ⟨Int32.not_lt.mp (nI_pos (by omega)), by rw [hM.1]; exact nI_lt hm (by omega)⟩
  have hb : 0 ≤ nI s ∧ nI s < V 11 0 := ⟨Int32.not_lt.mp (nI_pos (by omega)), by rw [hT.1]; exact nI_lt hs (by omega)⟩
  have hc : 0 ≤ nI t ∧ nI t < V 11 0 := ⟨Int32.not_lt.mp (nI_pos (by omega)), by rw [hT.1]; exact nI_lt ht (by omega)⟩
  obtain ⟨F', hp', er, P', hsz⟩ := m_provideRule Q I R hm hs ht
  have front : xm_call 164 [.ref (o + 36), .int (nI m), .int (nI s), .int (nI t)] hp = xm_out 164 (39, [some (.ref (o + 36)), some (.int (nI m)), some (.int (nI s)), some (.int (nI t)), some (.int (xpq V m s t)), some (.int (nI 0))], [], hp') := by
    simp only [k164, s164_0, s164_1, s164_2, s164_5, s164_8, s164_9, s164_10, s164_13, s164_16, s164_17, s164_18, s164_21, s164_24, s164_26, s164_27, s164_28, s164_29, s164_30, s164_31, s164_34, s164_36, s164_37, Option.bind_some, Option.toList_some, Option.toList_none, List.cons_append, List.nil_append, xm_kl_n, xm_kl_i, xm_kl_a, xm_kl_j, xl_0, xm_low1, xm_low2, xm_low3, xm_low4, xl_n0, xl_n1, xb_nar, xe_if0, xe_ifn, xm_ci1, xm_ca1, mcl_36 Q, n_isModule Q I R, n_isType Q I R, er]
    rw [if_pos ha, if_pos hb, if_pos hc]
  obtain ⟨j, hj, hje⟩ := xpq_le (V := V) m s t
  by_cases h0 : xpq V m s t = nI 0
  · have hown := xpq_own h0
    have stop : ∀ k (r : Int32), k ≤ zS V → (k = zS V ∨ ¬ r = 0) → xm_out 164 (39, [some (.ref (o + 36)), some (.int (nI m)), some (.int (nI s)), some (.int (nI t)), some (.int r), some (.int (nI k))], [], hp') = xm_out 164 (100, [some (.ref (o + 36)), some (.int (nI m)), some (.int (nI s)), some (.int (nI t)), some (.int r), some (.int (nI k))], [], hp') := by
      intro k r hk h
      simp only [s164_39, s164_41, s164_42, s164_45, s164_48, s164_50, Option.bind_some, Option.toList_some, Option.toList_none, List.cons_append, List.nil_append, xm_kl_n, xm_kl_i, xm_kl_a, xm_kl_j, xl_0, xm_low1, xm_low2, xm_low3, xm_low4, xl_n0, xl_n1, xb_nar, xe_if0, xe_ifn, xm_ci1, xm_ca1, mf_36_26 P', pv63_36, R.nS, hSv.1]
      by_cases hkz : k = zS V
      · rw [if_pos (nI_le (by omega) (by omega))]
      · rw [if_neg (nI_ge (by omega) (by omega)), if_pos (h.elim (fun z => absurd z hkz) id)]
    have loop : ∀ d k, k + d = zS V → ∃ x5, xm_out 164 (39, [some (.ref (o + 36)), some (.int (nI m)), some (.int (nI s)), some (.int (nI t)), some (.int (nI 0)), some (.int (nI k))], [], hp') = xm_out 164 (100, [some (.ref (o + 36)), some (.int (nI m)), some (.int (nI s)), some (.int (nI t)), some (.int (@ite _ (xan (fun p => V 31 p = nI s ∧ V 32 p = nI t) k d = true) (Classical.propDecidable _) (nI 8) (nI 0))), x5], [], hp') := by
      intro d
      induction d with
      | zero =>
        intro k hk
        refine ⟨some (.int (nI k)), ?_⟩
        rw [stop k (nI 0) (by omega) (Or.inl (by omega)), if_neg (show ¬ xan (fun p => V 31 p = nI s ∧ V 32 p = nI t) k 0 = true by simp [xan])]
      | succ d ih =>
        intro k hk
        have hty := I.sty k (by omega)
        have hx : xm_out 164 (39, [some (.ref (o + 36)), some (.int (nI m)), some (.int (nI s)), some (.int (nI t)), some (.int (nI 0)), some (.int (nI k))], [], hp') = @ite _ (V 31 k = nI s ∧ V 32 k = nI t) (Classical.propDecidable _) (xm_out 164 (39, [some (.ref (o + 36)), some (.int (nI m)), some (.int (nI s)), some (.int (nI t)), some (.int (nI 8)), some (.int (nI (k + 1)))], [], hp')) (xm_out 164 (39, [some (.ref (o + 36)), some (.int (nI m)), some (.int (nI s)), some (.int (nI t)), some (.int (nI 0)), some (.int (nI (k + 1)))], [], hp')) := by
          conv => lhs; simp only [s164_39, s164_41, s164_42, s164_45, s164_48, s164_50, s164_53, s164_54, s164_57, s164_59, s164_60, s164_61, s164_64, s164_65, s164_68, s164_70, s164_71, s164_72, s164_75, s164_76, s164_79, s164_81, s164_82, s164_83, s164_86, s164_88, s164_91, s164_92, s164_94, Option.bind_some, Option.toList_some, Option.toList_none, List.cons_append, List.nil_append, xm_kl_n, xm_kl_i, xm_kl_a, xm_kl_j, xl_0, xm_low1, xm_low2, xm_low3, xm_low4, xl_n0, xl_n1, xb_nar, xe_if0, xe_ifn, xm_ci1, xm_ca1, mf_36_26 P', pv63_36, R.nS, hSv.1, mf_36_27 P', mf_36_28 P', mf_36_29 P', mai_58 P' (show k < 520 by omega), mai_59 P' (show k < 520 by omega), mai_60 P' (show k < 520 by omega), pv63_58, pv63_59, pv63_60, R.pm k (by omega), R.r59, R.r60, nI_add]
          rw [if_neg (nI_ge (by omega) (by omega)), if_neg (fun z => z rfl)]
          conv => lhs; simp only [s164_97]
          by_cases h1 : V 31 k = nI s ∧ V 32 k = nI t
          · have hft : fsty V k = t := by
              have := hty.1.symm.trans h1.2
              rwa [nI_eq (by omega) (by omega)] at this
            rw [if_neg (fun z => z (by rw [hft]; exact hown)), if_neg (fun z => z h1.1), if_neg (fun z => z h1.2), if_pos h1]
          · rw [if_neg h1]
            by_cases g1 : V 7 (ftpk V (fsty V k)) = nI m
            · rw [if_neg (fun z => z g1)]
              by_cases g2 : V 31 k = nI s
              · rw [if_neg (fun z => z g2), if_pos (fun z => h1 ⟨g2, z⟩)]
              · rw [if_pos g2]
            · rw [if_pos g1]
        rw [hx]
        by_cases h1 : V 31 k = nI s ∧ V 32 k = nI t
        · refine ⟨some (.int (nI (k + 1))), ?_⟩
          rw [if_pos h1, stop (k + 1) (nI 8) (by omega) (Or.inr (by decide)), if_pos (xan_t (c := fun p => V 31 p = nI s ∧ V 32 p = nI t) h1)]
        · rw [if_neg h1, xan_f (c := fun p => V 31 p = nI s ∧ V 32 p = nI t) h1]
          exact ih (k + 1) (by omega)
    obtain ⟨x5, e5⟩ := loop (zS V) 0 (by omega)
    refine ⟨F', hp', x5, ?_, P', hsz⟩
    rw [front, xpr_eq, h0, e5]
    rw [show xpt V s t (nI 0) = @ite _ (xan (fun p => V 31 p = nI s ∧ V 32 p = nI t) 0 (zS V) = true) (Classical.propDecidable _) (nI 8) (nI 0) from if_pos rfl]
  · refine ⟨F', hp', some (.int (nI 0)), ?_, P', hsz⟩
    rw [front, xpr_eq, show xpt V s t (xpq V m s t) = xpq V m s t from if_neg h0]
    simp only [s164_39, s164_41, s164_42, s164_45, s164_48, s164_50, Option.bind_some, Option.toList_some, Option.toList_none, List.cons_append, List.nil_append, xm_kl_n, xm_kl_i, xm_kl_a, xm_kl_j, xl_0, xm_low1, xm_low2, xm_low3, xm_low4, xl_n0, xl_n1, xb_nar, xe_if0, xe_ifn, xm_ci1, xm_ca1, mf_36_26 P', pv63_36, R.nS, hSv.1]
    by_cases hz : zS V = 0
    · rw [if_pos (nI_le (by omega) (by omega))]
    · rw [if_neg (nI_ge (by omega) (by omega)), if_pos (show ¬ xpq V m s t = 0 from h0)]
theorem xpr_le (m s t : Nat) : ∃ j, j ≤ 8 ∧ xpr V m s t = nI j := by
  rw [xpr_eq]
  obtain ⟨j, hj, e⟩ := xpq_le (V := V) m s t
  unfold xpt
  by_cases h : xpq V m s t = nI 0
  · rw [if_pos h]
    by_cases h2 : xan (fun p => V 31 p = nI s ∧ V 32 p = nI t) 0 (zS V) = true
    · rw [if_pos h2]; exact ⟨8, by omega, rfl⟩
    · rw [if_neg h2]; exact ⟨0, by omega, rfl⟩
  · rw [if_neg h]; exact ⟨j, by omega, e⟩
theorem sim_provides (S : Stb o n V J p1 p2 cap hp) (hn : n < 512) (a b c : Int32) : Sim o n 175 164 [.int a, .int b, .int c] hp := by
  have P := S.P
  have I := S.I
  have R := S.R
  have Q := S.Q
  have hM := I.M
  have hT := I.T
  have hSv := I.S
  have hz := S.z
  have hcap := S.c
  by_cases hg : (0 ≤ a ∧ a < V 1 0) ∧ (0 ≤ b ∧ b < V 11 0) ∧ (0 ≤ c ∧ c < V 11 0)
  · obtain ⟨ha, hb, hc⟩ := hg
    obtain ⟨m, hm, rfl⟩ := rng ha hM.1 (by omega)
    obtain ⟨s, hs, rfl⟩ := rng hb hT.1 (by omega)
    obtain ⟨t, ht, rfl⟩ := rng hc hT.1 (by omega)
    have cfront : xm_call 175 [.ref o, .int (nI m), .int (nI s), .int (nI t)] hp = xm_out 175 (45, [some (.ref o), some (.int (nI m)), some (.int (nI s)), some (.int (nI t)), some (.int (xpr V m s t))], [], hp) := by
      simp only [k175, s175_0, s175_1, s175_4, s175_5, s175_8, s175_11, s175_12, s175_15, s175_16, s175_19, s175_22, s175_23, s175_26, s175_27, s175_30, s175_33, s175_35, s175_36, s175_37, s175_38, s175_39, s175_40, s175_43, Option.bind_some, Option.toList_some, Option.toList_none, List.cons_append, List.nil_append, xm_kl_n, xm_kl_i, xm_kl_a, xm_kl_j, xl_0, xm_low1, xm_low2, xm_low3, xm_low4, xl_n0, xl_n1, xb_nar, xe_if0, xe_ifn, xm_ci1, xm_ca1, pf_0_0 P, pf_0_2 P, pcl_0 P, pcl_1 P, pcl_11 P, c_Modules_holds P, c_Types_holds P, c_provideRule P I hm hs ht]
      rw [if_pos ha, if_pos hb, if_pos hc]
    obtain ⟨j, hj, hje⟩ := xpr_le (V := V) m s t
    by_cases h0 : j = 0
    · have hx0 : xpr V m s t = nI 0 := by rw [hje, h0]
      have hown : V 7 (ftpk V t) = nI m := by
        refine xpq_own (s := s) ?_
        rw [xpr_eq] at hx0
        unfold xpt at hx0
        by_cases h : xpq V m s t = nI 0
        · exact h
        · rw [if_neg h] at hx0; exact hx0
      obtain ⟨hp1, q1, q2, cap', ea, P1, hlt, hsz⟩ := c_provide P (by omega) (by omega) hSv.1 hSv.2.1 R.z3 (nI s) (nI t)
      have Q1 : Pm o hp1.1 V hp1 := P1.m (pvh (by decide) (pvh (by decide) (pvh (by decide) (fun _ _ => rfl))))
      obtain ⟨F', hp', x5, er, P', hs'⟩ := m_provFront I R (by omega) hm hs ht Q1.s63
      have Q2 := P'.w 58 (by decide) (by decide) (upd (V 58) (zS V) (nI m))
      have Q3 := Q2.w 59 (by decide) (by decide) (upd (V 59) (zS V) (nI s))
      have Q4 := Q3.w 60 (by decide) (by decide) (upd (V 60) (zS V) (nI t))
      have Q5 := Q4.w 36 (by decide) (by decide) (upd (V 36) 26 (nI (zS V + 1)))
      have hcap' : cap' ≤ 4096 ∧ 16 ≤ cap' ∧ cap' ≤ 16 + 2 * (zS V + 1) := by
        rcases hsz with ⟨e1, _⟩ | ⟨e1, e2, _⟩ <;> omega
      have hsize : hp1.2.1 ≤ o + 64 + 2 * (n + 1) ∧ hp1.2.2 ≤ 10000 + 4160 * (n + 1) := by
        have hh := S.h
        rcases hsz with ⟨_, e⟩ | ⟨e1, e2, e⟩
        · rw [e]; omega
        · rw [e]; exact ⟨by show hp.2.1 + 2 ≤ _; omega, by show hp.2.2 + 4 * cap ≤ _; omega⟩
      generalize hW : pv_row (pv_row (pv_row (pv_row (pv_row V 63 F') 58 (upd (V 58) (zS V) (nI m))) 59 (upd (V 59) (zS V) (nI s))) 60 (upd (V 60) (zS V) (nI t))) 36 (upd (V 36) 26 (nI (zS V + 1))) = W at Q5
      generalize hV1 : pv_row (pv_row (pv_row V 31 (upd (V 31) (zS V) (nI s))) 32 (upd (V 32) (zS V) (nI t))) 29 (upd (V 29) 0 (nI (zS V + 1))) = V1 at P1
      have hzz : nt (nI (zS V + 1)) = zS V + 1 := nt_nI (by omega)
      refine ⟨nI 1, hp1, _, ?_, ?_, mix V1 W, J, q1, q2, cap', Pm.pic P1 Q5 hs' (mix_lo V1 W) (mix_hi V1 W), ?_, ?_, ?_, ?_, ?_, ?_⟩
      · show xm_call 175 [.ref o, .int (nI m), .int (nI s), .int (nI t)] hp = _
        rw [cfront, hx0]
        simp only [s175_45, s175_47, s175_50, s175_52, s175_55, s175_56, s175_57, s175_60, s175_61, s175_62, s175_65, s175_66, Option.bind_some, Option.toList_some, Option.toList_none, List.cons_append, List.nil_append, xm_kl_n, xm_kl_i, xm_kl_a, xm_kl_j, xl_0, xm_low1, xm_low2, xm_low3, xm_low4, xl_n0, xl_n1, xb_nar, xe_if0, xe_ifn, xm_ci1, xm_ca1, pf_0_5 P, pcl_29 P, ea]
        rw [if_pos (show nI 0 = 0 from rfl)]
      · show xm_call 164 [.ref (o + 36), .int (nI m), .int (nI s), .int (nI t)] hp1 = _
        rw [er, hx0]
        have n1 : (pv_row V 63 F') 36 26 = nI (zS V) := R.nS.trans hSv.1
        have n2 : (pv_row (pv_row V 63 F') 58 (upd (V 58) (zS V) (nI m))) 36 26 = nI (zS V) := R.nS.trans hSv.1
        have n3 : (pv_row (pv_row (pv_row V 63 F') 58 (upd (V 58) (zS V) (nI m))) 59 (upd (V 59) (zS V) (nI s))) 36 26 = nI (zS V) := R.nS.trans hSv.1
        have n4 : (pv_row (pv_row (pv_row (pv_row V 63 F') 58 (upd (V 58) (zS V) (nI m))) 59 (upd (V 59) (zS V) (nI s))) 60 (upd (V 60) (zS V) (nI t))) 36 26 = nI (zS V) := R.nS.trans hSv.1
        have r1 : (pv_row V 63 F') 58 = V 58 := rfl
        have r2 : (pv_row (pv_row V 63 F') 58 (upd (V 58) (zS V) (nI m))) 59 = V 59 := rfl
        have r3 : (pv_row (pv_row (pv_row V 63 F') 58 (upd (V 58) (zS V) (nI m))) 59 (upd (V 59) (zS V) (nI s))) 60 = V 60 := rfl
        have r4 : (pv_row (pv_row (pv_row (pv_row V 63 F') 58 (upd (V 58) (zS V) (nI m))) 59 (upd (V 59) (zS V) (nI s))) 60 (upd (V 60) (zS V) (nI t))) 36 = V 36 := rfl
        simp only [s164_100, s164_102, s164_105, s164_107, s164_110, s164_111, s164_112, s164_115, s164_116, s164_119, s164_120, s164_121, s164_122, s164_125, s164_126, s164_129, s164_130, s164_131, s164_132, s164_135, s164_136, s164_139, s164_140, s164_141, s164_142, s164_143, s164_146, s164_147, s164_148, s164_151, s164_152, Option.bind_some, Option.toList_some, Option.toList_none, List.cons_append, List.nil_append, xm_kl_n, xm_kl_i, xm_kl_a, xm_kl_j, xl_0, xm_low1, xm_low2, xm_low3, xm_low4, xl_n0, xl_n1, xb_nar, xe_if0, xe_ifn, xm_ci1, xm_ca1, nI_add, mf_36_27 P', mf_36_26 P', n1, mwi_58 P' (show zS V < 520 by omega), mf_36_28 Q2, mf_36_26 Q2, n2, mwi_59 Q2 (show zS V < 520 by omega), mf_36_29 Q3, mf_36_26 Q3, n3, mwi_60 Q3 (show zS V < 520 by omega), mf_36_26 Q4, n4, mwf_36_26 Q4, r1, r2, r3, r4]
        rw [if_pos (show nI 0 ≤ 0 by decide)]
      · subst hW hV1
        refine ⟨I.M, I.P, I.T, I.B, I.U, ?_, I.L, I.own, I.pnm, I.tpk, I.tnm, I.par, I.bty, I.bop, I.bgv, I.upk, I.usz, I.iwh, ?_, ?_, I.lpr⟩
        · show nI (zS V + 1) = nI (nt (nI (zS V + 1))) ∧ nt (nI (zS V + 1)) ≤ cap' ∧ cap' ≤ 4096
          rw [hzz]; exact ⟨rfl, by omega, hcap'.1⟩
        · show ∀ p, p < nt (nI (zS V + 1)) → _
          rw [hzz]
          exact row_new (C := fun k => k < zT V) I.ssv (by omega) hs
        · show ∀ p, p < nt (nI (zS V + 1)) → _
          rw [hzz]
          exact row_new (C := fun k => k < zT V) I.sty (by omega) ht
      · subst hW hV1
        refine ⟨R.nM, R.nP, R.nT, R.nB, R.nU, ?_, R.nL, R.r38, R.r39, R.r42, R.r43, R.r44, R.r45, R.r46, R.r47, R.r48, R.r49, R.r50, R.r51, R.r52, R.r53, R.r54, R.r55, R.r56, ?_, ?_, R.r61, R.rq, R.e2, R.e3, R.e4, R.e5, R.ex, R.op, R.us, R.lh, R.lz, ?_, ?_, R.up, R.ut, R.ub, R.kd, R.fl, R.us0, R.iu⟩
        · rfl
        · show upd (V 59) (zS V) (nI s) = upd (V 31) (zS V) (nI s)
          rw [R.r59]
        · show upd (V 60) (zS V) (nI t) = upd (V 32) (zS V) (nI t)
          rw [R.r60]
        · show ∀ k, k < nt (nI (zS V + 1)) → upd (V 58) (zS V) (nI m) k = V 7 (ftpk V (nt (upd (V 32) (zS V) (nI t) k)))
          rw [hzz]
          intro k hk
          by_cases hkn : k = zS V
          · rw [hkn, pk_us, pk_us, nt_nI (by omega)]; exact hown.symm
          · rw [pk_un hkn, pk_un hkn]; exact R.pm k (by omega)
        · show ∀ k, nt (nI (zS V + 1)) ≤ k → upd (V 31) (zS V) (nI s) k = 0 ∧ upd (V 32) (zS V) (nI t) k = 0
          rw [hzz]
          intro k hk
          rw [pk_un (by omega), pk_un (by omega)]
          exact R.z3 k (by omega)
      · subst hW hV1
        exact S.L0
      · subst hW hV1
        show nt (nI (zS V + 1)) ≤ n + 1
        rw [hzz]; omega
      · subst hW hV1
        show 16 ≤ cap' ∧ cap' ≤ 16 + 2 * nt (nI (zS V + 1))
        rw [hzz]; exact hcap'.2
      · rw [show (pw o (fun _ => 0) 0 0 (pw o (fun _ => 0) 0 0 (pw o (fun _ => 0) 0 0 (pw o (fun _ => 0) 0 0 hp' 58 (upd (V 58) (zS V) (nI m))) 59 (upd (V 59) (zS V) (nI s))) 60 (upd (V 60) (zS V) (nI t))) 36 (upd (V 36) 26 (nI (zS V + 1)))).2 = hp1.2 from hs']
        exact hsize
    · have hne : ¬ xpr V m s t = 0 := by rw [hje]; exact nI_ne0 (by omega) (by omega)
      obtain ⟨F', hp', x5, er, P', hs'⟩ := m_provFront I R (by omega) hm hs ht Q
      refine ⟨(-10) - xpr V m s t, hp, hp', ?_, ?_, S.q P' hs'⟩
      · show xm_call 175 [.ref o, .int (nI m), .int (nI s), .int (nI t)] hp = _
        rw [cfront]
        simp only [s175_45, s175_47, s175_50, s175_52, s175_55, Option.bind_some, Option.toList_some, Option.toList_none, List.cons_append, List.nil_append, xm_kl_n, xm_kl_i, xm_kl_a, xm_kl_j, xl_0, xm_low1, xm_low2, xm_low3, xm_low4, xl_n0, xl_n1, xb_nar, xe_if0, xe_ifn, xm_ci1, xm_ca1, c_broken]
        rw [if_neg hne]
      · show xm_call 164 [.ref (o + 36), .int (nI m), .int (nI s), .int (nI t)] hp = _
        rw [er]
        simp only [s164_100, s164_102, s164_105, s164_107, s164_110, Option.bind_some, Option.toList_some, Option.toList_none, List.cons_append, List.nil_append, xm_kl_n, xm_kl_i, xm_kl_a, xm_kl_j, xl_0, xm_low1, xm_low2, xm_low3, xm_low4, xl_n0, xl_n1, xb_nar, xe_if0, xe_ifn, xm_ci1, xm_ca1, m_broken]
        rw [if_neg (fun z => by rw [hje, show (0 : Int32) = nI 0 from rfl, nI_leI (by omega) (by omega)] at z; omega)]
  · refine ⟨-2, hp, hp, ?_, ?_, S.s⟩
    · simp only [k175, s175_0, s175_1, s175_4, s175_5, s175_8, s175_11, s175_12, s175_15, s175_16, s175_19, s175_22, s175_23, s175_26, s175_27, s175_30, s175_33, s175_35, Option.bind_some, Option.toList_some, Option.toList_none, List.cons_append, List.nil_append, xm_kl_n, xm_kl_i, xm_kl_a, xm_kl_j, xl_0, xm_low1, xm_low2, xm_low3, xm_low4, xl_n0, xl_n1, xb_nar, xe_if0, xe_ifn, xm_ci1, xm_ca1, pf_0_0 P, pf_0_2 P, pcl_1 P, pcl_11 P, c_Modules_holds P, c_Types_holds P]
      by_cases h1 : 0 ≤ a ∧ a < V 1 0
      · rw [if_pos h1]
        by_cases h2 : 0 ≤ b ∧ b < V 11 0
        · rw [if_pos h2, if_neg (fun z => hg ⟨h1, h2, z⟩)]
        · rw [if_neg h2]
      · rw [if_neg h1]
    · simp only [k164, s164_0, s164_1, s164_2, s164_5, s164_8, s164_9, s164_10, s164_13, s164_16, s164_17, s164_18, s164_21, s164_24, s164_26, Option.bind_some, Option.toList_some, Option.toList_none, List.cons_append, List.nil_append, xm_kl_n, xm_kl_i, xm_kl_a, xm_kl_j, xl_0, xm_low1, xm_low2, xm_low3, xm_low4, xl_n0, xl_n1, xb_nar, xe_if0, xe_ifn, xm_ci1, xm_ca1, mcl_36 Q, n_isModule Q I R, n_isType Q I R]
      by_cases h1 : 0 ≤ a ∧ a < V 1 0
      · rw [if_pos h1]
        by_cases h2 : 0 ≤ b ∧ b < V 11 0
        · rw [if_pos h2, if_neg (fun z => hg ⟨h1, h2, z⟩)]
        · rw [if_neg h2]
      · rw [if_neg h1]
end EXPORTS
