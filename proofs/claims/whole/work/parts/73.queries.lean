/-! questions, answered alike -/
section QUERIES
variable {o n : Nat} {V : pc_V} {J : Nat → Int64} {p1 p2 cap : Nat} {hp hp' : xm_H} {F : Nat → Int32} {Ou : Nat → Option xm_E}
theorem sim_count (S : Stb o n V J p1 p2 cap hp) (a : Int32) : Sim o n 36 57 [.int a] hp := by
  have P := S.P
  have R := S.R
  have Q := S.Q
  by_cases ha : a.toInt < 0 ∨ (5 : Int) < a.toInt
  · refine ⟨-2, hp, hp, ?_, ?_, S.s⟩
    · have e : xm_sw 1 a 87 0 5 #[39, 47, 55, 63, 71, 79] = some 88 := by
        unfold xm_sw
        rw [if_pos ha]
        rfl
      simp only [k36, s36_0, s36_1, s36_40, s36_41, s36_44, s36_47, s36_48, s36_49, s36_52, s36_55, s36_56, s36_57, s36_60, s36_63, s36_64, s36_65, s36_68, s36_71, s36_72, s36_73, s36_76, s36_79, s36_80, s36_81, s36_84, s36_87, s36_88, s36_90, Option.bind_some, Option.toList_some, Option.toList_none, List.cons_append, List.nil_append, xm_kl_n, xm_kl_i, xm_kl_a, xm_kl_j, xl_0, xm_low1, xm_low2, xm_low3, xm_low4, xl_n0, xl_n1, xb_nar, xe_if0, xe_ifn, xm_ci1, xm_ca1, e]
    · have e : xm_sw 1 a 69 0 5 #[39, 44, 49, 54, 59, 64] = some 70 := by
        unfold xm_sw
        rw [if_pos ha]
        rfl
      simp only [k57, s57_0, s57_1, s57_40, s57_41, s57_44, s57_45, s57_46, s57_49, s57_50, s57_51, s57_54, s57_55, s57_56, s57_59, s57_60, s57_61, s57_64, s57_65, s57_66, s57_69, s57_70, s57_72, Option.bind_some, Option.toList_some, Option.toList_none, List.cons_append, List.nil_append, xm_kl_n, xm_kl_i, xm_kl_a, xm_kl_j, xl_0, xm_low1, xm_low2, xm_low3, xm_low4, xl_n0, xl_n1, xb_nar, xe_if0, xe_ifn, xm_ci1, xm_ca1, e]
  · obtain ⟨j, h1, h2, rfl⟩ := sw_of (h := 5) ha
    have hj : j = 0 ∨ j = 1 ∨ j = 2 ∨ j = 3 ∨ j = 4 ∨ j = 5 := by omega
    rcases hj with rfl | rfl | rfl | rfl | rfl | rfl
    · refine ⟨V 1 0, hp, hp, ?_, ?_, S.s⟩
      · simp only [k36, s36_0, s36_1, s36_40, s36_41, s36_44, s36_47, s36_48, s36_49, s36_52, s36_55, s36_56, s36_57, s36_60, s36_63, s36_64, s36_65, s36_68, s36_71, s36_72, s36_73, s36_76, s36_79, s36_80, s36_81, s36_84, s36_87, s36_88, s36_90, Option.bind_some, Option.toList_some, Option.toList_none, List.cons_append, List.nil_append, xm_kl_n, xm_kl_i, xm_kl_a, xm_kl_j, xl_0, xm_low1, xm_low2, xm_low3, xm_low4, xl_n0, xl_n1, xb_nar, xe_if0, xe_ifn, xm_ci1, xm_ca1, show xm_sw 1 (nI 0) 87 0 5 #[39, 47, 55, 63, 71, 79] = some 40 from id rfl, pf_0_0 P, pf_1_0 P]
      · simp only [k57, s57_0, s57_1, s57_40, s57_41, s57_44, s57_45, s57_46, s57_49, s57_50, s57_51, s57_54, s57_55, s57_56, s57_59, s57_60, s57_61, s57_64, s57_65, s57_66, s57_69, s57_70, s57_72, Option.bind_some, Option.toList_some, Option.toList_none, List.cons_append, List.nil_append, xm_kl_n, xm_kl_i, xm_kl_a, xm_kl_j, xl_0, xm_low1, xm_low2, xm_low3, xm_low4, xl_n0, xl_n1, xb_nar, xe_if0, xe_ifn, xm_ci1, xm_ca1, show xm_sw 1 (nI 0) 69 0 5 #[39, 44, 49, 54, 59, 64] = some 40 from id rfl, mf_36_0 Q, pv63_36, R.nM]
    · refine ⟨V 6 0, hp, hp, ?_, ?_, S.s⟩
      · simp only [k36, s36_0, s36_1, s36_40, s36_41, s36_44, s36_47, s36_48, s36_49, s36_52, s36_55, s36_56, s36_57, s36_60, s36_63, s36_64, s36_65, s36_68, s36_71, s36_72, s36_73, s36_76, s36_79, s36_80, s36_81, s36_84, s36_87, s36_88, s36_90, Option.bind_some, Option.toList_some, Option.toList_none, List.cons_append, List.nil_append, xm_kl_n, xm_kl_i, xm_kl_a, xm_kl_j, xl_0, xm_low1, xm_low2, xm_low3, xm_low4, xl_n0, xl_n1, xb_nar, xe_if0, xe_ifn, xm_ci1, xm_ca1, show xm_sw 1 (nI 1) 87 0 5 #[39, 47, 55, 63, 71, 79] = some 48 from id rfl, pf_0_1 P, pf_6_0 P]
      · simp only [k57, s57_0, s57_1, s57_40, s57_41, s57_44, s57_45, s57_46, s57_49, s57_50, s57_51, s57_54, s57_55, s57_56, s57_59, s57_60, s57_61, s57_64, s57_65, s57_66, s57_69, s57_70, s57_72, Option.bind_some, Option.toList_some, Option.toList_none, List.cons_append, List.nil_append, xm_kl_n, xm_kl_i, xm_kl_a, xm_kl_j, xl_0, xm_low1, xm_low2, xm_low3, xm_low4, xl_n0, xl_n1, xb_nar, xe_if0, xe_ifn, xm_ci1, xm_ca1, show xm_sw 1 (nI 1) 69 0 5 #[39, 44, 49, 54, 59, 64] = some 45 from id rfl, mf_36_2 Q, pv63_36, R.nP]
    · refine ⟨V 11 0, hp, hp, ?_, ?_, S.s⟩
      · simp only [k36, s36_0, s36_1, s36_40, s36_41, s36_44, s36_47, s36_48, s36_49, s36_52, s36_55, s36_56, s36_57, s36_60, s36_63, s36_64, s36_65, s36_68, s36_71, s36_72, s36_73, s36_76, s36_79, s36_80, s36_81, s36_84, s36_87, s36_88, s36_90, Option.bind_some, Option.toList_some, Option.toList_none, List.cons_append, List.nil_append, xm_kl_n, xm_kl_i, xm_kl_a, xm_kl_j, xl_0, xm_low1, xm_low2, xm_low3, xm_low4, xl_n0, xl_n1, xb_nar, xe_if0, xe_ifn, xm_ci1, xm_ca1, show xm_sw 1 (nI 2) 87 0 5 #[39, 47, 55, 63, 71, 79] = some 56 from id rfl, pf_0_2 P, pf_11_0 P]
      · simp only [k57, s57_0, s57_1, s57_40, s57_41, s57_44, s57_45, s57_46, s57_49, s57_50, s57_51, s57_54, s57_55, s57_56, s57_59, s57_60, s57_61, s57_64, s57_65, s57_66, s57_69, s57_70, s57_72, Option.bind_some, Option.toList_some, Option.toList_none, List.cons_append, List.nil_append, xm_kl_n, xm_kl_i, xm_kl_a, xm_kl_j, xl_0, xm_low1, xm_low2, xm_low3, xm_low4, xl_n0, xl_n1, xb_nar, xe_if0, xe_ifn, xm_ci1, xm_ca1, show xm_sw 1 (nI 2) 69 0 5 #[39, 44, 49, 54, 59, 64] = some 50 from id rfl, mf_36_7 Q, pv63_36, R.nT]
    · refine ⟨V 17 0, hp, hp, ?_, ?_, S.s⟩
      · simp only [k36, s36_0, s36_1, s36_40, s36_41, s36_44, s36_47, s36_48, s36_49, s36_52, s36_55, s36_56, s36_57, s36_60, s36_63, s36_64, s36_65, s36_68, s36_71, s36_72, s36_73, s36_76, s36_79, s36_80, s36_81, s36_84, s36_87, s36_88, s36_90, Option.bind_some, Option.toList_some, Option.toList_none, List.cons_append, List.nil_append, xm_kl_n, xm_kl_i, xm_kl_a, xm_kl_j, xl_0, xm_low1, xm_low2, xm_low3, xm_low4, xl_n0, xl_n1, xb_nar, xe_if0, xe_ifn, xm_ci1, xm_ca1, show xm_sw 1 (nI 3) 87 0 5 #[39, 47, 55, 63, 71, 79] = some 64 from id rfl, pf_0_3 P, pf_17_0 P]
      · simp only [k57, s57_0, s57_1, s57_40, s57_41, s57_44, s57_45, s57_46, s57_49, s57_50, s57_51, s57_54, s57_55, s57_56, s57_59, s57_60, s57_61, s57_64, s57_65, s57_66, s57_69, s57_70, s57_72, Option.bind_some, Option.toList_some, Option.toList_none, List.cons_append, List.nil_append, xm_kl_n, xm_kl_i, xm_kl_a, xm_kl_j, xl_0, xm_low1, xm_low2, xm_low3, xm_low4, xl_n0, xl_n1, xb_nar, xe_if0, xe_ifn, xm_ci1, xm_ca1, show xm_sw 1 (nI 3) 69 0 5 #[39, 44, 49, 54, 59, 64] = some 55 from id rfl, mf_36_13 Q, pv63_36, R.nB]
    · refine ⟨V 23 0, hp, hp, ?_, ?_, S.s⟩
      · simp only [k36, s36_0, s36_1, s36_40, s36_41, s36_44, s36_47, s36_48, s36_49, s36_52, s36_55, s36_56, s36_57, s36_60, s36_63, s36_64, s36_65, s36_68, s36_71, s36_72, s36_73, s36_76, s36_79, s36_80, s36_81, s36_84, s36_87, s36_88, s36_90, Option.bind_some, Option.toList_some, Option.toList_none, List.cons_append, List.nil_append, xm_kl_n, xm_kl_i, xm_kl_a, xm_kl_j, xl_0, xm_low1, xm_low2, xm_low3, xm_low4, xl_n0, xl_n1, xb_nar, xe_if0, xe_ifn, xm_ci1, xm_ca1, show xm_sw 1 (nI 4) 87 0 5 #[39, 47, 55, 63, 71, 79] = some 72 from id rfl, pf_0_4 P, pf_23_0 P]
      · simp only [k57, s57_0, s57_1, s57_40, s57_41, s57_44, s57_45, s57_46, s57_49, s57_50, s57_51, s57_54, s57_55, s57_56, s57_59, s57_60, s57_61, s57_64, s57_65, s57_66, s57_69, s57_70, s57_72, Option.bind_some, Option.toList_some, Option.toList_none, List.cons_append, List.nil_append, xm_kl_n, xm_kl_i, xm_kl_a, xm_kl_j, xl_0, xm_low1, xm_low2, xm_low3, xm_low4, xl_n0, xl_n1, xb_nar, xe_if0, xe_ifn, xm_ci1, xm_ca1, show xm_sw 1 (nI 4) 69 0 5 #[39, 44, 49, 54, 59, 64] = some 60 from id rfl, mf_36_19 Q, pv63_36, R.nU]
    · refine ⟨V 33 0, hp, hp, ?_, ?_, S.s⟩
      · simp only [k36, s36_0, s36_1, s36_40, s36_41, s36_44, s36_47, s36_48, s36_49, s36_52, s36_55, s36_56, s36_57, s36_60, s36_63, s36_64, s36_65, s36_68, s36_71, s36_72, s36_73, s36_76, s36_79, s36_80, s36_81, s36_84, s36_87, s36_88, s36_90, Option.bind_some, Option.toList_some, Option.toList_none, List.cons_append, List.nil_append, xm_kl_n, xm_kl_i, xm_kl_a, xm_kl_j, xl_0, xm_low1, xm_low2, xm_low3, xm_low4, xl_n0, xl_n1, xb_nar, xe_if0, xe_ifn, xm_ci1, xm_ca1, show xm_sw 1 (nI 5) 87 0 5 #[39, 47, 55, 63, 71, 79] = some 80 from id rfl, pf_0_6 P, pf_33_0 P]
      · simp only [k57, s57_0, s57_1, s57_40, s57_41, s57_44, s57_45, s57_46, s57_49, s57_50, s57_51, s57_54, s57_55, s57_56, s57_59, s57_60, s57_61, s57_64, s57_65, s57_66, s57_69, s57_70, s57_72, Option.bind_some, Option.toList_some, Option.toList_none, List.cons_append, List.nil_append, xm_kl_n, xm_kl_i, xm_kl_a, xm_kl_j, xl_0, xm_low1, xm_low2, xm_low3, xm_low4, xl_n0, xl_n1, xb_nar, xe_if0, xe_ifn, xm_ci1, xm_ca1, show xm_sw 1 (nI 5) 69 0 5 #[39, 44, 49, 54, 59, 64] = some 65 from id rfl, mf_36_30 Q, pv63_36, R.nL]
theorem sim_graph (S : Stb o n V J p1 p2 cap hp) (hn : n < 512) (a : Int32) (c : Prop) : Sim o n 156 148 [.int a, .int (xb c)] hp := by
  have P := S.P
  have I := S.I
  have R := S.R
  have Q := S.Q
  have hM := I.M
  have hz := S.z
  by_cases ha : 0 ≤ a ∧ a < V 1 0
  · obtain ⟨m, hm, rfl⟩ := rng ha hM.1 (by omega)
    obtain ⟨F', hp', er, P', hs, hF⟩ := m_graphOf I R (by omega) hm c Q
    refine ⟨bcn (grh V J m c), hp, hp', ?_, ?_, S.q P' hs⟩
    · simp only [k156, s156_0, s156_1, s156_4, s156_5, s156_8, s156_11, s156_12, s156_13, s156_14, s156_17, s156_20, s156_23, s156_25, Option.bind_some, Option.toList_some, Option.toList_none, List.cons_append, List.nil_append, xm_kl_n, xm_kl_i, xm_kl_a, xm_kl_j, xl_0, xm_low1, xm_low2, xm_low3, xm_low4, xl_n0, xl_n1, xb_nar, xe_if0, xe_ifn, xm_ci1, xm_ca1, pf_0_0 P, pcl_0 P, pcl_1 P, c_Modules_holds P, c_graphOf P I, c_bitCount]
      rw [if_pos ha]
    · have loop : ∀ d k w, k + d = zM V → w ≤ k → xm_out 148 (22, [some (.ref (o + 36)), some (.int (nI m)), some (.int (xb c)), some (.int (nI w)), some (.int (nI k))], [], hp') = some (some (.int (nI (w + nct (Rch (xge V J c) (fun j => j = m)) k d))), hp') := by
        intro d
        induction d with
        | zero =>
          intro k w hk hw
          simp only [s148_22, s148_24, s148_25, s148_28, s148_55, s148_56, Option.bind_some, Option.toList_some, Option.toList_none, List.cons_append, List.nil_append, xm_kl_n, xm_kl_i, xm_kl_a, xm_kl_j, xl_0, xm_low1, xm_low2, xm_low3, xm_low4, xl_n0, xl_n1, xb_nar, xe_if0, xe_ifn, xm_ci1, xm_ca1, mf_36_0 P', pv63_36, R.nM, hM.1]
          rw [if_pos (nI_le (by omega) (by omega))]
          rfl
        | succ d ih =>
          intro k w hk hw
          simp only [s148_22, s148_24, s148_25, s148_28, s148_31, s148_32, s148_35, s148_37, s148_38, s148_41, s148_42, s148_43, s148_44, s148_47, s148_48, s148_49, Option.bind_some, Option.toList_some, Option.toList_none, List.cons_append, List.nil_append, xm_kl_n, xm_kl_i, xm_kl_a, xm_kl_j, xl_0, xm_low1, xm_low2, xm_low3, xm_low4, xl_n0, xl_n1, xb_nar, xe_if0, xe_ifn, xm_ci1, xm_ca1, mf_36_0 P', pv63_36, R.nM, hM.1, mf_36_33 P', maz_63 P' (show k < 12 by omega), pv63_63, hF k (by omega), nI_add]
          rw [if_neg (nI_ge (by omega) (by omega))]
          simp only [s148_52]
          by_cases h : Rch (xge V J c) (fun j => j = m) k
          · rw [if_pos h, ih (k + 1) (w + 1) (by omega) (by omega), nct_t h, show w + 1 + nct (Rch (xge V J c) (fun j => j = m)) (k + 1) d = w + (1 + nct (Rch (xge V J c) (fun j => j = m)) (k + 1) d) by omega]
          · rw [if_neg h, ih (k + 1) w (by omega) (by omega), nct_f h]
      simp only [k148, s148_0, s148_1, s148_2, s148_5, s148_8, s148_10, s148_11, s148_12, s148_13, s148_14, s148_17, s148_18, s148_19, s148_20, Option.bind_some, Option.toList_some, Option.toList_none, List.cons_append, List.nil_append, xm_kl_n, xm_kl_i, xm_kl_a, xm_kl_j, xl_0, xm_low1, xm_low2, xm_low3, xm_low4, xl_n0, xl_n1, xb_nar, xe_if0, xe_ifn, xm_ci1, xm_ca1, mcl_36 Q, n_isModule Q I R, er]
      rw [if_pos ha, loop (zM V) 0 0 (by omega) (by omega), bcn_nct (n := zM V) hM.2 (fun i hi h => grh_lt I R hm c hi h), Nat.zero_add, nct_cg (zM V) 0 (fun i _ hi => (grh_spec I R hm c (show i < 32 by omega)).symm)]
  · refine ⟨-2, hp, hp, ?_, ?_, S.s⟩
    · simp only [k156, s156_0, s156_1, s156_4, s156_5, s156_8, s156_23, s156_25, Option.bind_some, Option.toList_some, Option.toList_none, List.cons_append, List.nil_append, xm_kl_n, xm_kl_i, xm_kl_a, xm_kl_j, xl_0, xm_low1, xm_low2, xm_low3, xm_low4, xl_n0, xl_n1, xb_nar, xe_if0, xe_ifn, xm_ci1, xm_ca1, pf_0_0 P, pcl_1 P, c_Modules_holds P]
      rw [if_neg ha]
    · simp only [k148, s148_0, s148_1, s148_2, s148_5, s148_8, s148_10, Option.bind_some, Option.toList_some, Option.toList_none, List.cons_append, List.nil_append, xm_kl_n, xm_kl_i, xm_kl_a, xm_kl_j, xl_0, xm_low1, xm_low2, xm_low3, xm_low4, xl_n0, xl_n1, xb_nar, xe_if0, xe_ifn, xm_ci1, xm_ca1, mcl_36 Q, n_isModule Q I R]
      rw [if_neg ha]
theorem sim_memberOf (S : Stb o n V J p1 p2 cap hp) (a nm kd : Int32) : Sim o n 170 153 [.int a, .int nm, .int kd] hp := by
  have P := S.P
  have I := S.I
  have R := S.R
  have Q := S.Q
  have hU := I.U
  have hin : (nI 0 ≤ kd ∧ kd ≤ nI 1) ↔ (0 ≤ kd ∧ kd < nI 2) := in_n (by omega)
  by_cases ha : 0 ≤ a ∧ a < V 23 0
  · by_cases hb : 0 ≤ nm ∧ nm < nI 31
    · by_cases hk : 0 ≤ kd ∧ kd < nI 2
      · obtain ⟨u, hu, rfl⟩ := rng ha hU.1 (by omega)
        have hkd : kd = nI 0 ∨ kd = nI 1 := by
          obtain ⟨j, hj, rfl⟩ := rng hk rfl (by omega)
          have : j = 0 ∨ j = 1 := by omega
          rcases this with rfl | rfl
          · exact Or.inl rfl
          · exact Or.inr rfl
        have e1 := c_importedMember P I hu (nI 2) nm kd (by decide)
        have e2 := c_importedMember P I hu (nI 3) nm kd (by decide)
        have f1 := m_byImports Q I R hu (nI 2) nm kd (Or.inl rfl) hkd
        have f2 := m_byImports Q I R hu (nI 3) nm kd (Or.inr rfl) hkd
        generalize hX : xim (fun k => xbi V u k (nI 2) nm kd) (kd = nI 1) 0 (fusz V u) none = X at e1 f1
        generalize hY : xim (fun k => xbi V u k (nI 3) nm kd) (kd = nI 1) 0 (fusz V u) none = Y at e2 f2
        refine ⟨if X = -1 then Y else X, hp, hp, ?_, ?_, S.s⟩
        · simp only [k170, s170_0, s170_1, s170_4, s170_5, s170_8, s170_11, s170_12, s170_15, s170_18, s170_19, s170_20, s170_23, s170_26, s170_28, s170_29, s170_30, s170_31, s170_32, s170_33, s170_34, s170_37, s170_39, s170_41, s170_42, s170_45, s170_47, s170_50, s170_51, s170_52, s170_53, s170_54, s170_55, s170_58, Option.bind_some, Option.toList_some, Option.toList_none, List.cons_append, List.nil_append, xm_kl_n, xm_kl_i, xm_kl_a, xm_kl_j, xl_0, xm_low1, xm_low2, xm_low3, xm_low4, xl_n0, xl_n1, xb_nar, xe_if0, xe_ifn, xm_ci1, xm_ca1, pf_0_4 P, pcl_0 P, pcl_23 P, c_Units_holds P, c_isName, c_within, e1, e2]
          rw [if_pos ha, if_pos hb, if_pos hk]
          by_cases hx : X = -1
          · rw [if_pos hx, if_pos hx]
          · rw [if_neg hx, if_neg hx]
        · simp only [k153, s153_0, s153_1, s153_2, s153_5, s153_8, s153_9, s153_12, s153_15, s153_16, s153_17, s153_18, s153_21, s153_24, s153_26, s153_27, s153_28, s153_29, s153_30, s153_31, s153_32, s153_35, s153_37, s153_39, s153_40, s153_43, s153_44, s153_45, s153_46, s153_47, s153_48, s153_51, s153_54, s153_56, Option.bind_some, Option.toList_some, Option.toList_none, List.cons_append, List.nil_append, xm_kl_n, xm_kl_i, xm_kl_a, xm_kl_j, xl_0, xm_low1, xm_low2, xm_low3, xm_low4, xl_n0, xl_n1, xb_nar, xe_if0, xe_ifn, xm_ci1, xm_ca1, mcl_36 Q, n_isUnit Q I R, m_name, m_in, f1, f2]
          rw [if_pos ha, if_pos hb, if_pos (hin.mpr hk)]
          by_cases hx : X = -1
          · rw [if_neg (fun z => z hx), if_pos hx]
          · rw [if_pos hx, if_neg hx]
      · refine ⟨-2, hp, hp, ?_, ?_, S.s⟩
        · simp only [k170, s170_0, s170_1, s170_4, s170_5, s170_8, s170_11, s170_12, s170_15, s170_18, s170_19, s170_20, s170_23, s170_26, s170_28, Option.bind_some, Option.toList_some, Option.toList_none, List.cons_append, List.nil_append, xm_kl_n, xm_kl_i, xm_kl_a, xm_kl_j, xl_0, xm_low1, xm_low2, xm_low3, xm_low4, xl_n0, xl_n1, xb_nar, xe_if0, xe_ifn, xm_ci1, xm_ca1, pf_0_4 P, pcl_23 P, c_Units_holds P, c_isName, c_within]
          rw [if_pos ha, if_pos hb, if_neg hk]
        · simp only [k153, s153_0, s153_1, s153_2, s153_5, s153_8, s153_9, s153_12, s153_15, s153_16, s153_17, s153_18, s153_21, s153_24, s153_26, Option.bind_some, Option.toList_some, Option.toList_none, List.cons_append, List.nil_append, xm_kl_n, xm_kl_i, xm_kl_a, xm_kl_j, xl_0, xm_low1, xm_low2, xm_low3, xm_low4, xl_n0, xl_n1, xb_nar, xe_if0, xe_ifn, xm_ci1, xm_ca1, mcl_36 Q, n_isUnit Q I R, m_name, m_in]
          rw [if_pos ha, if_pos hb, if_neg (fun z => hk (hin.mp z))]
    · refine ⟨-2, hp, hp, ?_, ?_, S.s⟩
      · simp only [k170, s170_0, s170_1, s170_4, s170_5, s170_8, s170_11, s170_12, s170_15, s170_18, s170_19, s170_20, s170_23, s170_26, s170_28, Option.bind_some, Option.toList_some, Option.toList_none, List.cons_append, List.nil_append, xm_kl_n, xm_kl_i, xm_kl_a, xm_kl_j, xl_0, xm_low1, xm_low2, xm_low3, xm_low4, xl_n0, xl_n1, xb_nar, xe_if0, xe_ifn, xm_ci1, xm_ca1, pf_0_4 P, pcl_23 P, c_Units_holds P, c_isName, c_within]
        rw [if_pos ha, if_neg hb]
      · simp only [k153, s153_0, s153_1, s153_2, s153_5, s153_8, s153_9, s153_12, s153_15, s153_16, s153_17, s153_18, s153_21, s153_24, s153_26, Option.bind_some, Option.toList_some, Option.toList_none, List.cons_append, List.nil_append, xm_kl_n, xm_kl_i, xm_kl_a, xm_kl_j, xl_0, xm_low1, xm_low2, xm_low3, xm_low4, xl_n0, xl_n1, xb_nar, xe_if0, xe_ifn, xm_ci1, xm_ca1, mcl_36 Q, n_isUnit Q I R, m_name, m_in]
        rw [if_pos ha, if_neg hb]
  · refine ⟨-2, hp, hp, ?_, ?_, S.s⟩
    · simp only [k170, s170_0, s170_1, s170_4, s170_5, s170_8, s170_11, s170_12, s170_15, s170_18, s170_19, s170_20, s170_23, s170_26, s170_28, Option.bind_some, Option.toList_some, Option.toList_none, List.cons_append, List.nil_append, xm_kl_n, xm_kl_i, xm_kl_a, xm_kl_j, xl_0, xm_low1, xm_low2, xm_low3, xm_low4, xl_n0, xl_n1, xb_nar, xe_if0, xe_ifn, xm_ci1, xm_ca1, pf_0_4 P, pcl_23 P, c_Units_holds P, c_isName, c_within]
      rw [if_neg ha]
    · simp only [k153, s153_0, s153_1, s153_2, s153_5, s153_8, s153_9, s153_12, s153_15, s153_16, s153_17, s153_18, s153_21, s153_24, s153_26, Option.bind_some, Option.toList_some, Option.toList_none, List.cons_append, List.nil_append, xm_kl_n, xm_kl_i, xm_kl_a, xm_kl_j, xl_0, xm_low1, xm_low2, xm_low3, xm_low4, xl_n0, xl_n1, xb_nar, xe_if0, xe_ifn, xm_ci1, xm_ca1, mcl_36 Q, n_isUnit Q I R, m_name, m_in]
      rw [if_neg ha]
theorem sim_meaning (S : Stb o n V J p1 p2 cap hp) (a nm : Int32) : Sim o n 177 166 [.int a, .int nm] hp := by
  have P := S.P
  have I := S.I
  have R := S.R
  have Q := S.Q
  have hU := I.U
  have hT := I.T
  have hPz := I.P
  by_cases ha : 0 ≤ a ∧ a < V 23 0
  · by_cases hb : 0 ≤ nm ∧ nm < nI 31
    · obtain ⟨u, hu, rfl⟩ := rng ha hU.1 (by omega)
      have hS := I.usz u hu
      have hup := I.upk u hu
      obtain ⟨F', hp', ep, P', hs⟩ := m_byPacks Q I R hu nm
      have es := c_singlyImportedType P I hu nm
      have ew := c_widelyImportedType P I hu nm
      generalize hW : xon (fun t => V 13 t = nm ∧ xwi V u t ∧ xts V (fown V (fupk V u)) t) 0 (zT V) none = W at ep ew
      -- the reference's walk over the imports
      have loop : ∀ d k, k + d = fusz V u → xm_out 166 (23, [some (.ref (o + 36)), some (.int (nI u)), some (.int nm), some (.int (nI (10 * u + k)))], [], hp) = match xfo (fun k => V 26 (u * 10 + k) = 0 ∧ V 13 (fiwh V u k) = nm) k d with
          | some j => some (some (.int (nI (fiwh V u j))), hp)
          | none => xm_out 166 (75, [some (.ref (o + 36)), some (.int (nI u)), some (.int nm), some (.int (nI (10 * u + fusz V u)))], [], hp) := by
        intro d
        induction d with
        | zero =>
          intro k hk
          simp only [s166_23, s166_24, s166_26, s166_27, s166_28, s166_29, s166_32, s166_33, s166_34, s166_35, Option.bind_some, Option.toList_some, Option.toList_none, List.cons_append, List.nil_append, xm_kl_n, xm_kl_i, xm_kl_a, xm_kl_j, xl_0, xm_low1, xm_low2, xm_low3, xm_low4, xl_n0, xl_n1, xb_nar, xe_if0, xe_ifn, xm_ci1, xm_ca1, mf_36_21 Q, pk_mul, mai_53 Q (show u < 12 by omega), pv63_53, R.r53, hS.1, nI_add]
          rw [if_pos (nI_le (by omega) (by omega)), show k = fusz V u by omega]
          rfl
        | succ d ih =>
          intro k hk
          have hx : 10 * u + k < 120 := by omega
          have ei : u * 10 + k = 10 * u + k := by omega
          have hi := I.iwh u k hu (by omega)
          simp only [s166_23, s166_24, s166_26, s166_27, s166_28, s166_29, s166_32, s166_33, s166_34, s166_35, s166_38, s166_39, s166_42, s166_43, s166_44, s166_69, Option.bind_some, Option.toList_some, Option.toList_none, List.cons_append, List.nil_append, xm_kl_n, xm_kl_i, xm_kl_a, xm_kl_j, xl_0, xm_low1, xm_low2, xm_low3, xm_low4, xl_n0, xl_n1, xb_nar, xe_if0, xe_ifn, xm_ci1, xm_ca1, mf_36_21 Q, mf_36_22 Q, pk_mul, mai_53 Q (show u < 12 by omega), mai_54 Q hx, pv63_53, pv63_54, R.r53, R.r54, hS.1, nI_add]
          rw [if_neg (nI_ge (by omega) (by omega))]
          by_cases h1 : V 26 (10 * u + k) = 0
          · rw [if_neg (fun z => z h1)]
            have hil := hi.2 (by rw [ei, h1]; decide)
            have hi1 := hi.1
            rw [ei] at hi1
            simp only [s166_47, s166_48, s166_51, s166_52, s166_55, s166_56, s166_57, s166_58, s166_59, s166_62, s166_63, s166_66, s166_67, s166_68, s166_69, Option.bind_some, Option.toList_some, Option.toList_none, List.cons_append, List.nil_append, xm_kl_n, xm_kl_i, xm_kl_a, xm_kl_j, xl_0, xm_low1, xm_low2, xm_low3, xm_low4, xl_n0, xl_n1, xb_nar, xe_if0, xe_ifn, xm_ci1, xm_ca1, mf_36_9 Q, mf_36_23 Q, mai_55 Q hx, pv63_55, R.r55, hi1, mai_43 Q (show fiwh V u k < 40 by omega), pv63_43, R.r43, nI_add]
            by_cases h2 : V 13 (fiwh V u k) = nm
            · rw [if_neg (fun z => z h2), xfo_t (c := fun k => V 26 (u * 10 + k) = 0 ∧ V 13 (fiwh V u k) = nm) ⟨by rw [ei]; exact h1, h2⟩]
            · rw [if_pos h2, xfo_f (c := fun k => V 26 (u * 10 + k) = 0 ∧ V 13 (fiwh V u k) = nm) (fun z => h2 z.2)]
              simp only [s166_72]
              exact ih (k + 1) (by omega)
          · rw [if_pos h1, xfo_f (c := fun k => V 26 (u * 10 + k) = 0 ∧ V 13 (fiwh V u k) = nm) (fun z => h1 (by have := z.1; rwa [ei] at this))]
            simp only [s166_72]
            exact ih (k + 1) (by omega)
      have l0 := loop (fusz V u) 0 (by omega)
      have hxs : xsi V u nm = (xfo (fun k => V 26 (u * 10 + k) = 0 ∧ V 13 (fiwh V u k) = nm) 0 (fusz V u)).map (fiwh V u) := rfl
      cases hr : xfo (fun k => V 26 (u * 10 + k) = 0 ∧ V 13 (fiwh V u k) = nm) 0 (fusz V u) with
      | some j =>
        rw [hr] at l0 hxs
        have hxs' : xsi V u nm = some (fiwh V u j) := hxs
        have hlt := xsi_lt I hu hxs'
        rw [hxs', oI_s] at es
        refine ⟨nI (fiwh V u j), hp, hp, ?_, ?_, S.s⟩
        · simp only [k177, s177_0, s177_1, s177_4, s177_5, s177_8, s177_11, s177_12, s177_15, s177_18, s177_20, s177_21, s177_22, s177_23, s177_24, s177_27, s177_28, s177_29, s177_30, s177_33, s177_34, Option.bind_some, Option.toList_some, Option.toList_none, List.cons_append, List.nil_append, xm_kl_n, xm_kl_i, xm_kl_a, xm_kl_j, xl_0, xm_low1, xm_low2, xm_low3, xm_low4, xl_n0, xl_n1, xb_nar, xe_if0, xe_ifn, xm_ci1, xm_ca1, pf_0_4 P, pcl_0 P, pcl_23 P, c_Units_holds P, c_isName, es]
          rw [if_pos ha, if_pos hb, if_neg (nI_m1 (by omega))]
        · simp only [k166, s166_0, s166_1, s166_2, s166_5, s166_8, s166_9, s166_12, s166_15, s166_17, s166_18, s166_20, s166_21, s166_22, Option.bind_some, Option.toList_some, Option.toList_none, List.cons_append, List.nil_append, xm_kl_n, xm_kl_i, xm_kl_a, xm_kl_j, xl_0, xm_low1, xm_low2, xm_low3, xm_low4, xl_n0, xl_n1, xb_nar, xe_if0, xe_ifn, xm_ci1, xm_ca1, mcl_36 Q, n_isUnit Q I R, m_name, pk_mul]
          rw [if_pos ha, if_pos hb]
          exact l0
      | none =>
        rw [hr] at l0 hxs
        have hxs' : xsi V u nm = none := hxs
        rw [hxs', oI_n] at es
        have l0' : xm_out 166 (23, [some (.ref (o + 36)), some (.int (nI u)), some (.int nm), some (.int (nI (10 * u)))], [], hp) = xm_out 166 (75, [some (.ref (o + 36)), some (.int (nI u)), some (.int nm), some (.int (nI (10 * u + fusz V u)))], [], hp) := l0
        cases ho : xfo (fun p => V 12 p = nI (fupk V u) ∧ V 13 p = nm) 0 (zT V) with
        | some t =>
          have ht := xfo_lt ho
          refine ⟨nI t, hp, hp, ?_, ?_, S.s⟩
          · simp only [k177, s177_0, s177_1, s177_4, s177_5, s177_8, s177_11, s177_12, s177_15, s177_18, s177_20, s177_21, s177_22, s177_23, s177_24, s177_27, s177_28, s177_29, s177_30, s177_33, s177_34, s177_35, s177_36, s177_39, s177_40, s177_43, s177_44, s177_47, s177_48, s177_51, s177_53, s177_55, s177_56, s177_59, s177_61, s177_70, Option.bind_some, Option.toList_some, Option.toList_none, List.cons_append, List.nil_append, xm_kl_n, xm_kl_i, xm_kl_a, xm_kl_j, xl_0, xm_low1, xm_low2, xm_low3, xm_low4, xl_n0, xl_n1, xb_nar, xe_if0, xe_ifn, xm_ci1, xm_ca1, pf_0_2 P, pf_0_4 P, pcl_0 P, pcl_11 P, pcl_23 P, c_Units_holds P, c_isName, es, c_Units_packOf P (show u < 12 by omega), hup.1, c_Types_find P hT.1 hT.2, ho, oI_s]
            rw [if_pos ha, if_pos hb, if_pos trivial, if_neg (nI_m1 (by omega))]
          · simp only [k166, s166_0, s166_1, s166_2, s166_5, s166_8, s166_9, s166_12, s166_15, s166_17, s166_18, s166_20, s166_21, s166_22, Option.bind_some, Option.toList_some, Option.toList_none, List.cons_append, List.nil_append, xm_kl_n, xm_kl_i, xm_kl_a, xm_kl_j, xl_0, xm_low1, xm_low2, xm_low3, xm_low4, xl_n0, xl_n1, xb_nar, xe_if0, xe_ifn, xm_ci1, xm_ca1, mcl_36 Q, n_isUnit Q I R, m_name, pk_mul]
            rw [if_pos ha, if_pos hb, l0']
            simp only [s166_75, s166_76, s166_77, s166_80, s166_81, s166_82, s166_83, s166_86, s166_87, s166_88, s166_91, s166_92, s166_101, Option.bind_some, Option.toList_some, Option.toList_none, List.cons_append, List.nil_append, xm_kl_n, xm_kl_i, xm_kl_a, xm_kl_j, xl_0, xm_low1, xm_low2, xm_low3, xm_low4, xl_n0, xl_n1, xb_nar, xe_if0, xe_ifn, xm_ci1, xm_ca1, mcl_36 Q, mf_36_20 Q, mai_52 Q (show u < 12 by omega), pv63_52, R.r52, hup.1, n_typeOf Q I R, ho, oI_s]
            rw [if_neg (nI_pos (by omega))]
        | none =>
          refine ⟨W, hp, hp', ?_, ?_, S.q P' hs⟩
          · simp only [k177, s177_0, s177_1, s177_4, s177_5, s177_8, s177_11, s177_12, s177_15, s177_18, s177_20, s177_21, s177_22, s177_23, s177_24, s177_27, s177_28, s177_29, s177_30, s177_33, s177_34, s177_35, s177_36, s177_39, s177_40, s177_43, s177_44, s177_47, s177_48, s177_51, s177_53, s177_55, s177_56, s177_59, s177_61, s177_64, s177_65, s177_66, s177_67, s177_70, Option.bind_some, Option.toList_some, Option.toList_none, List.cons_append, List.nil_append, xm_kl_n, xm_kl_i, xm_kl_a, xm_kl_j, xl_0, xm_low1, xm_low2, xm_low3, xm_low4, xl_n0, xl_n1, xb_nar, xe_if0, xe_ifn, xm_ci1, xm_ca1, pf_0_2 P, pf_0_4 P, pcl_0 P, pcl_11 P, pcl_23 P, c_Units_holds P, c_isName, es, c_Units_packOf P (show u < 12 by omega), hup.1, c_Types_find P hT.1 hT.2, ho, oI_n, ew]
            rw [if_pos ha, if_pos hb, if_pos trivial, if_pos trivial]
          · simp only [k166, s166_0, s166_1, s166_2, s166_5, s166_8, s166_9, s166_12, s166_15, s166_17, s166_18, s166_20, s166_21, s166_22, Option.bind_some, Option.toList_some, Option.toList_none, List.cons_append, List.nil_append, xm_kl_n, xm_kl_i, xm_kl_a, xm_kl_j, xl_0, xm_low1, xm_low2, xm_low3, xm_low4, xl_n0, xl_n1, xb_nar, xe_if0, xe_ifn, xm_ci1, xm_ca1, mcl_36 Q, n_isUnit Q I R, m_name, pk_mul]
            rw [if_pos ha, if_pos hb, l0']
            simp only [s166_75, s166_76, s166_77, s166_80, s166_81, s166_82, s166_83, s166_86, s166_87, s166_88, s166_91, s166_92, s166_95, s166_96, s166_97, s166_98, s166_101, Option.bind_some, Option.toList_some, Option.toList_none, List.cons_append, List.nil_append, xm_kl_n, xm_kl_i, xm_kl_a, xm_kl_j, xl_0, xm_low1, xm_low2, xm_low3, xm_low4, xl_n0, xl_n1, xb_nar, xe_if0, xe_ifn, xm_ci1, xm_ca1, mcl_36 Q, mf_36_20 Q, mai_52 Q (show u < 12 by omega), pv63_52, R.r52, hup.1, n_typeOf Q I R, ho, oI_n, ep]
            rw [if_pos (show (-1 : Int32) < 0 by decide)]
    · refine ⟨-2, hp, hp, ?_, ?_, S.s⟩
      · simp only [k177, s177_0, s177_1, s177_4, s177_5, s177_8, s177_11, s177_12, s177_15, s177_18, s177_20, Option.bind_some, Option.toList_some, Option.toList_none, List.cons_append, List.nil_append, xm_kl_n, xm_kl_i, xm_kl_a, xm_kl_j, xl_0, xm_low1, xm_low2, xm_low3, xm_low4, xl_n0, xl_n1, xb_nar, xe_if0, xe_ifn, xm_ci1, xm_ca1, pf_0_4 P, pcl_23 P, c_Units_holds P, c_isName]
        rw [if_pos ha, if_neg hb]
      · simp only [k166, s166_0, s166_1, s166_2, s166_5, s166_8, s166_9, s166_12, s166_15, s166_17, Option.bind_some, Option.toList_some, Option.toList_none, List.cons_append, List.nil_append, xm_kl_n, xm_kl_i, xm_kl_a, xm_kl_j, xl_0, xm_low1, xm_low2, xm_low3, xm_low4, xl_n0, xl_n1, xb_nar, xe_if0, xe_ifn, xm_ci1, xm_ca1, mcl_36 Q, n_isUnit Q I R, m_name]
        rw [if_pos ha, if_neg hb]
  · refine ⟨-2, hp, hp, ?_, ?_, S.s⟩
    · simp only [k177, s177_0, s177_1, s177_4, s177_5, s177_8, s177_11, s177_12, s177_15, s177_18, s177_20, Option.bind_some, Option.toList_some, Option.toList_none, List.cons_append, List.nil_append, xm_kl_n, xm_kl_i, xm_kl_a, xm_kl_j, xl_0, xm_low1, xm_low2, xm_low3, xm_low4, xl_n0, xl_n1, xb_nar, xe_if0, xe_ifn, xm_ci1, xm_ca1, pf_0_4 P, pcl_23 P, c_Units_holds P, c_isName]
      rw [if_neg ha]
    · simp only [k166, s166_0, s166_1, s166_2, s166_5, s166_8, s166_9, s166_12, s166_15, s166_17, Option.bind_some, Option.toList_some, Option.toList_none, List.cons_append, List.nil_append, xm_kl_n, xm_kl_i, xm_kl_a, xm_kl_j, xl_0, xm_low1, xm_low2, xm_low3, xm_low4, xl_n0, xl_n1, xb_nar, xe_if0, xe_ifn, xm_ci1, xm_ca1, mcl_36 Q, n_isUnit Q I R, m_name]
      rw [if_neg ha]
end QUERIES
