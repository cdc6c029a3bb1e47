/-! imports -/
section IMPORTS
variable {o n : Nat} {V : pc_V} {J : Nat → Int64} {p1 p2 cap : Nat} {hp hp' : xm_H} {F : Nat → Int32} {Ou : Nat → Option xm_E}
theorem xir_le (u m w : Nat) (kd nm : Int32) : ∃ j, j ≤ 3 ∧ xir V u m w kd nm = nI j := by
  unfold xir
  by_cases h1 : xr1 V m w kd
  · rw [if_pos h1]; exact ⟨1, by omega, rfl⟩
  · rw [if_neg h1]
    by_cases h2 : xr2 V u w kd nm
    · rw [if_pos h2]; exact ⟨2, by omega, rfl⟩
    · rw [if_neg h2]
      by_cases h3 : xr3 V u w kd nm
      · rw [if_pos h3]; exact ⟨3, by omega, rfl⟩
      · rw [if_neg h3]; exact ⟨0, by omega, rfl⟩
theorem xir_2 {u m w : Nat} {kd nm : Int32} (h : xir V u m w kd nm = nI 0) : ¬ xr2 V u w kd nm := by
  unfold xir at h
  by_cases h1 : xr1 V m w kd
  · rw [if_pos h1] at h; exact absurd h (by decide)
  · rw [if_neg h1] at h
    by_cases h2 : xr2 V u w kd nm
    · rw [if_pos h2] at h; exact absurd h (by decide)
    · exact h2
theorem m_impFront (I : CInv V cap) (R : Rel V J) {a kd w nm : Int32} (Q : Pm o Ou V hp) : xm_call 165 [.ref (o + 36), .int a, .int kd, .int w, .int nm] hp = @ite _ ((0 ≤ a ∧ a < V 23 0) ∧ ((0 ≤ kd ∧ kd < nI 4) ∧ ((kd = nI 1 ∧ (0 ≤ w ∧ w < nI 31)) ∨ (¬ kd = nI 1 ∧ (0 ≤ w ∧ w < V 11 0))) ∧ ((kd = nI 2 ∧ (0 ≤ nm ∧ nm < nI 31)) ∨ (¬ kd = nI 2 ∧ nm = 0)))) (Classical.propDecidable _) (xm_out 165 (76, [some (.ref (o + 36)), some (.int a), some (.int kd), some (.int w), some (.int nm), some (.int (nI 1)), none, none], [], hp)) (some (some (.int (-2)), hp)) := by
  have hin : (nI 0 ≤ kd ∧ kd ≤ nI 3) ↔ (0 ≤ kd ∧ kd < nI 4) := in_n (by omega)
  have bad : xm_out 165 (44, [some (.ref (o + 36)), some (.int a), some (.int kd), some (.int w), some (.int nm), none, none, none], [], hp) = some (some (.int (-2)), hp) := by
    simp only [s165_44, s165_45, s165_47, s165_49, s165_73, s165_75, Option.bind_some, Option.toList_some, Option.toList_none, List.cons_append, List.nil_append, xm_kl_n, xm_kl_i, xm_kl_a, xm_kl_j, xl_0, xm_low1, xm_low2, xm_low3, xm_low4, xl_n0, xl_n1, xb_nar, xe_if0, xe_ifn, xm_ci1, xm_ca1]
    rw [if_pos (show nI 0 = 0 from rfl)]
  have good : xm_out 165 (40, [some (.ref (o + 36)), some (.int a), some (.int kd), some (.int w), some (.int nm), none, none, none], [], hp) = @ite _ ((kd = nI 2 ∧ (0 ≤ nm ∧ nm < nI 31)) ∨ (¬ kd = nI 2 ∧ nm = 0)) (Classical.propDecidable _) (xm_out 165 (76, [some (.ref (o + 36)), some (.int a), some (.int kd), some (.int w), some (.int nm), some (.int (nI 1)), none, none], [], hp)) (some (some (.int (-2)), hp)) := by
    conv => lhs; simp only [s165_40, s165_41, s165_45, s165_47, s165_49, s165_52, s165_53, s165_54, s165_57, s165_59, s165_62, s165_65, s165_68, s165_70, s165_73, s165_75, Option.bind_some, Option.toList_some, Option.toList_none, List.cons_append, List.nil_append, xm_kl_n, xm_kl_i, xm_kl_a, xm_kl_j, xl_0, xm_low1, xm_low2, xm_low3, xm_low4, xl_n0, xl_n1, xb_nar, xe_if0, xe_ifn, xm_ci1, xm_ca1, m_name]
    rw [if_neg (show ¬ nI 1 = 0 by decide)]
    by_cases h1 : kd = nI 2
    · rw [if_neg (fun z => z h1)]
      by_cases h2 : 0 ≤ nm ∧ nm < nI 31
      · rw [if_pos h2, if_pos (Or.inl ⟨h1, h2⟩)]
      · rw [if_neg h2, if_neg (fun z => z.elim (fun q => h2 q.2) (fun q => q.1 h1))]
    · rw [if_pos h1]
      by_cases h2 : nm = 0
      · rw [if_pos h2, if_pos (Or.inr ⟨h1, h2⟩)]
      · rw [if_neg h2, if_neg (fun z => z.elim (fun q => h1 q.1) (fun q => h2 q.2))]
  conv => lhs; simp only [k165, s165_0, s165_1, s165_2, s165_5, s165_8, s165_9, s165_10, s165_11, s165_14, s165_17, s165_18, s165_19, s165_22, s165_23, s165_26, s165_29, s165_32, s165_33, s165_34, s165_37, Option.bind_some, Option.toList_some, Option.toList_none, List.cons_append, List.nil_append, xm_kl_n, xm_kl_i, xm_kl_a, xm_kl_j, xl_0, xm_low1, xm_low2, xm_low3, xm_low4, xl_n0, xl_n1, xb_nar, xe_if0, xe_ifn, xm_ci1, xm_ca1, mcl_36 Q, m_isUnit Q I R, m_isType Q I R, m_in, m_name]
  rw [bad, good]
  by_cases h1 : 0 ≤ a ∧ a < V 23 0
  · rw [if_pos h1]
    by_cases h2 : 0 ≤ kd ∧ kd < nI 4
    · rw [if_pos (hin.mpr h2)]
      by_cases h3 : kd = nI 1
      · rw [if_neg (fun z => z h3)]
        by_cases h4 : 0 ≤ w ∧ w < nI 31
        · rw [if_pos h4]
          by_cases h5 : (kd = nI 2 ∧ (0 ≤ nm ∧ nm < nI 31)) ∨ (¬ kd = nI 2 ∧ nm = 0)
          · rw [if_pos h5, if_pos ⟨h1, h2, Or.inl ⟨h3, h4⟩, h5⟩]
          · rw [if_neg h5, if_neg (fun z => h5 z.2.2.2)]
        · rw [if_neg h4, if_neg (fun z => z.2.2.1.elim (fun q => h4 q.2) (fun q => q.1 h3))]
      · rw [if_pos h3]
        by_cases h4 : 0 ≤ w ∧ w < V 11 0
        · rw [if_pos h4]
          by_cases h5 : (kd = nI 2 ∧ (0 ≤ nm ∧ nm < nI 31)) ∨ (¬ kd = nI 2 ∧ nm = 0)
          · rw [if_pos h5, if_pos ⟨h1, h2, Or.inr ⟨h3, h4⟩, h5⟩]
          · rw [if_neg h5, if_neg (fun z => h5 z.2.2.2)]
        · rw [if_neg h4, if_neg (fun z => z.2.2.1.elim (fun q => h3 q.1) (fun q => h4 q.2))]
    · rw [if_neg (fun z => h2 (hin.mp z)), if_neg (fun z => h2 z.2.1)]
  · rw [if_neg h1, if_neg (fun z => h1 z.1)]
theorem sim_imports (S : Stb o n V J p1 p2 cap hp) (a kd w nm : Int32) : Sim o n 176 165 [.int a, .int kd, .int w, .int nm] hp := by
  have P := S.P
  have I := S.I
  have R := S.R
  have hU := I.U
  have hT := I.T
  have Q : Pm o hp.1 V hp := S.P.m (fun _ _ => rfl)
  have mfront := m_impFront I R (a := a) (kd := kd) (w := w) (nm := nm) Q
  by_cases hg : (0 ≤ a ∧ a < V 23 0) ∧ ((0 ≤ kd ∧ kd < nI 4) ∧ ((kd = nI 1 ∧ (0 ≤ w ∧ w < nI 31)) ∨ (¬ kd = nI 1 ∧ (0 ≤ w ∧ w < V 11 0))) ∧ ((kd = nI 2 ∧ (0 ≤ nm ∧ nm < nI 31)) ∨ (¬ kd = nI 2 ∧ nm = 0)))
  · rw [if_pos hg] at mfront
    have hg' := hg
    obtain ⟨ha, hi⟩ := hg
    obtain ⟨u, hu, rfl⟩ := rng ha hU.1 (by omega)
    have hkd : kd = nI 0 ∨ kd = nI 1 ∨ kd = nI 2 ∨ kd = nI 3 := by
      obtain ⟨j, hj, rfl⟩ := rng hi.1 rfl (by omega)
      have : j = 0 ∨ j = 1 ∨ j = 2 ∨ j = 3 := by omega
      rcases this with rfl | rfl | rfl | rfl
      · exact Or.inl rfl
      · exact Or.inr (Or.inl rfl)
      · exact Or.inr (Or.inr (Or.inl rfl))
      · exact Or.inr (Or.inr (Or.inr rfl))
    have hwx : ∃ x, w = nI x ∧ x < 40 ∧ (¬ kd = nI 1 → x < zT V) := by
      rcases hi.2.1 with ⟨h1, h2⟩ | ⟨h1, h2⟩
      · obtain ⟨x, hx, rfl⟩ := rng h2 rfl (by omega)
        exact ⟨x, rfl, by omega, fun z => absurd h1 z⟩
      · obtain ⟨x, hx, rfl⟩ := rng h2 hT.1 (by omega)
        exact ⟨x, rfl, by omega, fun _ => hx⟩
    obtain ⟨x, rfl, hx40, hwt⟩ := hwx
    have hS := I.usz u hu
    have hu12 : u < 12 := by omega
    have cfront : xm_call 176 [.ref o, .int (nI u), .int kd, .int (nI x), .int nm] hp = xm_out 176 (25, [some (.ref o), some (.int (nI u)), some (.int kd), some (.int (nI x)), some (.int nm), none], [], hp) := by
      simp only [k176, s176_0, s176_1, s176_4, s176_5, s176_8, s176_11, s176_12, s176_13, s176_14, s176_16, s176_19, Option.bind_some, Option.toList_some, Option.toList_none, List.cons_append, List.nil_append, xm_kl_n, xm_kl_i, xm_kl_a, xm_kl_j, xl_0, xm_low1, xm_low2, xm_low3, xm_low4, xl_n0, xl_n1, xb_nar, xe_if0, xe_ifn, xm_ci1, xm_ca1, pf_0_4 P, pcl_0 P, pcl_23 P, c_Units_holds P, c_isImport P]
      rw [if_pos ha, if_pos hi]
    have m53 : V 53 u = nI (fusz V u) := by rw [R.r53]; exact hS.1
    by_cases hfull : fusz V u = 10
    · refine ⟨-4, hp, hp, ?_, ?_, S.s⟩
      · show xm_call 176 [.ref o, .int (nI u), .int kd, .int (nI x), .int nm] hp = _
        rw [cfront]
        simp only [s176_25, s176_26, s176_29, s176_30, s176_33, s176_36, s176_38, Option.bind_some, Option.toList_some, Option.toList_none, List.cons_append, List.nil_append, xm_kl_n, xm_kl_i, xm_kl_a, xm_kl_j, xl_0, xm_low1, xm_low2, xm_low3, xm_low4, xl_n0, xl_n1, xb_nar, xe_if0, xe_ifn, xm_ci1, xm_ca1, pf_0_4 P, pcl_23 P, c_Units_isFull P hu12, hS.1]
        rw [if_pos (nI_le (by omega) (by omega))]
      · show xm_call 165 [.ref (o + 36), .int (nI u), .int kd, .int (nI x), .int nm] hp = _
        rw [mfront]
        simp only [s165_76, s165_77, s165_80, s165_81, s165_82, s165_84, s165_87, s165_89, Option.bind_some, Option.toList_some, Option.toList_none, List.cons_append, List.nil_append, xm_kl_n, xm_kl_i, xm_kl_a, xm_kl_j, xl_0, xm_low1, xm_low2, xm_low3, xm_low4, xl_n0, xl_n1, xb_nar, xe_if0, xe_ifn, xm_ci1, xm_ca1, mf_36_21 Q, mai_53 Q hu12, m53]
        rw [if_neg (fun z => z (by rw [hfull]))]
    · have hlt : fusz V u < 10 := by omega
      have cfront2 : xm_out 176 (25, [some (.ref o), some (.int (nI u)), some (.int kd), some (.int (nI x)), some (.int nm), none], [], hp) = xm_out 176 (50, [some (.ref o), some (.int (nI u)), some (.int kd), some (.int (nI x)), some (.int nm), some (.int (xir V u (fown V (fupk V u)) x kd nm))], [], hp) := by
        simp only [s176_25, s176_26, s176_29, s176_30, s176_33, s176_36, s176_38, s176_39, s176_40, s176_41, s176_42, s176_43, s176_45, s176_48, Option.bind_some, Option.toList_some, Option.toList_none, List.cons_append, List.nil_append, xm_kl_n, xm_kl_i, xm_kl_a, xm_kl_j, xl_0, xm_low1, xm_low2, xm_low3, xm_low4, xl_n0, xl_n1, xb_nar, xe_if0, xe_ifn, xm_ci1, xm_ca1, pf_0_4 P, pcl_0 P, pcl_23 P, c_Units_isFull P hu12, hS.1, c_importRule P I hu kd nm hwt]
        rw [if_neg (nI_ge (by omega) (by omega))]
      have mfront2 : ∀ (Ou : Nat → Option xm_E) hp', Pm o Ou V hp' → ∃ F' hp2, xm_out 165 (76, [some (.ref (o + 36)), some (.int (nI u)), some (.int kd), some (.int (nI x)), some (.int nm), some (.int (nI 1)), none, none], [], hp') = xm_out 165 (101, [some (.ref (o + 36)), some (.int (nI u)), some (.int kd), some (.int (nI x)), some (.int nm), some (.int (nI 1)), some (.int (xir V u (fown V (fupk V u)) x kd nm)), none], [], hp2) ∧ Pm o Ou (pv_row V 63 F') hp2 ∧ hp2.2 = hp'.2 := by
        intro Ou hp' Q
        obtain ⟨F', hp2, er, P', hs⟩ := m_importRule Q.s63 I R hu kd nm hwt
        refine ⟨F', hp2, ?_, P', hs⟩
        simp only [s165_76, s165_77, s165_80, s165_81, s165_82, s165_84, s165_87, s165_89, s165_90, s165_91, s165_92, s165_93, s165_94, s165_96, s165_99, Option.bind_some, Option.toList_some, Option.toList_none, List.cons_append, List.nil_append, xm_kl_n, xm_kl_i, xm_kl_a, xm_kl_j, xl_0, xm_low1, xm_low2, xm_low3, xm_low4, xl_n0, xl_n1, xb_nar, xe_if0, xe_ifn, xm_ci1, xm_ca1, mcl_36 Q, mf_36_21 Q, mai_53 Q hu12, m53, er]
        rw [if_pos (fun z => by rw [nI_eq (by omega) (by omega)] at z; omega)]
      obtain ⟨j, hj, hje⟩ := xir_le (V := V) u (fown V (fupk V u)) x kd nm
      by_cases h0 : j = 0
      · have hx0 : xir V u (fown V (fupk V u)) x kd nm = nI 0 := by rw [hje, h0]
        have hno := xir_2 hx0
        obtain ⟨hp1, ea, P1, hs1⟩ := c_Units_addImport P hu12 hS.1 hlt kd (nI x) nm
        have Q1 : Pm o hp1.1 V hp1 := P1.m (pvh (by decide) (pvh (by decide) (pvh (by decide) (pvh (by decide) (fun _ _ => rfl)))))
        have mf1 := m_impFront I R (a := nI u) (kd := kd) (w := nI x) (nm := nm) Q1
        rw [if_pos hg'] at mf1
        obtain ⟨F', hp2, er, P', hs2⟩ := mfront2 _ _ Q1
        have hix : 10 * u + fusz V u < 120 := by omega
        have Q2 := P'.w 54 (by decide) (by decide) (upd (V 54) (10 * u + fusz V u) kd)
        have Q3 := Q2.w 55 (by decide) (by decide) (upd (V 55) (10 * u + fusz V u) (nI x))
        have Q4 := Q3.w 56 (by decide) (by decide) (upd (V 56) (10 * u + fusz V u) nm)
        have Q5 := Q4.w 53 (by decide) (by decide) (upd (V 53) u (nI (fusz V u + 1)))
        generalize hW : pv_row (pv_row (pv_row (pv_row (pv_row V 63 F') 54 (upd (V 54) (10 * u + fusz V u) kd)) 55 (upd (V 55) (10 * u + fusz V u) (nI x))) 56 (upd (V 56) (10 * u + fusz V u) nm)) 53 (upd (V 53) u (nI (fusz V u + 1))) = W at Q5
        generalize hV1 : pv_row (pv_row (pv_row (pv_row V 26 (upd (V 26) (u * 10 + fusz V u) kd)) 27 (upd (V 27) (u * 10 + fusz V u) (nI x))) 28 (upd (V 28) (u * 10 + fusz V u) nm)) 25 (upd (V 25) u (nI (fusz V u + 1))) = V1 at P1
        have hzz : nt (nI (fusz V u + 1)) = fusz V u + 1 := nt_nI (by omega)
        have hcm : 10 * u + fusz V u = u * 10 + fusz V u := by omega
        have hfz : ∀ u', nt (upd (V 25) u (nI (fusz V u + 1)) u') = if u' = u then fusz V u + 1 else fusz V u' := by
          intro u'
          by_cases h : u' = u
          · rw [if_pos h, h, pk_us, hzz]
          · rw [if_neg h, pk_un h]; rfl
        -- an entry is the new one, or an old one
        have two : ∀ u' k, u' < zU V → k < nt (upd (V 25) u (nI (fusz V u + 1)) u') → (u' = u ∧ k = fusz V u) ∨ (k < fusz V u' ∧ ¬ u' * 10 + k = u * 10 + fusz V u) := by
          intro u' k hu' hk
          rw [hfz u'] at hk
          by_cases h : u' = u
          · rw [if_pos h] at hk
            by_cases h2 : k = fusz V u
            · exact Or.inl ⟨h, h2⟩
            · refine Or.inr ⟨by rw [h]; omega, by rw [h]; omega⟩
          · rw [if_neg h] at hk
            have := (I.usz u' hu').2
            exact Or.inr ⟨hk, by omega⟩
        refine ⟨nI (fusz V u + 1), hp1, _, ?_, ?_, S.w P1 hs1 Q5 hs2 ?_ ?_ ?_ ?_⟩
        · show xm_call 176 [.ref o, .int (nI u), .int kd, .int (nI x), .int nm] hp = _
          rw [cfront, cfront2, hx0]
          simp only [s176_50, s176_52, s176_55, s176_57, s176_60, s176_63, s176_64, s176_67, s176_68, s176_69, s176_70, s176_72, s176_75, Option.bind_some, Option.toList_some, Option.toList_none, List.cons_append, List.nil_append, xm_kl_n, xm_kl_i, xm_kl_a, xm_kl_j, xl_0, xm_low1, xm_low2, xm_low3, xm_low4, xl_n0, xl_n1, xb_nar, xe_if0, xe_ifn, xm_ci1, xm_ca1, pf_0_4 P, pcl_23 P, ea]
          rw [if_pos (show nI 0 = 0 from rfl)]
        · show xm_call 165 [.ref (o + 36), .int (nI u), .int kd, .int (nI x), .int nm] hp1 = _
          rw [mf1, er, hx0]
          have n1 : (pv_row V 63 F') 53 u = nI (fusz V u) := m53
          have n4 : (pv_row (pv_row (pv_row (pv_row V 63 F') 54 (upd (V 54) (10 * u + fusz V u) kd)) 55 (upd (V 55) (10 * u + fusz V u) (nI x))) 56 (upd (V 56) (10 * u + fusz V u) nm)) 53 u = nI (fusz V u) := m53
          have n5 : W 53 u = nI (fusz V u + 1) := by subst hW; exact pk_us
          have r1 : (pv_row V 63 F') 54 = V 54 := rfl
          have r2 : (pv_row (pv_row V 63 F') 54 (upd (V 54) (10 * u + fusz V u) kd)) 55 = V 55 := rfl
          have r3 : (pv_row (pv_row (pv_row V 63 F') 54 (upd (V 54) (10 * u + fusz V u) kd)) 55 (upd (V 55) (10 * u + fusz V u) (nI x))) 56 = V 56 := rfl
          have r4 : (pv_row (pv_row (pv_row (pv_row V 63 F') 54 (upd (V 54) (10 * u + fusz V u) kd)) 55 (upd (V 55) (10 * u + fusz V u) (nI x))) 56 (upd (V 56) (10 * u + fusz V u) nm)) 53 = V 53 := rfl
          simp only [s165_101, s165_103, s165_106, s165_108, s165_111, s165_112, s165_114, s165_115, s165_116, s165_117, s165_120, s165_121, s165_122, s165_123, s165_125, s165_126, s165_129, s165_131, s165_132, s165_133, s165_134, s165_137, s165_139, s165_140, s165_141, s165_142, s165_145, s165_147, s165_149, s165_150, s165_151, s165_154, s165_155, s165_156, s165_157, s165_158, s165_159, s165_160, s165_161, s165_164, s165_165, s165_166, Option.bind_some, Option.toList_some, Option.toList_none, List.cons_append, List.nil_append, xm_kl_n, xm_kl_i, xm_kl_a, xm_kl_j, xl_0, xm_low1, xm_low2, xm_low3, xm_low4, xl_n0, xl_n1, xb_nar, xe_if0, xe_ifn, xm_ci1, xm_ca1, pk_mul, nI_add, mf_36_21 P', mai_53 P' hu12, n1, mf_36_22 P', mwi_54 P' hix, mf_36_23 Q2, mwi_55 Q2 hix, mf_36_24 Q3, mwi_56 Q3 hix, mf_36_21 Q4, mai_53 Q4 hu12, n4, mwi_53 Q4 hu12, r1, r2, r3, r4, mf_36_21 Q5, mai_53 Q5 hu12, n5]
          rw [if_pos (show nI 0 ≤ 0 by decide)]
        · subst hW hV1
          refine ⟨I.M, I.P, I.T, I.B, I.U, I.S, I.L, I.own, I.pnm, I.tpk, I.tnm, I.par, I.bty, I.bop, I.bgv, I.upk, ?_, ?_, I.ssv, I.sty, I.lpr⟩
          · intro u' hu'
            show upd (V 25) u (nI (fusz V u + 1)) u' = nI (nt (upd (V 25) u (nI (fusz V u + 1)) u')) ∧ nt (upd (V 25) u (nI (fusz V u + 1)) u') ≤ 10
            rw [hfz u']
            by_cases h : u' = u
            · rw [if_pos h, h, pk_us]; exact ⟨rfl, by omega⟩
            · rw [if_neg h, pk_un h]; exact I.usz u' hu'
          · intro u' k hu' hk
            show upd (V 27) (u * 10 + fusz V u) (nI x) (u' * 10 + k) = nI (nt (upd (V 27) (u * 10 + fusz V u) (nI x) (u' * 10 + k))) ∧ (¬ upd (V 26) (u * 10 + fusz V u) kd (u' * 10 + k) = nI 1 → nt (upd (V 27) (u * 10 + fusz V u) (nI x) (u' * 10 + k)) < zT V)
            rcases two u' k hu' hk with ⟨h1, h2⟩ | ⟨h1, h2⟩
            · rw [h1, h2, pk_us, pk_us, nt_nI (by omega)]; exact ⟨rfl, hwt⟩
            · rw [pk_un h2, pk_un h2]; exact I.iwh u' k hu' h1
        · subst hW hV1
          refine ⟨R.nM, R.nP, R.nT, R.nB, R.nU, R.nS, R.nL, R.r38, R.r39, R.r42, R.r43, R.r44, R.r45, R.r46, R.r47, R.r48, R.r49, R.r50, R.r51, R.r52, ?_, ?_, ?_, ?_, R.r59, R.r60, R.r61, R.rq, R.e2, R.e3, R.e4, R.e5, R.ex, R.op, R.us, R.lh, R.lz, R.pm, R.z3, R.up, R.ut, R.ub, ?_, R.fl, ?_, ?_⟩
          · show upd (V 53) u (nI (fusz V u + 1)) = upd (V 25) u (nI (fusz V u + 1))
            rw [R.r53]
          · show upd (V 54) (10 * u + fusz V u) kd = upd (V 26) (u * 10 + fusz V u) kd
            rw [R.r54, hcm]
          · show upd (V 55) (10 * u + fusz V u) (nI x) = upd (V 27) (u * 10 + fusz V u) (nI x)
            rw [R.r55, hcm]
          · show upd (V 56) (10 * u + fusz V u) nm = upd (V 28) (u * 10 + fusz V u) nm
            rw [R.r56, hcm]
          · intro u' k hu' hk
            show (upd (V 26) (u * 10 + fusz V u) kd (u' * 10 + k) = nI 0 ∨ upd (V 26) (u * 10 + fusz V u) kd (u' * 10 + k) = nI 1 ∨ upd (V 26) (u * 10 + fusz V u) kd (u' * 10 + k) = nI 2 ∨ upd (V 26) (u * 10 + fusz V u) kd (u' * 10 + k) = nI 3) ∧ (¬ upd (V 26) (u * 10 + fusz V u) kd (u' * 10 + k) = nI 2 → upd (V 28) (u * 10 + fusz V u) nm (u' * 10 + k) = nI 0)
            rcases two u' k hu' hk with ⟨h1, h2⟩ | ⟨h1, h2⟩
            · rw [h1, h2, pk_us, pk_us]
              exact ⟨hkd, fun z => hi.2.2.elim (fun q => absurd q.1 z) (fun q => q.2)⟩
            · rw [pk_un h2, pk_un h2]; exact R.kd u' k hu' h1
          · intro u' h1 h2
            show upd (V 25) u (nI (fusz V u + 1)) u' = nI 0
            rw [pk_un (by have : zU V ≤ u' := h1; omega)]
            exact R.us0 u' h1 h2
          · intro u' k l hu' hk hl
            show upd (V 26) (u * 10 + fusz V u) kd (u' * 10 + k) = nI 0 → upd (V 26) (u * 10 + fusz V u) kd (u' * 10 + l) = nI 0 → V 13 (nt (upd (V 27) (u * 10 + fusz V u) (nI x) (u' * 10 + k))) = V 13 (nt (upd (V 27) (u * 10 + fusz V u) (nI x) (u' * 10 + l))) → nt (upd (V 27) (u * 10 + fusz V u) (nI x) (u' * 10 + k)) = nt (upd (V 27) (u * 10 + fusz V u) (nI x) (u' * 10 + l))
            -- no rival
            have riv : kd = nI 0 → ∀ l, l < fusz V u → V 26 (u * 10 + l) = nI 0 → V 13 (fiwh V u l) = V 13 x → fiwh V u l = x := by
              intro hk0 l hl h1 h2
              apply Classical.byContradiction
              intro hne
              have hxt := hwt (by rw [hk0]; decide)
              have hil := I.iwh u l hu hl
              have hilt := hil.2 (by rw [h1]; decide)
              apply hno
              refine Or.inl ⟨hk0, (ot_iff I R hu hxt).mp ⟨l, by omega, by omega, rfl, ?_, ?_, ?_⟩⟩
              · rw [show 10 * u + l = u * 10 + l by omega]; exact h1
              · rw [show 10 * u + l = u * 10 + l by omega, hil.1]
                intro q
                rw [nI_eq (by omega) (by omega)] at q
                exact hne q
              · rw [show 10 * u + l = u * 10 + l by omega]; exact h2
            rcases two u' k hu' hk with ⟨h1, h2⟩ | ⟨h1, h2⟩
            · rcases two u' l hu' hl with ⟨g1, g2⟩ | ⟨g1, g2⟩
              · intro _ _ _; rw [h2, g2]
              · rw [pk_un g2, pk_un g2, h1, h2, pk_us, pk_us, nt_nI (by omega)]
                rw [h1] at g1
                intro a1 a2 a3
                exact (riv a1 l g1 a2 a3.symm).symm
            · rcases two u' l hu' hl with ⟨g1, g2⟩ | ⟨g1, g2⟩
              · rw [pk_un h2, pk_un h2, g1, g2, pk_us, pk_us, nt_nI (by omega)]
                rw [g1] at h1
                intro a1 a2 a3
                exact riv a2 k h1 a1 a3
              · rw [pk_un h2, pk_un h2, pk_un g2, pk_un g2]
                exact R.iu u' k l hu' h1 g1
        · subst hW hV1
          exact S.L0
        · subst hW hV1
          rfl
      · have hne : ¬ xir V u (fown V (fupk V u)) x kd nm = 0 := by rw [hje]; exact nI_ne0 (by omega) (by omega)
        obtain ⟨F', hp2, er, P', hs⟩ := mfront2 _ _ Q
        refine ⟨(-10) - xir V u (fown V (fupk V u)) x kd nm, hp, hp2, ?_, ?_, S.q P' hs⟩
        · show xm_call 176 [.ref o, .int (nI u), .int kd, .int (nI x), .int nm] hp = _
          rw [cfront, cfront2]
          simp only [s176_50, s176_52, s176_55, s176_57, s176_60, s176_75, Option.bind_some, Option.toList_some, Option.toList_none, List.cons_append, List.nil_append, xm_kl_n, xm_kl_i, xm_kl_a, xm_kl_j, xl_0, xm_low1, xm_low2, xm_low3, xm_low4, xl_n0, xl_n1, xb_nar, xe_if0, xe_ifn, xm_ci1, xm_ca1, c_broken]
          rw [if_neg hne]
        · show xm_call 165 [.ref (o + 36), .int (nI u), .int kd, .int (nI x), .int nm] hp = _
          rw [mfront, er]
          simp only [s165_101, s165_103, s165_106, s165_108, s165_111, Option.bind_some, Option.toList_some, Option.toList_none, List.cons_append, List.nil_append, xm_kl_n, xm_kl_i, xm_kl_a, xm_kl_j, xl_0, xm_low1, xm_low2, xm_low3, xm_low4, xl_n0, xl_n1, xb_nar, xe_if0, xe_ifn, xm_ci1, xm_ca1, m_broken]
          rw [if_neg (fun z => by rw [hje, show (0 : Int32) = nI 0 from rfl, nI_leI (by omega) (by omega)] at z; omega)]
  · rw [if_neg hg] at mfront
    refine ⟨-2, hp, hp, ?_, mfront, S.s⟩
    simp only [k176, s176_0, s176_1, s176_4, s176_5, s176_8, s176_11, s176_12, s176_13, s176_14, s176_16, s176_19, s176_22, s176_24, Option.bind_some, Option.toList_some, Option.toList_none, List.cons_append, List.nil_append, xm_kl_n, xm_kl_i, xm_kl_a, xm_kl_j, xl_0, xm_low1, xm_low2, xm_low3, xm_low4, xl_n0, xl_n1, xb_nar, xe_if0, xe_ifn, xm_ci1, xm_ca1, pf_0_4 P, pcl_0 P, pcl_23 P, c_Units_holds P, c_isImport P]
    by_cases h1 : 0 ≤ a ∧ a < V 23 0
    · rw [if_pos h1, if_neg (fun z => hg ⟨h1, z⟩)]
    · rw [if_neg h1]
end IMPORTS
