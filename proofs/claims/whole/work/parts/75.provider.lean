/-! provider -/
section PROVIDER
variable {o n : Nat} {V : pc_V} {J : Nat → Int64} {p1 p2 cap : Nat} {hp hp' : xm_H} {F : Nat → Int32} {Ou : Nat → Option xm_E}
theorem sim_provider (S : Stb o n V J p1 p2 cap hp) (hn : n < 512) (a b kk : Int32) : Sim o n 158 150 [.int a, .int b, .int kk] hp := by
  have P := S.P
  have I := S.I
  have R := S.R
  have Q := S.Q
  have hM := I.M
  have hT := I.T
  have hSv := I.S
  have hz := S.z
  by_cases ha : 0 ≤ a ∧ a < V 1 0
  · by_cases hb : 0 ≤ b ∧ b < V 11 0
    · obtain ⟨r, hr, rfl⟩ := rng ha hM.1 (by omega)
      obtain ⟨s, hs, rfl⟩ := rng hb hT.1 (by omega)
      have hus := R.us r s (by omega) (by omega)
      have e1 : xm_call 14 [.ref (o + 29), .int (nI r), .int (nI s)] hp = some (some (.int (xb (tj (J r) s))), hp) := c_Services_isUsed P (show r < 12 by omega) (nI s)
      by_cases hu : tj (J r) s
      · obtain ⟨F', hp', er, P', hsz, hF⟩ := m_graphOf I R (by omega) hr True Q
        rw [xb_t (c := True) trivial] at er
        have eg := c_graphOf P I r True
        rw [xb_t (c := True) trivial] at eg
        -- one provision
        have prov : ∀ m i (nn : Nat), m < zM V → i < zS V → Rch (xge V J True) (fun j => j = r) m → xm_out 150 (60, [some (.ref (o + 36)), some (.int (nI r)), some (.int (nI s)), some (.int kk), some (.int (nI nn)), some (.int (nI m)), some (.int (nI i))], [], hp') = @ite _ (V 31 i = nI s ∧ V 7 (ftpk V (fsty V i)) = nI m) (Classical.propDecidable _) (if ¬ nI nn = kk then xm_out 150 (60, [some (.ref (o + 36)), some (.int (nI r)), some (.int (nI s)), some (.int kk), some (.int (nI (nn + 1))), some (.int (nI m)), some (.int (nI (i + 1)))], [], hp') else some (some (.int (nI (fsty V i))), hp')) (xm_out 150 (60, [some (.ref (o + 36)), some (.int (nI r)), some (.int (nI s)), some (.int kk), some (.int (nI nn)), some (.int (nI m)), some (.int (nI (i + 1)))], [], hp')) := by
          intro m i nn hm hi hc
          have hty := I.sty i hi
          conv => lhs; simp only [s150_60, s150_62, s150_63, s150_66, s150_69, s150_70, s150_73, s150_75, s150_76, s150_79, s150_80, s150_83, s150_85, s150_86, s150_88, s150_91, s150_92, s150_95, s150_97, s150_98, s150_99, s150_102, s150_104, s150_105, s150_108, s150_109, s150_112, s150_114, s150_115, s150_116, s150_119, Option.bind_some, Option.toList_some, Option.toList_none, List.cons_append, List.nil_append, xm_kl_n, xm_kl_i, xm_kl_a, xm_kl_j, xl_0, xm_low1, xm_low2, xm_low3, xm_low4, xl_n0, xl_n1, xb_nar, xe_if0, xe_ifn, xm_ci1, xm_ca1, mf_36_26 P', pv63_36, R.nS, hSv.1, mf_36_33 P', maz_63 P' (show m < 12 by omega), pv63_63, hF m (by omega), mf_36_27 P', mf_36_28 P', mf_36_29 P', mai_58 P' (show i < 520 by omega), mai_59 P' (show i < 520 by omega), mai_60 P' (show i < 520 by omega), pv63_58, pv63_59, pv63_60, R.pm i hi, R.r59, R.r60, hty.1, nI_add]
          rw [if_neg (nI_ge (by omega) (by omega)), if_pos hc]
          conv => lhs; simp only [s150_122]
          by_cases h1 : V 7 (ftpk V (fsty V i)) = nI m
          · rw [if_neg (fun z => z h1)]
            by_cases h2 : V 31 i = nI s
            · rw [if_neg (fun z => z h2), if_pos (show V 31 i = nI s ∧ V 7 (ftpk V (fsty V i)) = nI m from ⟨h2, h1⟩)]
            · rw [if_pos h2, if_neg (show ¬ (V 31 i = nI s ∧ V 7 (ftpk V (fsty V i)) = nI m) from fun z => h2 z.1)]
          · rw [if_pos h1, if_neg (show ¬ (V 31 i = nI s ∧ V 7 (ftpk V (fsty V i)) = nI m) from fun z => h1 z.2)]
        have pend : ∀ m (nn : Nat), xm_out 150 (60, [some (.ref (o + 36)), some (.int (nI r)), some (.int (nI s)), some (.int kk), some (.int (nI nn)), some (.int (nI m)), some (.int (nI (zS V)))], [], hp') = xm_out 150 (125, [some (.ref (o + 36)), some (.int (nI r)), some (.int (nI s)), some (.int kk), some (.int (nI nn)), some (.int (nI m)), some (.int (nI (zS V)))], [], hp') := by
          intro m nn
          simp only [s150_60, s150_62, s150_63, s150_66, Option.bind_some, Option.toList_some, Option.toList_none, List.cons_append, List.nil_append, xm_kl_n, xm_kl_i, xm_kl_a, xm_kl_j, xl_0, xm_low1, xm_low2, xm_low3, xm_low4, xl_n0, xl_n1, xb_nar, xe_if0, xe_ifn, xm_ci1, xm_ca1, mf_36_26 P', pv63_36, R.nS, hSv.1]
          rw [if_pos (nI_le (by omega) (by omega))]
        have mstart : ∀ m (nn : Nat) x6, m < zM V → xm_out 150 (48, [some (.ref (o + 36)), some (.int (nI r)), some (.int (nI s)), some (.int kk), some (.int (nI nn)), some (.int (nI m)), x6], [], hp') = xm_out 150 (60, [some (.ref (o + 36)), some (.int (nI r)), some (.int (nI s)), some (.int kk), some (.int (nI nn)), some (.int (nI m)), some (.int (nI 0))], [], hp') := by
          intro m nn x6 hm
          simp only [s150_48, s150_50, s150_51, s150_54, s150_57, s150_58, Option.bind_some, Option.toList_some, Option.toList_none, List.cons_append, List.nil_append, xm_kl_n, xm_kl_i, xm_kl_a, xm_kl_j, xl_0, xm_low1, xm_low2, xm_low3, xm_low4, xl_n0, xl_n1, xb_nar, xe_if0, xe_ifn, xm_ci1, xm_ca1, mf_36_0 P', pv63_36, R.nM, hM.1]
          rw [if_neg (nI_ge (by omega) (by omega))]
        have mskip : ∀ m (nn : Nat), m < zM V → ¬ Rch (xge V J True) (fun j => j = r) m → xm_out 150 (60, [some (.ref (o + 36)), some (.int (nI r)), some (.int (nI s)), some (.int kk), some (.int (nI nn)), some (.int (nI m)), some (.int (nI 0))], [], hp') = xm_out 150 (125, [some (.ref (o + 36)), some (.int (nI r)), some (.int (nI s)), some (.int kk), some (.int (nI nn)), some (.int (nI m)), some (.int (nI 0))], [], hp') := by
          intro m nn hm hc
          simp only [s150_60, s150_62, s150_63, s150_66, s150_69, s150_70, s150_73, s150_75, s150_76, Option.bind_some, Option.toList_some, Option.toList_none, List.cons_append, List.nil_append, xm_kl_n, xm_kl_i, xm_kl_a, xm_kl_j, xl_0, xm_low1, xm_low2, xm_low3, xm_low4, xl_n0, xl_n1, xb_nar, xe_if0, xe_ifn, xm_ci1, xm_ca1, mf_36_26 P', pv63_36, R.nS, hSv.1, mf_36_33 P', maz_63 P' (show m < 12 by omega), pv63_63, hF m (by omega)]
          by_cases hs0 : zS V = 0
          · rw [if_pos (nI_le (by omega) (by omega))]
          · rw [if_neg (nI_ge (by omega) (by omega)), if_neg hc]
        have mnext : ∀ m (nn : Nat) x6, xm_out 150 (125, [some (.ref (o + 36)), some (.int (nI r)), some (.int (nI s)), some (.int kk), some (.int (nI nn)), some (.int (nI m)), x6], [], hp') = xm_out 150 (48, [some (.ref (o + 36)), some (.int (nI r)), some (.int (nI s)), some (.int kk), some (.int (nI nn)), some (.int (nI (m + 1))), x6], [], hp') := by
          intro m nn x6
          conv => lhs; simp only [s150_125, Option.bind_some, Option.toList_some, Option.toList_none, List.cons_append, List.nil_append, xm_kl_n, xm_kl_i, xm_kl_a, xm_kl_j, xl_0, xm_low1, xm_low2, xm_low3, xm_low4, xl_n0, xl_n1, xb_nar, xe_if0, xe_ifn, xm_ci1, xm_ca1, nI_add]
          conv => lhs; simp only [s150_128]
        have mend : ∀ (nn : Nat) x6, xm_out 150 (48, [some (.ref (o + 36)), some (.int (nI r)), some (.int (nI s)), some (.int kk), some (.int (nI nn)), some (.int (nI (zM V))), x6], [], hp') = some (some (.int (-1)), hp') := by
          intro nn x6
          simp only [s150_48, s150_50, s150_51, s150_54, s150_131, s150_132, Option.bind_some, Option.toList_some, Option.toList_none, List.cons_append, List.nil_append, xm_kl_n, xm_kl_i, xm_kl_a, xm_kl_j, xl_0, xm_low1, xm_low2, xm_low3, xm_low4, xl_n0, xl_n1, xb_nar, xe_if0, xe_ifn, xm_ci1, xm_ca1, mf_36_0 P', pv63_36, R.nM, hM.1]
          rw [if_pos (nI_le (by omega) (by omega))]
        have mfront : xm_call 150 [.ref (o + 36), .int (nI r), .int (nI s), .int kk] hp = xm_out 150 (48, [some (.ref (o + 36)), some (.int (nI r)), some (.int (nI s)), some (.int kk), some (.int (nI 0)), some (.int (nI 0)), none], [], hp') := by
          simp only [k150, s150_0, s150_1, s150_2, s150_5, s150_8, s150_9, s150_10, s150_13, s150_16, s150_18, s150_19, s150_20, s150_23, s150_25, s150_26, s150_27, s150_28, s150_29, s150_30, s150_33, s150_35, s150_36, s150_37, s150_38, s150_39, s150_42, s150_43, s150_45, s150_46, Option.bind_some, Option.toList_some, Option.toList_none, List.cons_append, List.nil_append, xm_kl_n, xm_kl_i, xm_kl_a, xm_kl_j, xl_0, xm_low1, xm_low2, xm_low3, xm_low4, xl_n0, xl_n1, xb_nar, xe_if0, xe_ifn, xm_ci1, xm_ca1, mcl_36 Q, n_isModule Q I R, n_isType Q I R, mf_36_25 Q, pk_mul, nI_add, maz_57 Q (show 40 * r + s < 480 by omega), pv63_57, hus, er]
          rw [if_pos ha, if_pos hb, if_pos hu]
        by_cases hk : kk < 0
        · have hne : ∀ nn : Nat, nn < 2 ^ 31 → ¬ nI nn = kk := fun nn h z => nI_pos h (by rw [z]; exact hk)
          have inner : ∀ m, m < zM V → Rch (xge V J True) (fun j => j = r) m → ∀ d i nn, i + d = zS V → nn + d < 2 ^ 31 → ∃ nn', nn' ≤ nn + d ∧ xm_out 150 (60, [some (.ref (o + 36)), some (.int (nI r)), some (.int (nI s)), some (.int kk), some (.int (nI nn)), some (.int (nI m)), some (.int (nI i))], [], hp') = xm_out 150 (125, [some (.ref (o + 36)), some (.int (nI r)), some (.int (nI s)), some (.int kk), some (.int (nI nn')), some (.int (nI m)), some (.int (nI (zS V)))], [], hp') := by
            intro m hm hc d
            induction d with
            | zero => intro i nn hi hb'; refine ⟨nn, by omega, ?_⟩; rw [show i = zS V by omega]; exact pend m nn
            | succ d ih =>
              intro i nn hi hb'
              rw [prov m i nn hm (by omega) hc]
              by_cases hcc : V 31 i = nI s ∧ V 7 (ftpk V (fsty V i)) = nI m
              · rw [if_pos hcc, if_pos (hne nn (by omega))]
                obtain ⟨nn', h1, h2⟩ := ih (i + 1) (nn + 1) (by omega) (by omega)
                exact ⟨nn', by omega, h2⟩
              · rw [if_neg hcc]
                obtain ⟨nn', h1, h2⟩ := ih (i + 1) nn (by omega) (by omega)
                exact ⟨nn', by omega, h2⟩
          have outer : ∀ d m nn x6, m + d = zM V → nn + d * 520 < 2000000000 → xm_out 150 (48, [some (.ref (o + 36)), some (.int (nI r)), some (.int (nI s)), some (.int kk), some (.int (nI nn)), some (.int (nI m)), x6], [], hp') = some (some (.int (-1)), hp') := by
            intro d
            induction d with
            | zero => intro m nn x6 hm hb'; rw [show m = zM V by omega]; exact mend nn x6
            | succ d ih =>
              intro m nn x6 hm hb'
              rw [mstart m nn x6 (by omega)]
              by_cases hc : Rch (xge V J True) (fun j => j = r) m
              · obtain ⟨nn', h1, h2⟩ := inner m (by omega) hc (zS V) 0 nn (by omega) (by omega)
                rw [h2, mnext]
                exact ih (m + 1) nn' _ (by omega) (by omega)
              · rw [mskip m nn (by omega) hc, mnext]
                exact ih (m + 1) nn _ (by omega) (Nat.lt_of_le_of_lt (Nat.add_le_add_left (Nat.mul_le_mul_right 520 (Nat.le_succ d)) nn) hb')
          refine ⟨-1, hp, hp', ?_, ?_, S.q P' hsz⟩
          · simp only [k158, s158_0, s158_1, s158_4, s158_5, s158_8, s158_11, s158_12, s158_15, s158_16, s158_19, s158_22, s158_24, s158_25, s158_26, s158_29, s158_30, s158_31, s158_34, s158_37, s158_39, s158_40, s158_41, s158_44, s158_45, s158_60, Option.bind_some, Option.toList_some, Option.toList_none, List.cons_append, List.nil_append, xm_kl_n, xm_kl_i, xm_kl_a, xm_kl_j, xl_0, xm_low1, xm_low2, xm_low3, xm_low4, xl_n0, xl_n1, xb_nar, xe_if0, xe_ifn, xm_ci1, xm_ca1, pf_0_0 P, pf_0_2 P, pf_0_5 P, pcl_0 P, pcl_1 P, pcl_11 P, pcl_29 P, c_Modules_holds P, c_Types_holds P, e1]
            rw [if_pos ha, if_pos hb, if_pos hu, if_neg (Int32.not_le.mpr hk)]
          · rw [mfront]
            exact outer (zM V) 0 0 none (by omega) (by omega)
        · obtain ⟨K, hK, rfl⟩ := nI_of hk
          have inner : ∀ m, m < zM V → Rch (xge V J True) (fun j => j = r) m → ∀ d i l, i + d = zS V → l ≤ K → (∃ a, pa1 (fun k => V 31 k = nI s ∧ V 7 (ftpk V (fsty V k)) = nI m) i d l = .inl a ∧ xm_out 150 (60, [some (.ref (o + 36)), some (.int (nI r)), some (.int (nI s)), some (.int (nI K)), some (.int (nI (K - l))), some (.int (nI m)), some (.int (nI i))], [], hp') = some (some (.int (nI (fsty V a))), hp')) ∨ (∃ l', l' ≤ K ∧ pa1 (fun k => V 31 k = nI s ∧ V 7 (ftpk V (fsty V k)) = nI m) i d l = .inr l' ∧ xm_out 150 (60, [some (.ref (o + 36)), some (.int (nI r)), some (.int (nI s)), some (.int (nI K)), some (.int (nI (K - l))), some (.int (nI m)), some (.int (nI i))], [], hp') = xm_out 150 (125, [some (.ref (o + 36)), some (.int (nI r)), some (.int (nI s)), some (.int (nI K)), some (.int (nI (K - l'))), some (.int (nI m)), some (.int (nI (zS V)))], [], hp')) := by
            intro m hm hc d
            induction d with
            | zero => intro i l hi hl; refine Or.inr ⟨l, hl, rfl, ?_⟩; rw [show i = zS V by omega]; exact pend m (K - l)
            | succ d ih =>
              intro i l hi hl
              rw [prov m i (K - l) hm (by omega) hc]
              by_cases hcc : V 31 i = nI s ∧ V 7 (ftpk V (fsty V i)) = nI m
              · rw [if_pos hcc]
                cases l with
                | zero =>
                  refine Or.inl ⟨i, pa1_0 hcc, ?_⟩
                  rw [if_neg (fun z => z rfl)]
                | succ l =>
                  rw [if_pos (fun z => by rw [nI_eq (by omega) hK] at z; omega), pa1_s (c := fun k => V 31 k = nI s ∧ V 7 (ftpk V (fsty V k)) = nI m) hcc, show K - (l + 1) + 1 = K - l by omega]
                  exact ih (i + 1) l (by omega) (by omega)
              · rw [if_neg hcc, pa1_f (c := fun k => V 31 k = nI s ∧ V 7 (ftpk V (fsty V k)) = nI m) hcc]
                exact ih (i + 1) l (by omega) hl
          have outer : ∀ d m l x6, m + d = zM V → l ≤ K → xm_out 150 (48, [some (.ref (o + 36)), some (.int (nI r)), some (.int (nI s)), some (.int (nI K)), some (.int (nI (K - l))), some (.int (nI m)), x6], [], hp') = some (some (.int (oI ((pa2 V (grh V J r True) (nI s) m d l).map (fsty V)))), hp') := by
            intro d
            induction d with
            | zero => intro m l x6 hm hl; rw [show m = zM V by omega]; exact mend _ x6
            | succ d ih =>
              intro m l x6 hm hl
              have hsp := grh_spec I R hr True (i := m) (by omega)
              rw [mstart m _ x6 (by omega)]
              by_cases hc : Rch (xge V J True) (fun j => j = r) m
              · have hz' : ¬ grh V J r True &&& (nI 1 <<< (nI m &&& 31)) = 0 := hsp.mpr hc
                rcases inner m (by omega) hc (zS V) 0 l (by omega) hl with ⟨a, h1, h2⟩ | ⟨l', hl', h1, h2⟩
                · rw [h2, show pa2 V (grh V J r True) (nI s) m (d + 1) l = some a by unfold pa2; rw [if_neg hz', h1]]
                  rfl
                · rw [h2, mnext, show pa2 V (grh V J r True) (nI s) m (d + 1) l = pa2 V (grh V J r True) (nI s) (m + 1) d l' by rw [pa2]; rw [if_neg hz', h1]]
                  exact ih (m + 1) l' _ (by omega) hl'
              · have hz' : grh V J r True &&& (nI 1 <<< (nI m &&& 31)) = 0 := Classical.byContradiction (fun z => hc (hsp.mp z))
                rw [mskip m _ (by omega) hc, mnext, show pa2 V (grh V J r True) (nI s) m (d + 1) l = pa2 V (grh V J r True) (nI s) (m + 1) d l from if_pos hz']
                exact ih (m + 1) l _ (by omega) hl
          refine ⟨oI ((pa2 V (grh V J r True) (nI s) 0 (zM V) K).map (fsty V)), hp, hp', ?_, ?_, S.q P' hsz⟩
          · simp only [k158, s158_0, s158_1, s158_4, s158_5, s158_8, s158_11, s158_12, s158_15, s158_16, s158_19, s158_22, s158_24, s158_25, s158_26, s158_29, s158_30, s158_31, s158_34, s158_37, s158_39, s158_40, s158_41, s158_44, s158_45, s158_48, s158_49, s158_50, s158_51, s158_52, s158_55, s158_56, s158_57, s158_60, Option.bind_some, Option.toList_some, Option.toList_none, List.cons_append, List.nil_append, xm_kl_n, xm_kl_i, xm_kl_a, xm_kl_j, xl_0, xm_low1, xm_low2, xm_low3, xm_low4, xl_n0, xl_n1, xb_nar, xe_if0, xe_ifn, xm_ci1, xm_ca1, pf_0_0 P, pf_0_2 P, pf_0_5 P, pcl_0 P, pcl_1 P, pcl_11 P, pcl_29 P, c_Modules_holds P, c_Types_holds P, e1, eg, c_providerAt P I (grh V J r True) (nI s) hK]
            rw [if_pos ha, if_pos hb, if_pos hu, if_pos (Int32.not_lt.mp hk)]
          · rw [mfront, show (nI 0 : Int32) = nI (K - K) by rw [Nat.sub_self]]
            have := outer (zM V) 0 K none (by omega) (Nat.le_refl _)
            rw [Nat.sub_self] at this ⊢
            exact this
      · refine ⟨-3, hp, hp, ?_, ?_, S.s⟩
        · simp only [k158, s158_0, s158_1, s158_4, s158_5, s158_8, s158_11, s158_12, s158_15, s158_16, s158_19, s158_22, s158_24, s158_25, s158_26, s158_29, s158_30, s158_31, s158_34, s158_37, s158_39, Option.bind_some, Option.toList_some, Option.toList_none, List.cons_append, List.nil_append, xm_kl_n, xm_kl_i, xm_kl_a, xm_kl_j, xl_0, xm_low1, xm_low2, xm_low3, xm_low4, xl_n0, xl_n1, xb_nar, xe_if0, xe_ifn, xm_ci1, xm_ca1, pf_0_0 P, pf_0_2 P, pf_0_5 P, pcl_1 P, pcl_11 P, pcl_29 P, c_Modules_holds P, c_Types_holds P, e1]
          rw [if_pos ha, if_pos hb, if_neg hu]
        · simp only [k150, s150_0, s150_1, s150_2, s150_5, s150_8, s150_9, s150_10, s150_13, s150_16, s150_18, s150_19, s150_20, s150_23, s150_25, s150_26, s150_27, s150_28, s150_29, s150_30, s150_33, s150_35, Option.bind_some, Option.toList_some, Option.toList_none, List.cons_append, List.nil_append, xm_kl_n, xm_kl_i, xm_kl_a, xm_kl_j, xl_0, xm_low1, xm_low2, xm_low3, xm_low4, xl_n0, xl_n1, xb_nar, xe_if0, xe_ifn, xm_ci1, xm_ca1, mcl_36 Q, n_isModule Q I R, n_isType Q I R, mf_36_25 Q, pk_mul, nI_add, maz_57 Q (show 40 * r + s < 480 by omega), pv63_57, hus]
          rw [if_pos ha, if_pos hb, if_neg hu]
    · refine ⟨-2, hp, hp, ?_, ?_, S.s⟩
      · simp only [k158, s158_0, s158_1, s158_4, s158_5, s158_8, s158_11, s158_12, s158_15, s158_16, s158_19, s158_22, s158_24, Option.bind_some, Option.toList_some, Option.toList_none, List.cons_append, List.nil_append, xm_kl_n, xm_kl_i, xm_kl_a, xm_kl_j, xl_0, xm_low1, xm_low2, xm_low3, xm_low4, xl_n0, xl_n1, xb_nar, xe_if0, xe_ifn, xm_ci1, xm_ca1, pf_0_0 P, pf_0_2 P, pcl_1 P, pcl_11 P, c_Modules_holds P, c_Types_holds P]
        rw [if_pos ha, if_neg hb]
      · simp only [k150, s150_0, s150_1, s150_2, s150_5, s150_8, s150_9, s150_10, s150_13, s150_16, s150_18, Option.bind_some, Option.toList_some, Option.toList_none, List.cons_append, List.nil_append, xm_kl_n, xm_kl_i, xm_kl_a, xm_kl_j, xl_0, xm_low1, xm_low2, xm_low3, xm_low4, xl_n0, xl_n1, xb_nar, xe_if0, xe_ifn, xm_ci1, xm_ca1, mcl_36 Q, n_isModule Q I R, n_isType Q I R]
        rw [if_pos ha, if_neg hb]
  · refine ⟨-2, hp, hp, ?_, ?_, S.s⟩
    · simp only [k158, s158_0, s158_1, s158_4, s158_5, s158_8, s158_11, s158_12, s158_15, s158_16, s158_19, s158_22, s158_24, Option.bind_some, Option.toList_some, Option.toList_none, List.cons_append, List.nil_append, xm_kl_n, xm_kl_i, xm_kl_a, xm_kl_j, xl_0, xm_low1, xm_low2, xm_low3, xm_low4, xl_n0, xl_n1, xb_nar, xe_if0, xe_ifn, xm_ci1, xm_ca1, pf_0_0 P, pf_0_2 P, pcl_1 P, pcl_11 P, c_Modules_holds P, c_Types_holds P]
      rw [if_neg ha]
    · simp only [k150, s150_0, s150_1, s150_2, s150_5, s150_8, s150_9, s150_10, s150_13, s150_16, s150_18, Option.bind_some, Option.toList_some, Option.toList_none, List.cons_append, List.nil_append, xm_kl_n, xm_kl_i, xm_kl_a, xm_kl_j, xl_0, xm_low1, xm_low2, xm_low3, xm_low4, xl_n0, xl_n1, xb_nar, xe_if0, xe_ifn, xm_ci1, xm_ca1, mcl_36 Q, n_isModule Q I R, n_isType Q I R]
      rw [if_neg ha]
end PROVIDER
