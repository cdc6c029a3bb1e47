/-! types and members -/
section ADDT
variable {o n : Nat} {V : pc_V} {J : Nat → Int64} {p1 p2 cap : Nat} {hp hp' : xm_H} {F : Nat → Int32} {Ou : Nat → Option xm_E}
theorem orN (I : CInv V cap) {v : Int32} (h : v = -1 ∨ (0 ≤ v ∧ v < V 11 0)) : ∃ q, v = oI q ∧ ∀ s, q = some s → s < zT V := by
  have hT := I.T
  rcases h with h | h
  · exact ⟨none, h, fun s e => by cases e⟩
  · obtain ⟨s, hs, e⟩ := rng h hT.1 (by omega)
    exact ⟨some s, e, fun t e => by cases e; exact hs⟩
theorem sim_type (S : Stb o n V J p1 p2 cap hp) (a b kd fg c : Int32) : Sim o n 132 121 [.int a, .int b, .int kd, .int fg, .int c] hp := by
  have P := S.P
  have I := S.I
  have R := S.R
  have hPz := I.P
  have hT := I.T
  have Q : Pm o hp.1 V hp := S.P.m (fun _ _ => rfl)
  have in3 : ∀ v : Int32, (nI 0 ≤ v ∧ v ≤ nI 3) ↔ (0 ≤ v ∧ v < nI 4) := fun v => in_n (by omega)
  by_cases hg : (0 ≤ a ∧ a < V 6 0) ∧ (0 ≤ b ∧ b < nI 31) ∧ (0 ≤ kd ∧ kd < nI 4) ∧ (0 ≤ fg ∧ fg < nI 4) ∧ (c = -1 ∨ (0 ≤ c ∧ c < V 11 0))
  · obtain ⟨ha, hb, hk, hfg, hc⟩ := hg
    obtain ⟨p, hpp, rfl⟩ := rng ha hPz.1 (by omega)
    obtain ⟨x, hx, rfl⟩ := rng hb rfl (by omega)
    have hfl : fg = nI 0 ∨ fg = nI 1 ∨ fg = nI 2 ∨ fg = nI 3 := by
      obtain ⟨j, hj, rfl⟩ := rng hfg rfl (by omega)
      have : j = 0 ∨ j = 1 ∨ j = 2 ∨ j = 3 := by omega
      rcases this with rfl | rfl | rfl | rfl
      · exact Or.inl rfl
      · exact Or.inr (Or.inl rfl)
      · exact Or.inr (Or.inr (Or.inl rfl))
      · exact Or.inr (Or.inr (Or.inr rfl))
    obtain ⟨q, rfl, hq⟩ := orN I hc
    -- the reference's way to 52
    have front : ∀ (Ou : Nat → Option xm_E) hp', Pm o Ou V hp' → xm_call 121 [.ref (o + 36), .int (nI p), .int (nI x), .int kd, .int fg, .int (oI q)] hp' = xm_out 121 (52, [some (.ref (o + 36)), some (.int (nI p)), some (.int (nI x)), some (.int kd), some (.int fg), some (.int (oI q))], [], hp') := by
      intro Ou hp' Q
      simp only [k121, s121_0, s121_1, s121_2, s121_5, s121_8, s121_9, s121_12, s121_15, s121_16, s121_17, s121_18, s121_21, s121_24, s121_26, s121_27, s121_28, s121_31, s121_34, s121_36, s121_37, s121_40, s121_41, s121_43, s121_46, Option.bind_some, Option.toList_some, Option.toList_none, List.cons_append, List.nil_append, xm_kl_n, xm_kl_i, xm_kl_a, xm_kl_j, xl_0, xm_low1, xm_low2, xm_low3, xm_low4, xl_n0, xl_n1, xb_nar, xe_if0, xe_ifn, xm_ci1, xm_ca1, mcl_36 Q, m_isPack Q I R, m_isType Q I R, m_name, m_in]
      rw [if_pos ha, if_pos hb, if_pos ((in3 kd).mpr hk), if_pos ((in3 fg).mpr hfg)]
      by_cases h1 : oI q = -1
      · rw [if_pos h1]
      · rw [if_neg h1, if_pos (hc.elim (fun z => absurd z h1) id)]
    cases hf : xfo (fun t => V 12 t = nI p ∧ V 13 t = nI x) 0 (zT V) with
    | some t =>
      have htl := xfo_lt hf
      refine ⟨-3, hp, hp, ?_, ?_, S.s⟩
      · simp only [k132, s132_0, s132_1, s132_4, s132_5, s132_8, s132_11, s132_12, s132_15, s132_18, s132_20, s132_21, s132_22, s132_23, s132_26, s132_29, s132_31, s132_32, s132_35, s132_38, s132_39, s132_41, s132_44, s132_47, s132_49, s132_50, s132_51, s132_54, s132_55, s132_56, s132_59, s132_60, s132_63, s132_65, Option.bind_some, Option.toList_some, Option.toList_none, List.cons_append, List.nil_append, xm_kl_n, xm_kl_i, xm_kl_a, xm_kl_j, xl_0, xm_low1, xm_low2, xm_low3, xm_low4, xl_n0, xl_n1, xb_nar, xe_if0, xe_ifn, xm_ci1, xm_ca1, pf_0_1 P, pf_0_2 P, pcl_0 P, pcl_6 P, pcl_11 P, c_Packs_holds P, c_isName, c_within, c_isTypeOrNone P, c_Types_find P hT.1 hT.2, hf, oI_s]
        rw [if_pos ha, if_pos hb, if_pos hk, if_pos hfg, if_pos hc, if_neg (nI_m1 (by omega))]
      · rw [front _ _ Q]
        simp only [s121_52, s121_53, s121_54, s121_55, s121_58, s121_61, s121_63, Option.bind_some, Option.toList_some, Option.toList_none, List.cons_append, List.nil_append, xm_kl_n, xm_kl_i, xm_kl_a, xm_kl_j, xl_0, xm_low1, xm_low2, xm_low3, xm_low4, xl_n0, xl_n1, xb_nar, xe_if0, xe_ifn, xm_ci1, xm_ca1, mcl_36 Q, m_typeOf Q I R, hf, oI_s]
        rw [if_neg (nI_pos (by omega))]
    | none =>
      have hno := (xfo_none _ _ _).mp hf
      by_cases hz : zT V = 40
      · have h40 : V 11 0 = nI 40 := by rw [hT.1, hz]
        refine ⟨-4, hp, hp, ?_, ?_, S.s⟩
        · simp only [k132, s132_0, s132_1, s132_4, s132_5, s132_8, s132_11, s132_12, s132_15, s132_18, s132_20, s132_21, s132_22, s132_23, s132_26, s132_29, s132_31, s132_32, s132_35, s132_38, s132_39, s132_41, s132_44, s132_47, s132_49, s132_50, s132_51, s132_54, s132_55, s132_56, s132_59, s132_60, s132_63, s132_65, s132_66, s132_67, s132_70, s132_71, s132_72, s132_73, s132_75, s132_77, s132_80, Option.bind_some, Option.toList_some, Option.toList_none, List.cons_append, List.nil_append, xm_kl_n, xm_kl_i, xm_kl_a, xm_kl_j, xl_0, xm_low1, xm_low2, xm_low3, xm_low4, xl_n0, xl_n1, xb_nar, xe_if0, xe_ifn, xm_ci1, xm_ca1, pf_0_1 P, pf_0_2 P, pcl_0 P, pcl_6 P, pcl_11 P, c_Packs_holds P, c_isName, c_within, c_isTypeOrNone P, c_Types_find P hT.1 hT.2, hf, oI_n, c_Types_addF P h40]
          rw [if_pos ha, if_pos hb, if_pos hk, if_pos hfg, if_pos hc, if_pos trivial]
        · rw [front _ _ Q]
          simp only [s121_52, s121_53, s121_54, s121_55, s121_58, s121_61, s121_63, s121_64, s121_65, s121_68, s121_70, s121_73, s121_75, Option.bind_some, Option.toList_some, Option.toList_none, List.cons_append, List.nil_append, xm_kl_n, xm_kl_i, xm_kl_a, xm_kl_j, xl_0, xm_low1, xm_low2, xm_low3, xm_low4, xl_n0, xl_n1, xb_nar, xe_if0, xe_ifn, xm_ci1, xm_ca1, mcl_36 Q, m_typeOf Q I R, hf, oI_n, mf_36_7 Q, R.nT, h40]
          rw [if_pos (show (-1 : Int32) < 0 by decide), if_neg (fun z => z trivial)]
      · obtain ⟨hp1, ea, P1, hs1⟩ := c_Types_add P hT.1 (show zT V < 40 by omega) (nI p) (nI x) kd fg (oI q)
        have Q1 : Pm o hp1.1 V hp1 := P1.m (pvh (by decide) (pvh (by decide) (pvh (by decide) (pvh (by decide) (pvh (by decide) (pvh (by decide) (fun _ _ => rfl)))))))
        have Q2 := Q1.w 42 (by decide) (by decide) (upd (V 42) (zT V) (nI p))
        have Q3 := Q2.w 43 (by decide) (by decide) (upd (V 43) (zT V) (nI x))
        have Q4 := Q3.w 44 (by decide) (by decide) (upd (V 44) (zT V) (kd))
        have Q5 := Q4.w 45 (by decide) (by decide) (upd (V 45) (zT V) (fg))
        have Q6 := Q5.w 46 (by decide) (by decide) (upd (V 46) (zT V) (oI q))
        have Q7 := Q6.w 36 (by decide) (by decide) (upd (V 36) 7 (nI (zT V + 1)))
        generalize hW : (pv_row (pv_row (pv_row (pv_row (pv_row (pv_row V 42 (upd (V 42) (zT V) (nI p))) 43 (upd (V 43) (zT V) (nI x))) 44 (upd (V 44) (zT V) (kd))) 45 (upd (V 45) (zT V) (fg))) 46 (upd (V 46) (zT V) (oI q))) 36 (upd (V 36) 7 (nI (zT V + 1)))) = W at Q7
        generalize hV1 : (pv_row (pv_row (pv_row (pv_row (pv_row (pv_row V 12 (upd (V 12) (zT V) (nI p))) 13 (upd (V 13) (zT V) (nI x))) 14 (upd (V 14) (zT V) kd)) 15 (upd (V 15) (zT V) fg)) 16 (upd (V 16) (zT V) (oI q))) 11 (upd (V 11) 0 (nI (zT V + 1)))) = V1 at P1
        refine ⟨nI (zT V), hp1, _, ?_, ?_, S.w P1 hs1 Q7 rfl ?_ ?_ ?_ ?_⟩
        · simp only [k132, s132_0, s132_1, s132_4, s132_5, s132_8, s132_11, s132_12, s132_15, s132_18, s132_20, s132_21, s132_22, s132_23, s132_26, s132_29, s132_31, s132_32, s132_35, s132_38, s132_39, s132_41, s132_44, s132_47, s132_49, s132_50, s132_51, s132_54, s132_55, s132_56, s132_59, s132_60, s132_63, s132_65, s132_66, s132_67, s132_70, s132_71, s132_72, s132_73, s132_75, s132_77, s132_80, Option.bind_some, Option.toList_some, Option.toList_none, List.cons_append, List.nil_append, xm_kl_n, xm_kl_i, xm_kl_a, xm_kl_j, xl_0, xm_low1, xm_low2, xm_low3, xm_low4, xl_n0, xl_n1, xb_nar, xe_if0, xe_ifn, xm_ci1, xm_ca1, pf_0_1 P, pf_0_2 P, pcl_0 P, pcl_6 P, pcl_11 P, c_Packs_holds P, c_isName, c_within, c_isTypeOrNone P, c_Types_find P hT.1 hT.2, hf, oI_n, ea]
          rw [if_pos ha, if_pos hb, if_pos hk, if_pos hfg, if_pos hc, if_pos trivial]
        · rw [front _ _ Q1]
          have n2 : (pv_row V 42 (upd (V 42) (zT V) (nI p))) 36 7 = nI (zT V) := R.nT.trans hT.1
          have n3 : (pv_row (pv_row V 42 (upd (V 42) (zT V) (nI p))) 43 (upd (V 43) (zT V) (nI x))) 36 7 = nI (zT V) := R.nT.trans hT.1
          have n4 : (pv_row (pv_row (pv_row V 42 (upd (V 42) (zT V) (nI p))) 43 (upd (V 43) (zT V) (nI x))) 44 (upd (V 44) (zT V) (kd))) 36 7 = nI (zT V) := R.nT.trans hT.1
          have n5 : (pv_row (pv_row (pv_row (pv_row V 42 (upd (V 42) (zT V) (nI p))) 43 (upd (V 43) (zT V) (nI x))) 44 (upd (V 44) (zT V) (kd))) 45 (upd (V 45) (zT V) (fg))) 36 7 = nI (zT V) := R.nT.trans hT.1
          have n6 : (pv_row (pv_row (pv_row (pv_row (pv_row V 42 (upd (V 42) (zT V) (nI p))) 43 (upd (V 43) (zT V) (nI x))) 44 (upd (V 44) (zT V) (kd))) 45 (upd (V 45) (zT V) (fg))) 46 (upd (V 46) (zT V) (oI q))) 36 7 = nI (zT V) := R.nT.trans hT.1
          have r2 : (pv_row V 42 (upd (V 42) (zT V) (nI p))) 43 = V 43 := rfl
          have r3 : (pv_row (pv_row V 42 (upd (V 42) (zT V) (nI p))) 43 (upd (V 43) (zT V) (nI x))) 44 = V 44 := rfl
          have r4 : (pv_row (pv_row (pv_row V 42 (upd (V 42) (zT V) (nI p))) 43 (upd (V 43) (zT V) (nI x))) 44 (upd (V 44) (zT V) (kd))) 45 = V 45 := rfl
          have r5 : (pv_row (pv_row (pv_row (pv_row V 42 (upd (V 42) (zT V) (nI p))) 43 (upd (V 43) (zT V) (nI x))) 44 (upd (V 44) (zT V) (kd))) 45 (upd (V 45) (zT V) (fg))) 46 = V 46 := rfl
          have r6 : (pv_row (pv_row (pv_row (pv_row (pv_row V 42 (upd (V 42) (zT V) (nI p))) 43 (upd (V 43) (zT V) (nI x))) 44 (upd (V 44) (zT V) (kd))) 45 (upd (V 45) (zT V) (fg))) 46 (upd (V 46) (zT V) (oI q))) 36 = V 36 := rfl
          have n7 : W 36 7 = nI (zT V + 1) := by subst hW; rfl
          simp only [s121_52, s121_53, s121_54, s121_55, s121_58, s121_61, s121_63, s121_64, s121_65, s121_68, s121_70, s121_73, s121_75, s121_76, s121_77, s121_80, s121_81, s121_84, s121_85, s121_86, s121_87, s121_90, s121_91, s121_94, s121_95, s121_96, s121_97, s121_100, s121_101, s121_104, s121_105, s121_106, s121_107, s121_110, s121_111, s121_114, s121_116, s121_117, s121_118, s121_121, s121_122, s121_125, s121_127, s121_128, s121_129, s121_130, s121_133, s121_134, s121_135, s121_138, s121_139, s121_142, s121_143, s121_144, Option.bind_some, Option.toList_some, Option.toList_none, List.cons_append, List.nil_append, xm_kl_n, xm_kl_i, xm_kl_a, xm_kl_j, xl_0, xm_low1, xm_low2, xm_low3, xm_low4, xl_n0, xl_n1, xb_nar, xe_if0, xe_ifn, xm_ci1, xm_ca1, mcl_36 Q1, m_typeOf Q1 I R, hf, oI_n, mf_36_7 Q1, R.nT, hT.1, nI_add, mf_36_8 Q1, mwi_42 Q1 (show zT V < 40 by omega), mf_36_9 Q2, mf_36_7 Q2, n2, mwi_43 Q2 (show zT V < 40 by omega), mf_36_10 Q3, mf_36_7 Q3, n3, mwi_44 Q3 (show zT V < 40 by omega), mf_36_11 Q4, mf_36_7 Q4, n4, mwi_45 Q4 (show zT V < 40 by omega), mf_36_12 Q5, mf_36_7 Q5, n5, mwi_46 Q5 (show zT V < 40 by omega), mf_36_7 Q6, n6, mwf_36_7 Q6, r2, r3, r4, r5, r6, mf_36_7 Q7, n7, pk_sub (show 1 ≤ zT V + 1 by omega), Nat.add_sub_cancel]
          rw [if_pos (show (-1 : Int32) < 0 by decide), if_pos (fun z => by rw [nI_eq (by omega) (by omega)] at z; omega)]
        · subst hW hV1
          have hzz : nt (nI (zT V + 1)) = zT V + 1 := nt_nI (by omega)
          refine ⟨I.M, I.P, ?_, I.B, I.U, I.S, I.L, I.own, I.pnm, ?_, ?_, ?_, ?_, I.bop, ?_, I.upk, I.usz, ?_, ?_, ?_, I.lpr⟩
          · exact ⟨by show nI (zT V + 1) = nI (nt (nI (zT V + 1))); rw [hzz], by show nt (nI (zT V + 1)) ≤ 40; rw [hzz]; omega⟩
          · show ∀ p, p < nt (nI (zT V + 1)) → _
            rw [hzz]
            exact row_new (C := fun k => k < zP V) I.tpk (by omega) hpp
          · show ∀ p, p < nt (nI (zT V + 1)) → _
            rw [hzz]
            exact row_new (C := fun k => k ≤ 30) I.tnm (by omega) (by omega)
          · show ∀ p, p < nt (nI (zT V + 1)) → _
            rw [hzz]
            exact row_newO (C := fun p s => s < p) I.par (fun s hs => ⟨by have := hq s hs; omega, hq s hs⟩)
          · intro t ht
            have := I.bty t ht
            refine ⟨this.1, ?_⟩
            show fbty V t < nt (nI (zT V + 1))
            rw [hzz]; exact Nat.lt_succ_of_lt this.2
          · intro t ht
            have := I.bgv t ht
            refine ⟨this.1, fun s hs => ?_⟩
            show s < nt (nI (zT V + 1))
            rw [hzz]; exact Nat.lt_succ_of_lt (this.2 s hs)
          · intro u k hu hk
            have := I.iwh u k hu hk
            refine ⟨this.1, fun z => ?_⟩
            show fiwh V u k < nt (nI (zT V + 1))
            rw [hzz]; exact Nat.lt_succ_of_lt (this.2 z)
          · intro t ht
            have := I.ssv t ht
            refine ⟨this.1, ?_⟩
            show fssv V t < nt (nI (zT V + 1))
            rw [hzz]; exact Nat.lt_succ_of_lt this.2
          · intro t ht
            have := I.sty t ht
            refine ⟨this.1, ?_⟩
            show fsty V t < nt (nI (zT V + 1))
            rw [hzz]; exact Nat.lt_succ_of_lt this.2
        · subst hW hV1
          have hzz : nt (nI (zT V + 1)) = zT V + 1 := nt_nI (by omega)
          refine ⟨R.nM, R.nP, ?_, R.nB, R.nU, R.nS, R.nL, R.r38, R.r39, ?_, ?_, ?_, ?_, ?_, R.r47, R.r48, R.r49, R.r50, R.r51, R.r52, R.r53, R.r54, R.r55, R.r56, R.r59, R.r60, R.r61, R.rq, R.e2, R.e3, R.e4, R.e5, R.ex, R.op, R.us, R.lh, R.lz, ?_, R.z3, R.up, ?_, R.ub, R.kd, ?_, R.us0, ?_⟩
          · rfl
          · show upd (V 42) (zT V) (nI p) = upd (V 12) (zT V) (nI p)
            rw [R.r42]
          · show upd (V 43) (zT V) (nI x) = upd (V 13) (zT V) (nI x)
            rw [R.r43]
          · show upd (V 44) (zT V) kd = upd (V 14) (zT V) kd
            rw [R.r44]
          · show upd (V 45) (zT V) fg = upd (V 15) (zT V) fg
            rw [R.r45]
          · show upd (V 46) (zT V) (oI q) = upd (V 16) (zT V) (oI q)
            rw [R.r46]
          · intro k hk
            have h1 := (I.sty k hk).2
            show V 58 k = V 7 (nt (upd (V 12) (zT V) (nI p) (fsty V k)))
            rw [pk_un (by omega)]
            exact R.pm k hk
          · show ∀ t u, t < nt (nI (zT V + 1)) → u < nt (nI (zT V + 1)) → _
            rw [hzz]
            exact uniq_new R.ut (fun p hp_ => hno p (by omega) (by omega))
          · show ∀ t, t < nt (nI (zT V + 1)) → upd (V 15) (zT V) fg t = nI 0 ∨ upd (V 15) (zT V) fg t = nI 1 ∨ upd (V 15) (zT V) fg t = nI 2 ∨ upd (V 15) (zT V) fg t = nI 3
            rw [hzz]
            intro t ht
            by_cases htn : t = zT V
            · rw [htn, pk_us]; exact hfl
            · rw [pk_un htn]; exact R.fl t (by omega)
          · intro u k l hu hk hl h1 h2
            have hk' := (I.iwh u k hu hk).2 (by show ¬ V 26 (u * 10 + k) = nI 1; rw [show V 26 (u * 10 + k) = nI 0 from h1]; decide)
            have hl' := (I.iwh u l hu hl).2 (by show ¬ V 26 (u * 10 + l) = nI 1; rw [show V 26 (u * 10 + l) = nI 0 from h2]; decide)
            show upd (V 13) (zT V) (nI x) (fiwh V u k) = upd (V 13) (zT V) (nI x) (fiwh V u l) → _
            rw [pk_un (by omega), pk_un (by omega)]
            exact R.iu u k l hu hk hl h1 h2
        · subst hW hV1
          exact S.L0
        · subst hW hV1
          rfl
  · refine ⟨-2, hp, hp, ?_, ?_, S.s⟩
    · simp only [k132, s132_0, s132_1, s132_4, s132_5, s132_8, s132_11, s132_12, s132_15, s132_18, s132_20, s132_21, s132_22, s132_23, s132_26, s132_29, s132_31, s132_32, s132_35, s132_38, s132_39, s132_41, s132_44, s132_47, s132_49, Option.bind_some, Option.toList_some, Option.toList_none, List.cons_append, List.nil_append, xm_kl_n, xm_kl_i, xm_kl_a, xm_kl_j, xl_0, xm_low1, xm_low2, xm_low3, xm_low4, xl_n0, xl_n1, xb_nar, xe_if0, xe_ifn, xm_ci1, xm_ca1, pf_0_1 P, pf_0_2 P, pcl_0 P, pcl_6 P, pcl_11 P, c_Packs_holds P, c_isName, c_within, c_isTypeOrNone P]
      by_cases h1 : 0 ≤ a ∧ a < V 6 0
      · rw [if_pos h1]
        by_cases h2 : 0 ≤ b ∧ b < nI 31
        · rw [if_pos h2]
          by_cases h3 : 0 ≤ kd ∧ kd < nI 4
          · rw [if_pos h3]
            by_cases h4 : 0 ≤ fg ∧ fg < nI 4
            · rw [if_pos h4, if_neg (fun z => hg ⟨h1, h2, h3, h4, z⟩)]
            · rw [if_neg h4]
          · rw [if_neg h3]
        · rw [if_neg h2]
      · rw [if_neg h1]
    · simp only [k121, s121_0, s121_1, s121_2, s121_5, s121_8, s121_9, s121_12, s121_15, s121_16, s121_17, s121_18, s121_21, s121_24, s121_26, s121_27, s121_28, s121_31, s121_34, s121_36, s121_37, s121_40, s121_41, s121_43, s121_46, s121_49, s121_51, Option.bind_some, Option.toList_some, Option.toList_none, List.cons_append, List.nil_append, xm_kl_n, xm_kl_i, xm_kl_a, xm_kl_j, xl_0, xm_low1, xm_low2, xm_low3, xm_low4, xl_n0, xl_n1, xb_nar, xe_if0, xe_ifn, xm_ci1, xm_ca1, mcl_36 Q, m_isPack Q I R, m_isType Q I R, m_name, m_in]
      by_cases h1 : 0 ≤ a ∧ a < V 6 0
      · rw [if_pos h1]
        by_cases h2 : 0 ≤ b ∧ b < nI 31
        · rw [if_pos h2]
          by_cases h3 : 0 ≤ kd ∧ kd < nI 4
          · rw [if_pos ((in3 kd).mpr h3)]
            by_cases h4 : 0 ≤ fg ∧ fg < nI 4
            · rw [if_pos ((in3 fg).mpr h4), if_neg (fun z => hg ⟨h1, h2, h3, h4, Or.inl z⟩), if_neg (fun z => hg ⟨h1, h2, h3, h4, Or.inr z⟩)]
            · rw [if_neg (fun z => h4 ((in3 fg).mp z))]
          · rw [if_neg (fun z => h3 ((in3 kd).mp z))]
        · rw [if_neg h2]
      · rw [if_neg h1]
theorem sim_member (S : Stb o n V J p1 p2 cap hp) (a b kd : Int32) (op : Prop) (c : Int32) : Sim o n 133 122 [.int a, .int b, .int kd, .int (xb op), .int c] hp := by
  have P := S.P
  have I := S.I
  have R := S.R
  have hT := I.T
  have hB := I.B
  have Q : Pm o hp.1 V hp := S.P.m (fun _ _ => rfl)
  have in3 : ∀ v : Int32, (nI 0 ≤ v ∧ v ≤ nI 1) ↔ (0 ≤ v ∧ v < nI 2) := fun v => in_n (by omega)
  by_cases hg : (0 ≤ a ∧ a < V 11 0) ∧ (0 ≤ b ∧ b < nI 31) ∧ (0 ≤ kd ∧ kd < nI 2) ∧ (c = -1 ∨ (0 ≤ c ∧ c < V 11 0))
  · obtain ⟨ha, hb, hk, hc⟩ := hg
    obtain ⟨t, ht, rfl⟩ := rng ha hT.1 (by omega)
    obtain ⟨x, hx, rfl⟩ := rng hb rfl (by omega)
    obtain ⟨q, rfl, hq⟩ := orN I hc
    have front : ∀ (Ou : Nat → Option xm_E) hp', Pm o Ou V hp' → xm_call 122 [.ref (o + 36), .int (nI t), .int (nI x), .int kd, .int (xb op), .int (oI q)] hp' = xm_out 122 (42, [some (.ref (o + 36)), some (.int (nI t)), some (.int (nI x)), some (.int kd), some (.int (xb op)), some (.int (oI q))], [], hp') := by
      intro Ou hp' Q
      simp only [k122, s122_0, s122_1, s122_2, s122_5, s122_8, s122_9, s122_12, s122_15, s122_16, s122_17, s122_18, s122_21, s122_24, s122_26, s122_27, s122_30, s122_31, s122_33, s122_36, Option.bind_some, Option.toList_some, Option.toList_none, List.cons_append, List.nil_append, xm_kl_n, xm_kl_i, xm_kl_a, xm_kl_j, xl_0, xm_low1, xm_low2, xm_low3, xm_low4, xl_n0, xl_n1, xb_nar, xe_if0, xe_ifn, xm_ci1, xm_ca1, mcl_36 Q, m_isType Q I R, m_name, m_in]
      rw [if_pos ha, if_pos hb, if_pos ((in3 kd).mpr hk)]
      by_cases h1 : oI q = -1
      · rw [if_pos h1]
      · rw [if_neg h1, if_pos (hc.elim (fun z => absurd z h1) id)]
    cases hf : xfo (fun p => V 18 p = nI t ∧ V 19 p = nI x ∧ V 20 p = kd) 0 (zB V) with
    | some r =>
      have hrl := xfo_lt hf
      refine ⟨-3, hp, hp, ?_, ?_, S.s⟩
      · simp only [k133, s133_0, s133_1, s133_4, s133_5, s133_8, s133_11, s133_12, s133_15, s133_18, s133_20, s133_21, s133_22, s133_23, s133_26, s133_29, s133_30, s133_32, s133_35, s133_38, s133_40, s133_41, s133_42, s133_45, s133_46, s133_47, s133_48, s133_51, s133_52, s133_55, s133_57, Option.bind_some, Option.toList_some, Option.toList_none, List.cons_append, List.nil_append, xm_kl_n, xm_kl_i, xm_kl_a, xm_kl_j, xl_0, xm_low1, xm_low2, xm_low3, xm_low4, xl_n0, xl_n1, xb_nar, xe_if0, xe_ifn, xm_ci1, xm_ca1, pf_0_2 P, pf_0_3 P, pcl_0 P, pcl_11 P, pcl_17 P, c_Types_holds P, c_isName, c_within, c_isTypeOrNone P, c_Members_find P hB.1 hB.2, hf, oI_s]
        rw [if_pos ha, if_pos hb, if_pos hk, if_pos hc, if_neg (nI_m1 (by omega))]
      · rw [front _ _ Q]
        simp only [s122_42, s122_43, s122_44, s122_45, s122_46, s122_49, s122_52, s122_54, Option.bind_some, Option.toList_some, Option.toList_none, List.cons_append, List.nil_append, xm_kl_n, xm_kl_i, xm_kl_a, xm_kl_j, xl_0, xm_low1, xm_low2, xm_low3, xm_low4, xl_n0, xl_n1, xb_nar, xe_if0, xe_ifn, xm_ci1, xm_ca1, mcl_36 Q, m_ownMember Q I R, hf, oI_s]
        rw [if_neg (nI_pos (by omega))]
    | none =>
      have hno := (xfo_none _ _ _).mp hf
      by_cases hz : zB V = 60
      · have h60 : V 17 0 = nI 60 := by rw [hB.1, hz]
        refine ⟨-4, hp, hp, ?_, ?_, S.s⟩
        · simp only [k133, s133_0, s133_1, s133_4, s133_5, s133_8, s133_11, s133_12, s133_15, s133_18, s133_20, s133_21, s133_22, s133_23, s133_26, s133_29, s133_30, s133_32, s133_35, s133_38, s133_40, s133_41, s133_42, s133_45, s133_46, s133_47, s133_48, s133_51, s133_52, s133_55, s133_57, s133_58, s133_59, s133_62, s133_63, s133_64, s133_65, s133_67, s133_69, s133_72, Option.bind_some, Option.toList_some, Option.toList_none, List.cons_append, List.nil_append, xm_kl_n, xm_kl_i, xm_kl_a, xm_kl_j, xl_0, xm_low1, xm_low2, xm_low3, xm_low4, xl_n0, xl_n1, xb_nar, xe_if0, xe_ifn, xm_ci1, xm_ca1, pf_0_2 P, pf_0_3 P, pcl_0 P, pcl_11 P, pcl_17 P, c_Types_holds P, c_isName, c_within, c_isTypeOrNone P, c_Members_find P hB.1 hB.2, hf, oI_n, c_Members_addF P h60]
          rw [if_pos ha, if_pos hb, if_pos hk, if_pos hc, if_pos trivial]
        · rw [front _ _ Q]
          simp only [s122_42, s122_43, s122_44, s122_45, s122_46, s122_49, s122_52, s122_54, s122_55, s122_56, s122_59, s122_61, s122_64, s122_66, Option.bind_some, Option.toList_some, Option.toList_none, List.cons_append, List.nil_append, xm_kl_n, xm_kl_i, xm_kl_a, xm_kl_j, xl_0, xm_low1, xm_low2, xm_low3, xm_low4, xl_n0, xl_n1, xb_nar, xe_if0, xe_ifn, xm_ci1, xm_ca1, mcl_36 Q, m_ownMember Q I R, hf, oI_n, mf_36_13 Q, R.nB, h60]
          rw [if_pos (show (-1 : Int32) < 0 by decide), if_neg (fun z => z trivial)]
      · obtain ⟨hp1, ea, P1, hs1⟩ := c_Members_add P hB.1 (show zB V < 60 by omega) (nI t) (nI x) kd op (oI q)
        have Q1 : Pm o hp1.1 V hp1 := P1.m (pvh (by decide) (pvh (by decide) (pvh (by decide) (pvh (by decide) (pvh (by decide) (pvh (by decide) (fun _ _ => rfl)))))))
        have Q2 := Q1.w 47 (by decide) (by decide) (upd (V 47) (zB V) (nI t))
        have Q3 := Q2.w 48 (by decide) (by decide) (upd (V 48) (zB V) (nI x))
        have Q4 := Q3.w 49 (by decide) (by decide) (upd (V 49) (zB V) (kd))
        have Q5 := Q4.w 50 (by decide) (by decide) (upd (V 50) (zB V) (xb op))
        have Q6 := Q5.w 51 (by decide) (by decide) (upd (V 51) (zB V) (oI q))
        have Q7 := Q6.w 36 (by decide) (by decide) (upd (V 36) 13 (nI (zB V + 1)))
        generalize hW : (pv_row (pv_row (pv_row (pv_row (pv_row (pv_row V 47 (upd (V 47) (zB V) (nI t))) 48 (upd (V 48) (zB V) (nI x))) 49 (upd (V 49) (zB V) (kd))) 50 (upd (V 50) (zB V) (xb op))) 51 (upd (V 51) (zB V) (oI q))) 36 (upd (V 36) 13 (nI (zB V + 1)))) = W at Q7
        generalize hV1 : (pv_row (pv_row (pv_row (pv_row (pv_row (pv_row V 18 (upd (V 18) (zB V) (nI t))) 19 (upd (V 19) (zB V) (nI x))) 20 (upd (V 20) (zB V) kd)) 21 (upd (V 21) (zB V) (xb op))) 22 (upd (V 22) (zB V) (oI q))) 17 (upd (V 17) 0 (nI (zB V + 1)))) = V1 at P1
        refine ⟨nI (zB V), hp1, _, ?_, ?_, S.w P1 hs1 Q7 rfl ?_ ?_ ?_ ?_⟩
        · simp only [k133, s133_0, s133_1, s133_4, s133_5, s133_8, s133_11, s133_12, s133_15, s133_18, s133_20, s133_21, s133_22, s133_23, s133_26, s133_29, s133_30, s133_32, s133_35, s133_38, s133_40, s133_41, s133_42, s133_45, s133_46, s133_47, s133_48, s133_51, s133_52, s133_55, s133_57, s133_58, s133_59, s133_62, s133_63, s133_64, s133_65, s133_67, s133_69, s133_72, Option.bind_some, Option.toList_some, Option.toList_none, List.cons_append, List.nil_append, xm_kl_n, xm_kl_i, xm_kl_a, xm_kl_j, xl_0, xm_low1, xm_low2, xm_low3, xm_low4, xl_n0, xl_n1, xb_nar, xe_if0, xe_ifn, xm_ci1, xm_ca1, pf_0_2 P, pf_0_3 P, pcl_0 P, pcl_11 P, pcl_17 P, c_Types_holds P, c_isName, c_within, c_isTypeOrNone P, c_Members_find P hB.1 hB.2, hf, oI_n, ea]
          rw [if_pos ha, if_pos hb, if_pos hk, if_pos hc, if_pos trivial]
        · rw [front _ _ Q1]
          have n2 : (pv_row V 47 (upd (V 47) (zB V) (nI t))) 36 13 = nI (zB V) := R.nB.trans hB.1
          have n3 : (pv_row (pv_row V 47 (upd (V 47) (zB V) (nI t))) 48 (upd (V 48) (zB V) (nI x))) 36 13 = nI (zB V) := R.nB.trans hB.1
          have n4 : (pv_row (pv_row (pv_row V 47 (upd (V 47) (zB V) (nI t))) 48 (upd (V 48) (zB V) (nI x))) 49 (upd (V 49) (zB V) (kd))) 36 13 = nI (zB V) := R.nB.trans hB.1
          have n5 : (pv_row (pv_row (pv_row (pv_row V 47 (upd (V 47) (zB V) (nI t))) 48 (upd (V 48) (zB V) (nI x))) 49 (upd (V 49) (zB V) (kd))) 50 (upd (V 50) (zB V) (xb op))) 36 13 = nI (zB V) := R.nB.trans hB.1
          have n6 : (pv_row (pv_row (pv_row (pv_row (pv_row V 47 (upd (V 47) (zB V) (nI t))) 48 (upd (V 48) (zB V) (nI x))) 49 (upd (V 49) (zB V) (kd))) 50 (upd (V 50) (zB V) (xb op))) 51 (upd (V 51) (zB V) (oI q))) 36 13 = nI (zB V) := R.nB.trans hB.1
          have r2 : (pv_row V 47 (upd (V 47) (zB V) (nI t))) 48 = V 48 := rfl
          have r3 : (pv_row (pv_row V 47 (upd (V 47) (zB V) (nI t))) 48 (upd (V 48) (zB V) (nI x))) 49 = V 49 := rfl
          have r4 : (pv_row (pv_row (pv_row V 47 (upd (V 47) (zB V) (nI t))) 48 (upd (V 48) (zB V) (nI x))) 49 (upd (V 49) (zB V) (kd))) 50 = V 50 := rfl
          have r5 : (pv_row (pv_row (pv_row (pv_row V 47 (upd (V 47) (zB V) (nI t))) 48 (upd (V 48) (zB V) (nI x))) 49 (upd (V 49) (zB V) (kd))) 50 (upd (V 50) (zB V) (xb op))) 51 = V 51 := rfl
          have r6 : (pv_row (pv_row (pv_row (pv_row (pv_row V 47 (upd (V 47) (zB V) (nI t))) 48 (upd (V 48) (zB V) (nI x))) 49 (upd (V 49) (zB V) (kd))) 50 (upd (V 50) (zB V) (xb op))) 51 (upd (V 51) (zB V) (oI q))) 36 = V 36 := rfl
          have n7 : W 36 13 = nI (zB V + 1) := by subst hW; rfl
          simp only [s122_42, s122_43, s122_44, s122_45, s122_46, s122_49, s122_52, s122_54, s122_55, s122_56, s122_59, s122_61, s122_64, s122_66, s122_67, s122_68, s122_71, s122_72, s122_75, s122_76, s122_77, s122_78, s122_81, s122_82, s122_85, s122_86, s122_87, s122_88, s122_91, s122_92, s122_95, s122_96, s122_97, s122_98, s122_101, s122_102, s122_105, s122_107, s122_108, s122_109, s122_112, s122_113, s122_116, s122_118, s122_119, s122_120, s122_121, s122_124, s122_125, s122_126, s122_129, s122_130, s122_133, s122_134, s122_135, Option.bind_some, Option.toList_some, Option.toList_none, List.cons_append, List.nil_append, xm_kl_n, xm_kl_i, xm_kl_a, xm_kl_j, xl_0, xm_low1, xm_low2, xm_low3, xm_low4, xl_n0, xl_n1, xb_nar, xe_if0, xe_ifn, xm_ci1, xm_ca1, mcl_36 Q1, m_ownMember Q1 I R, hf, oI_n, mf_36_13 Q1, R.nB, hB.1, nI_add, xb_vn, mf_36_14 Q1, mwi_47 Q1 (show zB V < 60 by omega), mf_36_15 Q2, mf_36_13 Q2, n2, mwi_48 Q2 (show zB V < 60 by omega), mf_36_16 Q3, mf_36_13 Q3, n3, mwi_49 Q3 (show zB V < 60 by omega), mf_36_17 Q4, mf_36_13 Q4, n4, mwz_50 Q4 (show zB V < 60 by omega), mf_36_18 Q5, mf_36_13 Q5, n5, mwi_51 Q5 (show zB V < 60 by omega), mf_36_13 Q6, n6, mwf_36_13 Q6, r2, r3, r4, r5, r6, mf_36_13 Q7, n7, pk_sub (show 1 ≤ zB V + 1 by omega), Nat.add_sub_cancel]
          rw [if_pos (show (-1 : Int32) < 0 by decide), if_pos (fun z => by rw [nI_eq (by omega) (by omega)] at z; omega)]
        · subst hW hV1
          have hzz : nt (nI (zB V + 1)) = zB V + 1 := nt_nI (by omega)
          refine ⟨I.M, I.P, I.T, ?_, I.U, I.S, I.L, I.own, I.pnm, I.tpk, I.tnm, I.par, ?_, ?_, ?_, I.upk, I.usz, I.iwh, I.ssv, I.sty, I.lpr⟩
          · exact ⟨by show nI (zB V + 1) = nI (nt (nI (zB V + 1))); rw [hzz], by show nt (nI (zB V + 1)) ≤ 60; rw [hzz]; omega⟩
          · show ∀ p, p < nt (nI (zB V + 1)) → _
            rw [hzz]
            exact row_new (C := fun k => k < zT V) I.bty (by omega) ht
          · show ∀ p, p < nt (nI (zB V + 1)) → upd (V 21) (zB V) (xb op) p = xb (upd (V 21) (zB V) (xb op) p = nI 1)
            rw [hzz]
            intro r hr
            by_cases hrn : r = zB V
            · rw [hrn, pk_us]
              by_cases ho : op
              · rw [xb_t ho, xb_t rfl]
              · rw [xb_f ho, xb_f (show ¬ nI 0 = nI 1 by decide)]
            · rw [pk_un hrn]; exact I.bop r (by omega)
          · show ∀ p, p < nt (nI (zB V + 1)) → _
            rw [hzz]
            exact row_newO (C := fun p s => s < zT V) I.bgv (fun s hs => ⟨by have := hq s hs; omega, hq s hs⟩)
        · subst hW hV1
          have hzz : nt (nI (zB V + 1)) = zB V + 1 := nt_nI (by omega)
          refine ⟨R.nM, R.nP, R.nT, ?_, R.nU, R.nS, R.nL, R.r38, R.r39, R.r42, R.r43, R.r44, R.r45, R.r46, ?_, ?_, ?_, ?_, ?_, R.r52, R.r53, R.r54, R.r55, R.r56, R.r59, R.r60, R.r61, R.rq, R.e2, R.e3, R.e4, R.e5, R.ex, R.op, R.us, R.lh, R.lz, R.pm, R.z3, R.up, R.ut, ?_, R.kd, R.fl, R.us0, R.iu⟩
          · rfl
          · show upd (V 47) (zB V) (nI t) = upd (V 18) (zB V) (nI t)
            rw [R.r47]
          · show upd (V 48) (zB V) (nI x) = upd (V 19) (zB V) (nI x)
            rw [R.r48]
          · show upd (V 49) (zB V) kd = upd (V 20) (zB V) kd
            rw [R.r49]
          · show upd (V 50) (zB V) (xb op) = upd (V 21) (zB V) (xb op)
            rw [R.r50]
          · show upd (V 51) (zB V) (oI q) = upd (V 22) (zB V) (oI q)
            rw [R.r51]
          · show ∀ t u, t < nt (nI (zB V + 1)) → u < nt (nI (zB V + 1)) → _
            rw [hzz]
            exact uniq_new3 R.ub (fun p hp_ => hno p (by omega) (by omega))
        · subst hW hV1
          exact S.L0
        · subst hW hV1
          rfl
  · refine ⟨-2, hp, hp, ?_, ?_, S.s⟩
    · simp only [k133, s133_0, s133_1, s133_4, s133_5, s133_8, s133_11, s133_12, s133_15, s133_18, s133_20, s133_21, s133_22, s133_23, s133_26, s133_29, s133_30, s133_32, s133_35, s133_38, s133_40, Option.bind_some, Option.toList_some, Option.toList_none, List.cons_append, List.nil_append, xm_kl_n, xm_kl_i, xm_kl_a, xm_kl_j, xl_0, xm_low1, xm_low2, xm_low3, xm_low4, xl_n0, xl_n1, xb_nar, xe_if0, xe_ifn, xm_ci1, xm_ca1, pf_0_2 P, pcl_0 P, pcl_11 P, c_Types_holds P, c_isName, c_within, c_isTypeOrNone P]
      by_cases h1 : 0 ≤ a ∧ a < V 11 0
      · rw [if_pos h1]
        by_cases h2 : 0 ≤ b ∧ b < nI 31
        · rw [if_pos h2]
          by_cases h3 : 0 ≤ kd ∧ kd < nI 2
          · rw [if_pos h3, if_neg (fun z => hg ⟨h1, h2, h3, z⟩)]
          · rw [if_neg h3]
        · rw [if_neg h2]
      · rw [if_neg h1]
    · simp only [k122, s122_0, s122_1, s122_2, s122_5, s122_8, s122_9, s122_12, s122_15, s122_16, s122_17, s122_18, s122_21, s122_24, s122_26, s122_27, s122_30, s122_31, s122_33, s122_36, s122_39, s122_41, Option.bind_some, Option.toList_some, Option.toList_none, List.cons_append, List.nil_append, xm_kl_n, xm_kl_i, xm_kl_a, xm_kl_j, xl_0, xm_low1, xm_low2, xm_low3, xm_low4, xl_n0, xl_n1, xb_nar, xe_if0, xe_ifn, xm_ci1, xm_ca1, mcl_36 Q, m_isType Q I R, m_name, m_in]
      by_cases h1 : 0 ≤ a ∧ a < V 11 0
      · rw [if_pos h1]
        by_cases h2 : 0 ≤ b ∧ b < nI 31
        · rw [if_pos h2]
          by_cases h3 : 0 ≤ kd ∧ kd < nI 2
          · rw [if_pos ((in3 kd).mpr h3), if_neg (fun z => hg ⟨h1, h2, h3, Or.inl z⟩), if_neg (fun z => hg ⟨h1, h2, h3, Or.inr z⟩)]
          · rw [if_neg (fun z => h3 ((in3 kd).mp z))]
        · rw [if_neg h2]
      · rw [if_neg h1]
theorem sim_unit (S : Stb o n V J p1 p2 cap hp) (a : Int32) : Sim o n 111 129 [.int a] hp := by
  have P := S.P
  have I := S.I
  have R := S.R
  have hPz := I.P
  have hU := I.U
  have Q : Pm o hp.1 V hp := S.P.m (fun _ _ => rfl)
  by_cases ha : 0 ≤ a ∧ a < V 6 0
  · obtain ⟨p, hpp, rfl⟩ := rng ha hPz.1 (by omega)
    by_cases hz : zU V = 12
    · have h12 : V 23 0 = nI 12 := by rw [hU.1, hz]
      refine ⟨-4, hp, hp, ?_, ?_, S.s⟩
      · simp only [k111, s111_0, s111_1, s111_4, s111_5, s111_8, s111_11, s111_12, s111_15, s111_16, s111_19, s111_22, s111_24, Option.bind_some, Option.toList_some, Option.toList_none, List.cons_append, List.nil_append, xm_kl_n, xm_kl_i, xm_kl_a, xm_kl_j, xl_0, xm_low1, xm_low2, xm_low3, xm_low4, xl_n0, xl_n1, xb_nar, xe_if0, xe_ifn, xm_ci1, xm_ca1, pf_0_1 P, pf_0_4 P, pcl_6 P, pcl_23 P, c_Packs_holds P, c_Units_addF P h12]
        rw [if_pos ha]
      · simp only [k129, s129_0, s129_1, s129_2, s129_5, s129_8, s129_10, s129_11, s129_12, s129_15, s129_17, s129_20, s129_22, Option.bind_some, Option.toList_some, Option.toList_none, List.cons_append, List.nil_append, xm_kl_n, xm_kl_i, xm_kl_a, xm_kl_j, xl_0, xm_low1, xm_low2, xm_low3, xm_low4, xl_n0, xl_n1, xb_nar, xe_if0, xe_ifn, xm_ci1, xm_ca1, mcl_36 Q, m_isPack Q I R, mf_36_19 Q, R.nU, h12]
        rw [if_pos ha, if_neg (fun z => z trivial)]
    · obtain ⟨hp1, ea, P1, hs1⟩ := c_Units_add P hU.1 (show zU V < 12 by omega) (nI p)
      have Q1 : Pm o hp1.1 V hp1 := P1.m (pvh (by decide) (pvh (by decide) (fun _ _ => rfl)))
      have Q2 := Q1.w 52 (by decide) (by decide) (upd (V 52) (zU V) (nI p))
      have Q3 := Q2.w 36 (by decide) (by decide) (upd (V 36) 19 (nI (zU V + 1)))
      generalize hW : pv_row (pv_row V 52 (upd (V 52) (zU V) (nI p))) 36 (upd (V 36) 19 (nI (zU V + 1))) = W at Q3
      generalize hV1 : pv_row (pv_row V 24 (upd (V 24) (zU V) (nI p))) 23 (upd (V 23) 0 (nI (zU V + 1))) = V1 at P1
      refine ⟨nI (zU V), hp1, _, ?_, ?_, S.w P1 hs1 Q3 rfl ?_ ?_ ?_ ?_⟩
      · simp only [k111, s111_0, s111_1, s111_4, s111_5, s111_8, s111_11, s111_12, s111_15, s111_16, s111_19, s111_22, s111_24, Option.bind_some, Option.toList_some, Option.toList_none, List.cons_append, List.nil_append, xm_kl_n, xm_kl_i, xm_kl_a, xm_kl_j, xl_0, xm_low1, xm_low2, xm_low3, xm_low4, xl_n0, xl_n1, xb_nar, xe_if0, xe_ifn, xm_ci1, xm_ca1, pf_0_1 P, pf_0_4 P, pcl_6 P, pcl_23 P, c_Packs_holds P, ea]
        rw [if_pos ha]
      · have n2 : (pv_row V 52 (upd (V 52) (zU V) (nI p))) 36 19 = nI (zU V) := R.nU.trans hU.1
        have r2 : (pv_row V 52 (upd (V 52) (zU V) (nI p))) 36 = V 36 := rfl
        have n3 : W 36 19 = nI (zU V + 1) := by subst hW; rfl
        simp only [k129, s129_0, s129_1, s129_2, s129_5, s129_8, s129_10, s129_11, s129_12, s129_15, s129_17, s129_20, s129_22, s129_23, s129_24, s129_27, s129_28, s129_31, s129_32, s129_33, s129_34, s129_35, s129_38, s129_39, s129_40, s129_43, s129_44, s129_47, s129_48, s129_49, Option.bind_some, Option.toList_some, Option.toList_none, List.cons_append, List.nil_append, xm_kl_n, xm_kl_i, xm_kl_a, xm_kl_j, xl_0, xm_low1, xm_low2, xm_low3, xm_low4, xl_n0, xl_n1, xb_nar, xe_if0, xe_ifn, xm_ci1, xm_ca1, mcl_36 Q1, m_isPack Q1 I R, mf_36_19 Q1, R.nU, hU.1, nI_add, mf_36_20 Q1, mwi_52 Q1 (show zU V < 12 by omega), mf_36_19 Q2, n2, mwf_36_19 Q2, r2, mf_36_19 Q3, n3, pk_sub (show 1 ≤ zU V + 1 by omega), Nat.add_sub_cancel]
        rw [if_pos ha, if_pos (fun z => by rw [nI_eq (by omega) (by omega)] at z; omega)]
      · subst hW hV1
        have hzz : nt (nI (zU V + 1)) = zU V + 1 := nt_nI (by omega)
        have hn0 := R.us0 (zU V) (Nat.le_refl _) (by omega)
        have hf0 : fusz V (zU V) = 0 := by unfold fusz; rw [hn0]; rfl
        refine ⟨I.M, I.P, I.T, I.B, ?_, I.S, I.L, I.own, I.pnm, I.tpk, I.tnm, I.par, I.bty, I.bop, I.bgv, ?_, ?_, ?_, I.ssv, I.sty, I.lpr⟩
        · exact ⟨by show nI (zU V + 1) = nI (nt (nI (zU V + 1))); rw [hzz], by show nt (nI (zU V + 1)) ≤ 12; rw [hzz]; omega⟩
        · show ∀ p, p < nt (nI (zU V + 1)) → _
          rw [hzz]
          exact row_new (C := fun k => k < zP V) I.upk (by omega) hpp
        · show ∀ u, u < nt (nI (zU V + 1)) → V 25 u = nI (fusz V u) ∧ fusz V u ≤ 10
          rw [hzz]
          intro u hu
          by_cases hun : u = zU V
          · rw [hun, hf0]; exact ⟨hn0, by omega⟩
          · exact I.usz u (by omega)
        · show ∀ u k, u < nt (nI (zU V + 1)) → k < fusz V u → _
          rw [hzz]
          intro u k hu hk
          by_cases hun : u = zU V
          · rw [hun, hf0] at hk; omega
          · exact I.iwh u k (by omega) hk
      · subst hW hV1
        have hzz : nt (nI (zU V + 1)) = zU V + 1 := nt_nI (by omega)
        have hn0 := R.us0 (zU V) (Nat.le_refl _) (by omega)
        have hf0 : fusz V (zU V) = 0 := by unfold fusz; rw [hn0]; rfl
        refine ⟨R.nM, R.nP, R.nT, R.nB, ?_, R.nS, R.nL, R.r38, R.r39, R.r42, R.r43, R.r44, R.r45, R.r46, R.r47, R.r48, R.r49, R.r50, R.r51, ?_, R.r53, R.r54, R.r55, R.r56, R.r59, R.r60, R.r61, R.rq, R.e2, R.e3, R.e4, R.e5, R.ex, R.op, R.us, R.lh, R.lz, R.pm, R.z3, R.up, R.ut, R.ub, ?_, R.fl, ?_, ?_⟩
        · rfl
        · show upd (V 52) (zU V) (nI p) = upd (V 24) (zU V) (nI p)
          rw [R.r52]
        · show ∀ u k, u < nt (nI (zU V + 1)) → k < fusz V u → _
          rw [hzz]
          intro u k hu hk
          by_cases hun : u = zU V
          · rw [hun, hf0] at hk; omega
          · exact R.kd u k (by omega) hk
        · show ∀ u, nt (nI (zU V + 1)) ≤ u → u < 12 → V 25 u = nI 0
          rw [hzz]
          intro u hu h12
          exact R.us0 u (by omega) h12
        · show ∀ u k l, u < nt (nI (zU V + 1)) → k < fusz V u → l < fusz V u → _
          rw [hzz]
          intro u k l hu hk hl
          by_cases hun : u = zU V
          · rw [hun, hf0] at hk; omega
          · exact R.iu u k l (by omega) hk hl
      · subst hW hV1
        exact S.L0
      · subst hW hV1
        rfl
  · refine ⟨-2, hp, hp, ?_, ?_, S.s⟩
    · simp only [k111, s111_0, s111_1, s111_4, s111_5, s111_8, s111_22, s111_24, Option.bind_some, Option.toList_some, Option.toList_none, List.cons_append, List.nil_append, xm_kl_n, xm_kl_i, xm_kl_a, xm_kl_j, xl_0, xm_low1, xm_low2, xm_low3, xm_low4, xl_n0, xl_n1, xb_nar, xe_if0, xe_ifn, xm_ci1, xm_ca1, pf_0_1 P, pcl_6 P, c_Packs_holds P]
      rw [if_neg ha]
    · simp only [k129, s129_0, s129_1, s129_2, s129_5, s129_8, s129_10, Option.bind_some, Option.toList_some, Option.toList_none, List.cons_append, List.nil_append, xm_kl_n, xm_kl_i, xm_kl_a, xm_kl_j, xl_0, xm_low1, xm_low2, xm_low3, xm_low4, xl_n0, xl_n1, xb_nar, xe_if0, xe_ifn, xm_ci1, xm_ca1, mcl_36 Q, m_isPack Q I R]
      rw [if_neg ha]
end ADDT
