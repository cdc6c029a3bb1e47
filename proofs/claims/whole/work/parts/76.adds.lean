/-! module, pack, type, member, unit -/
theorem row_new {f : Nat → Int32} {n k : Nat} {C : Nat → Prop} (h : ∀ p, p < n → f p = nI (nt (f p)) ∧ C (nt (f p))) (hk : k < 2 ^ 31) (hc : C k) : ∀ p, p < n + 1 → upd f n (nI k) p = nI (nt (upd f n (nI k) p)) ∧ C (nt (upd f n (nI k) p)) := by
  intro p hp
  by_cases hpn : p = n
  · subst hpn; rw [pk_us, nt_nI hk]; exact ⟨rfl, hc⟩
  · rw [pk_un hpn]; exact h p (by omega)
theorem row_newO {f : Nat → Int32} {n : Nat} {q : Option Nat} {C : Nat → Nat → Prop} (h : ∀ p, p < n → f p = oI (rO (f p)) ∧ ∀ s, rO (f p) = some s → C p s) (hq : ∀ s, q = some s → s < 2 ^ 31 ∧ C n s) : ∀ p, p < n + 1 → upd f n (oI q) p = oI (rO (upd f n (oI q) p)) ∧ ∀ s, rO (upd f n (oI q) p) = some s → C p s := by
  intro p hp
  by_cases hpn : p = n
  · subst hpn; rw [pk_us, rO_oI (fun t ht => (hq t ht).1)]; exact ⟨rfl, fun s hs => (hq s hs).2⟩
  · rw [pk_un hpn]; exact h p (by omega)
theorem uniq_new {f g : Nat → Int32} {n : Nat} {x y : Int32} (h : ∀ p q, p < n → q < n → f p = f q → g p = g q → p = q) (hno : ∀ p, p < n → ¬ (f p = x ∧ g p = y)) : ∀ p q, p < n + 1 → q < n + 1 → upd f n x p = upd f n x q → upd g n y p = upd g n y q → p = q := by
  intro p q hp hq h1 h2
  by_cases hpn : p = n
  · by_cases hqn : q = n
    · rw [hpn, hqn]
    · subst hpn
      rw [pk_us, pk_un hqn] at h1 h2
      exact absurd ⟨h1.symm, h2.symm⟩ (hno q (by omega))
  · by_cases hqn : q = n
    · subst hqn
      rw [pk_us, pk_un hpn] at h1 h2
      exact absurd ⟨h1, h2⟩ (hno p (by omega))
    · rw [pk_un hpn, pk_un hqn] at h1 h2
      exact h p q (by omega) (by omega) h1 h2
theorem uniq_new3 {f g e : Nat → Int32} {n : Nat} {x y z : Int32} (h : ∀ p q, p < n → q < n → f p = f q → g p = g q → e p = e q → p = q) (hno : ∀ p, p < n → ¬ (f p = x ∧ g p = y ∧ e p = z)) : ∀ p q, p < n + 1 → q < n + 1 → upd f n x p = upd f n x q → upd g n y p = upd g n y q → upd e n z p = upd e n z q → p = q := by
  intro p q hp hq h1 h2 h3
  by_cases hpn : p = n
  · by_cases hqn : q = n
    · rw [hpn, hqn]
    · subst hpn
      rw [pk_us, pk_un hqn] at h1 h2 h3
      exact absurd ⟨h1.symm, h2.symm, h3.symm⟩ (hno q (by omega))
  · by_cases hqn : q = n
    · subst hqn
      rw [pk_us, pk_un hpn] at h1 h2 h3
      exact absurd ⟨h1, h2, h3⟩ (hno p (by omega))
    · rw [pk_un hpn, pk_un hqn] at h1 h2 h3
      exact h p q (by omega) (by omega) h1 h2 h3
section ADDS
variable {o n : Nat} {V : pc_V} {J : Nat → Int64} {p1 p2 cap : Nat} {hp hp' : xm_H} {F : Nat → Int32} {Ou : Nat → Option xm_E}
theorem sim_module (S : Stb o n V J p1 p2 cap hp) : Sim o n 82 43 [] hp := by
  have P := S.P
  have I := S.I
  have R := S.R
  have hM := I.M
  by_cases hz : zM V = 12
  · have h12 : V 1 0 = nI 12 := by rw [hM.1, hz]
    have Q : Pm o hp.1 V hp := S.P.m (fun _ _ => rfl)
    refine ⟨-4, hp, hp, ?_, ?_, S.s⟩
    · simp only [k82, s82_0, s82_1, s82_4, s82_7, Option.bind_some, Option.toList_some, Option.toList_none, List.cons_append, List.nil_append, xm_kl_n, xm_kl_i, xm_kl_a, xm_kl_j, xl_0, xm_low1, xm_low2, xm_low3, xm_low4, xl_n0, xl_n1, xb_nar, xe_if0, xe_ifn, xm_ci1, xm_ca1, pf_0_0 P, pcl_1 P, c_Modules_addF P h12]
    · simp only [k43, s43_0, s43_1, s43_4, s43_6, s43_9, s43_11, Option.bind_some, Option.toList_some, Option.toList_none, List.cons_append, List.nil_append, xm_kl_n, xm_kl_i, xm_kl_a, xm_kl_j, xl_0, xm_low1, xm_low2, xm_low3, xm_low4, xl_n0, xl_n1, xb_nar, xe_if0, xe_ifn, xm_ci1, xm_ca1, mf_36_0 Q, R.nM, h12]
      rw [if_neg (fun z => z trivial)]
  · obtain ⟨hp1, ea, P1, hs1⟩ := c_Modules_add P hM.1 (show zM V < 12 by omega)
    have Q1 : Pm o hp1.1 V hp1 := P1.m (pvh (by decide) (fun _ _ => rfl))
    have Q2 := Q1.w 36 (by decide) (by decide) (upd (V 36) 0 (nI (zM V + 1)))
    refine ⟨nI (zM V), hp1, _, ?_, ?_, S.w P1 hs1 Q2 rfl ?_ ?_ ?_ ?_⟩
    · simp only [k82, s82_0, s82_1, s82_4, s82_7, Option.bind_some, Option.toList_some, Option.toList_none, List.cons_append, List.nil_append, xm_kl_n, xm_kl_i, xm_kl_a, xm_kl_j, xl_0, xm_low1, xm_low2, xm_low3, xm_low4, xl_n0, xl_n1, xb_nar, xe_if0, xe_ifn, xm_ci1, xm_ca1, pf_0_0 P, pcl_1 P, ea]
    · have n2 : (pv_row V 36 (upd (V 36) 0 (nI (zM V + 1)))) 36 0 = nI (zM V + 1) := rfl
      simp only [k43, s43_0, s43_1, s43_4, s43_6, s43_9, s43_11, s43_12, s43_13, s43_14, s43_17, s43_18, s43_19, s43_22, s43_23, s43_26, s43_27, s43_28, Option.bind_some, Option.toList_some, Option.toList_none, List.cons_append, List.nil_append, xm_kl_n, xm_kl_i, xm_kl_a, xm_kl_j, xl_0, xm_low1, xm_low2, xm_low3, xm_low4, xl_n0, xl_n1, xb_nar, xe_if0, xe_ifn, xm_ci1, xm_ca1, mf_36_0 Q1, R.nM, hM.1, nI_add, mwf_36_0 Q1, mf_36_0 Q2, n2, pk_sub (show 1 ≤ zM V + 1 by omega), Nat.add_sub_cancel]
      rw [if_pos (fun z => by rw [nI_eq (by omega) (by omega)] at z; omega)]
    · have hzz : zM (mix (pv_row V 1 (upd (V 1) 0 (nI (zM V + 1)))) (pv_row V 36 (upd (V 36) 0 (nI (zM V + 1))))) = zM V + 1 := nt_nI (show zM V + 1 < 2 ^ 31 by omega)
      refine ⟨?_, I.P, I.T, I.B, I.U, I.S, I.L, ?_, I.pnm, I.tpk, I.tnm, I.par, I.bty, I.bop, I.bgv, I.upk, I.usz, I.iwh, I.ssv, I.sty, I.lpr⟩
      · exact ⟨by rw [hzz]; rfl, by rw [hzz]; omega⟩
      · intro p hp_
        have := I.own p hp_
        exact ⟨this.1, by rw [hzz]; exact Nat.lt_succ_of_lt this.2⟩
    · have hzz : zM (mix (pv_row V 1 (upd (V 1) 0 (nI (zM V + 1)))) (pv_row V 36 (upd (V 36) 0 (nI (zM V + 1))))) = zM V + 1 := nt_nI (show zM V + 1 < 2 ^ 31 by omega)
      refine ⟨?_, R.nP, R.nT, R.nB, R.nU, R.nS, R.nL, R.r38, R.r39, R.r42, R.r43, R.r44, R.r45, R.r46, R.r47, R.r48, R.r49, R.r50, R.r51, R.r52, R.r53, R.r54, R.r55, R.r56, R.r59, R.r60, R.r61, ?_, R.e2, R.e3, R.e4, R.e5, R.ex, R.op, R.us, R.lh, R.lz, R.pm, R.z3, R.up, R.ut, R.ub, R.kd, R.fl, R.us0, R.iu⟩
      · rfl
      · intro m p h1 h2
        have h := R.rq m p h1 h2
        refine ⟨h.1, h.2.1, fun z => ?_⟩
        rw [hzz]
        have := h.2.2 z
        omega
    · exact S.L0
    · rfl
theorem sim_pack (S : Stb o n V J p1 p2 cap hp) (a b : Int32) : Sim o n 108 120 [.int a, .int b] hp := by
  have P := S.P
  have I := S.I
  have R := S.R
  have hM := I.M
  have hPz := I.P
  have Q : Pm o hp.1 V hp := S.P.m (fun _ _ => rfl)
  by_cases ha : 0 ≤ a ∧ a < V 1 0
  · by_cases hb : 0 ≤ b ∧ b < nI 31
    · obtain ⟨m, hm, rfl⟩ := rng ha hM.1 (by omega)
      obtain ⟨x, hx, rfl⟩ := rng hb rfl (by omega)
      cases hf : xfo (fun p => V 7 p = nI m ∧ V 8 p = nI x) 0 (zP V) with
      | some p =>
        have hpl := xfo_lt hf
        refine ⟨-3, hp, hp, ?_, ?_, S.s⟩
        · simp only [k108, s108_0, s108_1, s108_4, s108_5, s108_8, s108_11, s108_12, s108_15, s108_18, s108_20, s108_21, s108_22, s108_25, s108_26, s108_27, s108_30, s108_31, s108_34, s108_36, Option.bind_some, Option.toList_some, Option.toList_none, List.cons_append, List.nil_append, xm_kl_n, xm_kl_i, xm_kl_a, xm_kl_j, xl_0, xm_low1, xm_low2, xm_low3, xm_low4, xl_n0, xl_n1, xb_nar, xe_if0, xe_ifn, xm_ci1, xm_ca1, pf_0_0 P, pf_0_1 P, pcl_1 P, pcl_6 P, c_Modules_holds P, c_isName, c_Packs_find P hPz.1 hPz.2, hf, oI_s]
          rw [if_pos ha, if_pos hb, if_neg (nI_m1 (by omega))]
        · simp only [k120, s120_0, s120_1, s120_2, s120_5, s120_8, s120_9, s120_12, s120_15, s120_17, s120_18, s120_19, s120_20, s120_21, s120_24, s120_27, s120_29, Option.bind_some, Option.toList_some, Option.toList_none, List.cons_append, List.nil_append, xm_kl_n, xm_kl_i, xm_kl_a, xm_kl_j, xl_0, xm_low1, xm_low2, xm_low3, xm_low4, xl_n0, xl_n1, xb_nar, xe_if0, xe_ifn, xm_ci1, xm_ca1, mcl_36 Q, m_isModule Q I R, m_name, m_packOf Q I R, hf, oI_s]
          rw [if_pos ha, if_pos hb, if_neg (nI_pos (by omega))]
      | none =>
        have hno := (xfo_none _ _ _).mp hf
        by_cases hz : zP V = 30
        · have h30 : V 6 0 = nI 30 := by rw [hPz.1, hz]
          refine ⟨-4, hp, hp, ?_, ?_, S.s⟩
          · simp only [k108, s108_0, s108_1, s108_4, s108_5, s108_8, s108_11, s108_12, s108_15, s108_18, s108_20, s108_21, s108_22, s108_25, s108_26, s108_27, s108_30, s108_31, s108_34, s108_36, s108_37, s108_38, s108_41, s108_42, s108_43, s108_46, Option.bind_some, Option.toList_some, Option.toList_none, List.cons_append, List.nil_append, xm_kl_n, xm_kl_i, xm_kl_a, xm_kl_j, xl_0, xm_low1, xm_low2, xm_low3, xm_low4, xl_n0, xl_n1, xb_nar, xe_if0, xe_ifn, xm_ci1, xm_ca1, pf_0_0 P, pf_0_1 P, pcl_1 P, pcl_6 P, c_Modules_holds P, c_isName, c_Packs_find P hPz.1 hPz.2, hf, oI_n, c_Packs_addF P h30]
            rw [if_pos ha, if_pos hb, if_pos trivial]
          · simp only [k120, s120_0, s120_1, s120_2, s120_5, s120_8, s120_9, s120_12, s120_15, s120_17, s120_18, s120_19, s120_20, s120_21, s120_24, s120_27, s120_29, s120_30, s120_31, s120_34, s120_36, s120_39, s120_41, Option.bind_some, Option.toList_some, Option.toList_none, List.cons_append, List.nil_append, xm_kl_n, xm_kl_i, xm_kl_a, xm_kl_j, xl_0, xm_low1, xm_low2, xm_low3, xm_low4, xl_n0, xl_n1, xb_nar, xe_if0, xe_ifn, xm_ci1, xm_ca1, mcl_36 Q, m_isModule Q I R, m_name, m_packOf Q I R, hf, oI_n, mf_36_2 Q, R.nP, h30]
            rw [if_pos ha, if_pos hb, if_pos (show (-1 : Int32) < 0 by decide), if_neg (fun z => z trivial)]
        · obtain ⟨hp1, ea, P1, hs1⟩ := c_Packs_add P hPz.1 (show zP V < 30 by omega) (nI m) (nI x)
          have Q1 : Pm o hp1.1 V hp1 := P1.m (pvh (by decide) (pvh (by decide) (pvh (by decide) (fun _ _ => rfl))))
          have Q2 := Q1.w 38 (by decide) (by decide) (upd (V 38) (zP V) (nI m))
          have Q3 := Q2.w 39 (by decide) (by decide) (upd (V 39) (zP V) (nI x))
          have Q4 := Q3.w 36 (by decide) (by decide) (upd (V 36) 2 (nI (zP V + 1)))
          generalize hW : pv_row (pv_row (pv_row V 38 (upd (V 38) (zP V) (nI m))) 39 (upd (V 39) (zP V) (nI x))) 36 (upd (V 36) 2 (nI (zP V + 1))) = W at Q4
          generalize hV1 : pv_row (pv_row (pv_row V 7 (upd (V 7) (zP V) (nI m))) 8 (upd (V 8) (zP V) (nI x))) 6 (upd (V 6) 0 (nI (zP V + 1))) = V1 at P1
          refine ⟨nI (zP V), hp1, _, ?_, ?_, S.w P1 hs1 Q4 rfl ?_ ?_ ?_ ?_⟩
          · simp only [k108, s108_0, s108_1, s108_4, s108_5, s108_8, s108_11, s108_12, s108_15, s108_18, s108_20, s108_21, s108_22, s108_25, s108_26, s108_27, s108_30, s108_31, s108_34, s108_36, s108_37, s108_38, s108_41, s108_42, s108_43, s108_46, Option.bind_some, Option.toList_some, Option.toList_none, List.cons_append, List.nil_append, xm_kl_n, xm_kl_i, xm_kl_a, xm_kl_j, xl_0, xm_low1, xm_low2, xm_low3, xm_low4, xl_n0, xl_n1, xb_nar, xe_if0, xe_ifn, xm_ci1, xm_ca1, pf_0_0 P, pf_0_1 P, pcl_1 P, pcl_6 P, c_Modules_holds P, c_isName, c_Packs_find P hPz.1 hPz.2, hf, oI_n, ea]
            rw [if_pos ha, if_pos hb, if_pos trivial]
          · have n2 : (pv_row V 38 (upd (V 38) (zP V) (nI m))) 36 2 = nI (zP V) := R.nP.trans hPz.1
            have n3 : (pv_row (pv_row V 38 (upd (V 38) (zP V) (nI m))) 39 (upd (V 39) (zP V) (nI x))) 36 2 = nI (zP V) := R.nP.trans hPz.1
            have n4 : W 36 2 = nI (zP V + 1) := by subst hW; rfl
            have r3 : (pv_row V 38 (upd (V 38) (zP V) (nI m))) 39 = V 39 := rfl
            have r4 : (pv_row (pv_row V 38 (upd (V 38) (zP V) (nI m))) 39 (upd (V 39) (zP V) (nI x))) 36 = V 36 := rfl
            simp only [k120, s120_0, s120_1, s120_2, s120_5, s120_8, s120_9, s120_12, s120_15, s120_17, s120_18, s120_19, s120_20, s120_21, s120_24, s120_27, s120_29, s120_30, s120_31, s120_34, s120_36, s120_39, s120_41, s120_42, s120_43, s120_46, s120_47, s120_50, s120_51, s120_52, s120_53, s120_56, s120_57, s120_60, s120_61, s120_62, s120_63, s120_64, s120_67, s120_68, s120_69, s120_72, s120_73, s120_76, s120_77, s120_78, Option.bind_some, Option.toList_some, Option.toList_none, List.cons_append, List.nil_append, xm_kl_n, xm_kl_i, xm_kl_a, xm_kl_j, xl_0, xm_low1, xm_low2, xm_low3, xm_low4, xl_n0, xl_n1, xb_nar, xe_if0, xe_ifn, xm_ci1, xm_ca1, mcl_36 Q1, m_isModule Q1 I R, m_name, m_packOf Q1 I R, hf, oI_n, mf_36_2 Q1, R.nP, hPz.1, nI_add, mf_36_3 Q1, mwi_38 Q1 (show zP V < 30 by omega), mf_36_4 Q2, mf_36_2 Q2, n2, mwi_39 Q2 (show zP V < 30 by omega), mf_36_2 Q3, n3, mwf_36_2 Q3, r3, r4, mf_36_2 Q4, n4, pk_sub (show 1 ≤ zP V + 1 by omega), Nat.add_sub_cancel]
            rw [if_pos ha, if_pos hb, if_pos (show (-1 : Int32) < 0 by decide), if_pos (fun z => by rw [nI_eq (by omega) (by omega)] at z; omega)]
          · subst hW hV1
            have hzz : nt (nI (zP V + 1)) = zP V + 1 := nt_nI (by omega)
            refine ⟨I.M, ?_, I.T, I.B, I.U, I.S, I.L, ?_, ?_, ?_, I.tnm, I.par, I.bty, I.bop, I.bgv, ?_, I.usz, I.iwh, I.ssv, I.sty, I.lpr⟩
            · exact ⟨by show nI (zP V + 1) = nI (nt (nI (zP V + 1))); rw [hzz], by show nt (nI (zP V + 1)) ≤ 30; rw [hzz]; omega⟩
            · show ∀ p, p < nt (nI (zP V + 1)) → _
              rw [hzz]
              exact row_new (C := fun k => k < zM V) I.own (by omega) hm
            · show ∀ p, p < nt (nI (zP V + 1)) → _
              rw [hzz]
              exact row_new (C := fun k => k ≤ 30) I.pnm (by omega) (by omega)
            · intro t ht
              have := I.tpk t ht
              refine ⟨this.1, ?_⟩
              show ftpk V t < nt (nI (zP V + 1))
              rw [hzz]; exact Nat.lt_succ_of_lt this.2
            · intro t ht
              have := I.upk t ht
              refine ⟨this.1, ?_⟩
              show fupk V t < nt (nI (zP V + 1))
              rw [hzz]; exact Nat.lt_succ_of_lt this.2
          · subst hW hV1
            have hzz : nt (nI (zP V + 1)) = zP V + 1 := nt_nI (by omega)
            refine ⟨R.nM, ?_, R.nT, R.nB, R.nU, R.nS, R.nL, ?_, ?_, R.r42, R.r43, R.r44, R.r45, R.r46, R.r47, R.r48, R.r49, R.r50, R.r51, R.r52, R.r53, R.r54, R.r55, R.r56, R.r59, R.r60, R.r61, R.rq, R.e2, R.e3, R.e4, R.e5, R.ex, R.op, R.us, R.lh, R.lz, ?_, R.z3, ?_, R.ut, R.ub, R.kd, R.fl, R.us0, R.iu⟩
            · rfl
            · show upd (V 38) (zP V) (nI m) = upd (V 7) (zP V) (nI m)
              rw [R.r38]
            · show upd (V 39) (zP V) (nI x) = upd (V 8) (zP V) (nI x)
              rw [R.r39]
            · intro k hk
              have h1 := (I.tpk _ (I.sty k hk).2).2
              show V 58 k = upd (V 7) (zP V) (nI m) (ftpk V (fsty V k))
              rw [pk_un (by omega)]
              exact R.pm k hk
            · show ∀ p q, p < nt (nI (zP V + 1)) → q < nt (nI (zP V + 1)) → _
              rw [hzz]
              exact uniq_new R.up (fun p hp_ => hno p (by omega) (by omega))
          · subst hW hV1
            exact S.L0
          · subst hW hV1
            rfl
    · refine ⟨-2, hp, hp, ?_, ?_, S.s⟩
      · simp only [k108, s108_0, s108_1, s108_4, s108_5, s108_8, s108_11, s108_12, s108_15, s108_18, s108_20, Option.bind_some, Option.toList_some, Option.toList_none, List.cons_append, List.nil_append, xm_kl_n, xm_kl_i, xm_kl_a, xm_kl_j, xl_0, xm_low1, xm_low2, xm_low3, xm_low4, xl_n0, xl_n1, xb_nar, xe_if0, xe_ifn, xm_ci1, xm_ca1, pf_0_0 P, pcl_1 P, c_Modules_holds P, c_isName]
        rw [if_pos ha, if_neg hb]
      · simp only [k120, s120_0, s120_1, s120_2, s120_5, s120_8, s120_9, s120_12, s120_15, s120_17, Option.bind_some, Option.toList_some, Option.toList_none, List.cons_append, List.nil_append, xm_kl_n, xm_kl_i, xm_kl_a, xm_kl_j, xl_0, xm_low1, xm_low2, xm_low3, xm_low4, xl_n0, xl_n1, xb_nar, xe_if0, xe_ifn, xm_ci1, xm_ca1, mcl_36 Q, m_isModule Q I R, m_name]
        rw [if_pos ha, if_neg hb]
  · refine ⟨-2, hp, hp, ?_, ?_, S.s⟩
    · simp only [k108, s108_0, s108_1, s108_4, s108_5, s108_8, s108_11, s108_12, s108_15, s108_18, s108_20, Option.bind_some, Option.toList_some, Option.toList_none, List.cons_append, List.nil_append, xm_kl_n, xm_kl_i, xm_kl_a, xm_kl_j, xl_0, xm_low1, xm_low2, xm_low3, xm_low4, xl_n0, xl_n1, xb_nar, xe_if0, xe_ifn, xm_ci1, xm_ca1, pf_0_0 P, pcl_1 P, c_Modules_holds P, c_isName]
      rw [if_neg ha]
    · simp only [k120, s120_0, s120_1, s120_2, s120_5, s120_8, s120_9, s120_12, s120_15, s120_17, Option.bind_some, Option.toList_some, Option.toList_none, List.cons_append, List.nil_append, xm_kl_n, xm_kl_i, xm_kl_a, xm_kl_j, xl_0, xm_low1, xm_low2, xm_low3, xm_low4, xl_n0, xl_n1, xb_nar, xe_if0, xe_ifn, xm_ci1, xm_ca1, mcl_36 Q, m_isModule Q I R, m_name]
      rw [if_neg ha]
end ADDS
