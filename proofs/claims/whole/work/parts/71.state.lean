/-! the state between two calls -/
def mix (V W : pc_V) : pc_V := fun k => if k < 36 then V k else W k
theorem mix_lo (V W : pc_V) : ∀ k, k < 36 → mix V W k = V k := fun _ h => if_pos h
theorem mix_hi (V W : pc_V) : ∀ k, 36 ≤ k → mix V W k = W k := fun _ h => if_neg (by omega)
theorem pvh {V W : pc_V} {c : Nat} {f : Nat → Int32} (hc : c < 36) (h : ∀ k, 36 ≤ k → W k = V k) : ∀ k, 36 ≤ k → W k = pv_row V c f k := fun k hk => (h k hk).trans (pv_ne V f (by omega)).symm
def Rl0 (V : pc_V) : Prop := ∀ l m, zL V ≤ l → l < 4 → m < 12 → V 62 (12 * l + m) = nI 0
def Stb (o n : Nat) (V : pc_V) (J : Nat → Int64) (p1 p2 cap : Nat) (hp : xm_H) : Prop := Pic o V J p1 p2 cap hp ∧ CInv V cap ∧ Rel V J ∧ Rl0 V ∧ zS V ≤ n ∧ (16 ≤ cap ∧ cap ≤ 16 + 2 * zS V) ∧ hp.2.1 ≤ o + 64 + 2 * n ∧ hp.2.2 ≤ 10000 + 4160 * n
def Sta (o n : Nat) (hp : xm_H) : Prop := ∃ V J p1 p2 cap, Stb o n V J p1 p2 cap hp
/-- class and reference answer alike, and the state is kept -/
def Sim (o n jx jm : Nat) (as : List Value) (hp : xm_H) : Prop := ∃ r hp1 hp2, xm_call jx (.ref o :: as) hp = some (some (.int r), hp1) ∧ xm_call jm (.ref (o + 36) :: as) hp1 = some (some (.int r), hp2) ∧ Sta o (n + 1) hp2
theorem rng {v w : Int32} {n : Nat} (h : 0 ≤ v ∧ v < w) (hw : w = nI n) (hn : n < 2 ^ 31) : ∃ m, m < n ∧ v = nI m := by
  obtain ⟨j, hj, rfl⟩ := nI_of (Int32.not_lt.mpr h.1)
  rw [hw, nI_ltI hj hn] at h
  exact ⟨j, h.2, rfl⟩
section STATE
variable {o n : Nat} {V : pc_V} {J : Nat → Int64} {p1 p2 cap : Nat} {hp hp' : xm_H} {F : Nat → Int32} {Ou : Nat → Option xm_E}
theorem Stb.P (S : Stb o n V J p1 p2 cap hp) : Pic o V J p1 p2 cap hp := S.1
theorem Stb.I (S : Stb o n V J p1 p2 cap hp) : CInv V cap := S.2.1
theorem Stb.R (S : Stb o n V J p1 p2 cap hp) : Rel V J := S.2.2.1
theorem Stb.L0 (S : Stb o n V J p1 p2 cap hp) : Rl0 V := S.2.2.2.1
theorem Stb.z (S : Stb o n V J p1 p2 cap hp) : zS V ≤ n := S.2.2.2.2.1
theorem Stb.c (S : Stb o n V J p1 p2 cap hp) : 16 ≤ cap ∧ cap ≤ 16 + 2 * zS V := S.2.2.2.2.2.1
theorem Stb.h (S : Stb o n V J p1 p2 cap hp) : hp.2.1 ≤ o + 64 + 2 * n ∧ hp.2.2 ≤ 10000 + 4160 * n := S.2.2.2.2.2.2
theorem Stb.Q (S : Stb o n V J p1 p2 cap hp) : Pm o hp.1 (pv_row V 63 (V 63)) hp := (S.P.m (fun _ _ => rfl)).s63
theorem Stb.s (S : Stb o n V J p1 p2 cap hp) : Sta o (n + 1) hp := by
  have h := S.h
  have z := S.z
  exact ⟨V, J, p1, p2, cap, S.P, S.I, S.R, S.L0, by omega, S.c, by omega, by omega⟩
/-- only the scratch row has changed -/
theorem Stb.q (S : Stb o n V J p1 p2 cap hp) (P' : Pm o hp.1 (pv_row V 63 F) hp') (hs : hp'.2 = hp.2) : Sta o (n + 1) hp' := by
  have h := S.h
  have z := S.z
  refine ⟨pv_row V 63 F, J, p1, p2, cap, Pm.pic S.P P' hs (fun k hk => pv_ne V F (by omega)) (fun _ _ => rfl), S.I.c63 F, S.R.c63 F, S.L0, ?_, S.c, by rw [hs]; omega, by rw [hs]; omega⟩
  show zS V ≤ n + 1
  omega
/-- class rows and the reference's rows have changed; no cell has come -/
theorem Stb.w {V1 W : pc_V} {J1 : Nat → Int64} {hp1 : xm_H} (S : Stb o n V J p1 p2 cap hp) (P1 : Pic o V1 J1 p1 p2 cap hp1) (h1 : hp1.2 = hp.2) (P' : Pm o hp1.1 W hp') (h2 : hp'.2 = hp1.2) (hI : CInv (mix V1 W) cap) (hR : Rel (mix V1 W) J1) (hL : Rl0 (mix V1 W)) (hz : zS (mix V1 W) = zS V) : Sta o (n + 1) hp' := by
  have h := S.h
  have z := S.z
  have c := S.c
  refine ⟨mix V1 W, J1, p1, p2, cap, Pm.pic P1 P' h2 (mix_lo V1 W) (mix_hi V1 W), hI, hR, hL, by rw [hz]; omega, by rw [hz]; exact c, by rw [h2, h1]; omega, by rw [h2, h1]; omega⟩
theorem n_isModule (P : Pm o Ou (pv_row V 63 F) hp) (I : CInv V cap) (R : Rel V J) (v : Int32) : xm_call 91 [.ref (o + 36), .int v] hp = some (some (.int (xb (0 ≤ v ∧ v < V 1 0))), hp) := m_isModule P (I.c63 F) (R.c63 F) v
theorem n_isPack (P : Pm o Ou (pv_row V 63 F) hp) (I : CInv V cap) (R : Rel V J) (v : Int32) : xm_call 92 [.ref (o + 36), .int v] hp = some (some (.int (xb (0 ≤ v ∧ v < V 6 0))), hp) := m_isPack P (I.c63 F) (R.c63 F) v
theorem n_isType (P : Pm o Ou (pv_row V 63 F) hp) (I : CInv V cap) (R : Rel V J) (v : Int32) : xm_call 93 [.ref (o + 36), .int v] hp = some (some (.int (xb (0 ≤ v ∧ v < V 11 0))), hp) := m_isType P (I.c63 F) (R.c63 F) v
theorem n_isUnit (P : Pm o Ou (pv_row V 63 F) hp) (I : CInv V cap) (R : Rel V J) (v : Int32) : xm_call 94 [.ref (o + 36), .int v] hp = some (some (.int (xb (0 ≤ v ∧ v < V 23 0))), hp) := m_isUnit P (I.c63 F) (R.c63 F) v
theorem n_isLayer (P : Pm o Ou (pv_row V 63 F) hp) (I : CInv V cap) (R : Rel V J) (v : Int32) : xm_call 100 [.ref (o + 36), .int v] hp = some (some (.int (xb (0 ≤ v ∧ v < V 33 0))), hp) := m_isLayer P (I.c63 F) (R.c63 F) v
theorem c_asA1 : xm_call 40 [.int (nI 1)] hp = some (some (.int (nI 1)), hp) := by
  have := c_asAnswer (hp := hp) True
  rwa [xb_t trivial] at this
theorem c_asA0 : xm_call 40 [.int (nI 0)] hp = some (some (.int (nI 0)), hp) := by
  have := c_asAnswer (hp := hp) False
  rwa [xb_f id] at this
theorem sim_reads (S : Stb o n V J p1 p2 cap hp) (a b : Int32) (c : Prop) : Sim o n 135 143 [.int a, .int b, .int (xb c)] hp := by
  have P := S.P
  have I := S.I
  have R := S.R
  have Q := S.Q
  have hM := I.M
  by_cases ha : 0 ≤ a ∧ a < V 1 0
  · by_cases hb : 0 ≤ b ∧ b < V 1 0
    · obtain ⟨m, hm, rfl⟩ := rng ha hM.1 (by omega)
      obtain ⟨k, hk, rfl⟩ := rng hb hM.1 (by omega)
      obtain ⟨F', hp', er, P', hs, hF⟩ := m_read I R hm c Q
      refine ⟨xb (tb (xrd V m c) k), hp, hp', ?_, ?_, S.q P' hs⟩
      · simp only [k135, s135_0, s135_1, s135_4, s135_5, s135_8, s135_11, s135_12, s135_15, s135_16, s135_19, s135_22, s135_24, s135_25, s135_26, s135_29, s135_30, s135_31, s135_34, s135_35, s135_38, s135_41, Option.bind_some, Option.toList_some, Option.toList_none, List.cons_append, List.nil_append, xm_kl_n, xm_kl_i, xm_kl_a, xm_kl_j, xl_0, xm_low1, xm_low2, xm_low3, xm_low4, xl_n0, xl_n1, xb_nar, xe_if0, xe_ifn, xm_ci1, xm_ca1, pf_0_0 P, pcl_1 P, c_Modules_holds P, c_readBy P I hm, c_hasBit, c_asAnswer]
        rw [if_pos ha, if_pos hb]
        rfl
      · simp only [k143, s143_0, s143_1, s143_2, s143_5, s143_8, s143_9, s143_10, s143_13, s143_16, s143_18, s143_19, s143_20, s143_21, s143_22, s143_25, s143_26, s143_29, s143_30, s143_31, s143_34, s143_35, s143_38, s143_39, Option.bind_some, Option.toList_some, Option.toList_none, List.cons_append, List.nil_append, xm_kl_n, xm_kl_i, xm_kl_a, xm_kl_j, xl_0, xm_low1, xm_low2, xm_low3, xm_low4, xl_n0, xl_n1, xb_nar, xe_if0, xe_ifn, xm_ci1, xm_ca1, mcl_36 Q, n_isModule Q I R, er, mf_36_33 P', maz_63 P' (show k < 12 by omega), pv63_63, hF k (by omega)]
        rw [if_pos ha, if_pos hb, xe_10, xb_cg (rd_iff I R hm c (by omega))]
    · refine ⟨-2, hp, hp, ?_, ?_, S.s⟩
      · simp only [k135, s135_0, s135_1, s135_4, s135_5, s135_8, s135_11, s135_12, s135_15, s135_16, s135_19, s135_22, s135_24, Option.bind_some, Option.toList_some, Option.toList_none, List.cons_append, List.nil_append, xm_kl_n, xm_kl_i, xm_kl_a, xm_kl_j, xl_0, xm_low1, xm_low2, xm_low3, xm_low4, xl_n0, xl_n1, xb_nar, xe_if0, xe_ifn, xm_ci1, xm_ca1, pf_0_0 P, pcl_1 P, c_Modules_holds P]
        rw [if_pos ha, if_neg hb]
      · simp only [k143, s143_0, s143_1, s143_2, s143_5, s143_8, s143_9, s143_10, s143_13, s143_16, s143_18, Option.bind_some, Option.toList_some, Option.toList_none, List.cons_append, List.nil_append, xm_kl_n, xm_kl_i, xm_kl_a, xm_kl_j, xl_0, xm_low1, xm_low2, xm_low3, xm_low4, xl_n0, xl_n1, xb_nar, xe_if0, xe_ifn, xm_ci1, xm_ca1, mcl_36 Q, n_isModule Q I R]
        rw [if_pos ha, if_neg hb]
  · refine ⟨-2, hp, hp, ?_, ?_, S.s⟩
    · simp only [k135, s135_0, s135_1, s135_4, s135_5, s135_8, s135_11, s135_12, s135_15, s135_16, s135_19, s135_22, s135_24, Option.bind_some, Option.toList_some, Option.toList_none, List.cons_append, List.nil_append, xm_kl_n, xm_kl_i, xm_kl_a, xm_kl_j, xl_0, xm_low1, xm_low2, xm_low3, xm_low4, xl_n0, xl_n1, xb_nar, xe_if0, xe_ifn, xm_ci1, xm_ca1, pf_0_0 P, pcl_1 P, c_Modules_holds P]
      rw [if_neg ha]
    · simp only [k143, s143_0, s143_1, s143_2, s143_5, s143_8, s143_9, s143_10, s143_13, s143_16, s143_18, Option.bind_some, Option.toList_some, Option.toList_none, List.cons_append, List.nil_append, xm_kl_n, xm_kl_i, xm_kl_a, xm_kl_j, xl_0, xm_low1, xm_low2, xm_low3, xm_low4, xl_n0, xl_n1, xb_nar, xe_if0, xe_ifn, xm_ci1, xm_ca1, mcl_36 Q, n_isModule Q I R]
      rw [if_neg ha]
theorem sim_split (S : Stb o n V J p1 p2 cap hp) (a : Int32) : Sim o n 155 163 [.int a] hp := by
  have P := S.P
  have I := S.I
  have R := S.R
  have Q := S.Q
  have hM := I.M
  by_cases ha : 0 ≤ a ∧ a < V 1 0
  · obtain ⟨m, hm, rfl⟩ := rng ha hM.1 (by omega)
    obtain ⟨F', hp', er, P', hs⟩ := m_splitOf I R hm Q
    refine ⟨oI (spl V m), hp, hp', ?_, ?_, S.q P' hs⟩
    · simp only [k155, s155_0, s155_1, s155_4, s155_5, s155_8, s155_11, s155_12, s155_13, s155_16, s155_19, s155_21, Option.bind_some, Option.toList_some, Option.toList_none, List.cons_append, List.nil_append, xm_kl_n, xm_kl_i, xm_kl_a, xm_kl_j, xl_0, xm_low1, xm_low2, xm_low3, xm_low4, xl_n0, xl_n1, xb_nar, xe_if0, xe_ifn, xm_ci1, xm_ca1, pf_0_0 P, pcl_0 P, pcl_1 P, c_Modules_holds P, c_leastSplitName P I hm]
      rw [if_pos ha]
    · simp only [k163, s163_0, s163_1, s163_2, s163_5, s163_8, s163_9, s163_10, s163_13, s163_16, s163_18, Option.bind_some, Option.toList_some, Option.toList_none, List.cons_append, List.nil_append, xm_kl_n, xm_kl_i, xm_kl_a, xm_kl_j, xl_0, xm_low1, xm_low2, xm_low3, xm_low4, xl_n0, xl_n1, xb_nar, xe_if0, xe_ifn, xm_ci1, xm_ca1, mcl_36 Q, n_isModule Q I R, er]
      rw [if_pos ha]
  · refine ⟨-2, hp, hp, ?_, ?_, S.s⟩
    · simp only [k155, s155_0, s155_1, s155_4, s155_5, s155_8, s155_19, s155_21, Option.bind_some, Option.toList_some, Option.toList_none, List.cons_append, List.nil_append, xm_kl_n, xm_kl_i, xm_kl_a, xm_kl_j, xl_0, xm_low1, xm_low2, xm_low3, xm_low4, xl_n0, xl_n1, xb_nar, xe_if0, xe_ifn, xm_ci1, xm_ca1, pf_0_0 P, pcl_1 P, c_Modules_holds P]
      rw [if_neg ha]
    · simp only [k163, s163_0, s163_1, s163_2, s163_5, s163_16, s163_18, Option.bind_some, Option.toList_some, Option.toList_none, List.cons_append, List.nil_append, xm_kl_n, xm_kl_i, xm_kl_a, xm_kl_j, xl_0, xm_low1, xm_low2, xm_low3, xm_low4, xl_n0, xl_n1, xb_nar, xe_if0, xe_ifn, xm_ci1, xm_ca1, mcl_36 Q, n_isModule Q I R]
      rw [if_neg ha]
theorem sim_has (S : Stb o n V J p1 p2 cap hp) (hn : n < 512) (a b : Int32) (c : Prop) : Sim o n 157 149 [.int a, .int (xb c), .int b] hp := by
  have P := S.P
  have I := S.I
  have R := S.R
  have Q := S.Q
  have hM := I.M
  have hz := S.z
  by_cases ha : 0 ≤ a ∧ a < V 1 0
  · by_cases hb : 0 ≤ b ∧ b < V 1 0
    · obtain ⟨m, hm, rfl⟩ := rng ha hM.1 (by omega)
      obtain ⟨k, hk, rfl⟩ := rng hb hM.1 (by omega)
      obtain ⟨F', hp', er, P', hs, hF⟩ := m_graphOf I R (by omega) hm c Q
      refine ⟨xb (tb (grh V J m c) k), hp, hp', ?_, ?_, S.q P' hs⟩
      · simp only [k157, s157_0, s157_1, s157_4, s157_5, s157_8, s157_11, s157_12, s157_15, s157_16, s157_19, s157_22, s157_24, s157_25, s157_26, s157_27, s157_28, s157_31, s157_32, s157_35, s157_38, Option.bind_some, Option.toList_some, Option.toList_none, List.cons_append, List.nil_append, xm_kl_n, xm_kl_i, xm_kl_a, xm_kl_j, xl_0, xm_low1, xm_low2, xm_low3, xm_low4, xl_n0, xl_n1, xb_nar, xe_if0, xe_ifn, xm_ci1, xm_ca1, pf_0_0 P, pcl_0 P, pcl_1 P, c_Modules_holds P, c_graphOf P I, c_hasBit, c_asAnswer]
        rw [if_pos ha, if_pos hb]
        rfl
      · simp only [k149, s149_0, s149_1, s149_2, s149_5, s149_8, s149_9, s149_10, s149_13, s149_16, s149_18, s149_19, s149_20, s149_21, s149_22, s149_25, s149_26, s149_29, s149_30, s149_31, s149_34, s149_35, s149_38, s149_39, Option.bind_some, Option.toList_some, Option.toList_none, List.cons_append, List.nil_append, xm_kl_n, xm_kl_i, xm_kl_a, xm_kl_j, xl_0, xm_low1, xm_low2, xm_low3, xm_low4, xl_n0, xl_n1, xb_nar, xe_if0, xe_ifn, xm_ci1, xm_ca1, mcl_36 Q, n_isModule Q I R, er, mf_36_33 P', maz_63 P' (show k < 12 by omega), pv63_63, hF k (by omega)]
        rw [if_pos ha, if_pos hb, xe_10, xb_cg (grh_spec I R hm c (by omega))]
    · refine ⟨-2, hp, hp, ?_, ?_, S.s⟩
      · simp only [k157, s157_0, s157_1, s157_4, s157_5, s157_8, s157_11, s157_12, s157_15, s157_16, s157_19, s157_22, s157_24, Option.bind_some, Option.toList_some, Option.toList_none, List.cons_append, List.nil_append, xm_kl_n, xm_kl_i, xm_kl_a, xm_kl_j, xl_0, xm_low1, xm_low2, xm_low3, xm_low4, xl_n0, xl_n1, xb_nar, xe_if0, xe_ifn, xm_ci1, xm_ca1, pf_0_0 P, pcl_1 P, c_Modules_holds P]
        rw [if_pos ha, if_neg hb]
      · simp only [k149, s149_0, s149_1, s149_2, s149_5, s149_8, s149_9, s149_10, s149_13, s149_16, s149_18, Option.bind_some, Option.toList_some, Option.toList_none, List.cons_append, List.nil_append, xm_kl_n, xm_kl_i, xm_kl_a, xm_kl_j, xl_0, xm_low1, xm_low2, xm_low3, xm_low4, xl_n0, xl_n1, xb_nar, xe_if0, xe_ifn, xm_ci1, xm_ca1, mcl_36 Q, n_isModule Q I R]
        rw [if_pos ha, if_neg hb]
  · refine ⟨-2, hp, hp, ?_, ?_, S.s⟩
    · simp only [k157, s157_0, s157_1, s157_4, s157_5, s157_8, s157_11, s157_12, s157_15, s157_16, s157_19, s157_22, s157_24, Option.bind_some, Option.toList_some, Option.toList_none, List.cons_append, List.nil_append, xm_kl_n, xm_kl_i, xm_kl_a, xm_kl_j, xl_0, xm_low1, xm_low2, xm_low3, xm_low4, xl_n0, xl_n1, xb_nar, xe_if0, xe_ifn, xm_ci1, xm_ca1, pf_0_0 P, pcl_1 P, c_Modules_holds P]
      rw [if_neg ha]
    · simp only [k149, s149_0, s149_1, s149_2, s149_5, s149_8, s149_9, s149_10, s149_13, s149_16, s149_18, Option.bind_some, Option.toList_some, Option.toList_none, List.cons_append, List.nil_append, xm_kl_n, xm_kl_i, xm_kl_a, xm_kl_j, xl_0, xm_low1, xm_low2, xm_low3, xm_low4, xl_n0, xl_n1, xb_nar, xe_if0, xe_ifn, xm_ci1, xm_ca1, mcl_36 Q, n_isModule Q I R]
      rw [if_neg ha]
theorem sim_loader (S : Stb o n V J p1 p2 cap hp) (a b : Int32) : Sim o n 112 131 [.int a, .int b] hp := by
  have P := S.P
  have I := S.I
  have R := S.R
  have Q := S.Q
  have hM := I.M
  have hL := I.L
  by_cases ha : 0 ≤ a ∧ a < V 33 0
  · by_cases hb : 0 ≤ b ∧ b < V 1 0
    · obtain ⟨l, hl, rfl⟩ := rng ha hL.1 (by omega)
      obtain ⟨k, hk, rfl⟩ := rng hb hM.1 (by omega)
      have hq : ∀ t, some l = some t → t < zL V := fun t h => by cases h; exact hl
      have e1 := c_Layers_homeOf P I.L.2 I.lpr' (some l) hq (nI k)
      have e2 := m_loaderOf Q I R (show k < 12 by omega) (some l) hq
      rw [oI_s] at e1 e2
      refine ⟨xhm (V 35) (flpr V) (nI k) 4 (some l), hp, hp, ?_, ?_, S.s⟩
      · simp only [k112, s112_0, s112_1, s112_4, s112_5, s112_8, s112_11, s112_12, s112_15, s112_16, s112_19, s112_22, s112_24, s112_25, s112_26, s112_29, s112_30, s112_31, s112_34, Option.bind_some, Option.toList_some, Option.toList_none, List.cons_append, List.nil_append, xm_kl_n, xm_kl_i, xm_kl_a, xm_kl_j, xl_0, xm_low1, xm_low2, xm_low3, xm_low4, xl_n0, xl_n1, xb_nar, xe_if0, xe_ifn, xm_ci1, xm_ca1, pf_0_0 P, pf_0_6 P, pcl_1 P, pcl_33 P, c_Modules_holds P, c_Layers_holds P, e1]
        rw [if_pos ha, if_pos hb]
      · simp only [k131, s131_0, s131_1, s131_2, s131_5, s131_8, s131_9, s131_10, s131_13, s131_16, s131_17, s131_18, s131_19, s131_22, s131_25, s131_27, Option.bind_some, Option.toList_some, Option.toList_none, List.cons_append, List.nil_append, xm_kl_n, xm_kl_i, xm_kl_a, xm_kl_j, xl_0, xm_low1, xm_low2, xm_low3, xm_low4, xl_n0, xl_n1, xb_nar, xe_if0, xe_ifn, xm_ci1, xm_ca1, mcl_36 Q, n_isModule Q I R, n_isLayer Q I R, e2]
        rw [if_pos ha, if_pos hb]
    · refine ⟨-2, hp, hp, ?_, ?_, S.s⟩
      · simp only [k112, s112_0, s112_1, s112_4, s112_5, s112_8, s112_11, s112_12, s112_15, s112_16, s112_19, s112_22, s112_24, Option.bind_some, Option.toList_some, Option.toList_none, List.cons_append, List.nil_append, xm_kl_n, xm_kl_i, xm_kl_a, xm_kl_j, xl_0, xm_low1, xm_low2, xm_low3, xm_low4, xl_n0, xl_n1, xb_nar, xe_if0, xe_ifn, xm_ci1, xm_ca1, pf_0_0 P, pf_0_6 P, pcl_1 P, pcl_33 P, c_Modules_holds P, c_Layers_holds P]
        rw [if_pos ha, if_neg hb]
      · simp only [k131, s131_0, s131_1, s131_2, s131_5, s131_8, s131_9, s131_10, s131_13, s131_25, s131_27, Option.bind_some, Option.toList_some, Option.toList_none, List.cons_append, List.nil_append, xm_kl_n, xm_kl_i, xm_kl_a, xm_kl_j, xl_0, xm_low1, xm_low2, xm_low3, xm_low4, xl_n0, xl_n1, xb_nar, xe_if0, xe_ifn, xm_ci1, xm_ca1, mcl_36 Q, n_isModule Q I R, n_isLayer Q I R]
        rw [if_pos ha, if_neg hb]
  · refine ⟨-2, hp, hp, ?_, ?_, S.s⟩
    · simp only [k112, s112_0, s112_1, s112_4, s112_5, s112_8, s112_11, s112_12, s112_15, s112_16, s112_19, s112_22, s112_24, Option.bind_some, Option.toList_some, Option.toList_none, List.cons_append, List.nil_append, xm_kl_n, xm_kl_i, xm_kl_a, xm_kl_j, xl_0, xm_low1, xm_low2, xm_low3, xm_low4, xl_n0, xl_n1, xb_nar, xe_if0, xe_ifn, xm_ci1, xm_ca1, pf_0_0 P, pf_0_6 P, pcl_1 P, pcl_33 P, c_Modules_holds P, c_Layers_holds P]
      rw [if_neg ha]
    · simp only [k131, s131_0, s131_1, s131_2, s131_5, s131_8, s131_9, s131_10, s131_13, s131_25, s131_27, Option.bind_some, Option.toList_some, Option.toList_none, List.cons_append, List.nil_append, xm_kl_n, xm_kl_i, xm_kl_a, xm_kl_j, xl_0, xm_low1, xm_low2, xm_low3, xm_low4, xl_n0, xl_n1, xb_nar, xe_if0, xe_ifn, xm_ci1, xm_ca1, mcl_36 Q, n_isModule Q I R, n_isLayer Q I R]
      rw [if_neg ha]
theorem sim_looks (S : Stb o n V J p1 p2 cap hp) (a b : Int32) : Sim o n 110 127 [.int a, .int b] hp := by
  have P := S.P
  have I := S.I
  have R := S.R
  have Q := S.Q
  have hM := I.M
  have hPz := I.P
  by_cases ha : 0 ≤ a ∧ a < V 1 0
  · by_cases hb : 0 ≤ b ∧ b < V 6 0
    · obtain ⟨m, hm, rfl⟩ := rng ha hM.1 (by omega)
      obtain ⟨p, hp_, rfl⟩ := rng hb hPz.1 (by omega)
      refine ⟨xb (V 7 p = nI m ∨ ¬ V 10 p &&& (nI 4096 ||| xbit (nI m)) = 0), hp, hp, ?_, ?_, S.s⟩
      · simp only [k110, s110_0, s110_1, s110_4, s110_5, s110_8, s110_11, s110_12, s110_15, s110_16, s110_19, s110_22, s110_24, s110_25, s110_26, s110_29, s110_30, s110_33, s110_34, s110_37, s110_38, s110_41, s110_42, s110_43, s110_46, s110_49, s110_50, s110_53, s110_54, s110_57, Option.bind_some, Option.toList_some, Option.toList_none, List.cons_append, List.nil_append, xm_kl_n, xm_kl_i, xm_kl_a, xm_kl_j, xl_0, xm_low1, xm_low2, xm_low3, xm_low4, xl_n0, xl_n1, xb_nar, xe_if0, xe_ifn, xm_ci1, xm_ca1, pf_0_0 P, pf_0_1 P, pcl_1 P, pcl_6 P, c_Modules_holds P, c_Packs_holds P, c_Packs_ownerOf P (show p < 30 by omega), c_Packs_isOpenedTo P (show p < 30 by omega), c_asA1, c_asA0]
        rw [if_pos ha, if_pos hb]
        by_cases h1 : V 7 p = nI m
        · rw [if_pos h1, xb_t (Or.inl h1)]
        · rw [if_neg h1]
          by_cases h2 : V 10 p &&& (nI 4096 ||| xbit (nI m)) = 0
          · rw [if_neg (fun z => z h2), xb_f (fun z => z.elim h1 (fun w => w h2))]
          · rw [if_pos h2, xb_t (Or.inr h2)]
      · have g1 := R.op p 12 (by omega) (by omega)
        have g2 := R.op p m (by omega) (by omega)
        simp only [k127, s127_0, s127_1, s127_2, s127_5, s127_8, s127_9, s127_10, s127_13, s127_16, s127_18, s127_19, s127_20, s127_23, s127_24, s127_25, s127_26, s127_29, s127_30, s127_33, s127_35, s127_36, s127_37, s127_39, s127_40, s127_41, s127_44, s127_45, s127_48, s127_50, s127_51, s127_52, s127_53, s127_54, s127_55, s127_58, s127_59, s127_62, s127_63, Option.bind_some, Option.toList_some, Option.toList_none, List.cons_append, List.nil_append, xm_kl_n, xm_kl_i, xm_kl_a, xm_kl_j, xl_0, xm_low1, xm_low2, xm_low3, xm_low4, xl_n0, xl_n1, xb_nar, xe_if0, xe_ifn, xm_ci1, xm_ca1, mcl_36 Q, n_isModule Q I R, n_isPack Q I R, mf_36_3 Q, mf_36_6 Q, mai_38 Q (show p < 30 by omega), pv63_38, R.r38, pk_mul, nI_add, maz_41 Q (show 13 * p + 12 < 390 by omega), maz_41 Q (show 13 * p + m < 390 by omega), pv63_41, g1, g2]
        rw [if_pos ha, if_pos hb]
        have hto := told_iff (a := V 10 p) (m := m) (by omega)
        by_cases h1 : V 7 p = nI m
        · rw [if_pos h1, xb_t (Or.inl h1)]
        · rw [if_neg h1]
          by_cases h2 : tb (V 10 p) 12
          · rw [if_pos h2, xb_t (Or.inr (hto.mpr (Or.inl h2)))]
          · rw [if_neg h2]
            by_cases h3 : tb (V 10 p) m
            · rw [if_pos h3, xb_t (Or.inr (hto.mpr (Or.inr h3)))]
            · rw [if_neg h3, xb_f (fun z => z.elim h1 (fun w => (hto.mp w).elim h2 h3))]
    · refine ⟨-2, hp, hp, ?_, ?_, S.s⟩
      · simp only [k110, s110_0, s110_1, s110_4, s110_5, s110_8, s110_11, s110_12, s110_15, s110_16, s110_19, s110_22, s110_24, Option.bind_some, Option.toList_some, Option.toList_none, List.cons_append, List.nil_append, xm_kl_n, xm_kl_i, xm_kl_a, xm_kl_j, xl_0, xm_low1, xm_low2, xm_low3, xm_low4, xl_n0, xl_n1, xb_nar, xe_if0, xe_ifn, xm_ci1, xm_ca1, pf_0_0 P, pf_0_1 P, pcl_1 P, pcl_6 P, c_Modules_holds P, c_Packs_holds P]
        rw [if_pos ha, if_neg hb]
      · simp only [k127, s127_0, s127_1, s127_2, s127_5, s127_8, s127_9, s127_10, s127_13, s127_16, s127_18, Option.bind_some, Option.toList_some, Option.toList_none, List.cons_append, List.nil_append, xm_kl_n, xm_kl_i, xm_kl_a, xm_kl_j, xl_0, xm_low1, xm_low2, xm_low3, xm_low4, xl_n0, xl_n1, xb_nar, xe_if0, xe_ifn, xm_ci1, xm_ca1, mcl_36 Q, n_isModule Q I R, n_isPack Q I R]
        rw [if_pos ha, if_neg hb]
  · refine ⟨-2, hp, hp, ?_, ?_, S.s⟩
    · simp only [k110, s110_0, s110_1, s110_4, s110_5, s110_8, s110_11, s110_12, s110_15, s110_16, s110_19, s110_22, s110_24, Option.bind_some, Option.toList_some, Option.toList_none, List.cons_append, List.nil_append, xm_kl_n, xm_kl_i, xm_kl_a, xm_kl_j, xl_0, xm_low1, xm_low2, xm_low3, xm_low4, xl_n0, xl_n1, xb_nar, xe_if0, xe_ifn, xm_ci1, xm_ca1, pf_0_0 P, pf_0_1 P, pcl_1 P, pcl_6 P, c_Modules_holds P, c_Packs_holds P]
      rw [if_neg ha]
    · simp only [k127, s127_0, s127_1, s127_2, s127_5, s127_8, s127_9, s127_10, s127_13, s127_16, s127_18, Option.bind_some, Option.toList_some, Option.toList_none, List.cons_append, List.nil_append, xm_kl_n, xm_kl_i, xm_kl_a, xm_kl_j, xl_0, xm_low1, xm_low2, xm_low3, xm_low4, xl_n0, xl_n1, xb_nar, xe_if0, xe_ifn, xm_ci1, xm_ca1, mcl_36 Q, n_isModule Q I R, n_isPack Q I R]
      rw [if_neg ha]
theorem sim_sees (S : Stb o n V J p1 p2 cap hp) (a b : Int32) (c : Prop) : Sim o n 169 144 [.int a, .int b, .int (xb c)] hp := by
  have P := S.P
  have I := S.I
  have R := S.R
  have Q := S.Q
  have hM := I.M
  have hPz := I.P
  have hT := I.T
  by_cases ha : 0 ≤ a ∧ a < V 1 0
  · obtain ⟨m, hm, rfl⟩ := rng ha hM.1 (by omega)
    obtain ⟨F', hp', er, P', hs, hF⟩ := m_read I R hm False Q
    rw [xb_f (c := False) id] at er
    by_cases hc : c
    · by_cases hb : 0 ≤ b ∧ b < V 11 0
      · obtain ⟨t, ht, rfl⟩ := rng hb hT.1 (by omega)
        refine ⟨xb (xts V m t), hp, hp', ?_, ?_, S.q P' hs⟩
        · simp only [xb_t hc, k169, s169_0, s169_1, s169_4, s169_5, s169_8, s169_11, s169_12, s169_15, s169_16, s169_19, s169_20, s169_23, s169_26, s169_29, s169_30, s169_33, s169_34, s169_37, s169_40, s169_42, s169_43, s169_44, s169_47, s169_48, s169_49, s169_50, s169_53, s169_56, s169_57, s169_58, s169_59, s169_62, s169_65, Option.bind_some, Option.toList_some, Option.toList_none, List.cons_append, List.nil_append, xm_kl_n, xm_kl_i, xm_kl_a, xm_kl_j, xl_0, xm_low1, xm_low2, xm_low3, xm_low4, xl_n0, xl_n1, xb_nar, xe_if0, xe_ifn, xm_ci1, xm_ca1, pf_0_0 P, pf_0_2 P, pcl_0 P, pcl_1 P, pcl_11 P, c_Modules_holds P, c_Types_holds P, c_isTypeSeen P I hm ht, c_asAnswer]
          rw [if_pos ha, if_neg (show ¬ nI 1 = 0 by decide), if_pos hb, if_neg (show ¬ nI 1 = 0 by decide)]
        · simp only [xb_t hc, k144, s144_0, s144_1, s144_2, s144_5, s144_8, s144_9, s144_12, s144_13, s144_14, s144_17, s144_20, s144_23, s144_24, s144_25, s144_28, s144_31, s144_33, s144_34, s144_35, s144_36, s144_37, s144_40, s144_41, s144_44, s144_45, s144_46, s144_47, s144_50, s144_53, s144_56, s144_57, s144_58, s144_59, s144_62, s144_65, s144_66, s144_69, s144_70, Option.bind_some, Option.toList_some, Option.toList_none, List.cons_append, List.nil_append, xm_kl_n, xm_kl_i, xm_kl_a, xm_kl_j, xl_0, xm_low1, xm_low2, xm_low3, xm_low4, xl_n0, xl_n1, xb_nar, xe_if0, xe_ifn, xm_ci1, xm_ca1, mcl_36 Q, mcl_36 P', n_isModule Q I R, n_isType Q I R, er, m_seesType P' I R ht hm hF]
          rw [if_pos ha, if_neg (show ¬ nI 1 = 0 by decide), if_pos hb, if_neg (show ¬ nI 1 = 0 by decide), xe_10]
      · refine ⟨-2, hp, hp, ?_, ?_, S.s⟩
        · simp only [xb_t hc, k169, s169_0, s169_1, s169_4, s169_5, s169_8, s169_11, s169_12, s169_15, s169_16, s169_19, s169_20, s169_23, s169_26, s169_29, s169_30, s169_33, s169_34, s169_37, s169_40, s169_42, Option.bind_some, Option.toList_some, Option.toList_none, List.cons_append, List.nil_append, xm_kl_n, xm_kl_i, xm_kl_a, xm_kl_j, xl_0, xm_low1, xm_low2, xm_low3, xm_low4, xl_n0, xl_n1, xb_nar, xe_if0, xe_ifn, xm_ci1, xm_ca1, pf_0_0 P, pf_0_2 P, pcl_1 P, pcl_11 P, c_Modules_holds P, c_Types_holds P]
          rw [if_pos ha, if_neg (show ¬ nI 1 = 0 by decide), if_neg hb]
        · simp only [xb_t hc, k144, s144_0, s144_1, s144_2, s144_5, s144_8, s144_9, s144_12, s144_13, s144_14, s144_17, s144_20, s144_23, s144_24, s144_25, s144_28, s144_31, s144_33, Option.bind_some, Option.toList_some, Option.toList_none, List.cons_append, List.nil_append, xm_kl_n, xm_kl_i, xm_kl_a, xm_kl_j, xl_0, xm_low1, xm_low2, xm_low3, xm_low4, xl_n0, xl_n1, xb_nar, xe_if0, xe_ifn, xm_ci1, xm_ca1, mcl_36 Q, n_isModule Q I R, n_isType Q I R]
          rw [if_pos ha, if_neg (show ¬ nI 1 = 0 by decide), if_neg hb]
    · by_cases hb : 0 ≤ b ∧ b < V 6 0
      · obtain ⟨p, hp_, rfl⟩ := rng hb hPz.1 (by omega)
        refine ⟨xb (xsb V p (nI m) (xrd V m False)), hp, hp', ?_, ?_, S.q P' hs⟩
        · simp only [xb_f hc, k169, s169_0, s169_1, s169_4, s169_5, s169_8, s169_11, s169_12, s169_15, s169_16, s169_19, s169_20, s169_23, s169_26, s169_29, s169_30, s169_33, s169_34, s169_37, s169_40, s169_42, s169_43, s169_44, s169_47, s169_48, s169_49, s169_50, s169_53, s169_56, s169_57, s169_58, s169_59, s169_62, s169_65, Option.bind_some, Option.toList_some, Option.toList_none, List.cons_append, List.nil_append, xm_kl_n, xm_kl_i, xm_kl_a, xm_kl_j, xl_0, xm_low1, xm_low2, xm_low3, xm_low4, xl_n0, xl_n1, xb_nar, xe_if0, xe_ifn, xm_ci1, xm_ca1, pf_0_0 P, pf_0_1 P, pcl_0 P, pcl_1 P, pcl_6 P, c_Modules_holds P, c_Packs_holds P, c_isPackSeen P I hm hp_, c_asAnswer]
          rw [if_pos ha, if_pos (show nI 0 = 0 from rfl), if_pos hb, if_pos (show nI 0 = 0 from rfl)]
        · simp only [xb_f hc, k144, s144_0, s144_1, s144_2, s144_5, s144_8, s144_9, s144_12, s144_13, s144_14, s144_17, s144_20, s144_23, s144_24, s144_25, s144_28, s144_31, s144_33, s144_34, s144_35, s144_36, s144_37, s144_40, s144_41, s144_44, s144_45, s144_46, s144_47, s144_50, s144_53, s144_56, s144_57, s144_58, s144_59, s144_62, s144_65, s144_66, s144_69, s144_70, Option.bind_some, Option.toList_some, Option.toList_none, List.cons_append, List.nil_append, xm_kl_n, xm_kl_i, xm_kl_a, xm_kl_j, xl_0, xm_low1, xm_low2, xm_low3, xm_low4, xl_n0, xl_n1, xb_nar, xe_if0, xe_ifn, xm_ci1, xm_ca1, mcl_36 Q, mcl_36 P', n_isModule Q I R, n_isPack Q I R, er, m_seesPack P' I R hp_ hm hF]
          rw [if_pos ha, if_pos (show nI 0 = 0 from rfl), if_pos hb, if_pos (show nI 0 = 0 from rfl), xe_10]
      · refine ⟨-2, hp, hp, ?_, ?_, S.s⟩
        · simp only [xb_f hc, k169, s169_0, s169_1, s169_4, s169_5, s169_8, s169_11, s169_12, s169_15, s169_16, s169_19, s169_20, s169_23, s169_26, s169_29, s169_30, s169_33, s169_34, s169_37, s169_40, s169_42, Option.bind_some, Option.toList_some, Option.toList_none, List.cons_append, List.nil_append, xm_kl_n, xm_kl_i, xm_kl_a, xm_kl_j, xl_0, xm_low1, xm_low2, xm_low3, xm_low4, xl_n0, xl_n1, xb_nar, xe_if0, xe_ifn, xm_ci1, xm_ca1, pf_0_0 P, pf_0_1 P, pcl_1 P, pcl_6 P, c_Modules_holds P, c_Packs_holds P]
          rw [if_pos ha, if_pos (show nI 0 = 0 from rfl), if_neg hb]
        · simp only [xb_f hc, k144, s144_0, s144_1, s144_2, s144_5, s144_8, s144_9, s144_12, s144_13, s144_14, s144_17, s144_20, s144_23, s144_24, s144_25, s144_28, s144_31, s144_33, Option.bind_some, Option.toList_some, Option.toList_none, List.cons_append, List.nil_append, xm_kl_n, xm_kl_i, xm_kl_a, xm_kl_j, xl_0, xm_low1, xm_low2, xm_low3, xm_low4, xl_n0, xl_n1, xb_nar, xe_if0, xe_ifn, xm_ci1, xm_ca1, mcl_36 Q, n_isModule Q I R, n_isPack Q I R]
          rw [if_pos ha, if_pos (show nI 0 = 0 from rfl), if_neg hb]
  · refine ⟨-2, hp, hp, ?_, ?_, S.s⟩
    · simp only [k169, s169_0, s169_1, s169_4, s169_5, s169_8, s169_40, s169_42, Option.bind_some, Option.toList_some, Option.toList_none, List.cons_append, List.nil_append, xm_kl_n, xm_kl_i, xm_kl_a, xm_kl_j, xl_0, xm_low1, xm_low2, xm_low3, xm_low4, xl_n0, xl_n1, xb_nar, xe_if0, xe_ifn, xm_ci1, xm_ca1, pf_0_0 P, pcl_1 P, c_Modules_holds P]
      rw [if_neg ha]
    · simp only [k144, s144_0, s144_1, s144_2, s144_5, s144_31, s144_33, Option.bind_some, Option.toList_some, Option.toList_none, List.cons_append, List.nil_append, xm_kl_n, xm_kl_i, xm_kl_a, xm_kl_j, xl_0, xm_low1, xm_low2, xm_low3, xm_low4, xl_n0, xl_n1, xb_nar, xe_if0, xe_ifn, xm_ci1, xm_ca1, mcl_36 Q, n_isModule Q I R]
      rw [if_neg ha]
end STATE
