/-! the class's writes -/
theorem xb_vn {c : Prop} : vp_nar .boolean (xb c) = xb c := by
  by_cases h : c
  · rw [xb_t h]; rfl
  · rw [xb_f h]; rfl
theorem pv_23 (W : pc_V) (f : Nat → Int32) : pv_row W 2 f 3 = W 3 := rfl
theorem pv_24 (W : pc_V) (f : Nat → Int32) : pv_row W 2 f 4 = W 4 := rfl
theorem pv_25 (W : pc_V) (f : Nat → Int32) : pv_row W 2 f 5 = W 5 := rfl
theorem pv_34 (W : pc_V) (f : Nat → Int32) : pv_row W 3 f 4 = W 4 := rfl
theorem pv_35 (W : pc_V) (f : Nat → Int32) : pv_row W 3 f 5 = W 5 := rfl
theorem pv_45 (W : pc_V) (f : Nat → Int32) : pv_row W 4 f 5 = W 5 := rfl
section WRITES
variable {o : Nat} {V : pc_V} {J : Nat → Int64} {p1 p2 cap : Nat} {hp : xm_H}
theorem c_Modules_add (P : Pic o V J p1 p2 cap hp) {n : Nat} (hn : V 1 0 = nI n) (h : n < 12) : ∃ hp', xm_call 7 [.ref (o + 1)] hp = some (some (.int (nI n)), hp') ∧ Pic o (pv_row V 1 (upd (V 1) 0 (nI (n + 1)))) J p1 p2 cap hp' ∧ hp'.2 = hp.2 := by
  have P1 := P.w 1 (by decide) (by decide) (by decide) (upd (V 1) 0 (nI (n + 1)))
  refine ⟨_, ?_, P1, rfl⟩
  simp only [k7, s7_0, s7_1, s7_4, s7_6, s7_9, s7_10, s7_11, s7_14, s7_15, s7_16, s7_17, s7_20, s7_23, s7_25, Option.bind_some, Option.toList_some, Option.toList_none, List.cons_append, List.nil_append, xm_kl_n, xm_kl_i, xm_kl_a, xm_kl_j, xl_0, xm_low1, xm_low2, xm_low3, xm_low4, xl_n0, xl_n1, xb_nar, xe_if0, xe_ifn, xm_ci1, xm_ca1, pf_1_0 P, hn, nI_add, pwf_1_0 P]
  rw [if_neg (nI_ge (by omega) (by omega))]
theorem c_Modules_addF (P : Pic o V J p1 p2 cap hp) (hn : V 1 0 = nI 12) : xm_call 7 [.ref (o + 1)] hp = some (some (.int (-4)), hp) := by
  simp only [k7, s7_0, s7_1, s7_4, s7_6, s7_9, s7_10, s7_11, s7_14, s7_15, s7_16, s7_17, s7_20, s7_23, s7_25, Option.bind_some, Option.toList_some, Option.toList_none, List.cons_append, List.nil_append, xm_kl_n, xm_kl_i, xm_kl_a, xm_kl_j, xl_0, xm_low1, xm_low2, xm_low3, xm_low4, xl_n0, xl_n1, xb_nar, xe_if0, xe_ifn, xm_ci1, xm_ca1, pf_1_0 P, hn, nI_add, pwf_1_0 P]
  rw [if_pos (nI_le (by omega) (by omega))]
theorem c_Packs_add (P : Pic o V J p1 p2 cap hp) {n : Nat} (hn : V 6 0 = nI n) (h : n < 30) (x0 : Int32) (x1 : Int32) : ∃ hp', xm_call 9 [.ref (o + 6), .int x0, .int x1] hp = some (some (.int (nI n)), hp') ∧ Pic o (pv_row (pv_row (pv_row V 7 (upd (V 7) n x0)) 8 (upd (V 8) n x1)) 6 (upd (V 6) 0 (nI (n + 1)))) J p1 p2 cap hp' ∧ hp'.2 = hp.2 := by
  have P1 := P.w 7 (by decide) (by decide) (by decide) (upd (V 7) n x0)
  have P2 := P1.w 8 (by decide) (by decide) (by decide) (upd (V 8) n x1)
  have Q := P2.w 6 (by decide) (by decide) (by decide) (upd (V 6) 0 (nI (n + 1)))
  refine ⟨_, ?_, Q, rfl⟩
  have n1 : (pv_row V 7 (upd (V 7) n x0)) 6 0 = nI n := hn
  have n2 : (pv_row (pv_row V 7 (upd (V 7) n x0)) 8 (upd (V 8) n x1)) 6 0 = nI n := hn
  have r1 : (pv_row V 7 (upd (V 7) n x0)) 8 = V 8 := rfl
  have r0 : (pv_row (pv_row V 7 (upd (V 7) n x0)) 8 (upd (V 8) n x1)) 6 = V 6 := rfl
  simp only [k9, s9_0, s9_1, s9_4, s9_6, s9_9, s9_11, s9_12, s9_13, s9_16, s9_17, s9_20, s9_21, s9_22, s9_23, s9_26, s9_27, s9_30, s9_31, s9_32, s9_33, s9_34, s9_37, s9_38, s9_39, s9_40, s9_43, Option.bind_some, Option.toList_some, Option.toList_none, List.cons_append, List.nil_append, xm_kl_n, xm_kl_i, xm_kl_a, xm_kl_j, xl_0, xm_low1, xm_low2, xm_low3, xm_low4, xl_n0, xl_n1, xb_nar, xe_if0, xe_ifn, xm_ci1, xm_ca1, nI_add, xb_vn, pf_6_0 P, hn, pf_6_1 P, pwi_7 P h, pf_6_2 P1, pf_6_0 P1, pwi_8 P1 h, pf_6_0 P2, pwf_6_0 P2, n1, n2, r1, r0]
  rw [if_pos (nI_lt (by omega) (by omega))]
theorem c_Packs_addF (P : Pic o V J p1 p2 cap hp) (hn : V 6 0 = nI 30) (x0 : Int32) (x1 : Int32) : xm_call 9 [.ref (o + 6), .int x0, .int x1] hp = some (some (.int (-4)), hp) := by
  simp only [k9, s9_0, s9_1, s9_4, s9_6, s9_9, s9_11, Option.bind_some, Option.toList_some, Option.toList_none, List.cons_append, List.nil_append, xm_kl_n, xm_kl_i, xm_kl_a, xm_kl_j, xl_0, xm_low1, xm_low2, xm_low3, xm_low4, xl_n0, xl_n1, xb_nar, xe_if0, xe_ifn, xm_ci1, xm_ca1, pf_6_0 P, hn]
  rw [if_neg (nI_nlt (by omega) (by omega))]
theorem c_Types_add (P : Pic o V J p1 p2 cap hp) {n : Nat} (hn : V 11 0 = nI n) (h : n < 40) (x0 : Int32) (x1 : Int32) (x2 : Int32) (x3 : Int32) (x4 : Int32) : ∃ hp', xm_call 19 [.ref (o + 11), .int x0, .int x1, .int x2, .int x3, .int x4] hp = some (some (.int (nI n)), hp') ∧ Pic o (pv_row (pv_row (pv_row (pv_row (pv_row (pv_row V 12 (upd (V 12) n x0)) 13 (upd (V 13) n x1)) 14 (upd (V 14) n x2)) 15 (upd (V 15) n x3)) 16 (upd (V 16) n x4)) 11 (upd (V 11) 0 (nI (n + 1)))) J p1 p2 cap hp' ∧ hp'.2 = hp.2 := by
  have P1 := P.w 12 (by decide) (by decide) (by decide) (upd (V 12) n x0)
  have P2 := P1.w 13 (by decide) (by decide) (by decide) (upd (V 13) n x1)
  have P3 := P2.w 14 (by decide) (by decide) (by decide) (upd (V 14) n x2)
  have P4 := P3.w 15 (by decide) (by decide) (by decide) (upd (V 15) n x3)
  have P5 := P4.w 16 (by decide) (by decide) (by decide) (upd (V 16) n x4)
  have Q := P5.w 11 (by decide) (by decide) (by decide) (upd (V 11) 0 (nI (n + 1)))
  refine ⟨_, ?_, Q, rfl⟩
  have n1 : (pv_row V 12 (upd (V 12) n x0)) 11 0 = nI n := hn
  have n2 : (pv_row (pv_row V 12 (upd (V 12) n x0)) 13 (upd (V 13) n x1)) 11 0 = nI n := hn
  have n3 : (pv_row (pv_row (pv_row V 12 (upd (V 12) n x0)) 13 (upd (V 13) n x1)) 14 (upd (V 14) n x2)) 11 0 = nI n := hn
  have n4 : (pv_row (pv_row (pv_row (pv_row V 12 (upd (V 12) n x0)) 13 (upd (V 13) n x1)) 14 (upd (V 14) n x2)) 15 (upd (V 15) n x3)) 11 0 = nI n := hn
  have n5 : (pv_row (pv_row (pv_row (pv_row (pv_row V 12 (upd (V 12) n x0)) 13 (upd (V 13) n x1)) 14 (upd (V 14) n x2)) 15 (upd (V 15) n x3)) 16 (upd (V 16) n x4)) 11 0 = nI n := hn
  have r1 : (pv_row V 12 (upd (V 12) n x0)) 13 = V 13 := rfl
  have r2 : (pv_row (pv_row V 12 (upd (V 12) n x0)) 13 (upd (V 13) n x1)) 14 = V 14 := rfl
  have r3 : (pv_row (pv_row (pv_row V 12 (upd (V 12) n x0)) 13 (upd (V 13) n x1)) 14 (upd (V 14) n x2)) 15 = V 15 := rfl
  have r4 : (pv_row (pv_row (pv_row (pv_row V 12 (upd (V 12) n x0)) 13 (upd (V 13) n x1)) 14 (upd (V 14) n x2)) 15 (upd (V 15) n x3)) 16 = V 16 := rfl
  have r0 : (pv_row (pv_row (pv_row (pv_row (pv_row V 12 (upd (V 12) n x0)) 13 (upd (V 13) n x1)) 14 (upd (V 14) n x2)) 15 (upd (V 15) n x3)) 16 (upd (V 16) n x4)) 11 = V 11 := rfl
  simp only [k19, s19_0, s19_1, s19_4, s19_6, s19_9, s19_11, s19_12, s19_13, s19_16, s19_17, s19_20, s19_21, s19_22, s19_23, s19_26, s19_27, s19_30, s19_31, s19_32, s19_33, s19_36, s19_37, s19_40, s19_41, s19_42, s19_43, s19_46, s19_47, s19_50, s19_52, s19_53, s19_54, s19_57, s19_58, s19_61, s19_63, s19_64, s19_65, s19_66, s19_69, s19_70, s19_71, s19_72, s19_75, Option.bind_some, Option.toList_some, Option.toList_none, List.cons_append, List.nil_append, xm_kl_n, xm_kl_i, xm_kl_a, xm_kl_j, xl_0, xm_low1, xm_low2, xm_low3, xm_low4, xl_n0, xl_n1, xb_nar, xe_if0, xe_ifn, xm_ci1, xm_ca1, nI_add, xb_vn, pf_11_0 P, hn, pf_11_1 P, pwi_12 P h, pf_11_2 P1, pf_11_0 P1, pwi_13 P1 h, pf_11_3 P2, pf_11_0 P2, pwi_14 P2 h, pf_11_4 P3, pf_11_0 P3, pwi_15 P3 h, pf_11_5 P4, pf_11_0 P4, pwi_16 P4 h, pf_11_0 P5, pwf_11_0 P5, n1, n2, n3, n4, n5, r1, r2, r3, r4, r0]
  rw [if_pos (nI_lt (by omega) (by omega))]
theorem c_Types_addF (P : Pic o V J p1 p2 cap hp) (hn : V 11 0 = nI 40) (x0 : Int32) (x1 : Int32) (x2 : Int32) (x3 : Int32) (x4 : Int32) : xm_call 19 [.ref (o + 11), .int x0, .int x1, .int x2, .int x3, .int x4] hp = some (some (.int (-4)), hp) := by
  simp only [k19, s19_0, s19_1, s19_4, s19_6, s19_9, s19_11, Option.bind_some, Option.toList_some, Option.toList_none, List.cons_append, List.nil_append, xm_kl_n, xm_kl_i, xm_kl_a, xm_kl_j, xl_0, xm_low1, xm_low2, xm_low3, xm_low4, xl_n0, xl_n1, xb_nar, xe_if0, xe_ifn, xm_ci1, xm_ca1, pf_11_0 P, hn]
  rw [if_neg (nI_nlt (by omega) (by omega))]
theorem c_Members_add (P : Pic o V J p1 p2 cap hp) {n : Nat} (hn : V 17 0 = nI n) (h : n < 60) (x0 : Int32) (x1 : Int32) (x2 : Int32) (x3 : Prop) (x4 : Int32) : ∃ hp', xm_call 2 [.ref (o + 17), .int x0, .int x1, .int x2, .int (xb x3), .int x4] hp = some (some (.int (nI n)), hp') ∧ Pic o (pv_row (pv_row (pv_row (pv_row (pv_row (pv_row V 18 (upd (V 18) n x0)) 19 (upd (V 19) n x1)) 20 (upd (V 20) n x2)) 21 (upd (V 21) n (xb x3))) 22 (upd (V 22) n x4)) 17 (upd (V 17) 0 (nI (n + 1)))) J p1 p2 cap hp' ∧ hp'.2 = hp.2 := by
  have P1 := P.w 18 (by decide) (by decide) (by decide) (upd (V 18) n x0)
  have P2 := P1.w 19 (by decide) (by decide) (by decide) (upd (V 19) n x1)
  have P3 := P2.w 20 (by decide) (by decide) (by decide) (upd (V 20) n x2)
  have P4 := P3.w 21 (by decide) (by decide) (by decide) (upd (V 21) n (xb x3))
  have P5 := P4.w 22 (by decide) (by decide) (by decide) (upd (V 22) n x4)
  have Q := P5.w 17 (by decide) (by decide) (by decide) (upd (V 17) 0 (nI (n + 1)))
  refine ⟨_, ?_, Q, rfl⟩
  have n1 : (pv_row V 18 (upd (V 18) n x0)) 17 0 = nI n := hn
  have n2 : (pv_row (pv_row V 18 (upd (V 18) n x0)) 19 (upd (V 19) n x1)) 17 0 = nI n := hn
  have n3 : (pv_row (pv_row (pv_row V 18 (upd (V 18) n x0)) 19 (upd (V 19) n x1)) 20 (upd (V 20) n x2)) 17 0 = nI n := hn
  have n4 : (pv_row (pv_row (pv_row (pv_row V 18 (upd (V 18) n x0)) 19 (upd (V 19) n x1)) 20 (upd (V 20) n x2)) 21 (upd (V 21) n (xb x3))) 17 0 = nI n := hn
  have n5 : (pv_row (pv_row (pv_row (pv_row (pv_row V 18 (upd (V 18) n x0)) 19 (upd (V 19) n x1)) 20 (upd (V 20) n x2)) 21 (upd (V 21) n (xb x3))) 22 (upd (V 22) n x4)) 17 0 = nI n := hn
  have r1 : (pv_row V 18 (upd (V 18) n x0)) 19 = V 19 := rfl
  have r2 : (pv_row (pv_row V 18 (upd (V 18) n x0)) 19 (upd (V 19) n x1)) 20 = V 20 := rfl
  have r3 : (pv_row (pv_row (pv_row V 18 (upd (V 18) n x0)) 19 (upd (V 19) n x1)) 20 (upd (V 20) n x2)) 21 = V 21 := rfl
  have r4 : (pv_row (pv_row (pv_row (pv_row V 18 (upd (V 18) n x0)) 19 (upd (V 19) n x1)) 20 (upd (V 20) n x2)) 21 (upd (V 21) n (xb x3))) 22 = V 22 := rfl
  have r0 : (pv_row (pv_row (pv_row (pv_row (pv_row V 18 (upd (V 18) n x0)) 19 (upd (V 19) n x1)) 20 (upd (V 20) n x2)) 21 (upd (V 21) n (xb x3))) 22 (upd (V 22) n x4)) 17 = V 17 := rfl
  simp only [k2, s2_0, s2_1, s2_4, s2_6, s2_9, s2_11, s2_12, s2_13, s2_16, s2_17, s2_20, s2_21, s2_22, s2_23, s2_26, s2_27, s2_30, s2_31, s2_32, s2_33, s2_36, s2_37, s2_40, s2_41, s2_42, s2_43, s2_46, s2_47, s2_50, s2_52, s2_53, s2_54, s2_57, s2_58, s2_61, s2_63, s2_64, s2_65, s2_66, s2_69, s2_70, s2_71, s2_72, s2_75, Option.bind_some, Option.toList_some, Option.toList_none, List.cons_append, List.nil_append, xm_kl_n, xm_kl_i, xm_kl_a, xm_kl_j, xl_0, xm_low1, xm_low2, xm_low3, xm_low4, xl_n0, xl_n1, xb_nar, xe_if0, xe_ifn, xm_ci1, xm_ca1, nI_add, xb_vn, pf_17_0 P, hn, pf_17_1 P, pwi_18 P h, pf_17_2 P1, pf_17_0 P1, pwi_19 P1 h, pf_17_3 P2, pf_17_0 P2, pwi_20 P2 h, pf_17_4 P3, pf_17_0 P3, pwz_21 P3 h, pf_17_5 P4, pf_17_0 P4, pwi_22 P4 h, pf_17_0 P5, pwf_17_0 P5, n1, n2, n3, n4, n5, r1, r2, r3, r4, r0]
  rw [if_pos (nI_lt (by omega) (by omega))]
theorem c_Members_addF (P : Pic o V J p1 p2 cap hp) (hn : V 17 0 = nI 60) (x0 : Int32) (x1 : Int32) (x2 : Int32) (x3 : Prop) (x4 : Int32) : xm_call 2 [.ref (o + 17), .int x0, .int x1, .int x2, .int (xb x3), .int x4] hp = some (some (.int (-4)), hp) := by
  simp only [k2, s2_0, s2_1, s2_4, s2_6, s2_9, s2_11, Option.bind_some, Option.toList_some, Option.toList_none, List.cons_append, List.nil_append, xm_kl_n, xm_kl_i, xm_kl_a, xm_kl_j, xl_0, xm_low1, xm_low2, xm_low3, xm_low4, xl_n0, xl_n1, xb_nar, xe_if0, xe_ifn, xm_ci1, xm_ca1, pf_17_0 P, hn]
  rw [if_neg (nI_nlt (by omega) (by omega))]
theorem c_Units_add (P : Pic o V J p1 p2 cap hp) {n : Nat} (hn : V 23 0 = nI n) (h : n < 12) (x0 : Int32) : ∃ hp', xm_call 29 [.ref (o + 23), .int x0] hp = some (some (.int (nI n)), hp') ∧ Pic o (pv_row (pv_row V 24 (upd (V 24) n x0)) 23 (upd (V 23) 0 (nI (n + 1)))) J p1 p2 cap hp' ∧ hp'.2 = hp.2 := by
  have P1 := P.w 24 (by decide) (by decide) (by decide) (upd (V 24) n x0)
  have Q := P1.w 23 (by decide) (by decide) (by decide) (upd (V 23) 0 (nI (n + 1)))
  refine ⟨_, ?_, Q, rfl⟩
  have n1 : (pv_row V 24 (upd (V 24) n x0)) 23 0 = nI n := hn
  have r0 : (pv_row V 24 (upd (V 24) n x0)) 23 = V 23 := rfl
  simp only [k29, s29_0, s29_1, s29_4, s29_6, s29_9, s29_11, s29_12, s29_13, s29_16, s29_17, s29_20, s29_21, s29_22, s29_23, s29_24, s29_27, s29_28, s29_29, s29_30, s29_33, Option.bind_some, Option.toList_some, Option.toList_none, List.cons_append, List.nil_append, xm_kl_n, xm_kl_i, xm_kl_a, xm_kl_j, xl_0, xm_low1, xm_low2, xm_low3, xm_low4, xl_n0, xl_n1, xb_nar, xe_if0, xe_ifn, xm_ci1, xm_ca1, nI_add, xb_vn, pf_23_0 P, hn, pf_23_1 P, pwi_24 P h, pf_23_0 P1, pwf_23_0 P1, n1, r0]
  rw [if_pos (nI_lt (by omega) (by omega))]
theorem c_Units_addF (P : Pic o V J p1 p2 cap hp) (hn : V 23 0 = nI 12) (x0 : Int32) : xm_call 29 [.ref (o + 23), .int x0] hp = some (some (.int (-4)), hp) := by
  simp only [k29, s29_0, s29_1, s29_4, s29_6, s29_9, s29_11, Option.bind_some, Option.toList_some, Option.toList_none, List.cons_append, List.nil_append, xm_kl_n, xm_kl_i, xm_kl_a, xm_kl_j, xl_0, xm_low1, xm_low2, xm_low3, xm_low4, xl_n0, xl_n1, xb_nar, xe_if0, xe_ifn, xm_ci1, xm_ca1, pf_23_0 P, hn]
  rw [if_neg (nI_nlt (by omega) (by omega))]
theorem c_Layers_add (P : Pic o V J p1 p2 cap hp) {n : Nat} (hn : V 33 0 = nI n) (h : n < 4) (x0 : Int32) (x1 : Int32) : ∃ hp', xm_call 61 [.ref (o + 33), .int x0, .int x1] hp = some (some (.int (nI n)), hp') ∧ Pic o (pv_row (pv_row (pv_row V 34 (upd (V 34) n x0)) 35 (upd (V 35) n x1)) 33 (upd (V 33) 0 (nI (n + 1)))) J p1 p2 cap hp' ∧ hp'.2 = hp.2 := by
  have P1 := P.w 34 (by decide) (by decide) (by decide) (upd (V 34) n x0)
  have P2 := P1.w 35 (by decide) (by decide) (by decide) (upd (V 35) n x1)
  have Q := P2.w 33 (by decide) (by decide) (by decide) (upd (V 33) 0 (nI (n + 1)))
  refine ⟨_, ?_, Q, rfl⟩
  have n1 : (pv_row V 34 (upd (V 34) n x0)) 33 0 = nI n := hn
  have n2 : (pv_row (pv_row V 34 (upd (V 34) n x0)) 35 (upd (V 35) n x1)) 33 0 = nI n := hn
  have r1 : (pv_row V 34 (upd (V 34) n x0)) 35 = V 35 := rfl
  have r0 : (pv_row (pv_row V 34 (upd (V 34) n x0)) 35 (upd (V 35) n x1)) 33 = V 33 := rfl
  simp only [k61, s61_0, s61_1, s61_4, s61_7, s61_9, s61_10, s61_11, s61_14, s61_15, s61_18, s61_19, s61_20, s61_21, s61_24, s61_25, s61_28, s61_29, s61_30, s61_31, s61_32, s61_35, s61_36, s61_37, s61_38, s61_41, Option.bind_some, Option.toList_some, Option.toList_none, List.cons_append, List.nil_append, xm_kl_n, xm_kl_i, xm_kl_a, xm_kl_j, xl_0, xm_low1, xm_low2, xm_low3, xm_low4, xl_n0, xl_n1, xb_nar, xe_if0, xe_ifn, xm_ci1, xm_ca1, pcl_33 P, c_Layers_isFull P, nI_add, xb_vn, pf_33_0 P, hn, pf_33_1 P, pwi_34 P h, pf_33_2 P1, pf_33_0 P1, pwi_35 P1 h, pf_33_0 P2, pwf_33_0 P2, n1, n2, r1, r0]
  rw [if_neg (nI_ge (by omega) (by omega))]
theorem c_Layers_addF (P : Pic o V J p1 p2 cap hp) (hn : V 33 0 = nI 4) (x0 x1 : Int32) : xm_call 61 [.ref (o + 33), .int x0, .int x1] hp = some (some (.int (-4)), hp) := by
  simp only [k61, s61_0, s61_1, s61_4, s61_7, s61_9, Option.bind_some, Option.toList_some, Option.toList_none, List.cons_append, List.nil_append, xm_kl_n, xm_kl_i, xm_kl_a, xm_kl_j, xl_0, xm_low1, xm_low2, xm_low3, xm_low4, xl_n0, xl_n1, xb_nar, xe_if0, xe_ifn, xm_ci1, xm_ca1, pcl_33 P, c_Layers_isFull P, hn]
  rw [if_pos (nI_le (by omega) (by omega))]
/-- join: four rows -/
noncomputable def xj (c : Prop) (b : Int32) : Int32 := @ite _ c (Classical.propDecidable _) b (nI 0)
theorem c_Modules_join (P : Pic o V J p1 p2 cap hp) {m : Nat} (hm : m < 12) (t how : Int32) : ∃ hp', xm_call 8 [.ref (o + 1), .int (nI m), .int t, .int how] hp = some (none, hp') ∧
    Pic o (pv_row (pv_row (pv_row (pv_row V 2 (upd (V 2) m (V 2 m ||| (nI 1 <<< (t &&& 31))))) 3 (upd (V 3) m (V 3 m ||| xj (¬ how &&& nI 1 = 0) (nI 1 <<< (t &&& 31))))) 4 (upd (V 4) m (V 4 m ||| xj (how &&& nI 2 = 0) (nI 1 <<< (t &&& 31))))) 5 (upd (V 5) m (V 5 m ||| xj (¬ how &&& nI 1 = 0 ∧ how &&& nI 2 = 0) (nI 1 <<< (t &&& 31))))) J p1 p2 cap hp' ∧ hp'.2 = hp.2 := by
  generalize hb1 : xj (¬ how &&& nI 1 = 0) (nI 1 <<< (t &&& 31)) = b1
  generalize hb2 : xj (how &&& nI 2 = 0) (nI 1 <<< (t &&& 31)) = b2
  generalize hb3 : xj (¬ how &&& nI 1 = 0 ∧ how &&& nI 2 = 0) (nI 1 <<< (t &&& 31)) = b3
  have P1 := P.w 2 (by decide) (by decide) (by decide) (upd (V 2) m (V 2 m ||| (nI 1 <<< (t &&& 31))))
  have P2 := P1.w 3 (by decide) (by decide) (by decide) (upd (V 3) m (V 3 m ||| b1))
  have P3 := P2.w 4 (by decide) (by decide) (by decide) (upd (V 4) m (V 4 m ||| b2))
  have P4 := P3.w 5 (by decide) (by decide) (by decide) (upd (V 5) m (V 5 m ||| b3))
  refine ⟨_, ?_, P4, rfl⟩
  by_cases h1 : how &&& nI 1 = 0
  · obtain rfl : b1 = nI 0 := hb1.symm.trans (if_neg (fun z => z h1))
    obtain rfl : b3 = nI 0 := hb3.symm.trans (if_neg (fun z => z.1 h1))
    by_cases h2 : how &&& nI 2 = 0
    · obtain rfl : b2 = nI 1 <<< (t &&& 31) := hb2.symm.trans (if_pos h2)
      simp only [k8, s8_0, s8_1, s8_2, s8_3, s8_5, s8_6, s8_7, s8_8, s8_11, s8_12, s8_15, s8_16, s8_18, s8_19, s8_20, s8_21, s8_24, s8_25, s8_28, s8_29, s8_31, s8_32, s8_35, s8_36, s8_37, s8_38, s8_40, s8_41, s8_42, s8_43, s8_46, s8_47, s8_48, s8_49, s8_51, s8_54, s8_56, s8_59, s8_60, s8_61, s8_62, s8_63, s8_66, s8_67, s8_68, s8_69, s8_71, s8_74, s8_76, s8_79, s8_80, s8_81, s8_82, s8_83, s8_86, s8_87, s8_88, s8_89, s8_91, s8_94, s8_96, s8_99, s8_101, s8_104, s8_105, s8_106, s8_107, Option.bind_some, Option.toList_some, Option.toList_none, List.cons_append, List.nil_append, xm_kl_n, xm_kl_i, xm_kl_a, xm_kl_j, xl_0, xm_low1, xm_low2, xm_low3, xm_low4, xl_n0, xl_n1, xb_nar, xe_if0, xe_ifn, xm_ci1, xm_ca1, h1, h2, not_true, not_false_eq_true, if_true, if_false, show (nI 0 = 0) = True from propext ⟨fun _ => trivial, fun _ => rfl⟩, show (nI 1 = 0) = False from propext ⟨fun q => absurd q (by decide), fun q => q.elim⟩, pf_1_1 P, pai_2 P hm, pwi_2 P hm, pf_1_2 P1, pai_3 P1 hm, pwi_3 P1 hm, pf_1_3 P2, pai_4 P2 hm, pwi_4 P2 hm, pf_1_4 P3, pai_5 P3 hm, pwi_5 P3 hm, pv_23, pv_24, pv_25, pv_34, pv_35, pv_45]
    · obtain rfl : b2 = nI 0 := hb2.symm.trans (if_neg h2)
      simp only [k8, s8_0, s8_1, s8_2, s8_3, s8_5, s8_6, s8_7, s8_8, s8_11, s8_12, s8_15, s8_16, s8_18, s8_19, s8_20, s8_21, s8_24, s8_25, s8_28, s8_29, s8_31, s8_32, s8_35, s8_36, s8_37, s8_38, s8_40, s8_41, s8_42, s8_43, s8_46, s8_47, s8_48, s8_49, s8_51, s8_54, s8_56, s8_59, s8_60, s8_61, s8_62, s8_63, s8_66, s8_67, s8_68, s8_69, s8_71, s8_74, s8_76, s8_79, s8_80, s8_81, s8_82, s8_83, s8_86, s8_87, s8_88, s8_89, s8_91, s8_94, s8_96, s8_99, s8_101, s8_104, s8_105, s8_106, s8_107, Option.bind_some, Option.toList_some, Option.toList_none, List.cons_append, List.nil_append, xm_kl_n, xm_kl_i, xm_kl_a, xm_kl_j, xl_0, xm_low1, xm_low2, xm_low3, xm_low4, xl_n0, xl_n1, xb_nar, xe_if0, xe_ifn, xm_ci1, xm_ca1, h1, h2, not_true, not_false_eq_true, if_true, if_false, show (nI 0 = 0) = True from propext ⟨fun _ => trivial, fun _ => rfl⟩, show (nI 1 = 0) = False from propext ⟨fun q => absurd q (by decide), fun q => q.elim⟩, pf_1_1 P, pai_2 P hm, pwi_2 P hm, pf_1_2 P1, pai_3 P1 hm, pwi_3 P1 hm, pf_1_3 P2, pai_4 P2 hm, pwi_4 P2 hm, pf_1_4 P3, pai_5 P3 hm, pwi_5 P3 hm, pv_23, pv_24, pv_25, pv_34, pv_35, pv_45]
  · obtain rfl : b1 = nI 1 <<< (t &&& 31) := hb1.symm.trans (if_pos h1)
    by_cases h2 : how &&& nI 2 = 0
    · obtain rfl : b2 = nI 1 <<< (t &&& 31) := hb2.symm.trans (if_pos h2)
      obtain rfl : b3 = nI 1 <<< (t &&& 31) := hb3.symm.trans (if_pos ⟨h1, h2⟩)
      simp only [k8, s8_0, s8_1, s8_2, s8_3, s8_5, s8_6, s8_7, s8_8, s8_11, s8_12, s8_15, s8_16, s8_18, s8_19, s8_20, s8_21, s8_24, s8_25, s8_28, s8_29, s8_31, s8_32, s8_35, s8_36, s8_37, s8_38, s8_40, s8_41, s8_42, s8_43, s8_46, s8_47, s8_48, s8_49, s8_51, s8_54, s8_56, s8_59, s8_60, s8_61, s8_62, s8_63, s8_66, s8_67, s8_68, s8_69, s8_71, s8_74, s8_76, s8_79, s8_80, s8_81, s8_82, s8_83, s8_86, s8_87, s8_88, s8_89, s8_91, s8_94, s8_96, s8_99, s8_101, s8_104, s8_105, s8_106, s8_107, Option.bind_some, Option.toList_some, Option.toList_none, List.cons_append, List.nil_append, xm_kl_n, xm_kl_i, xm_kl_a, xm_kl_j, xl_0, xm_low1, xm_low2, xm_low3, xm_low4, xl_n0, xl_n1, xb_nar, xe_if0, xe_ifn, xm_ci1, xm_ca1, h1, h2, not_true, not_false_eq_true, if_true, if_false, show (nI 0 = 0) = True from propext ⟨fun _ => trivial, fun _ => rfl⟩, show (nI 1 = 0) = False from propext ⟨fun q => absurd q (by decide), fun q => q.elim⟩, pf_1_1 P, pai_2 P hm, pwi_2 P hm, pf_1_2 P1, pai_3 P1 hm, pwi_3 P1 hm, pf_1_3 P2, pai_4 P2 hm, pwi_4 P2 hm, pf_1_4 P3, pai_5 P3 hm, pwi_5 P3 hm, pv_23, pv_24, pv_25, pv_34, pv_35, pv_45]
    · obtain rfl : b2 = nI 0 := hb2.symm.trans (if_neg h2)
      obtain rfl : b3 = nI 0 := hb3.symm.trans (if_neg (fun z => h2 z.2))
      simp only [k8, s8_0, s8_1, s8_2, s8_3, s8_5, s8_6, s8_7, s8_8, s8_11, s8_12, s8_15, s8_16, s8_18, s8_19, s8_20, s8_21, s8_24, s8_25, s8_28, s8_29, s8_31, s8_32, s8_35, s8_36, s8_37, s8_38, s8_40, s8_41, s8_42, s8_43, s8_46, s8_47, s8_48, s8_49, s8_51, s8_54, s8_56, s8_59, s8_60, s8_61, s8_62, s8_63, s8_66, s8_67, s8_68, s8_69, s8_71, s8_74, s8_76, s8_79, s8_80, s8_81, s8_82, s8_83, s8_86, s8_87, s8_88, s8_89, s8_91, s8_94, s8_96, s8_99, s8_101, s8_104, s8_105, s8_106, s8_107, Option.bind_some, Option.toList_some, Option.toList_none, List.cons_append, List.nil_append, xm_kl_n, xm_kl_i, xm_kl_a, xm_kl_j, xl_0, xm_low1, xm_low2, xm_low3, xm_low4, xl_n0, xl_n1, xb_nar, xe_if0, xe_ifn, xm_ci1, xm_ca1, h1, h2, not_true, not_false_eq_true, if_true, if_false, show (nI 0 = 0) = True from propext ⟨fun _ => trivial, fun _ => rfl⟩, show (nI 1 = 0) = False from propext ⟨fun q => absurd q (by decide), fun q => q.elim⟩, pf_1_1 P, pai_2 P hm, pwi_2 P hm, pf_1_2 P1, pai_3 P1 hm, pwi_3 P1 hm, pf_1_3 P2, pai_4 P2 hm, pwi_4 P2 hm, pf_1_4 P3, pai_5 P3 hm, pwi_5 P3 hm, pv_23, pv_24, pv_25, pv_34, pv_35, pv_45]
theorem c_Packs_tell (P : Pic o V J p1 p2 cap hp) {p : Nat} (hq : p < 30) (t : Int32) (c : Prop) : ∃ hp', xm_call 71 [.ref (o + 6), .int (nI p), .int t, .int (xb c)] hp = some (none, hp') ∧ ((c ∧ Pic o (pv_row V 10 (upd (V 10) p (V 10 p ||| xbit t))) J p1 p2 cap hp') ∨ (¬ c ∧ Pic o (pv_row V 9 (upd (V 9) p (V 9 p ||| xbit t))) J p1 p2 cap hp')) ∧ hp'.2 = hp.2 := by
  by_cases h : c
  · refine ⟨_, ?_, Or.inl ⟨h, P.w 10 (by decide) (by decide) (by decide) (upd (V 10) p (V 10 p ||| xbit t))⟩, rfl⟩
    simp only [k71, s71_0, s71_1, s71_4, s71_5, s71_8, s71_9, s71_10, s71_11, s71_12, s71_15, s71_16, s71_17, s71_20, s71_21, s71_24, s71_25, s71_26, s71_27, s71_28, s71_31, s71_32, s71_33, Option.bind_some, Option.toList_some, Option.toList_none, List.cons_append, List.nil_append, xm_kl_n, xm_kl_i, xm_kl_a, xm_kl_j, xl_0, xm_low1, xm_low2, xm_low3, xm_low4, xl_n0, xl_n1, xb_nar, xe_if0, xe_ifn, xm_ci1, xm_ca1, pf_6_4 P, pf_6_3 P, pai_10 P hq, pai_9 P hq, pwi_10 P hq, pwi_9 P hq, c_Packs_bitOf]
    rw [if_pos h]
  · refine ⟨_, ?_, Or.inr ⟨h, P.w 9 (by decide) (by decide) (by decide) (upd (V 9) p (V 9 p ||| xbit t))⟩, rfl⟩
    simp only [k71, s71_0, s71_1, s71_4, s71_5, s71_8, s71_9, s71_10, s71_11, s71_12, s71_15, s71_16, s71_17, s71_20, s71_21, s71_24, s71_25, s71_26, s71_27, s71_28, s71_31, s71_32, s71_33, Option.bind_some, Option.toList_some, Option.toList_none, List.cons_append, List.nil_append, xm_kl_n, xm_kl_i, xm_kl_a, xm_kl_j, xl_0, xm_low1, xm_low2, xm_low3, xm_low4, xl_n0, xl_n1, xb_nar, xe_if0, xe_ifn, xm_ci1, xm_ca1, pf_6_4 P, pf_6_3 P, pai_10 P hq, pai_9 P hq, pwi_10 P hq, pwi_9 P hq, c_Packs_bitOf]
    rw [if_neg h]
theorem c_Services_use (P : Pic o V J p1 p2 cap hp) {m : Nat} (hm : m < 12) (t : Int32) : ∃ hp', xm_call 15 [.ref (o + 29), .int (nI m), .int t] hp = some (none, hp') ∧ Pic o V (vp_updL J m (J m ||| ((1 : Int64) <<< (t.toInt64 &&& 63)))) p1 p2 cap hp' ∧ hp'.2 = hp.2 := by
  refine ⟨_, ?_, P.wJ _, rfl⟩
  simp only [k15, s15_0, s15_1, s15_4, s15_5, s15_6, s15_7, s15_8, s15_9, s15_10, s15_11, s15_12, Option.bind_some, Option.toList_some, Option.toList_none, List.cons_append, List.nil_append, xm_kl_n, xm_kl_i, xm_kl_a, xm_kl_j, xl_0, xm_low1, xm_low2, xm_low3, xm_low4, xl_n0, xl_n1, xb_nar, xe_if0, xe_ifn, xm_ci1, xm_ca1, pf_29_1 P, paj_30 P hm, pwj_30 P hm]
theorem c_Units_addImport (P : Pic o V J p1 p2 cap hp) {u n : Nat} (hu : u < 12) (hn : V 25 u = nI n) (h : n < 10) (kd w nm : Int32) : ∃ hp', xm_call 80 [.ref (o + 23), .int (nI u), .int kd, .int w, .int nm] hp = some (some (.int (nI (n + 1))), hp') ∧ Pic o (pv_row (pv_row (pv_row (pv_row V 26 (upd (V 26) (u * 10 + n) kd)) 27 (upd (V 27) (u * 10 + n) w)) 28 (upd (V 28) (u * 10 + n) nm)) 25 (upd (V 25) u (nI (n + 1)))) J p1 p2 cap hp' ∧ hp'.2 = hp.2 := by
  have P1 := P.w 26 (by decide) (by decide) (by decide) (upd (V 26) (u * 10 + n) kd)
  have P2 := P1.w 27 (by decide) (by decide) (by decide) (upd (V 27) (u * 10 + n) w)
  have P3 := P2.w 28 (by decide) (by decide) (by decide) (upd (V 28) (u * 10 + n) nm)
  have P4 := P3.w 25 (by decide) (by decide) (by decide) (upd (V 25) u (nI (n + 1)))
  have hx : u * 10 + n < 120 := by omega
  refine ⟨_, ?_, P4, rfl⟩
  have n3 : (pv_row (pv_row (pv_row V 26 (upd (V 26) (u * 10 + n) kd)) 27 (upd (V 27) (u * 10 + n) w)) 28 (upd (V 28) (u * 10 + n) nm)) 25 u = nI n := hn
  have r1 : (pv_row V 26 (upd (V 26) (u * 10 + n) kd)) 27 = V 27 := rfl
  have r2 : (pv_row (pv_row V 26 (upd (V 26) (u * 10 + n) kd)) 27 (upd (V 27) (u * 10 + n) w)) 28 = V 28 := rfl
  have r3 : (pv_row (pv_row (pv_row V 26 (upd (V 26) (u * 10 + n) kd)) 27 (upd (V 27) (u * 10 + n) w)) 28 (upd (V 28) (u * 10 + n) nm)) 25 = V 25 := rfl
  have n4 : (pv_row (pv_row (pv_row (pv_row V 26 (upd (V 26) (u * 10 + n) kd)) 27 (upd (V 27) (u * 10 + n) w)) 28 (upd (V 28) (u * 10 + n) nm)) 25 (upd (V 25) u (nI (n + 1)))) 25 u = nI (n + 1) := if_pos rfl
  simp only [k80, s80_0, s80_1, s80_2, s80_5, s80_8, s80_10, s80_11, s80_12, s80_14, s80_15, s80_16, s80_19, s80_20, s80_21, s80_22, s80_24, s80_25, s80_28, s80_30, s80_31, s80_32, s80_33, s80_36, s80_38, s80_39, s80_40, s80_41, s80_44, s80_46, s80_48, s80_49, s80_50, s80_53, s80_54, s80_55, s80_56, s80_57, s80_58, s80_59, s80_60, s80_63, s80_64, s80_65, Option.bind_some, Option.toList_some, Option.toList_none, List.cons_append, List.nil_append, xm_kl_n, xm_kl_i, xm_kl_a, xm_kl_j, xl_0, xm_low1, xm_low2, xm_low3, xm_low4, xl_n0, xl_n1, xb_nar, xe_if0, xe_ifn, xm_ci1, xm_ca1, pcl_23 P, c_Units_isFull P hu, pf_23_2 P, pai_25 P hu, hn, pk_mul, nI_add, pf_23_3 P, pwi_26 P hx, pf_23_4 P1, pwi_27 P1 hx, pf_23_5 P2, pwi_28 P2 hx, pf_23_2 P3, pai_25 P3 hu, n3, pwi_25 P3 hu, r1, r2, r3, pf_23_2 P4, pai_25 P4 hu, n4]
  rw [if_neg (nI_ge (by omega) (by omega))]
end WRITES
