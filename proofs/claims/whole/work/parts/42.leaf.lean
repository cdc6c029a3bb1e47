/-! the class's small methods -/
/-- a set of one: a module's bit, or that of all -/
def xbit (t : Int32) : Int32 := if t = -1 then nI 4096 else nI 1 <<< (t &&& 31)
section LEAF
variable {o : Nat} {V : pc_V} {J : Nat → Int64} {p1 p2 cap : Nat} {hp : xm_H}
theorem c_Modules_holds (P : Pic o V J p1 p2 cap hp) (v : Int32) : xm_call 65 [.ref (o + 1), .int v] hp = some (some (.int (xb (0 ≤ v ∧ v < V 1 0))), hp) := by
  simp only [k65, s65_0, s65_1, s65_2, s65_5, s65_8, Option.bind_some, Option.toList_some, Option.toList_none, List.cons_append, List.nil_append, xm_kl_n, xm_kl_i, xm_kl_a, xm_kl_j, xl_0, xm_low1, xm_low2, xm_low3, xm_low4, xl_n0, xl_n1, xb_nar, xe_if0, xe_ifn, xm_ci1, xm_ca1, pf_1_0 P, c_within]
theorem c_Packs_holds (P : Pic o V J p1 p2 cap hp) (v : Int32) : xm_call 69 [.ref (o + 6), .int v] hp = some (some (.int (xb (0 ≤ v ∧ v < V 6 0))), hp) := by
  simp only [k69, s69_0, s69_1, s69_2, s69_5, s69_8, Option.bind_some, Option.toList_some, Option.toList_none, List.cons_append, List.nil_append, xm_kl_n, xm_kl_i, xm_kl_a, xm_kl_j, xl_0, xm_low1, xm_low2, xm_low3, xm_low4, xl_n0, xl_n1, xb_nar, xe_if0, xe_ifn, xm_ci1, xm_ca1, pf_6_0 P, c_within]
theorem c_Types_holds (P : Pic o V J p1 p2 cap hp) (v : Int32) : xm_call 77 [.ref (o + 11), .int v] hp = some (some (.int (xb (0 ≤ v ∧ v < V 11 0))), hp) := by
  simp only [k77, s77_0, s77_1, s77_2, s77_5, s77_8, Option.bind_some, Option.toList_some, Option.toList_none, List.cons_append, List.nil_append, xm_kl_n, xm_kl_i, xm_kl_a, xm_kl_j, xl_0, xm_low1, xm_low2, xm_low3, xm_low4, xl_n0, xl_n1, xb_nar, xe_if0, xe_ifn, xm_ci1, xm_ca1, pf_11_0 P, c_within]
theorem c_Units_holds (P : Pic o V J p1 p2 cap hp) (v : Int32) : xm_call 79 [.ref (o + 23), .int v] hp = some (some (.int (xb (0 ≤ v ∧ v < V 23 0))), hp) := by
  simp only [k79, s79_0, s79_1, s79_2, s79_5, s79_8, Option.bind_some, Option.toList_some, Option.toList_none, List.cons_append, List.nil_append, xm_kl_n, xm_kl_i, xm_kl_a, xm_kl_j, xl_0, xm_low1, xm_low2, xm_low3, xm_low4, xl_n0, xl_n1, xb_nar, xe_if0, xe_ifn, xm_ci1, xm_ca1, pf_23_0 P, c_within]
theorem c_Layers_holds (P : Pic o V J p1 p2 cap hp) (v : Int32) : xm_call 60 [.ref (o + 33), .int v] hp = some (some (.int (xb (0 ≤ v ∧ v < V 33 0))), hp) := by
  simp only [k60, s60_0, s60_1, s60_2, s60_5, s60_8, Option.bind_some, Option.toList_some, Option.toList_none, List.cons_append, List.nil_append, xm_kl_n, xm_kl_i, xm_kl_a, xm_kl_j, xl_0, xm_low1, xm_low2, xm_low3, xm_low4, xl_n0, xl_n1, xb_nar, xe_if0, xe_ifn, xm_ci1, xm_ca1, pf_33_0 P, c_within]
theorem c_Layers_isFull (P : Pic o V J p1 p2 cap hp) : xm_call 0 [.ref (o + 33)] hp = some (some (.int (xb (nI 4 ≤ V 33 0))), hp) := by
  simp only [k0, s0_0, s0_1, s0_4, s0_5, s0_8, s0_9, s0_12, s0_13, Option.bind_some, Option.toList_some, Option.toList_none, List.cons_append, List.nil_append, xm_kl_n, xm_kl_i, xm_kl_a, xm_kl_j, xl_0, xm_low1, xm_low2, xm_low3, xm_low4, xl_n0, xl_n1, xb_nar, xe_if0, xe_ifn, xm_ci1, xm_ca1, pf_33_0 P]
  by_cases h : V 33 0 < nI 4
  · rw [if_pos h, xb_f (Int32.not_le.mpr h)]
  · rw [if_neg h, xb_t (Int32.not_lt.mp h)]
theorem c_Packs_ownerOf (P : Pic o V J p1 p2 cap hp) {i : Nat} (hi : i < 30) : xm_call 11 [.ref (o + 6), .int (nI i)] hp = some (some (.int (V 7 i)), hp) := by
  simp only [k11, s11_0, s11_1, s11_4, s11_5, s11_6, Option.bind_some, Option.toList_some, Option.toList_none, List.cons_append, List.nil_append, xm_kl_n, xm_kl_i, xm_kl_a, xm_kl_j, xl_0, xm_low1, xm_low2, xm_low3, xm_low4, xl_n0, xl_n1, xb_nar, xe_if0, xe_ifn, xm_ci1, xm_ca1, pf_6_1 P, pai_7 P hi]
theorem c_Packs_nameOf (P : Pic o V J p1 p2 cap hp) {i : Nat} (hi : i < 30) : xm_call 12 [.ref (o + 6), .int (nI i)] hp = some (some (.int (V 8 i)), hp) := by
  simp only [k12, s12_0, s12_1, s12_4, s12_5, s12_6, Option.bind_some, Option.toList_some, Option.toList_none, List.cons_append, List.nil_append, xm_kl_n, xm_kl_i, xm_kl_a, xm_kl_j, xl_0, xm_low1, xm_low2, xm_low3, xm_low4, xl_n0, xl_n1, xb_nar, xe_if0, xe_ifn, xm_ci1, xm_ca1, pf_6_2 P, pai_8 P hi]
theorem c_Types_packOf (P : Pic o V J p1 p2 cap hp) {i : Nat} (hi : i < 40) : xm_call 22 [.ref (o + 11), .int (nI i)] hp = some (some (.int (V 12 i)), hp) := by
  simp only [k22, s22_0, s22_1, s22_4, s22_5, s22_6, Option.bind_some, Option.toList_some, Option.toList_none, List.cons_append, List.nil_append, xm_kl_n, xm_kl_i, xm_kl_a, xm_kl_j, xl_0, xm_low1, xm_low2, xm_low3, xm_low4, xl_n0, xl_n1, xb_nar, xe_if0, xe_ifn, xm_ci1, xm_ca1, pf_11_1 P, pai_12 P hi]
theorem c_Types_nameOf (P : Pic o V J p1 p2 cap hp) {i : Nat} (hi : i < 40) : xm_call 23 [.ref (o + 11), .int (nI i)] hp = some (some (.int (V 13 i)), hp) := by
  simp only [k23, s23_0, s23_1, s23_4, s23_5, s23_6, Option.bind_some, Option.toList_some, Option.toList_none, List.cons_append, List.nil_append, xm_kl_n, xm_kl_i, xm_kl_a, xm_kl_j, xl_0, xm_low1, xm_low2, xm_low3, xm_low4, xl_n0, xl_n1, xb_nar, xe_if0, xe_ifn, xm_ci1, xm_ca1, pf_11_2 P, pai_13 P hi]
theorem c_Types_kindOf (P : Pic o V J p1 p2 cap hp) {i : Nat} (hi : i < 40) : xm_call 24 [.ref (o + 11), .int (nI i)] hp = some (some (.int (V 14 i)), hp) := by
  simp only [k24, s24_0, s24_1, s24_4, s24_5, s24_6, Option.bind_some, Option.toList_some, Option.toList_none, List.cons_append, List.nil_append, xm_kl_n, xm_kl_i, xm_kl_a, xm_kl_j, xl_0, xm_low1, xm_low2, xm_low3, xm_low4, xl_n0, xl_n1, xb_nar, xe_if0, xe_ifn, xm_ci1, xm_ca1, pf_11_3 P, pai_14 P hi]
theorem c_Types_parentOf (P : Pic o V J p1 p2 cap hp) {i : Nat} (hi : i < 40) : xm_call 25 [.ref (o + 11), .int (nI i)] hp = some (some (.int (V 16 i)), hp) := by
  simp only [k25, s25_0, s25_1, s25_4, s25_5, s25_6, Option.bind_some, Option.toList_some, Option.toList_none, List.cons_append, List.nil_append, xm_kl_n, xm_kl_i, xm_kl_a, xm_kl_j, xl_0, xm_low1, xm_low2, xm_low3, xm_low4, xl_n0, xl_n1, xb_nar, xe_if0, xe_ifn, xm_ci1, xm_ca1, pf_11_5 P, pai_16 P hi]
theorem c_Types_isOpen (P : Pic o V J p1 p2 cap hp) {i : Nat} (hi : i < 40) : xm_call 26 [.ref (o + 11), .int (nI i)] hp = some (some (.int (xb (¬ V 15 i &&& nI 1 = 0))), hp) := by
  simp only [k26, s26_0, s26_1, s26_4, s26_5, s26_6, s26_7, s26_8, s26_11, s26_12, s26_15, s26_16, Option.bind_some, Option.toList_some, Option.toList_none, List.cons_append, List.nil_append, xm_kl_n, xm_kl_i, xm_kl_a, xm_kl_j, xl_0, xm_low1, xm_low2, xm_low3, xm_low4, xl_n0, xl_n1, xb_nar, xe_if0, xe_ifn, xm_ci1, xm_ca1, pf_11_4 P, pai_15 P hi]
  by_cases h : V 15 i &&& nI 1 = 0
  · rw [if_pos h, xb_f (fun q => q h)]
  · rw [if_neg h, xb_t h]
theorem c_Types_hasMaker (P : Pic o V J p1 p2 cap hp) {i : Nat} (hi : i < 40) : xm_call 27 [.ref (o + 11), .int (nI i)] hp = some (some (.int (xb (¬ V 15 i &&& nI 2 = 0))), hp) := by
  simp only [k27, s27_0, s27_1, s27_4, s27_5, s27_6, s27_7, s27_8, s27_11, s27_12, s27_15, s27_16, Option.bind_some, Option.toList_some, Option.toList_none, List.cons_append, List.nil_append, xm_kl_n, xm_kl_i, xm_kl_a, xm_kl_j, xl_0, xm_low1, xm_low2, xm_low3, xm_low4, xl_n0, xl_n1, xb_nar, xe_if0, xe_ifn, xm_ci1, xm_ca1, pf_11_4 P, pai_15 P hi]
  by_cases h : V 15 i &&& nI 2 = 0
  · rw [if_pos h, xb_f (fun q => q h)]
  · rw [if_neg h, xb_t h]
theorem c_Members_typeOf (P : Pic o V J p1 p2 cap hp) {i : Nat} (hi : i < 60) : xm_call 4 [.ref (o + 17), .int (nI i)] hp = some (some (.int (V 18 i)), hp) := by
  simp only [k4, s4_0, s4_1, s4_4, s4_5, s4_6, Option.bind_some, Option.toList_some, Option.toList_none, List.cons_append, List.nil_append, xm_kl_n, xm_kl_i, xm_kl_a, xm_kl_j, xl_0, xm_low1, xm_low2, xm_low3, xm_low4, xl_n0, xl_n1, xb_nar, xe_if0, xe_ifn, xm_ci1, xm_ca1, pf_17_1 P, pai_18 P hi]
theorem c_Members_isOpen (P : Pic o V J p1 p2 cap hp) {i : Nat} (hi : i < 60) {c : Prop} (hc : V 21 i = xb c) : xm_call 5 [.ref (o + 17), .int (nI i)] hp = some (some (.int (xb c)), hp) := by
  simp only [k5, s5_0, s5_1, s5_4, s5_5, s5_6, Option.bind_some, Option.toList_some, Option.toList_none, List.cons_append, List.nil_append, xm_kl_n, xm_kl_i, xm_kl_a, xm_kl_j, xl_0, xm_low1, xm_low2, xm_low3, xm_low4, xl_n0, xl_n1, xb_nar, xe_if0, xe_ifn, xm_ci1, xm_ca1, pf_17_4 P, paz_21 P hi, hc]
theorem c_Members_givenBy (P : Pic o V J p1 p2 cap hp) {i : Nat} (hi : i < 60) : xm_call 6 [.ref (o + 17), .int (nI i)] hp = some (some (.int (V 22 i)), hp) := by
  simp only [k6, s6_0, s6_1, s6_4, s6_5, s6_6, Option.bind_some, Option.toList_some, Option.toList_none, List.cons_append, List.nil_append, xm_kl_n, xm_kl_i, xm_kl_a, xm_kl_j, xl_0, xm_low1, xm_low2, xm_low3, xm_low4, xl_n0, xl_n1, xb_nar, xe_if0, xe_ifn, xm_ci1, xm_ca1, pf_17_5 P, pai_22 P hi]
theorem c_Units_packOf (P : Pic o V J p1 p2 cap hp) {i : Nat} (hi : i < 12) : xm_call 30 [.ref (o + 23), .int (nI i)] hp = some (some (.int (V 24 i)), hp) := by
  simp only [k30, s30_0, s30_1, s30_4, s30_5, s30_6, Option.bind_some, Option.toList_some, Option.toList_none, List.cons_append, List.nil_append, xm_kl_n, xm_kl_i, xm_kl_a, xm_kl_j, xl_0, xm_low1, xm_low2, xm_low3, xm_low4, xl_n0, xl_n1, xb_nar, xe_if0, xe_ifn, xm_ci1, xm_ca1, pf_23_1 P, pai_24 P hi]
theorem c_Units_importsOf (P : Pic o V J p1 p2 cap hp) {i : Nat} (hi : i < 12) : xm_call 31 [.ref (o + 23), .int (nI i)] hp = some (some (.int (V 25 i)), hp) := by
  simp only [k31, s31_0, s31_1, s31_4, s31_5, s31_6, Option.bind_some, Option.toList_some, Option.toList_none, List.cons_append, List.nil_append, xm_kl_n, xm_kl_i, xm_kl_a, xm_kl_j, xl_0, xm_low1, xm_low2, xm_low3, xm_low4, xl_n0, xl_n1, xb_nar, xe_if0, xe_ifn, xm_ci1, xm_ca1, pf_23_2 P, pai_25 P hi]
theorem c_Units_isFull (P : Pic o V J p1 p2 cap hp) {i : Nat} (hi : i < 12) : xm_call 32 [.ref (o + 23), .int (nI i)] hp = some (some (.int (xb (nI 10 ≤ V 25 i))), hp) := by
  simp only [k32, s32_0, s32_1, s32_4, s32_5, s32_6, s32_8, s32_11, s32_12, s32_15, s32_16, Option.bind_some, Option.toList_some, Option.toList_none, List.cons_append, List.nil_append, xm_kl_n, xm_kl_i, xm_kl_a, xm_kl_j, xl_0, xm_low1, xm_low2, xm_low3, xm_low4, xl_n0, xl_n1, xb_nar, xe_if0, xe_ifn, xm_ci1, xm_ca1, pf_23_2 P, pai_25 P hi]
  by_cases h : V 25 i < nI 10
  · rw [if_pos h, xb_f (Int32.not_le.mpr h)]
  · rw [if_neg h, xb_t (Int32.not_lt.mp h)]
theorem c_Units_kindAt (P : Pic o V J p1 p2 cap hp) {i k : Nat} (hi : i < 12) (hk : k < 10) : xm_call 33 [.ref (o + 23), .int (nI i), .int (nI k)] hp = some (some (.int (V 26 (i * 10 + k))), hp) := by
  simp only [k33, s33_0, s33_1, s33_4, s33_5, s33_7, s33_8, s33_9, s33_10, s33_11, Option.bind_some, Option.toList_some, Option.toList_none, List.cons_append, List.nil_append, xm_kl_n, xm_kl_i, xm_kl_a, xm_kl_j, xl_0, xm_low1, xm_low2, xm_low3, xm_low4, xl_n0, xl_n1, xb_nar, xe_if0, xe_ifn, xm_ci1, xm_ca1, pf_23_3 P, pk_mul, nI_add, pai_26 P (show i * 10 + k < 120 by omega)]
theorem c_Units_whatAt (P : Pic o V J p1 p2 cap hp) {i k : Nat} (hi : i < 12) (hk : k < 10) : xm_call 34 [.ref (o + 23), .int (nI i), .int (nI k)] hp = some (some (.int (V 27 (i * 10 + k))), hp) := by
  simp only [k34, s34_0, s34_1, s34_4, s34_5, s34_7, s34_8, s34_9, s34_10, s34_11, Option.bind_some, Option.toList_some, Option.toList_none, List.cons_append, List.nil_append, xm_kl_n, xm_kl_i, xm_kl_a, xm_kl_j, xl_0, xm_low1, xm_low2, xm_low3, xm_low4, xl_n0, xl_n1, xb_nar, xe_if0, xe_ifn, xm_ci1, xm_ca1, pf_23_4 P, pk_mul, nI_add, pai_27 P (show i * 10 + k < 120 by omega)]
theorem c_Units_nameAt (P : Pic o V J p1 p2 cap hp) {i k : Nat} (hi : i < 12) (hk : k < 10) : xm_call 35 [.ref (o + 23), .int (nI i), .int (nI k)] hp = some (some (.int (V 28 (i * 10 + k))), hp) := by
  simp only [k35, s35_0, s35_1, s35_4, s35_5, s35_7, s35_8, s35_9, s35_10, s35_11, Option.bind_some, Option.toList_some, Option.toList_none, List.cons_append, List.nil_append, xm_kl_n, xm_kl_i, xm_kl_a, xm_kl_j, xl_0, xm_low1, xm_low2, xm_low3, xm_low4, xl_n0, xl_n1, xb_nar, xe_if0, xe_ifn, xm_ci1, xm_ca1, pf_23_5 P, pk_mul, nI_add, pai_28 P (show i * 10 + k < 120 by omega)]
theorem pai_31 (P : Pic o V J p1 p2 cap hp) {i : Nat} (hi : i < cap) (hc : cap < 2 ^ 31) : xm_ai hp p1 (nI i) = some (V 31 i) := by
  unfold xm_ai; rw [P.2.1]; simp only [xm_oo hi hc, nI_clamp (show i < 2 ^ 31 by omega)]; rfl
theorem pai_32 (P : Pic o V J p1 p2 cap hp) {i : Nat} (hi : i < cap) (hc : cap < 2 ^ 31) : xm_ai hp p2 (nI i) = some (V 32 i) := by
  unfold xm_ai; rw [P.2.2.1]; simp only [xm_oo hi hc, nI_clamp (show i < 2 ^ 31 by omega)]; rfl
theorem c_Services_serviceAt (P : Pic o V J p1 p2 cap hp) {i : Nat} (hi : i < cap) (hc : cap < 2 ^ 31) : xm_call 17 [.ref (o + 29), .int (nI i)] hp = some (some (.int (V 31 i)), hp) := by
  simp only [k17, s17_0, s17_1, s17_4, s17_5, s17_6, Option.bind_some, Option.toList_some, Option.toList_none, List.cons_append, List.nil_append, xm_kl_n, xm_kl_i, xm_kl_a, xm_kl_j, xl_0, xm_low1, xm_low2, xm_low3, xm_low4, xl_n0, xl_n1, xb_nar, xe_if0, xe_ifn, xm_ci1, xm_ca1, pf_29_2 P, pai_31 P hi hc]
theorem c_Services_typeAt (P : Pic o V J p1 p2 cap hp) {i : Nat} (hi : i < cap) (hc : cap < 2 ^ 31) : xm_call 18 [.ref (o + 29), .int (nI i)] hp = some (some (.int (V 32 i)), hp) := by
  simp only [k18, s18_0, s18_1, s18_4, s18_5, s18_6, Option.bind_some, Option.toList_some, Option.toList_none, List.cons_append, List.nil_append, xm_kl_n, xm_kl_i, xm_kl_a, xm_kl_j, xl_0, xm_low1, xm_low2, xm_low3, xm_low4, xl_n0, xl_n1, xb_nar, xe_if0, xe_ifn, xm_ci1, xm_ca1, pf_29_3 P, pai_32 P hi hc]
theorem c_Services_isUsed (P : Pic o V J p1 p2 cap hp) {i : Nat} (hi : i < 12) (t : Int32) : xm_call 14 [.ref (o + 29), .int (nI i), .int t] hp = some (some (.int (xb (¬ lg_cmp (J i &&& ((1 : Int64) <<< (t.toInt64 &&& 63))) 0 = 0))), hp) := by
  simp only [k14, s14_0, s14_1, s14_4, s14_5, s14_6, s14_7, s14_8, s14_9, s14_10, s14_11, s14_12, s14_15, s14_16, s14_19, s14_20, Option.bind_some, Option.toList_some, Option.toList_none, List.cons_append, List.nil_append, xm_kl_n, xm_kl_i, xm_kl_a, xm_kl_j, xl_0, xm_low1, xm_low2, xm_low3, xm_low4, xl_n0, xl_n1, xb_nar, xe_if0, xe_ifn, xm_ci1, xm_ca1, pf_29_1 P, paj_30 P hi]
  by_cases h : lg_cmp (J i &&& ((1 : Int64) <<< (t.toInt64 &&& 63))) 0 = 0
  · rw [if_pos h, xb_f (fun q => q h)]
  · rw [if_neg h, xb_t h]
theorem c_Packs_bitOf (t : Int32) : xm_call 13 [.int t] hp = some (some (.int (xbit t)), hp) := by
  simp only [k13, s13_0, s13_1, s13_2, s13_5, s13_8, s13_11, s13_12, s13_13, s13_14, Option.bind_some, Option.toList_some, Option.toList_none, List.cons_append, List.nil_append, xm_kl_n, xm_kl_i, xm_kl_a, xm_kl_j, xl_0, xm_low1, xm_low2, xm_low3, xm_low4, xl_n0, xl_n1, xb_nar, xe_if0, xe_ifn, xm_ci1, xm_ca1]
  unfold xbit
  by_cases h : t = -1
  · rw [if_neg (fun q => q h), if_pos h]
  · rw [if_pos h, if_neg h]
theorem c_Packs_isTold (P : Pic o V J p1 p2 cap hp) {i : Nat} (hi : i < 30) (t : Int32) (c : Prop) : xm_call 70 [.ref (o + 6), .int (nI i), .int t, .int (xb c)] hp = some (some (.int (xb ((c ∧ ¬ V 10 i &&& xbit t = 0) ∨ (¬ c ∧ ¬ V 9 i &&& xbit t = 0)))), hp) := by
  simp only [k70, s70_0, s70_1, s70_4, s70_5, s70_8, s70_9, s70_10, s70_13, s70_14, s70_17, s70_18, s70_19, s70_20, s70_23, s70_24, s70_27, s70_28, s70_31, s70_32, Option.bind_some, Option.toList_some, Option.toList_none, List.cons_append, List.nil_append, xm_kl_n, xm_kl_i, xm_kl_a, xm_kl_j, xl_0, xm_low1, xm_low2, xm_low3, xm_low4, xl_n0, xl_n1, xb_nar, xe_if0, xe_ifn, xm_ci1, xm_ca1, pf_6_3 P, pf_6_4 P, pai_9 P hi, pai_10 P hi, c_Packs_bitOf]
  by_cases h : c
  · rw [if_pos h, xe_01]
    exact congrArg (fun z => some (some (Value.int z), hp)) (xb_cg ⟨fun q => Or.inl ⟨h, q⟩, fun q => q.elim (fun w => w.2) (fun w => absurd h w.1)⟩)
  · rw [if_neg h, xe_01]
    exact congrArg (fun z => some (some (Value.int z), hp)) (xb_cg ⟨fun q => Or.inr ⟨h, q⟩, fun q => q.elim (fun w => absurd w.1 h) (fun w => w.2)⟩)
theorem c_Packs_isExportedTo (P : Pic o V J p1 p2 cap hp) {i : Nat} (hi : i < 30) (t : Int32) : xm_call 72 [.ref (o + 6), .int (nI i), .int t] hp = some (some (.int (xb (¬ V 9 i &&& (nI 4096 ||| (xbit t)) = 0))), hp) := by
  simp only [k72, s72_0, s72_1, s72_4, s72_5, s72_6, s72_9, s72_10, s72_13, s72_14, s72_15, s72_18, s72_19, s72_22, s72_23, Option.bind_some, Option.toList_some, Option.toList_none, List.cons_append, List.nil_append, xm_kl_n, xm_kl_i, xm_kl_a, xm_kl_j, xl_0, xm_low1, xm_low2, xm_low3, xm_low4, xl_n0, xl_n1, xb_nar, xe_if0, xe_ifn, xm_ci1, xm_ca1, pf_6_3 P, pai_9 P hi, c_Packs_bitOf]
  exact xe_01
theorem c_Packs_isOpenedTo (P : Pic o V J p1 p2 cap hp) {i : Nat} (hi : i < 30) (t : Int32) : xm_call 73 [.ref (o + 6), .int (nI i), .int t] hp = some (some (.int (xb (¬ V 10 i &&& (nI 4096 ||| (xbit t)) = 0))), hp) := by
  simp only [k73, s73_0, s73_1, s73_4, s73_5, s73_6, s73_9, s73_10, s73_13, s73_14, s73_15, s73_18, s73_19, s73_22, s73_23, Option.bind_some, Option.toList_some, Option.toList_none, List.cons_append, List.nil_append, xm_kl_n, xm_kl_i, xm_kl_a, xm_kl_j, xl_0, xm_low1, xm_low2, xm_low3, xm_low4, xl_n0, xl_n1, xb_nar, xe_if0, xe_ifn, xm_ci1, xm_ca1, pf_6_4 P, pai_10 P hi, c_Packs_bitOf]
  exact xe_01
theorem c_Modules_needsAlready (P : Pic o V J p1 p2 cap hp) {i : Nat} (hi : i < 12) (t : Int32) : xm_call 66 [.ref (o + 1), .int (nI i), .int t] hp = some (some (.int (xb (¬ V 2 i &&& (nI 1 <<< (t &&& 31)) = 0))), hp) := by
  simp only [k66, s66_0, s66_1, s66_4, s66_5, s66_6, s66_7, s66_10, Option.bind_some, Option.toList_some, Option.toList_none, List.cons_append, List.nil_append, xm_kl_n, xm_kl_i, xm_kl_a, xm_kl_j, xl_0, xm_low1, xm_low2, xm_low3, xm_low4, xl_n0, xl_n1, xb_nar, xe_if0, xe_ifn, xm_ci1, xm_ca1, pf_1_1 P, pai_2 P hi, c_hasBit]
end LEAF
