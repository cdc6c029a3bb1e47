/-! the class's searches -/
/-- the first of d numbers from k on that has c -/
noncomputable def xfo (c : Nat → Prop) : Nat → Nat → Option Nat
  | _, 0 => none
  | k, d + 1 => @ite _ (c k) (Classical.propDecidable _) (some k) (xfo c (k + 1) d)
/-- one of d numbers from k on has c -/
noncomputable def xan (c : Nat → Prop) : Nat → Nat → Bool
  | _, 0 => false
  | k, d + 1 => @ite _ (c k) (Classical.propDecidable _) true (xan c (k + 1) d)
theorem xfo_t {c : Nat → Prop} {k d : Nat} (h : c k) : xfo c k (d + 1) = some k := if_pos h
theorem xfo_f {c : Nat → Prop} {k d : Nat} (h : ¬ c k) : xfo c k (d + 1) = xfo c (k + 1) d := if_neg h
theorem xan_t {c : Nat → Prop} {k d : Nat} (h : c k) : xan c k (d + 1) = true := if_pos h
theorem xan_f {c : Nat → Prop} {k d : Nat} (h : ¬ c k) : xan c k (d + 1) = xan c (k + 1) d := if_neg h
theorem xfo_some (c : Nat → Prop) : ∀ d k i, xfo c k d = some i ↔ (k ≤ i ∧ i < k + d ∧ c i ∧ ∀ i', k ≤ i' → i' < i → ¬ c i') := by
  intro d
  induction d with
  | zero => intro k i; exact ⟨(fun h => by cases h), (fun h => by omega)⟩
  | succ d ih =>
    intro k i
    by_cases h : c k
    · rw [xfo_t h]
      constructor
      · intro e; cases e; exact ⟨Nat.le_refl _, by omega, h, fun i' h1 h2 => by omega⟩
      · rintro ⟨h1, h2, h3, h4⟩
        by_cases hik : i = k
        · rw [hik]
        · exact absurd h (h4 k (Nat.le_refl _) (by omega))
    · rw [xfo_f h, ih (k + 1) i]
      constructor
      · rintro ⟨h1, h2, h3, h4⟩
        refine ⟨by omega, by omega, h3, fun i' a b => ?_⟩
        by_cases hik : i' = k
        · rw [hik]; exact h
        · exact h4 i' (by omega) b
      · rintro ⟨h1, h2, h3, h4⟩
        refine ⟨?_, by omega, h3, fun i' a b => h4 i' (by omega) b⟩
        by_cases hik : i = k
        · subst hik; exact absurd h3 h
        · omega
theorem xfo_none (c : Nat → Prop) : ∀ d k, xfo c k d = none ↔ ∀ i, k ≤ i → i < k + d → ¬ c i := by
  intro d
  induction d with
  | zero => intro k; exact ⟨(fun _ i h1 h2 => by omega), (fun _ => rfl)⟩
  | succ d ih =>
    intro k
    by_cases h : c k
    · rw [xfo_t h]; exact ⟨(fun e => by cases e), (fun e => absurd h (e k (Nat.le_refl _) (by omega)))⟩
    · rw [xfo_f h, ih (k + 1)]
      constructor
      · intro e i h1 h2
        by_cases hik : i = k
        · rw [hik]; exact h
        · exact e i (by omega) (by omega)
      · intro e i h1 h2; exact e i (by omega) (by omega)
theorem xan_spec (c : Nat → Prop) : ∀ d k, xan c k d = true ↔ ∃ i, k ≤ i ∧ i < k + d ∧ c i := by
  intro d
  induction d with
  | zero => intro k; exact ⟨(fun h => by cases h), (fun ⟨i, h1, h2, _⟩ => by omega)⟩
  | succ d ih =>
    intro k
    by_cases h : c k
    · rw [xan_t h]; exact ⟨fun _ => ⟨k, Nat.le_refl _, by omega, h⟩, fun _ => rfl⟩
    · rw [xan_f h, ih (k + 1)]
      refine ⟨fun ⟨i, h1, h2, h3⟩ => ⟨i, by omega, by omega, h3⟩, fun ⟨i, h1, h2, h3⟩ => ⟨i, ?_, by omega, h3⟩⟩
      by_cases hik : i = k
      · subst hik; exact absurd h3 h
      · omega
section LOOPS
variable {o : Nat} {V : pc_V} {J : Nat → Int64} {p1 p2 cap : Nat} {hp : xm_H}
theorem c_Packs_find (P : Pic o V J p1 p2 cap hp) {n : Nat} (hn : V 6 0 = nI n) (hle : n ≤ 30) (m nm : Int32) : xm_call 10 [.ref (o + 6), .int m, .int nm] hp = some (some (.int (oI (xfo (fun p => V 7 p = m ∧ V 8 p = nm) 0 n))), hp) := by
  have loop : ∀ d k, k + d = n → xm_out 10 (2, [some (.ref (o + 6)), some (.int m), some (.int nm), some (.int (nI k))], [], hp) = some (some (.int (oI (xfo (fun p => V 7 p = m ∧ V 8 p = nm) k d))), hp) := by
    intro d
    induction d with
    | zero =>
      intro k hk
      simp only [s10_2, s10_3, s10_4, s10_7, s10_38, s10_39, Option.bind_some, Option.toList_some, Option.toList_none, List.cons_append, List.nil_append, xm_kl_n, xm_kl_i, xm_kl_a, xm_kl_j, xl_0, xm_low1, xm_low2, xm_low3, xm_low4, xl_n0, xl_n1, xb_nar, xe_if0, xe_ifn, xm_ci1, xm_ca1, pf_6_0 P, hn]
      rw [if_pos (nI_le (by omega) (by omega))]
      first | rfl | simp [xan, xb_f]
    | succ d ih =>
      intro k hk
      simp only [s10_2, s10_3, s10_4, s10_7, s10_10, s10_11, s10_14, s10_15, s10_16, s10_17, s10_20, s10_21, s10_24, s10_25, s10_26, s10_27, s10_30, s10_31, s10_32, Option.bind_some, Option.toList_some, Option.toList_none, List.cons_append, List.nil_append, xm_kl_n, xm_kl_i, xm_kl_a, xm_kl_j, xl_0, xm_low1, xm_low2, xm_low3, xm_low4, xl_n0, xl_n1, xb_nar, xe_if0, xe_ifn, xm_ci1, xm_ca1, pf_6_0 P, pf_6_1 P, pf_6_2 P, hn, pai_7 P (show k < 30 by omega), pai_8 P (show k < 30 by omega), nI_add]
      rw [if_neg (nI_ge (by omega) (by omega))]
      simp only [s10_35, ih (k + 1) (by omega)]
      by_cases h1 : V 7 k = m <;> by_cases h2 : V 8 k = nm <;> simp [h1, h2, xfo, oI_s]
  simp only [k10, s10_0, s10_1, Option.bind_some, Option.toList_some, Option.toList_none, List.cons_append, List.nil_append, xm_kl_n, xm_kl_i, xm_kl_a, xm_kl_j, xl_0, xm_low1, xm_low2, xm_low3, xm_low4, xl_n0, xl_n1, xb_nar, xe_if0, xe_ifn, xm_ci1, xm_ca1]
  exact loop n 0 (by omega)
theorem c_Types_find (P : Pic o V J p1 p2 cap hp) {n : Nat} (hn : V 11 0 = nI n) (hle : n ≤ 40) (m nm : Int32) : xm_call 20 [.ref (o + 11), .int m, .int nm] hp = some (some (.int (oI (xfo (fun p => V 12 p = m ∧ V 13 p = nm) 0 n))), hp) := by
  have loop : ∀ d k, k + d = n → xm_out 20 (2, [some (.ref (o + 11)), some (.int m), some (.int nm), some (.int (nI k))], [], hp) = some (some (.int (oI (xfo (fun p => V 12 p = m ∧ V 13 p = nm) k d))), hp) := by
    intro d
    induction d with
    | zero =>
      intro k hk
      simp only [s20_2, s20_3, s20_4, s20_7, s20_38, s20_39, Option.bind_some, Option.toList_some, Option.toList_none, List.cons_append, List.nil_append, xm_kl_n, xm_kl_i, xm_kl_a, xm_kl_j, xl_0, xm_low1, xm_low2, xm_low3, xm_low4, xl_n0, xl_n1, xb_nar, xe_if0, xe_ifn, xm_ci1, xm_ca1, pf_11_0 P, hn]
      rw [if_pos (nI_le (by omega) (by omega))]
      first | rfl | simp [xan, xb_f]
    | succ d ih =>
      intro k hk
      simp only [s20_2, s20_3, s20_4, s20_7, s20_10, s20_11, s20_14, s20_15, s20_16, s20_17, s20_20, s20_21, s20_24, s20_25, s20_26, s20_27, s20_30, s20_31, s20_32, Option.bind_some, Option.toList_some, Option.toList_none, List.cons_append, List.nil_append, xm_kl_n, xm_kl_i, xm_kl_a, xm_kl_j, xl_0, xm_low1, xm_low2, xm_low3, xm_low4, xl_n0, xl_n1, xb_nar, xe_if0, xe_ifn, xm_ci1, xm_ca1, pf_11_0 P, pf_11_1 P, pf_11_2 P, hn, pai_12 P (show k < 40 by omega), pai_13 P (show k < 40 by omega), nI_add]
      rw [if_neg (nI_ge (by omega) (by omega))]
      simp only [s20_35, ih (k + 1) (by omega)]
      by_cases h1 : V 12 k = m <;> by_cases h2 : V 13 k = nm <;> simp [h1, h2, xfo, oI_s]
  simp only [k20, s20_0, s20_1, Option.bind_some, Option.toList_some, Option.toList_none, List.cons_append, List.nil_append, xm_kl_n, xm_kl_i, xm_kl_a, xm_kl_j, xl_0, xm_low1, xm_low2, xm_low3, xm_low4, xl_n0, xl_n1, xb_nar, xe_if0, xe_ifn, xm_ci1, xm_ca1]
  exact loop n 0 (by omega)
theorem c_Types_anyIn (P : Pic o V J p1 p2 cap hp) {n : Nat} (hn : V 11 0 = nI n) (hle : n ≤ 40) (m : Int32) : xm_call 21 [.ref (o + 11), .int m] hp = some (some (.int (xb (xan (fun p => V 12 p = m) 0 n = true))), hp) := by
  have loop : ∀ d k, k + d = n → xm_out 21 (2, [some (.ref (o + 11)), some (.int m), some (.int (nI k))], [], hp) = some (some (.int (xb (xan (fun p => V 12 p = m) k d = true))), hp) := by
    intro d
    induction d with
    | zero =>
      intro k hk
      simp only [s21_2, s21_3, s21_4, s21_7, s21_28, s21_29, Option.bind_some, Option.toList_some, Option.toList_none, List.cons_append, List.nil_append, xm_kl_n, xm_kl_i, xm_kl_a, xm_kl_j, xl_0, xm_low1, xm_low2, xm_low3, xm_low4, xl_n0, xl_n1, xb_nar, xe_if0, xe_ifn, xm_ci1, xm_ca1, pf_11_0 P, hn]
      rw [if_pos (nI_le (by omega) (by omega))]
      first | rfl | simp [xan, xb_f]
    | succ d ih =>
      intro k hk
      simp only [s21_2, s21_3, s21_4, s21_7, s21_10, s21_11, s21_14, s21_15, s21_16, s21_17, s21_20, s21_21, s21_22, Option.bind_some, Option.toList_some, Option.toList_none, List.cons_append, List.nil_append, xm_kl_n, xm_kl_i, xm_kl_a, xm_kl_j, xl_0, xm_low1, xm_low2, xm_low3, xm_low4, xl_n0, xl_n1, xb_nar, xe_if0, xe_ifn, xm_ci1, xm_ca1, pf_11_0 P, pf_11_1 P, hn, pai_12 P (show k < 40 by omega), nI_add]
      rw [if_neg (nI_ge (by omega) (by omega))]
      simp only [s21_25, ih (k + 1) (by omega)]
      by_cases h1 : V 12 k = m
      · rw [if_neg (fun q => q h1), xb_t (by simp [xan, h1])]
      · rw [if_pos h1]
        simp [xan, h1]
  simp only [k21, s21_0, s21_1, Option.bind_some, Option.toList_some, Option.toList_none, List.cons_append, List.nil_append, xm_kl_n, xm_kl_i, xm_kl_a, xm_kl_j, xl_0, xm_low1, xm_low2, xm_low3, xm_low4, xl_n0, xl_n1, xb_nar, xe_if0, xe_ifn, xm_ci1, xm_ca1]
  exact loop n 0 (by omega)
theorem c_Members_find (P : Pic o V J p1 p2 cap hp) {n : Nat} (hn : V 17 0 = nI n) (hle : n ≤ 60) (t nm kd : Int32) : xm_call 3 [.ref (o + 17), .int t, .int nm, .int kd] hp = some (some (.int (oI (xfo (fun p => V 18 p = t ∧ V 19 p = nm ∧ V 20 p = kd) 0 n))), hp) := by
  have loop : ∀ d k, k + d = n → xm_out 3 (3, [some (.ref (o + 17)), some (.int t), some (.int nm), some (.int kd), some (.int (nI k))], [], hp) = some (some (.int (oI (xfo (fun p => V 18 p = t ∧ V 19 p = nm ∧ V 20 p = kd) k d))), hp) := by
    intro d
    induction d with
    | zero =>
      intro k hk
      simp only [s3_3, s3_5, s3_6, s3_9, s3_54, s3_55, Option.bind_some, Option.toList_some, Option.toList_none, List.cons_append, List.nil_append, xm_kl_n, xm_kl_i, xm_kl_a, xm_kl_j, xl_0, xm_low1, xm_low2, xm_low3, xm_low4, xl_n0, xl_n1, xb_nar, xe_if0, xe_ifn, xm_ci1, xm_ca1, pf_17_0 P, hn]
      rw [if_pos (nI_le (by omega) (by omega))]
      first | rfl | simp [xan, xb_f]
    | succ d ih =>
      intro k hk
      simp only [s3_3, s3_5, s3_6, s3_9, s3_12, s3_13, s3_16, s3_18, s3_19, s3_20, s3_23, s3_24, s3_27, s3_29, s3_30, s3_31, s3_34, s3_35, s3_38, s3_40, s3_41, s3_42, s3_45, s3_47, s3_48, Option.bind_some, Option.toList_some, Option.toList_none, List.cons_append, List.nil_append, xm_kl_n, xm_kl_i, xm_kl_a, xm_kl_j, xl_0, xm_low1, xm_low2, xm_low3, xm_low4, xl_n0, xl_n1, xb_nar, xe_if0, xe_ifn, xm_ci1, xm_ca1, pf_17_0 P, pf_17_1 P, pf_17_2 P, pf_17_3 P, hn, pai_18 P (show k < 60 by omega), pai_19 P (show k < 60 by omega), pai_20 P (show k < 60 by omega), nI_add]
      rw [if_neg (nI_ge (by omega) (by omega))]
      simp only [s3_51, ih (k + 1) (by omega)]
      by_cases h1 : V 18 k = t <;> by_cases h2 : V 19 k = nm <;> by_cases h3 : V 20 k = kd <;> simp [h1, h2, h3, xfo, oI_s]
  simp only [k3, s3_0, s3_1, Option.bind_some, Option.toList_some, Option.toList_none, List.cons_append, List.nil_append, xm_kl_n, xm_kl_i, xm_kl_a, xm_kl_j, xl_0, xm_low1, xm_low2, xm_low3, xm_low4, xl_n0, xl_n1, xb_nar, xe_if0, xe_ifn, xm_ci1, xm_ca1]
  exact loop n 0 (by omega)
theorem c_Services_isProvided (P : Pic o V J p1 p2 cap hp) (hcap : cap < 2 ^ 31) {n : Nat} (hn : V 29 0 = nI n) (hle : n ≤ cap) (m nm : Int32) : xm_call 16 [.ref (o + 29), .int m, .int nm] hp = some (some (.int (xb (xan (fun p => V 31 p = m ∧ V 32 p = nm) 0 n = true))), hp) := by
  have loop : ∀ d k, k + d = n → xm_out 16 (2, [some (.ref (o + 29)), some (.int m), some (.int nm), some (.int (nI k))], [], hp) = some (some (.int (xb (xan (fun p => V 31 p = m ∧ V 32 p = nm) k d = true))), hp) := by
    intro d
    induction d with
    | zero =>
      intro k hk
      simp only [s16_2, s16_3, s16_4, s16_7, s16_38, s16_39, Option.bind_some, Option.toList_some, Option.toList_none, List.cons_append, List.nil_append, xm_kl_n, xm_kl_i, xm_kl_a, xm_kl_j, xl_0, xm_low1, xm_low2, xm_low3, xm_low4, xl_n0, xl_n1, xb_nar, xe_if0, xe_ifn, xm_ci1, xm_ca1, pf_29_0 P, hn]
      rw [if_pos (nI_le (by omega) (by omega))]
      first | rfl | simp [xan, xb_f]
    | succ d ih =>
      intro k hk
      simp only [s16_2, s16_3, s16_4, s16_7, s16_10, s16_11, s16_14, s16_15, s16_16, s16_17, s16_20, s16_21, s16_24, s16_25, s16_26, s16_27, s16_30, s16_31, s16_32, Option.bind_some, Option.toList_some, Option.toList_none, List.cons_append, List.nil_append, xm_kl_n, xm_kl_i, xm_kl_a, xm_kl_j, xl_0, xm_low1, xm_low2, xm_low3, xm_low4, xl_n0, xl_n1, xb_nar, xe_if0, xe_ifn, xm_ci1, xm_ca1, pf_29_0 P, pf_29_2 P, pf_29_3 P, hn, pai_31 P (show k < cap by omega) hcap, pai_32 P (show k < cap by omega) hcap, nI_add]
      rw [if_neg (nI_ge (by omega) (by omega))]
      simp only [s16_35, ih (k + 1) (by omega)]
      by_cases h1 : V 31 k = m <;> by_cases h2 : V 32 k = nm <;> simp [h1, h2, xan, xb_t, xb_f]
  simp only [k16, s16_0, s16_1, Option.bind_some, Option.toList_some, Option.toList_none, List.cons_append, List.nil_append, xm_kl_n, xm_kl_i, xm_kl_a, xm_kl_j, xl_0, xm_low1, xm_low2, xm_low3, xm_low4, xl_n0, xl_n1, xb_nar, xe_if0, xe_ifn, xm_ci1, xm_ca1]
  exact loop n 0 (by omega)
theorem c_Units_hasImport (P : Pic o V J p1 p2 cap hp) {u n : Nat} (hu : u < 12) (hn : V 25 u = nI n) (hle : n ≤ 10) (kd w nm : Int32) : xm_call 81 [.ref (o + 23), .int (nI u), .int kd, .int w, .int nm] hp = some (some (.int (xb (xan (fun k => V 26 (u * 10 + k) = kd ∧ V 27 (u * 10 + k) = w ∧ V 28 (u * 10 + k) = nm) 0 n = true))), hp) := by
  have loop : ∀ d k, k + d = n → xm_out 81 (3, [some (.ref (o + 23)), some (.int (nI u)), some (.int kd), some (.int w), some (.int nm), some (.int (nI k))], [], hp) = some (some (.int (xb (xan (fun k => V 26 (u * 10 + k) = kd ∧ V 27 (u * 10 + k) = w ∧ V 28 (u * 10 + k) = nm) k d = true))), hp) := by
    intro d
    induction d with
    | zero =>
      intro k hk
      simp only [s81_3, s81_5, s81_6, s81_9, s81_10, s81_11, s81_56, s81_57, Option.bind_some, Option.toList_some, Option.toList_none, List.cons_append, List.nil_append, xm_kl_n, xm_kl_i, xm_kl_a, xm_kl_j, xl_0, xm_low1, xm_low2, xm_low3, xm_low4, xl_n0, xl_n1, xb_nar, xe_if0, xe_ifn, xm_ci1, xm_ca1, pf_23_2 P, pai_25 P hu, hn]
      rw [if_pos (nI_le (by omega) (by omega))]
      first | rfl | simp [xan, xb_f]
    | succ d ih =>
      intro k hk
      simp only [s81_3, s81_5, s81_6, s81_9, s81_10, s81_11, s81_14, s81_15, s81_16, s81_18, s81_21, s81_22, s81_25, s81_26, s81_27, s81_29, s81_32, s81_33, s81_36, s81_37, s81_38, s81_40, s81_43, s81_45, s81_48, s81_49, s81_50, Option.bind_some, Option.toList_some, Option.toList_none, List.cons_append, List.nil_append, xm_kl_n, xm_kl_i, xm_kl_a, xm_kl_j, xl_0, xm_low1, xm_low2, xm_low3, xm_low4, xl_n0, xl_n1, xb_nar, xe_if0, xe_ifn, xm_ci1, xm_ca1, pf_23_2 P, pai_25 P hu, hn, pcl_23 P, c_Units_kindAt P hu (show k < 10 by omega), c_Units_whatAt P hu (show k < 10 by omega), c_Units_nameAt P hu (show k < 10 by omega), nI_add]
      rw [if_neg (nI_ge (by omega) (by omega))]
      simp only [s81_53, ih (k + 1) (by omega)]
      by_cases h1 : V 26 (u * 10 + k) = kd <;> by_cases h2 : V 27 (u * 10 + k) = w <;> by_cases h3 : V 28 (u * 10 + k) = nm <;> simp [h1, h2, h3, xan, xb_t, xb_f]
  simp only [k81, s81_0, s81_1, Option.bind_some, Option.toList_some, Option.toList_none, List.cons_append, List.nil_append, xm_kl_n, xm_kl_i, xm_kl_a, xm_kl_j, xl_0, xm_low1, xm_low2, xm_low3, xm_low4, xl_n0, xl_n1, xb_nar, xe_if0, xe_ifn, xm_ci1, xm_ca1]
  exact loop n 0 (by omega)
end LOOPS
