/-! truth as an int, searches, and the methods that look at no heap -/
noncomputable def xb (c : Prop) : Int32 := @ite Int32 c (Classical.propDecidable c) (nI 1) (nI 0)
theorem xb_t {c : Prop} (h : c) : xb c = nI 1 := if_pos h
theorem xb_f {c : Prop} (h : ¬ c) : xb c = nI 0 := if_neg h
theorem xb_0 {c : Prop} : (xb c = 0) = ¬ c := by
  by_cases h : c
  · rw [xb_t h]; exact propext ⟨fun q => absurd q (by decide), fun q => absurd h q⟩
  · rw [xb_f h]; exact propext ⟨fun _ => h, fun _ => rfl⟩
theorem xe_if0 {α : Type} {c : Prop} {A B : α} : (if xb c = 0 then A else B) = @ite α c (Classical.propDecidable c) B A := by
  by_cases h : c
  · rw [if_neg (by rw [xb_0]; exact fun q => q h), if_pos h]
  · rw [if_pos (by rw [xb_0]; exact h), if_neg h]
theorem xe_ifn {α : Type} {c : Prop} {A B : α} : (if ¬ xb c = 0 then A else B) = @ite α c (Classical.propDecidable c) A B := by
  by_cases h : c
  · rw [if_pos (by rw [xb_0]; exact fun q => q h), if_pos h]
  · rw [if_neg (by rw [xb_0]; exact fun q => q h), if_neg h]
theorem xb_nar {c : Prop} : narrow .boolean (.int (xb c)) = .int (xb c) := by
  by_cases h : c
  · rw [xb_t h]; rfl
  · rw [xb_f h]; rfl
theorem xb_cg {c d : Prop} (h : c ↔ d) : xb c = xb d := by
  by_cases hc : c
  · rw [xb_t hc, xb_t (h.mp hc)]
  · rw [xb_f hc, xb_f (fun q => hc (h.mpr q))]
theorem xe_01 {c : Prop} {D : Decidable c} {hp : xm_H} : (@ite _ c D (some (some (Value.int (nI 0)), hp)) (some (some (Value.int (nI 1)), hp))) = (some (some (Value.int (xb (¬ c))), hp) : Option xm_R) := by
  by_cases h : c
  · rw [if_pos h, xb_f (fun q => q h)]
  · rw [if_neg h, xb_t h]
theorem xe_10 {c : Prop} {D : Decidable c} {hp : xm_H} : (@ite _ c D (some (some (Value.int (nI 1)), hp)) (some (some (Value.int (nI 0)), hp))) = (some (some (Value.int (xb c)), hp) : Option xm_R) := by
  by_cases h : c
  · rw [if_pos h, xb_t h]
  · rw [if_neg h, xb_f h]
/-- a number, or none -/
def oI : Option Nat → Int32
  | none => -1
  | some t => nI t
theorem oI_s (t : Nat) : oI (some t) = nI t := id rfl
theorem oI_n : oI none = -1 := id rfl
theorem nI_m1 {t : Nat} (h : t < 2 ^ 31) : ¬ nI t = -1 := by
  intro q
  have a := nI_toInt h
  rw [q] at a
  have b : (-1 : Int32).toInt = -1 := by decide
  omega
theorem oI_m1 {q : Option Nat} (h : ∀ t, q = some t → t < 2 ^ 31) : oI q = -1 ↔ q = none := by
  cases q with
  | none => exact ⟨fun _ => rfl, fun _ => rfl⟩
  | some t => exact ⟨fun e => absurd e (nI_m1 (h t rfl)), fun e => by cases e⟩
theorem xm_ci1 (x : Int32) : (Value.int x).category = 1 := id rfl
theorem xm_ca1 (x : Nat) : (Value.ref x).category = 1 := id rfl
theorem xl_0 : xm_low [] = true := id rfl
theorem xl_n0 : narrow .boolean (.int (nI 0)) = .int (nI 0) := id rfl
theorem xl_n1 : narrow .boolean (.int (nI 1)) = .int (nI 1) := id rfl
section BASE
variable {hp : xm_H}
theorem c_within (v b : Int32) : xm_call 37 [.int v, .int b] hp = some (some (.int (xb (0 ≤ v ∧ v < b))), hp) := by
  simp only [k37, s37_0, s37_1, s37_4, s37_5, s37_6, s37_9, s37_10, s37_13, s37_14, Option.bind_some, Option.toList_some, Option.toList_none, List.cons_append, List.nil_append, xm_kl_n, xm_kl_i, xm_kl_a, xm_kl_j, xl_0, xm_low1, xm_low2, xm_low3, xm_low4, xl_n0, xl_n1, xb_nar, xe_if0, xe_ifn, xm_ci1, xm_ca1]
  by_cases h1 : v < 0
  · rw [if_pos h1, xb_f (fun q => Int32.not_le.mpr h1 q.1)]
  · rw [if_neg h1]
    by_cases h2 : b ≤ v
    · rw [if_pos h2, xb_f (fun q => Int32.not_le.mpr q.2 h2)]
    · rw [if_neg h2, xb_t ⟨Int32.not_lt.mp h1, Int32.not_le.mp h2⟩]
theorem c_isName (v : Int32) : xm_call 83 [.int v] hp = some (some (.int (xb (0 ≤ v ∧ v < nI 31))), hp) := by
  simp only [k83, s83_0, s83_1, s83_3, s83_6, Option.bind_some, Option.toList_some, Option.toList_none, List.cons_append, List.nil_append, xm_kl_n, xm_kl_i, xm_kl_a, xm_kl_j, xl_0, xm_low1, xm_low2, xm_low3, xm_low4, xl_n0, xl_n1, xb_nar, xe_if0, xe_ifn, xm_ci1, xm_ca1, c_within]
theorem c_broken (v : Int32) : xm_call 39 [.int v] hp = some (some (.int ((-10) - v)), hp) := by
  simp only [k39, s39_0, s39_2, s39_3, s39_4, Option.bind_some, Option.toList_some, Option.toList_none, List.cons_append, List.nil_append, xm_kl_n, xm_kl_i, xm_kl_a, xm_kl_j, xl_0, xm_low1, xm_low2, xm_low3, xm_low4, xl_n0, xl_n1, xb_nar, xe_if0, xe_ifn, xm_ci1, xm_ca1]
theorem c_hasBit (s b : Int32) : xm_call 38 [.int s, .int b] hp = some (some (.int (xb (¬ s &&& (nI 1 <<< (b &&& 31)) = 0))), hp) := by
  simp only [k38, s38_0, s38_1, s38_2, s38_3, s38_4, s38_5, s38_8, s38_9, s38_12, s38_13, Option.bind_some, Option.toList_some, Option.toList_none, List.cons_append, List.nil_append, xm_kl_n, xm_kl_i, xm_kl_a, xm_kl_j, xl_0, xm_low1, xm_low2, xm_low3, xm_low4, xl_n0, xl_n1, xb_nar, xe_if0, xe_ifn, xm_ci1, xm_ca1]
  by_cases h : s &&& (nI 1 <<< (b &&& 31)) = 0
  · rw [if_pos h, xb_f (fun q => q h)]
  · rw [if_neg h, xb_t h]
theorem c_asAnswer (c : Prop) : xm_call 40 [.int (xb c)] hp = some (some (.int (xb c)), hp) := by
  simp only [k40, s40_0, s40_1, s40_4, s40_5, s40_8, s40_9, Option.bind_some, Option.toList_some, Option.toList_none, List.cons_append, List.nil_append, xm_kl_n, xm_kl_i, xm_kl_a, xm_kl_j, xl_0, xm_low1, xm_low2, xm_low3, xm_low4, xl_n0, xl_n1, xb_nar, xe_if0, xe_ifn, xm_ci1, xm_ca1]
  by_cases h : c
  · rw [if_pos h, xb_t h]
  · rw [if_neg h, xb_f h]
theorem m_in (v a b : Int32) : xm_call 41 [.int v, .int a, .int b] hp = some (some (.int (xb (a ≤ v ∧ v ≤ b))), hp) := by
  simp only [k41, s41_0, s41_1, s41_2, s41_5, s41_6, s41_7, s41_10, s41_11, s41_14, s41_15, Option.bind_some, Option.toList_some, Option.toList_none, List.cons_append, List.nil_append, xm_kl_n, xm_kl_i, xm_kl_a, xm_kl_j, xl_0, xm_low1, xm_low2, xm_low3, xm_low4, xl_n0, xl_n1, xb_nar, xe_if0, xe_ifn, xm_ci1, xm_ca1]
  by_cases h1 : v < a
  · rw [if_pos h1, xb_f (fun q => Int32.not_le.mpr h1 q.1)]
  · rw [if_neg h1]
    by_cases h2 : b < v
    · rw [if_pos h2, xb_f (fun q => Int32.not_le.mpr h2 q.2)]
    · rw [if_neg h2, xb_t ⟨Int32.not_lt.mp h1, Int32.not_lt.mp h2⟩]
theorem m_isName (v : Int32) : xm_call 95 [.int v] hp = some (some (.int (xb (nI 0 ≤ v ∧ v ≤ nI 30))), hp) := by
  simp only [k95, s95_0, s95_1, s95_2, s95_4, s95_7, Option.bind_some, Option.toList_some, Option.toList_none, List.cons_append, List.nil_append, xm_kl_n, xm_kl_i, xm_kl_a, xm_kl_j, xl_0, xm_low1, xm_low2, xm_low3, xm_low4, xl_n0, xl_n1, xb_nar, xe_if0, xe_ifn, xm_ci1, xm_ca1, m_in]
theorem m_broken (v : Int32) : xm_call 42 [.int v] hp = some (some (.int ((-10) - v)), hp) := by
  simp only [k42, s42_0, s42_2, s42_3, s42_4, Option.bind_some, Option.toList_some, Option.toList_none, List.cons_append, List.nil_append, xm_kl_n, xm_kl_i, xm_kl_a, xm_kl_j, xl_0, xm_low1, xm_low2, xm_low3, xm_low4, xl_n0, xl_n1, xb_nar, xe_if0, xe_ifn, xm_ci1, xm_ca1]
end BASE
