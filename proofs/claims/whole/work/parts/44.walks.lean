/-! chains of numbers (parents), closures -/
/-- is 'of' met on the way up -/
def xsub (par : Nat → Option Nat) (of : Int32) : Nat → Option Nat → Bool
  | 0, _ => false
  | _ + 1, none => false
  | d + 1, some t => if nI t = of then true else xsub par of d (par t)
def xkn (row : Nat → Int32) (par : Nat → Option Nat) : Nat → Int32 → Option Nat → Int32
  | 0, s, _ => s
  | _ + 1, s, none => s
  | d + 1, s, some t => xkn row par d (s ||| row t) (par t)
def xhm (row : Nat → Int32) (par : Nat → Option Nat) (b : Int32) : Nat → Option Nat → Int32
  | 0, _ => -1
  | _ + 1, none => -1
  | d + 1, some t => if row t &&& (nI 1 <<< (b &&& 31)) = 0 then xhm row par b d (par t) else nI t
def cl1 (E : Nat → Int32) : Nat → Nat → Int32 → Int32
  | _, 0, s => s
  | k, d + 1, s => cl1 E (k + 1) d (s ||| (if s &&& (nI 1 <<< (nI k &&& 31)) = 0 then nI 0 else E k))
def clr (E : Nat → Int32) (n : Nat) : Nat → Int32 → Int32
  | 0, s => s
  | r + 1, s => if cl1 E 0 n s = s then cl1 E 0 n s else clr E n r (cl1 E 0 n s)
def xus (U : Nat → Int64) (s : Int32) : Nat → Nat → Int64 → Int64
  | _, 0, a => a
  | k, d + 1, a => xus U s (k + 1) d (a ||| (if s &&& (nI 1 <<< (nI k &&& 31)) = 0 then 0 else U k))
section WALKS
variable {o : Nat} {V : pc_V} {J : Nat → Int64} {p1 p2 cap : Nat} {hp : xm_H}
theorem c_Types_isSubtype (P : Pic o V J p1 p2 cap hp) {par : Nat → Option Nat} {n : Nat} (hle : n ≤ 40) (hpar : ∀ t, t < n → V 16 t = oI (par t) ∧ ∀ s, par t = some s → s < n) (of : Int32) (q : Option Nat) (hq : ∀ t, q = some t → t < n) : xm_call 28 [.ref (o + 11), .int (oI q), .int of] hp = some (some (.int (xb (xsub par of 40 q = true))), hp) := by
  have loop : ∀ d k q x0, k + d = 40 → (∀ t, q = some t → t < n) → xm_out 28 (5, [some (.ref (o + 11)), some (.int x0), some (.int of), some (.int (oI q)), some (.int (nI k))], [], hp) = some (some (.int (xb (xsub par of d q = true))), hp) := by
    intro d
    induction d with
    | zero =>
      intro k q x0 hk hq
      simp only [s28_5, s28_7, s28_9, s28_37, s28_38, Option.bind_some, Option.toList_some, Option.toList_none, List.cons_append, List.nil_append, xm_kl_n, xm_kl_i, xm_kl_a, xm_kl_j, xl_0, xm_low1, xm_low2, xm_low3, xm_low4, xl_n0, xl_n1, xb_nar, xe_if0, xe_ifn, xm_ci1, xm_ca1]
      rw [if_pos (nI_le (by omega) (by omega))]
      first | rfl | simp [xsub, xb_f]
    | succ d ih =>
      intro k q x0 hk hq
      cases q with
      | none =>
        simp only [s28_5, s28_7, s28_9, s28_12, s28_13, s28_14, s28_37, s28_38, Option.bind_some, Option.toList_some, Option.toList_none, List.cons_append, List.nil_append, xm_kl_n, xm_kl_i, xm_kl_a, xm_kl_j, xl_0, xm_low1, xm_low2, xm_low3, xm_low4, xl_n0, xl_n1, xb_nar, xe_if0, xe_ifn, xm_ci1, xm_ca1]
        rw [if_neg (nI_ge (by omega) (by omega)), if_pos (show oI none = -1 from rfl)]
        first | rfl | simp [xsub, xb_f]
      | some t =>
        have ht := hq t rfl
        simp only [oI_s, s28_5, s28_7, s28_9, s28_12, s28_13, s28_14, s28_17, s28_18, s28_19, s28_22, s28_23, s28_24, s28_25, s28_28, s28_29, s28_30, s28_31, Option.bind_some, Option.toList_some, Option.toList_none, List.cons_append, List.nil_append, xm_kl_n, xm_kl_i, xm_kl_a, xm_kl_j, xl_0, xm_low1, xm_low2, xm_low3, xm_low4, xl_n0, xl_n1, xb_nar, xe_if0, xe_ifn, xm_ci1, xm_ca1, pf_11_5 P, pai_16 P (show t < 40 by omega), nI_add, (hpar t ht).1]
        rw [if_neg (nI_ge (by omega) (by omega)), if_neg (nI_m1 (by omega))]
        simp only [s28_34, ih (k + 1) (par t) x0 (by omega) (hpar t ht).2]
        by_cases h1 : nI t = of
        · rw [if_neg (fun z => z h1), xb_t (by simp [xsub, h1])]
        · rw [if_pos h1]
          simp [xsub, h1]
  simp only [k28, s28_0, s28_1, s28_2, s28_3, Option.bind_some, Option.toList_some, Option.toList_none, List.cons_append, List.nil_append, xm_kl_n, xm_kl_i, xm_kl_a, xm_kl_j, xl_0, xm_low1, xm_low2, xm_low3, xm_low4, xl_n0, xl_n1, xb_nar, xe_if0, xe_ifn, xm_ci1, xm_ca1]
  exact loop 40 0 q _ (by omega) hq
theorem c_Layers_knownTo (P : Pic o V J p1 p2 cap hp) {par : Nat → Option Nat} {n : Nat} (hle : n ≤ 4) (hpar : ∀ t, t < n → V 34 t = oI (par t) ∧ ∀ s, par t = some s → s < n) (q : Option Nat) (hq : ∀ t, q = some t → t < n) : xm_call 1 [.ref (o + 33), .int (oI q)] hp = some (some (.int (xkn (V 35) par 4 (nI 0) q)), hp) := by
  have loop : ∀ d k q x0 s, k + d = 4 → (∀ t, q = some t → t < n) → xm_out 1 (7, [some (.ref (o + 33)), some (.int x0), some (.int s), some (.int (oI q)), some (.int (nI k))], [], hp) = some (some (.int (xkn (V 35) par d s q)), hp) := by
    intro d
    induction d with
    | zero =>
      intro k q x0 s hk hq
      simp only [s1_7, s1_9, s1_10, s1_40, s1_41, Option.bind_some, Option.toList_some, Option.toList_none, List.cons_append, List.nil_append, xm_kl_n, xm_kl_i, xm_kl_a, xm_kl_j, xl_0, xm_low1, xm_low2, xm_low3, xm_low4, xl_n0, xl_n1, xb_nar, xe_if0, xe_ifn, xm_ci1, xm_ca1]
      rw [if_pos (nI_le (by omega) (by omega))]
      first | rfl | simp [xsub, xb_f]
    | succ d ih =>
      intro k q x0 s hk hq
      cases q with
      | none =>
        simp only [s1_7, s1_9, s1_10, s1_13, s1_14, s1_15, s1_40, s1_41, Option.bind_some, Option.toList_some, Option.toList_none, List.cons_append, List.nil_append, xm_kl_n, xm_kl_i, xm_kl_a, xm_kl_j, xl_0, xm_low1, xm_low2, xm_low3, xm_low4, xl_n0, xl_n1, xb_nar, xe_if0, xe_ifn, xm_ci1, xm_ca1]
        rw [if_neg (nI_ge (by omega) (by omega)), if_pos (show oI none = -1 from rfl)]
        first | rfl | simp [xsub, xb_f]
      | some t =>
        have ht := hq t rfl
        simp only [oI_s, s1_7, s1_9, s1_10, s1_13, s1_14, s1_15, s1_18, s1_19, s1_20, s1_23, s1_24, s1_25, s1_26, s1_27, s1_28, s1_31, s1_32, s1_33, s1_34, Option.bind_some, Option.toList_some, Option.toList_none, List.cons_append, List.nil_append, xm_kl_n, xm_kl_i, xm_kl_a, xm_kl_j, xl_0, xm_low1, xm_low2, xm_low3, xm_low4, xl_n0, xl_n1, xb_nar, xe_if0, xe_ifn, xm_ci1, xm_ca1, pf_33_1 P, pf_33_2 P, pai_34 P (show t < 4 by omega), pai_35 P (show t < 4 by omega), nI_add, (hpar t ht).1]
        rw [if_neg (nI_ge (by omega) (by omega)), if_neg (nI_m1 (by omega))]
        simp only [s1_37, ih (k + 1) (par t) x0 _ (by omega) (hpar t ht).2]
        first | rfl | simp [xsub, xb_f]
  simp only [k1, s1_0, s1_1, s1_2, s1_3, s1_4, s1_5, Option.bind_some, Option.toList_some, Option.toList_none, List.cons_append, List.nil_append, xm_kl_n, xm_kl_i, xm_kl_a, xm_kl_j, xl_0, xm_low1, xm_low2, xm_low3, xm_low4, xl_n0, xl_n1, xb_nar, xe_if0, xe_ifn, xm_ci1, xm_ca1]
  exact loop 4 0 q _ _ (by omega) hq
theorem c_Layers_homeOf (P : Pic o V J p1 p2 cap hp) {par : Nat → Option Nat} {n : Nat} (hle : n ≤ 4) (hpar : ∀ t, t < n → V 34 t = oI (par t) ∧ ∀ s, par t = some s → s < n) (q : Option Nat) (hq : ∀ t, q = some t → t < n) (b : Int32) : xm_call 62 [.ref (o + 33), .int (oI q), .int b] hp = some (some (.int (xhm (V 35) par b 4 q)), hp) := by
  have loop : ∀ d k q x0, k + d = 4 → (∀ t, q = some t → t < n) → xm_out 62 (5, [some (.ref (o + 33)), some (.int x0), some (.int b), some (.int (oI q)), some (.int (nI k))], [], hp) = some (some (.int (xhm (V 35) par b d q)), hp) := by
    intro d
    induction d with
    | zero =>
      intro k q x0 hk hq
      simp only [s62_5, s62_7, s62_8, s62_44, s62_45, Option.bind_some, Option.toList_some, Option.toList_none, List.cons_append, List.nil_append, xm_kl_n, xm_kl_i, xm_kl_a, xm_kl_j, xl_0, xm_low1, xm_low2, xm_low3, xm_low4, xl_n0, xl_n1, xb_nar, xe_if0, xe_ifn, xm_ci1, xm_ca1]
      rw [if_pos (nI_le (by omega) (by omega))]
      first | rfl | simp [xsub, xb_f]
    | succ d ih =>
      intro k q x0 hk hq
      cases q with
      | none =>
        simp only [s62_5, s62_7, s62_8, s62_11, s62_12, s62_13, s62_44, s62_45, Option.bind_some, Option.toList_some, Option.toList_none, List.cons_append, List.nil_append, xm_kl_n, xm_kl_i, xm_kl_a, xm_kl_j, xl_0, xm_low1, xm_low2, xm_low3, xm_low4, xl_n0, xl_n1, xb_nar, xe_if0, xe_ifn, xm_ci1, xm_ca1]
        rw [if_neg (nI_ge (by omega) (by omega)), if_pos (show oI none = -1 from rfl)]
        first | rfl | simp [xsub, xb_f]
      | some t =>
        have ht := hq t rfl
        simp only [oI_s, s62_5, s62_7, s62_8, s62_11, s62_12, s62_13, s62_16, s62_17, s62_20, s62_21, s62_22, s62_23, s62_26, s62_29, s62_30, s62_31, s62_32, s62_35, s62_36, s62_37, s62_38, Option.bind_some, Option.toList_some, Option.toList_none, List.cons_append, List.nil_append, xm_kl_n, xm_kl_i, xm_kl_a, xm_kl_j, xl_0, xm_low1, xm_low2, xm_low3, xm_low4, xl_n0, xl_n1, xb_nar, xe_if0, xe_ifn, xm_ci1, xm_ca1, pf_33_1 P, pf_33_2 P, pai_34 P (show t < 4 by omega), pai_35 P (show t < 4 by omega), c_hasBit, nI_add, (hpar t ht).1]
        rw [if_neg (nI_ge (by omega) (by omega)), if_neg (nI_m1 (by omega))]
        simp only [s62_41, ih (k + 1) (par t) x0 (by omega) (hpar t ht).2]
        by_cases h1 : V 35 t &&& (nI 1 <<< (b &&& 31)) = 0 <;> simp [h1, xhm]
  simp only [k62, s62_0, s62_1, s62_2, s62_3, Option.bind_some, Option.toList_some, Option.toList_none, List.cons_append, List.nil_append, xm_kl_n, xm_kl_i, xm_kl_a, xm_kl_j, xl_0, xm_low1, xm_low2, xm_low3, xm_low4, xl_n0, xl_n1, xb_nar, xe_if0, xe_ifn, xm_ci1, xm_ca1]
  exact loop 4 0 q _ (by omega) hq
theorem c_Modules_closed (P : Pic o V J p1 p2 cap hp) {n : Nat} (hn : V 1 0 = nI n) (hle : n ≤ 12) {a : Nat} {E : Nat → Int32} (hE : ∀ i, i < n → xm_ai hp a (nI i) = some (E i)) (s : Int32) : xm_call 67 [.ref (o + 1), .int s, .ref a] hp = some (some (.int (clr E n 12 s)), hp) := by
  have inner : ∀ d k x0 s r x5, k + d = n → xm_out 67 (18, [some (.ref (o + 1)), some (.int x0), some (.ref a), some (.int s), some (.int r), some (.int x5), some (.int (nI k))], [], hp) = xm_out 67 (53, [some (.ref (o + 1)), some (.int x0), some (.ref a), some (.int (cl1 E k d s)), some (.int r), some (.int x5), some (.int (nI n))], [], hp) := by
    intro d
    induction d with
    | zero =>
      intro k x0 s r x5 hk
      simp only [s67_18, s67_20, s67_21, s67_24, Option.bind_some, Option.toList_some, Option.toList_none, List.cons_append, List.nil_append, xm_kl_n, xm_kl_i, xm_kl_a, xm_kl_j, xl_0, xm_low1, xm_low2, xm_low3, xm_low4, xl_n0, xl_n1, xb_nar, xe_if0, xe_ifn, xm_ci1, xm_ca1, pf_1_0 P, hn]
      rw [if_pos (nI_le (by omega) (by omega)), show k = n by omega]
      first | rfl | simp [xsub, xb_f]
    | succ d ih =>
      intro k x0 s r x5 hk
      simp only [s67_18, s67_20, s67_21, s67_24, s67_27, s67_28, s67_29, s67_31, s67_34, s67_37, s67_38, s67_40, s67_41, s67_44, s67_45, s67_46, s67_47, Option.bind_some, Option.toList_some, Option.toList_none, List.cons_append, List.nil_append, xm_kl_n, xm_kl_i, xm_kl_a, xm_kl_j, xl_0, xm_low1, xm_low2, xm_low3, xm_low4, xl_n0, xl_n1, xb_nar, xe_if0, xe_ifn, xm_ci1, xm_ca1, pf_1_0 P, hn, c_hasBit, hE k (by omega), nI_add]
      rw [if_neg (nI_ge (by omega) (by omega))]
      simp only [s67_50]
      by_cases h1 : s &&& (nI 1 <<< (nI k &&& 31)) = 0
      · simp only [h1, not_true, not_false_eq_true, if_true, if_false]
        rw [ih (k + 1) x0 _ r x5 (by omega)]
        simp only [cl1, h1, if_true]
      · simp only [h1, not_true, not_false_eq_true, if_true, if_false]
        rw [ih (k + 1) x0 _ r x5 (by omega)]
        simp only [cl1, h1, if_false]
  have outer : ∀ d k x0 s a5 a6, k + d = 12 → xm_out 67 (5, [some (.ref (o + 1)), some (.int x0), some (.ref a), some (.int s), some (.int (nI k)), a5, a6], [], hp) = some (some (.int (clr E n d s)), hp) := by
    intro d
    induction d with
    | zero =>
      intro k x0 s a5 a6 hk
      simp only [s67_5, s67_7, s67_9, s67_68, s67_69, Option.bind_some, Option.toList_some, Option.toList_none, List.cons_append, List.nil_append, xm_kl_n, xm_kl_i, xm_kl_a, xm_kl_j, xl_0, xm_low1, xm_low2, xm_low3, xm_low4, xl_n0, xl_n1, xb_nar, xe_if0, xe_ifn, xm_ci1, xm_ca1]
      rw [if_pos (nI_le (by omega) (by omega))]
      first | rfl | simp [xsub, xb_f]
    | succ d ih =>
      intro k x0 s a5 a6 hk
      simp only [s67_5, s67_7, s67_9, s67_12, s67_13, s67_15, s67_16, Option.bind_some, Option.toList_some, Option.toList_none, List.cons_append, List.nil_append, xm_kl_n, xm_kl_i, xm_kl_a, xm_kl_j, xl_0, xm_low1, xm_low2, xm_low3, xm_low4, xl_n0, xl_n1, xb_nar, xe_if0, xe_ifn, xm_ci1, xm_ca1]
      rw [if_neg (nI_ge (by omega) (by omega)), inner n 0 x0 s (nI k) s (by omega)]
      simp only [s67_53, s67_54, s67_56, s67_59, s67_62, s67_68, s67_69, Option.bind_some, Option.toList_some, Option.toList_none, List.cons_append, List.nil_append, xm_kl_n, xm_kl_i, xm_kl_a, xm_kl_j, xl_0, xm_low1, xm_low2, xm_low3, xm_low4, xl_n0, xl_n1, xb_nar, xe_if0, xe_ifn, xm_ci1, xm_ca1, nI_add]
      by_cases h1 : cl1 E 0 n s = s
      · rw [if_neg (fun z => z h1)]
        simp only [clr, h1, if_true]
      · rw [if_pos h1]
        simp only [s67_65, ih (k + 1) _ _ _ _ (show k + 1 + d = 12 by omega)]
        simp only [clr, h1, if_false]
  simp only [k67, s67_0, s67_1, s67_2, s67_3, Option.bind_some, Option.toList_some, Option.toList_none, List.cons_append, List.nil_append, xm_kl_n, xm_kl_i, xm_kl_a, xm_kl_j, xl_0, xm_low1, xm_low2, xm_low3, xm_low4, xl_n0, xl_n1, xb_nar, xe_if0, xe_ifn, xm_ci1, xm_ca1]
  exact outer 12 0 _ _ _ _ (by omega)
theorem c_Services_usedBy (P : Pic o V J p1 p2 cap hp) (s : Int32) : xm_call 75 [.ref (o + 29), .int s] hp = some (some (.long (xus J s 0 12 0)), hp) := by
  have loop : ∀ d k a, k + d = 12 → xm_out 75 (5, [some (.ref (o + 29)), some (.int s), some (.long a), none, some (.int (nI k))], [], hp) = some (some (.long (xus J s k d a)), hp) := by
    intro d
    induction d with
    | zero =>
      intro k a hk
      simp only [s75_5, s75_7, s75_9, s75_41, s75_42, Option.bind_some, Option.toList_some, Option.toList_none, List.cons_append, List.nil_append, xm_kl_n, xm_kl_i, xm_kl_a, xm_kl_j, xl_0, xm_low1, xm_low2, xm_low3, xm_low4, xl_n0, xl_n1, xb_nar, xe_if0, xe_ifn, xm_ci1, xm_ca1]
      rw [if_pos (nI_le (by omega) (by omega))]
      first | rfl | simp [xsub, xb_f]
    | succ d ih =>
      intro k a hk
      simp only [s75_5, s75_7, s75_9, s75_12, s75_13, s75_14, s75_16, s75_19, s75_22, s75_23, s75_26, s75_28, s75_29, s75_32, s75_33, s75_34, s75_35, Option.bind_some, Option.toList_some, Option.toList_none, List.cons_append, List.nil_append, xm_kl_n, xm_kl_i, xm_kl_a, xm_kl_j, xl_0, xm_low1, xm_low2, xm_low3, xm_low4, xl_n0, xl_n1, xb_nar, xe_if0, xe_ifn, xm_ci1, xm_ca1, pf_29_1 P, paj_30 P (show k < 12 by omega), c_hasBit, nI_add]
      rw [if_neg (nI_ge (by omega) (by omega))]
      simp only [s75_38]
      by_cases h1 : s &&& (nI 1 <<< (nI k &&& 31)) = 0
      · simp only [h1, not_true, not_false_eq_true, if_true, if_false]
        rw [ih (k + 1) _ (by omega)]
        simp only [xus, h1, if_true]
      · simp only [h1, not_true, not_false_eq_true, if_true, if_false]
        rw [ih (k + 1) _ (by omega)]
        simp only [xus, h1, if_false]
  simp only [k75, s75_0, s75_1, s75_2, s75_3, Option.bind_some, Option.toList_some, Option.toList_none, List.cons_append, List.nil_append, xm_kl_n, xm_kl_i, xm_kl_a, xm_kl_j, xl_0, xm_low1, xm_low2, xm_low3, xm_low4, xl_n0, xl_n1, xb_nar, xe_if0, xe_ifn, xm_ci1, xm_ca1]
  exact loop 12 0 0 (by omega)
end WALKS
