/-! Services.provide, whose rows grow; Integer.bitCount -/
section PROVIDE
variable {o : Nat} {V : pc_V} {J : Nat → Int64} {p1 p2 cap : Nat} {hp : xm_H}
theorem Pic.w31 (P : Pic o V J p1 p2 cap hp) (f : Nat → Int32) : Pic o (pv_row V 31 f) J p1 p2 cap (xm_up hp p1 (.inl (.int, cap, .inl f))) := by
  obtain ⟨g1, g2, g3, g4, g5, g6, g7⟩ := P
  refine ⟨fun k hk k1 k2 => ?_, ?_, ?_, g4, g5, g6, g7⟩
  · rw [pv_ne V f k1]
    exact (xm_set_ne (by omega)).trans (g1 k hk k1 k2)
  · rw [pv_same]; exact xm_set_self _ _ _
  · rw [pv_ne V f (by decide)]; exact (xm_set_ne (Ne.symm g4)).trans g3
theorem Pic.w32 (P : Pic o V J p1 p2 cap hp) (f : Nat → Int32) : Pic o (pv_row V 32 f) J p1 p2 cap (xm_up hp p2 (.inl (.int, cap, .inl f))) := by
  obtain ⟨g1, g2, g3, g4, g5, g6, g7⟩ := P
  refine ⟨fun k hk k1 k2 => ?_, ?_, ?_, g4, g5, g6, g7⟩
  · rw [pv_ne V f k2]
    exact (xm_set_ne (by omega)).trans (g1 k hk k1 k2)
  · rw [pv_ne V f (by decide)]; exact (xm_set_ne g4).trans g2
  · rw [pv_same]; exact xm_set_self _ _ _
theorem pwi_31 (P : Pic o V J p1 p2 cap hp) {i : Nat} (hi : i < cap) (hc : cap < 2 ^ 31) (x : Int32) : xm_wi hp p1 (nI i) x = some (xm_up hp p1 (.inl (.int, cap, .inl (upd (V 31) i x)))) := by
  unfold xm_wi; rw [P.2.1]; simp only [xm_oo hi hc, nI_clamp (show i < 2 ^ 31 by omega)]; rfl
theorem pwi_32 (P : Pic o V J p1 p2 cap hp) {i : Nat} (hi : i < cap) (hc : cap < 2 ^ 31) (x : Int32) : xm_wi hp p2 (nI i) x = some (xm_up hp p2 (.inl (.int, cap, .inl (upd (V 32) i x)))) := by
  unfold xm_wi; rw [P.2.2.1]; simp only [xm_oo hi hc, nI_clamp (show i < 2 ^ 31 by omega)]; rfl
theorem pln_31 (P : Pic o V J p1 p2 cap hp) : xm_ln hp p1 = some (nI cap) := by
  unfold xm_ln; rw [P.2.1]; rfl
theorem c_provide46 (P : Pic o V J p1 p2 cap hp) (hc : cap < 2 ^ 31) {n : Nat} (hn : V 29 0 = nI n) (h : n < cap) (s t : Int32) : ∃ hp', xm_out 106 (46, [some (.ref (o + 29)), some (.int s), some (.int t)], [], hp) = some (none, hp') ∧ Pic o (pv_row (pv_row (pv_row V 31 (upd (V 31) n s)) 32 (upd (V 32) n t)) 29 (upd (V 29) 0 (nI (n + 1)))) J p1 p2 cap hp' ∧ hp'.2 = hp.2 := by
  have P1 := P.w31 (upd (V 31) n s)
  have P2 := P1.w32 (upd (V 32) n t)
  have Q := P2.w 29 (by decide) (by decide) (by decide) (upd (V 29) 0 (nI (n + 1)))
  refine ⟨_, ?_, Q, rfl⟩
  have n1 : (pv_row V 31 (upd (V 31) n s)) 29 0 = nI n := hn
  have n2 : (pv_row (pv_row V 31 (upd (V 31) n s)) 32 (upd (V 32) n t)) 29 0 = nI n := hn
  have r1 : (pv_row V 31 (upd (V 31) n s)) 32 = V 32 := rfl
  have r2 : (pv_row (pv_row V 31 (upd (V 31) n s)) 32 (upd (V 32) n t)) 29 = V 29 := rfl
  simp only [s106_46, s106_47, s106_50, s106_51, s106_54, s106_55, s106_56, s106_57, s106_60, s106_61, s106_64, s106_65, s106_66, s106_67, s106_68, s106_71, s106_72, s106_73, s106_76, Option.bind_some, Option.toList_some, Option.toList_none, List.cons_append, List.nil_append, xm_kl_n, xm_kl_i, xm_kl_a, xm_kl_j, xl_0, xm_low1, xm_low2, xm_low3, xm_low4, xl_n0, xl_n1, xb_nar, xe_if0, xe_ifn, xm_ci1, xm_ca1, nI_add, pf_29_0 P, pf_29_2 P, hn, pwi_31 P h hc, pf_29_0 P1, pf_29_3 P1, n1, pwi_32 P1 h hc, pf_29_0 P2, n2, pwf_29_0 P2, r1, r2]
theorem c_copyOf {a n k : Nat} {f : Nat → Int32} (ha : hp.1 a = some (.inl (.int, n, .inl f))) (hlt : a < hp.2.1) (hk : n < k) (hk2 : k ≤ 4096) : xm_call 101 [.ref a, .int (nI k)] hp = some (some (.ref hp.2.1), xm_up (xm_add hp (.inl (.int, k, .inl (fun _ => 0))) k) hp.2.1 (.inl (.int, k, .inl (va_cpy f (fun _ => 0) 0 0 n)))) := by
  have hln : xm_ln hp a = some (nI n) := by unfold xm_ln; rw [ha]; rfl
  have hna : xm_na .int (nI k) hp = some (xm_add hp (.inl (.int, k, .inl (fun _ => 0))) k) := by
    unfold xm_na
    rw [if_neg (nI_pos (by omega)), nI_clamp (by omega), if_pos (by omega)]
    rfl
  have ha1 : (xm_add hp (.inl (.int, k, .inl (fun _ => 0))) k).1 a = some (.inl (.int, n, .inl f)) := (xm_set_ne (by omega)).trans ha
  have ha2 : (xm_add hp (.inl (.int, k, .inl (fun _ => 0))) k).1 hp.2.1 = some (.inl (.int, k, .inl (fun _ => 0))) := xm_set_self _ _ _
  have hln1 : xm_ln (xm_add hp (.inl (.int, k, .inl (fun _ => 0))) k) a = some (nI n) := by unfold xm_ln; rw [ha1]; rfl
  simp only [k101, s101_0, s101_1, s101_2, s101_3, s101_14, s101_15, s101_17, s101_18, s101_19, s101_20, s101_21, s101_22, s101_23, s101_24, s101_25, Option.bind_some, Option.toList_some, Option.toList_none, List.cons_append, List.nil_append, xm_kl_n, xm_kl_i, xm_kl_a, xm_kl_j, xl_0, xm_low1, xm_low2, xm_low3, xm_low4, xl_n0, xl_n1, xb_nar, xe_if0, xe_ifn, xm_ci1, xm_ca1, hln, hna, hln1]
  rw [if_pos (fun q => by rw [nI_eq (by omega) (by omega)] at q; omega), if_neg (nI_nlt (by omega) (by omega))]
  rw [xo_copy (xm_ins_of (M := xM101) (x := (.invokestatic 150, 3)) rfl (by decide +kernel)) rfl ha1 ha2 (by omega) (nI_pos (by omega)) (nI_pos (by omega)) (nI_pos (by omega)) (by rw [nI_clamp (by omega), nI_clamp (by omega)]; omega) (by rw [nI_clamp (by omega), nI_clamp (by omega)]; omega) rfl rfl]
  simp only [nI_clamp (show 0 < 2 ^ 31 by decide), nI_clamp (show n < 2 ^ 31 by omega)]
  simp only [Nat.reduceAdd, s101_31, s101_32, Option.bind_some, Option.toList_some, Option.toList_none, List.cons_append, List.nil_append, xm_kl_n, xm_kl_i, xm_kl_a, xm_kl_j, xl_0, xm_low1, xm_low2, xm_low3, xm_low4, xl_n0, xl_n1, xb_nar, xe_if0, xe_ifn, xm_ci1, xm_ca1]
theorem va_cpy_id {f : Nat → Int32} {n : Nat} (h : ∀ i, n ≤ i → f i = 0) : va_cpy f (fun _ => 0) 0 0 n = f := by
  funext i
  unfold va_cpy
  split
  · rename_i q; congr 1; omega
  · rename_i q; exact (h i (by omega)).symm
theorem xm_pf_ref {a q : Nat} {fs : List Value} {k : Nat} (ha : hp.1 a = some (.inr (.inl (4, fs)))) (hk : k < fs.length) : xm_pf hp a 4 k (.array .int) (.ref q) = some (xm_up hp a (.inr (.inl (4, fs.set k (.ref q))))) := by
  unfold xm_pf; rw [ha]; exact if_pos ⟨rfl, hk, rfl, rfl⟩
theorem c_provide (P : Pic o V J p1 p2 cap hp) (hc : cap ≤ 2048) (hc0 : 0 < cap) {n : Nat} (hn : V 29 0 = nI n) (h : n ≤ cap) (hz : ∀ i, n ≤ i → V 31 i = 0 ∧ V 32 i = 0) (s t : Int32) : ∃ hp' q1 q2 cap', xm_call 106 [.ref (o + 29), .int s, .int t] hp = some (none, hp') ∧ Pic o (pv_row (pv_row (pv_row V 31 (upd (V 31) n s)) 32 (upd (V 32) n t)) 29 (upd (V 29) 0 (nI (n + 1)))) J q1 q2 cap' hp' ∧ n < cap' ∧ ((cap' = cap ∧ hp'.2 = hp.2) ∨ (n = cap ∧ cap' = 2 * cap ∧ hp'.2 = (hp.2.1 + 2, hp.2.2 + 4 * cap))) := by
  by_cases hlt : n < cap
  · obtain ⟨hp', e, Q, hs⟩ := c_provide46 P (by omega) hn hlt s t
    refine ⟨hp', p1, p2, cap, ?_, Q, hlt, Or.inl ⟨rfl, hs⟩⟩
    simp only [k106, s106_0, s106_1, s106_4, s106_5, s106_8, s106_9, Option.bind_some, Option.toList_some, Option.toList_none, List.cons_append, List.nil_append, xm_kl_n, xm_kl_i, xm_kl_a, xm_kl_j, xl_0, xm_low1, xm_low2, xm_low3, xm_low4, xl_n0, xl_n1, xb_nar, xe_if0, xe_ifn, xm_ci1, xm_ca1, pf_29_0 P, pf_29_2 P, hn, pln_31 P]
    rw [if_pos (fun q => by rw [nI_eq (by omega) (by omega)] at q; omega)]
    exact e
  · have hnc : n = cap := by omega
    subst hnc
    have P0 := P
    obtain ⟨g1, g2, g3, g4, ⟨g5, g5b, g5c⟩, g6, g7⟩ := P
    -- the first row
    have e1 := c_copyOf (hp := hp) (k := 2 * n) g2 g5 (by omega) (by omega)
    rw [va_cpy_id (fun i hi => (hz i hi).1)] at e1
    generalize hh1 : xm_up (xm_add hp (.inl (.int, 2 * n, .inl (fun _ => 0))) (2 * n)) hp.2.1 (.inl (.int, 2 * n, .inl (V 31))) = hp1 at e1
    have s1 : hp1.2 = (hp.2.1 + 1, hp.2.2 + 2 * n) := by rw [← hh1]; rfl
    have k1 : ∀ q, q < hp.2.1 → hp1.1 q = hp.1 q := fun q hq => by
      rw [← hh1]
      exact (xm_set_ne (by omega)).trans (xm_set_ne (by omega))
    have m1 : hp1.1 hp.2.1 = some (.inl (.int, 2 * n, .inl (V 31))) := by rw [← hh1]; exact xm_set_self _ _ _
    have o1 : hp1.1 (o + 29) = some (.inr (.inl (4, [.int (V 29 0), .ref (o + 30), .ref p1, .ref p2]))) := (k1 _ (by omega)).trans (g1 29 (by decide) (by decide) (by decide))
    have f1 := xm_pf_ref (hp := hp1) (q := hp.2.1) (k := 2) o1 (Nat.le_of_ble_eq_true rfl)
    generalize hh2 : xm_up hp1 (o + 29) (.inr (.inl (4, [Value.int (V 29 0), .ref (o + 30), .ref p1, .ref p2].set 2 (.ref hp.2.1)))) = hp2 at f1
    have s2 : hp2.2 = (hp.2.1 + 1, hp.2.2 + 2 * n) := by rw [← hh2]; exact s1
    have k2 : ∀ q, q ≠ o + 29 → hp2.1 q = hp1.1 q := fun q hq => by rw [← hh2]; exact xm_set_ne hq
    have o2 : hp2.1 (o + 29) = some (.inr (.inl (4, [.int (V 29 0), .ref (o + 30), .ref hp.2.1, .ref p2]))) := by rw [← hh2]; exact xm_set_self _ _ _
    have g3' : hp2.1 p2 = some (.inl (.int, n, .inl (V 32))) := (k2 _ (by omega)).trans ((k1 _ g5b).trans g3)
    have z2 : hp2.2.1 = hp.2.1 + 1 := by rw [s2]
    have z2b : hp2.2.2 = hp.2.2 + 2 * n := by rw [s2]
    have e2 := c_copyOf (hp := hp2) (k := 2 * n) g3' (by omega) (by omega) (by omega)
    rw [va_cpy_id (fun i hi => (hz i hi).2)] at e2
    generalize hh3 : xm_up (xm_add hp2 (.inl (.int, 2 * n, .inl (fun _ => 0))) (2 * n)) hp2.2.1 (.inl (.int, 2 * n, .inl (V 32))) = hp3 at e2
    have s3 : hp3.2 = (hp.2.1 + 2, hp.2.2 + 4 * n) := by
      rw [← hh3]
      show (hp2.2.1 + 1, hp2.2.2 + 2 * n) = _
      rw [z2, z2b]
      congr 1
      omega
    have k3 : ∀ q, q < hp2.2.1 → hp3.1 q = hp2.1 q := fun q hq => by
      rw [← hh3]
      exact (xm_set_ne (by omega)).trans (xm_set_ne (by omega))
    have m3 : hp3.1 hp2.2.1 = some (.inl (.int, 2 * n, .inl (V 32))) := by rw [← hh3]; exact xm_set_self _ _ _
    have o3 : hp3.1 (o + 29) = some (.inr (.inl (4, [.int (V 29 0), .ref (o + 30), .ref hp.2.1, .ref p2]))) := (k3 _ (by omega)).trans o2
    have f3 := xm_pf_ref (hp := hp3) (q := hp2.2.1) (k := 3) o3 (Nat.le_of_ble_eq_true rfl)
    generalize hh4 : xm_up hp3 (o + 29) (.inr (.inl (4, [Value.int (V 29 0), .ref (o + 30), .ref hp.2.1, .ref p2].set 3 (.ref hp2.2.1)))) = hp4 at f3
    have s4 : hp4.2 = (hp.2.1 + 2, hp.2.2 + 4 * n) := by rw [← hh4]; exact s3
    have k4 : ∀ q, q ≠ o + 29 → hp4.1 q = hp3.1 q := fun q hq => by rw [← hh4]; exact xm_set_ne hq
    have P4 : Pic o V J hp.2.1 hp2.2.1 (2 * n) hp4 := by
      refine ⟨fun k hk q1 q2 => ?_, ?_, ?_, by omega, ⟨?_, ?_, ?_⟩, Or.inr g5c, Or.inr (by omega)⟩
      · by_cases h29 : k = 29
        · subst h29
          rw [← hh4]
          exact xm_set_self _ _ _
        · rw [k4 _ (by omega), k3 _ (by omega), k2 _ (by omega), k1 _ (by omega), g1 k hk q1 q2]
          unfold pc_e
          split <;> first | rfl | exact absurd rfl h29
      · rw [k4 _ (by omega), k3 _ (by omega), k2 _ (by omega)]; exact m1
      · rw [k4 _ (by omega)]; exact m3
      · rw [s4]; show _ < hp.2.1 + 2; omega
      · rw [s4]; show _ < hp.2.1 + 2; omega
      · rw [s4]; show _ ≤ hp.2.1 + 2; omega
    obtain ⟨hp', e, Q, hs⟩ := c_provide46 P4 (by omega) hn (by omega) s t
    refine ⟨hp', _, _, _, ?_, Q, by omega, Or.inr ⟨rfl, rfl, hs.trans s4⟩⟩
    have fl1 : xm_fld hp1 (o + 29) 4 0 = some (.int (V 29 0)) := by unfold xm_fld; rw [o1]; rfl
    have fl2 : xm_fld hp2 (o + 29) 4 3 = some (.ref p2) := by unfold xm_fld; rw [o2]; rfl
    have fl3 : xm_fld hp2 (o + 29) 4 0 = some (.int (V 29 0)) := by unfold xm_fld; rw [o2]; rfl
    simp only [k106, s106_0, s106_1, s106_4, s106_5, s106_8, s106_9, s106_12, s106_13, s106_14, s106_17, s106_18, s106_19, s106_22, s106_23, s106_26, s106_29, s106_30, s106_31, s106_34, s106_35, s106_36, s106_39, s106_40, s106_43, Option.bind_some, Option.toList_some, Option.toList_none, List.cons_append, List.nil_append, xm_kl_n, xm_kl_i, xm_kl_a, xm_kl_j, xl_0, xm_low1, xm_low2, xm_low3, xm_low4, xl_n0, xl_n1, xb_nar, xe_if0, xe_ifn, xm_ci1, xm_ca1, pf_29_0 P0, pf_29_2 P0, hn, pln_31 P0, pk_mul, e1, f1, fl2, fl3, e2, f3]
    rw [if_neg (fun z => z trivial)]
    exact e
def bsh (x k : Int32) : Int32 := (x.toUInt32 >>> (k.toUInt32 &&& Int32.toUInt32 31)).toInt32
def bc1 (v : Int32) : Int32 := v - (bsh v (nI 1) &&& 1431655765)
def bc2 (a : Int32) : Int32 := (a &&& 858993459) + (bsh a (nI 2) &&& 858993459)
def bc3 (b : Int32) : Int32 := (b + bsh b (nI 4)) &&& 252645135
def bc4 (c : Int32) : Int32 := c + bsh c (nI 8)
def bc5 (d : Int32) : Int32 := d + bsh d (nI 16)
/-- how many bits, as the library counts them -/
def bcn (v : Int32) : Int32 := bc5 (bc4 (bc3 (bc2 (bc1 v)))) &&& nI 63
theorem c_bitCount (v : Int32) : xm_call 58 [.int v] hp = some (some (.int (bcn v)), hp) := by
  simp only [k58, s58_0, s58_1, s58_2, s58_3, s58_4, s58_7, s58_8, s58_9, s58_10, s58_11, s58_14, s58_15, s58_16, s58_17, s58_18, s58_21, s58_22, s58_23, s58_24, s58_25, s58_26, s58_27, s58_28, s58_29, s58_32, s58_33, s58_34, s58_35, s58_36, s58_38, s58_39, s58_40, s58_41, s58_42, s58_43, s58_45, s58_46, s58_47, s58_48, s58_49, s58_51, s58_52, Option.bind_some, Option.toList_some, Option.toList_none, List.cons_append, List.nil_append, xm_kl_n, xm_kl_i, xm_kl_a, xm_kl_j, xl_0, xm_low1, xm_low2, xm_low3, xm_low4, xl_n0, xl_n1, xb_nar, xe_if0, xe_ifn, xm_ci1, xm_ca1]
  rfl
end PROVIDE
