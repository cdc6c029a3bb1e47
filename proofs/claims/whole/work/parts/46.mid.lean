/-! the class's methods over its parts -/
section MID
variable {o : Nat} {V : pc_V} {J : Nat → Int64} {p1 p2 cap : Nat} {hp : xm_H}
theorem c_reaches (P : Pic o V J p1 p2 cap hp) (I : CInv V cap) (a b : Int32) : xm_call 102 [.ref (o + 1), .int a, .int b] hp = some (some (.int (xb (¬ clr (V 2) (zM V) 12 (nI 1 <<< (a &&& 31)) &&& (nI 1 <<< (b &&& 31)) = 0))), hp) := by
  simp only [k102, s102_0, s102_1, s102_2, s102_3, s102_4, s102_5, s102_8, s102_11, s102_12, s102_15, Option.bind_some, Option.toList_some, Option.toList_none, List.cons_append, List.nil_append, xm_kl_n, xm_kl_i, xm_kl_a, xm_kl_j, xl_0, xm_low1, xm_low2, xm_low3, xm_low4, xl_n0, xl_n1, xb_nar, xe_if0, xe_ifn, xm_ci1, xm_ca1, pf_1_1 P, pcl_1 P, c_Modules_closed P I.M.1 I.M.2 (fun i hi => pai_2 P (show i < 12 by have := I.M.2; omega)), c_hasBit]
/-- what a module reads, as a set -/
noncomputable def xrd (V : pc_V) (m : Nat) (c : Prop) : Int32 := @ite Int32 c (Classical.propDecidable c) (clr (V 5) (zM V) 12 ((nI 1 <<< (nI m &&& 31)) ||| V 4 m)) (clr (V 3) (zM V) 12 ((nI 1 <<< (nI m &&& 31)) ||| V 2 m))
theorem c_readBy (P : Pic o V J p1 p2 cap hp) (I : CInv V cap) {m : Nat} (hm : m < zM V) (c : Prop) : xm_call 103 [.ref (o + 1), .int (nI m), .int (xb c)] hp = some (some (.int (xrd V m c)), hp) := by
  have h12 := I.M.2
  simp only [k103, s103_0, s103_1, s103_2, s103_3, s103_4, s103_5, s103_8, s103_9, s103_10, s103_11, s103_14, s103_15, s103_16, s103_17, s103_18, s103_21, s103_24, s103_27, s103_28, s103_29, s103_30, s103_33, s103_34, s103_35, s103_36, s103_37, s103_40, s103_43, Option.bind_some, Option.toList_some, Option.toList_none, List.cons_append, List.nil_append, xm_kl_n, xm_kl_i, xm_kl_a, xm_kl_j, xl_0, xm_low1, xm_low2, xm_low3, xm_low4, xl_n0, xl_n1, xb_nar, xe_if0, xe_ifn, xm_ci1, xm_ca1, pf_1_1 P, pf_1_2 P, pf_1_3 P, pf_1_4 P, pcl_1 P, pai_2 P (show m < 12 by omega), pai_4 P (show m < 12 by omega), c_Modules_closed P I.M.1 I.M.2 (fun i hi => pai_3 P (show i < 12 by omega)), c_Modules_closed P I.M.1 I.M.2 (fun i hi => pai_5 P (show i < 12 by omega))]
  unfold xrd
  by_cases h : c <;> simp [h]
theorem c_readBy0 (P : Pic o V J p1 p2 cap hp) (I : CInv V cap) {m : Nat} (hm : m < zM V) : xm_call 103 [.ref (o + 1), .int (nI m), .int (nI 0)] hp = some (some (.int (xrd V m False)), hp) := by
  rw [← c_readBy P I hm False, xb_f (c := False) id]
theorem c_readBy1 (P : Pic o V J p1 p2 cap hp) (I : CInv V cap) {m : Nat} (hm : m < zM V) : xm_call 103 [.ref (o + 1), .int (nI m), .int (nI 1)] hp = some (some (.int (xrd V m True)), hp) := by
  rw [← c_readBy P I hm True, xb_t (c := True) trivial]
theorem c_neededAtRun (P : Pic o V J p1 p2 cap hp) (I : CInv V cap) (s : Int32) : xm_call 104 [.ref (o + 1), .int s] hp = some (some (.int (clr (V 4) (zM V) 12 s)), hp) := by
  simp only [k104, s104_0, s104_1, s104_2, s104_3, s104_6, s104_9, Option.bind_some, Option.toList_some, Option.toList_none, List.cons_append, List.nil_append, xm_kl_n, xm_kl_i, xm_kl_a, xm_kl_j, xl_0, xm_low1, xm_low2, xm_low3, xm_low4, xl_n0, xl_n1, xb_nar, xe_if0, xe_ifn, xm_ci1, xm_ca1, pf_1_3 P, pcl_1 P, c_Modules_closed P I.M.1 I.M.2 (fun i hi => pai_4 P (show i < 12 by have := I.M.2; omega))]
/-- package p is seen by module m that reads these -/
def xsb (V : pc_V) (p : Nat) (m rd : Int32) : Prop := V 7 p = m ∨ (¬ rd &&& (nI 1 <<< (V 7 p &&& 31)) = 0 ∧ ¬ V 9 p &&& (nI 4096 ||| xbit m) = 0)
theorem c_isSeenBy (P : Pic o V J p1 p2 cap hp) {p : Nat} (hq : p < 30) (m rd : Int32) : xm_call 105 [.ref (o + 6), .int (nI p), .int m, .int rd] hp = some (some (.int (xb (xsb V p m rd))), hp) := by
  simp only [k105, s105_0, s105_1, s105_4, s105_5, s105_6, s105_7, s105_10, s105_11, s105_12, s105_13, s105_14, s105_17, s105_18, s105_19, s105_22, s105_25, s105_26, s105_27, s105_28, s105_31, s105_34, s105_35, s105_38, s105_39, Option.bind_some, Option.toList_some, Option.toList_none, List.cons_append, List.nil_append, xm_kl_n, xm_kl_i, xm_kl_a, xm_kl_j, xl_0, xm_low1, xm_low2, xm_low3, xm_low4, xl_n0, xl_n1, xb_nar, xe_if0, xe_ifn, xm_ci1, xm_ca1, pf_6_1 P, pai_7 P hq, c_hasBit, pcl_6 P, c_Packs_isExportedTo P hq]
  by_cases h1 : V 7 p = m
  · rw [if_neg (fun z => z h1), xb_t (c := xsb V p m rd) (Or.inl h1)]
  · rw [if_pos h1]
    by_cases h2 : rd &&& (nI 1 <<< (V 7 p &&& 31)) = 0
    · rw [if_neg (fun z => z h2), xb_f (c := xsb V p m rd) (fun z => z.elim h1 (fun w => w.1 h2))]
    · rw [if_pos h2]
      by_cases h3 : V 9 p &&& (nI 4096 ||| xbit m) = 0
      · rw [if_neg (fun z => z h3), xb_f (c := xsb V p m rd) (fun z => z.elim h1 (fun w => w.2 h3))]
      · rw [if_pos h3, xb_t (c := xsb V p m rd) (Or.inr ⟨h2, h3⟩)]
theorem c_ownerOfType (P : Pic o V J p1 p2 cap hp) (I : CInv V cap) {t : Nat} (ht : t < zT V) : xm_call 84 [.ref o, .int (nI t)] hp = some (some (.int (V 7 (ftpk V t))), hp) := by
  have h1 := I.T.2
  have h2 := I.tpk t ht
  have h3 := I.P.2
  simp only [k84, s84_0, s84_1, s84_4, s84_5, s84_8, s84_9, s84_12, s84_15, Option.bind_some, Option.toList_some, Option.toList_none, List.cons_append, List.nil_append, xm_kl_n, xm_kl_i, xm_kl_a, xm_kl_j, xl_0, xm_low1, xm_low2, xm_low3, xm_low4, xl_n0, xl_n1, xb_nar, xe_if0, xe_ifn, xm_ci1, xm_ca1, pf_0_1 P, pf_0_2 P, pcl_6 P, pcl_11 P, c_Types_packOf P (show t < 40 by omega), h2.1, c_Packs_ownerOf P (show ftpk V t < 30 by omega)]
theorem c_ownerOfUnit (P : Pic o V J p1 p2 cap hp) (I : CInv V cap) {u : Nat} (hu : u < zU V) : xm_call 85 [.ref o, .int (nI u)] hp = some (some (.int (V 7 (fupk V u))), hp) := by
  have h1 := I.U.2
  have h2 := I.upk u hu
  have h3 := I.P.2
  simp only [k85, s85_0, s85_1, s85_4, s85_5, s85_8, s85_9, s85_12, s85_15, Option.bind_some, Option.toList_some, Option.toList_none, List.cons_append, List.nil_append, xm_kl_n, xm_kl_i, xm_kl_a, xm_kl_j, xl_0, xm_low1, xm_low2, xm_low3, xm_low4, xl_n0, xl_n1, xb_nar, xe_if0, xe_ifn, xm_ci1, xm_ca1, pf_0_1 P, pf_0_4 P, pcl_6 P, pcl_23 P, c_Units_packOf P (show u < 12 by omega), h2.1, c_Packs_ownerOf P (show fupk V u < 30 by omega)]
theorem c_isTypeOrNone (P : Pic o V J p1 p2 cap hp) (v : Int32) : xm_call 113 [.ref o, .int v] hp = some (some (.int (xb (v = -1 ∨ (0 ≤ v ∧ v < V 11 0)))), hp) := by
  simp only [k113, s113_0, s113_1, s113_2, s113_5, s113_6, s113_9, s113_10, s113_13, s113_16, s113_17, s113_20, s113_21, Option.bind_some, Option.toList_some, Option.toList_none, List.cons_append, List.nil_append, xm_kl_n, xm_kl_i, xm_kl_a, xm_kl_j, xl_0, xm_low1, xm_low2, xm_low3, xm_low4, xl_n0, xl_n1, xb_nar, xe_if0, xe_ifn, xm_ci1, xm_ca1, pf_0_2 P, pcl_11 P, c_Types_holds P]
  by_cases h1 : v = -1
  · rw [if_pos h1, xb_t (Or.inl h1)]
  · rw [if_neg h1]
    by_cases h2 : 0 ≤ v ∧ v < V 11 0
    · rw [if_pos h2, xb_t (Or.inr h2)]
    · rw [if_neg h2, xb_f (fun z => z.elim h1 h2)]
theorem c_isPackSeen (P : Pic o V J p1 p2 cap hp) (I : CInv V cap) {m p : Nat} (hm : m < zM V) (hq : p < zP V) : xm_call 136 [.ref o, .int (nI m), .int (nI p)] hp = some (some (.int (xb (xsb V p (nI m) (xrd V m False)))), hp) := by
  have h3 := I.P.2
  simp only [k136, s136_0, s136_1, s136_4, s136_5, s136_6, s136_7, s136_10, s136_11, s136_12, s136_15, s136_18, Option.bind_some, Option.toList_some, Option.toList_none, List.cons_append, List.nil_append, xm_kl_n, xm_kl_i, xm_kl_a, xm_kl_j, xl_0, xm_low1, xm_low2, xm_low3, xm_low4, xl_n0, xl_n1, xb_nar, xe_if0, xe_ifn, xm_ci1, xm_ca1, pf_0_1 P, pf_0_0 P, pcl_6 P, pcl_1 P, c_readBy0 P I hm, c_isSeenBy P (show p < 30 by omega)]
/-- type t is seen by module m -/
def xts (V : pc_V) (m t : Nat) : Prop := V 7 (ftpk V t) = nI m ∨ (¬ V 15 t &&& nI 1 = 0 ∧ xsb V (ftpk V t) (nI m) (xrd V m False))
theorem c_isTypeSeen (P : Pic o V J p1 p2 cap hp) (I : CInv V cap) {m t : Nat} (hm : m < zM V) (ht : t < zT V) : xm_call 160 [.ref o, .int (nI m), .int (nI t)] hp = some (some (.int (xb (xts V m t))), hp) := by
  have h1 := I.T.2
  have h2 := I.tpk t ht
  have h3 := I.P.2
  simp only [k160, s160_0, s160_1, s160_2, s160_5, s160_6, s160_9, s160_10, s160_11, s160_12, s160_15, s160_16, s160_19, s160_22, s160_23, s160_24, s160_25, s160_28, s160_29, s160_32, s160_35, s160_38, s160_39, s160_42, s160_43, Option.bind_some, Option.toList_some, Option.toList_none, List.cons_append, List.nil_append, xm_kl_n, xm_kl_i, xm_kl_a, xm_kl_j, xl_0, xm_low1, xm_low2, xm_low3, xm_low4, xl_n0, xl_n1, xb_nar, xe_if0, xe_ifn, xm_ci1, xm_ca1, pf_0_2 P, pcl_0 P, pcl_11 P, c_ownerOfType P I ht, c_Types_isOpen P (show t < 40 by omega), c_Types_packOf P (show t < 40 by omega), h2.1, c_isPackSeen P I hm h2.2]
  by_cases g1 : V 7 (ftpk V t) = nI m
  · rw [if_neg (fun z => z g1), xb_t (c := xts V m t) (Or.inl g1)]
  · rw [if_pos g1]
    by_cases g2 : V 15 t &&& nI 1 = 0
    · rw [if_neg (fun z => z g2), xb_f (c := xts V m t) (fun z => z.elim g1 (fun w => w.1 g2))]
    · rw [if_pos g2]
      by_cases g3 : xsb V (ftpk V t) (nI m) (xrd V m False)
      · rw [if_pos g3, xb_t (c := xts V m t) (Or.inr ⟨g2, g3⟩)]
      · rw [if_neg g3, xb_f (c := xts V m t) (fun z => z.elim g1 (fun w => g3 w.2))]
end MID
