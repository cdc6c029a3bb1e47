/-! the class's methods above these -/
theorem oI_ne {q : Option Nat} {i : Nat} (hi : i < 2 ^ 31) (h : ∀ t, q = some t → t < 2 ^ 31) : oI q = nI i ↔ q = some i := by
  cases q with
  | none => exact ⟨(fun e => absurd (show nI i = -1 from e.symm) (nI_m1 hi)), (fun e => by cases e)⟩
  | some t => rw [oI_s, nI_eq (h t rfl) hi]; exact ⟨(fun e => by rw [e]), (fun e => by cases e; rfl)⟩
theorem xfo_lt {c : Nat → Prop} {d k : Nat} {t : Nat} (h : xfo c k d = some t) : t < k + d := ((xfo_some c d k t).mp h).2.1
/-- names met once, and twice, among the packages seen -/
noncomputable def spF (V : pc_V) (m rd : Int32) : Nat → Nat → Int32 → Int32 → Int32
  | _, 0, _, b => b
  | p, d + 1, a, b => @ite _ (xsb V p m rd) (Classical.propDecidable _) (spF V m rd (p + 1) d (a ||| (nI 1 <<< (V 8 p &&& 31))) (b ||| (a &&& (nI 1 <<< (V 8 p &&& 31))))) (spF V m rd (p + 1) d a b)
noncomputable def spl (V : pc_V) (m : Nat) : Option Nat := xfo (fun x => ¬ spF V (nI m) (xrd V m False) 0 (zP V) (nI 0) (nI 0) &&& (nI 1 <<< (nI x &&& 31)) = 0) 0 31
/-- own member of a type -/
noncomputable def xom (V : pc_V) (nm kd : Int32) (t : Nat) : Option Nat := xfo (fun p => V 18 p = nI t ∧ V 19 p = nm ∧ V 20 p = kd) 0 (zB V)
/-- the nearest member, up the parents -/
noncomputable def xnm (V : pc_V) (nm kd : Int32) : Nat → Option Nat → Option Nat
  | 0, _ => none
  | _ + 1, none => none
  | d + 1, some t => match xom V nm kd t with
    | some b => some b
    | none => xnm V nm kd d (fpar V t)
noncomputable def xus1 (V : pc_V) (u : Nat) (b : Nat) : Prop := V 7 (ftpk V (fbty V b)) = V 7 (fupk V u) ∨ V 21 b = nI 1
noncomputable def xum (V : pc_V) (u t : Nat) (nm kd : Int32) : Option Nat := match xnm V nm kd 40 (some t) with
  | none => none
  | some b => @ite _ (xus1 V u b) (Classical.propDecidable _) (some b) none
section UPPER
variable {o : Nat} {V : pc_V} {J : Nat → Int64} {p1 p2 cap : Nat} {hp : xm_H}
theorem c_leastSplitName (P : Pic o V J p1 p2 cap hp) (I : CInv V cap) {m : Nat} (hm : m < zM V) : xm_call 137 [.ref o, .int (nI m)] hp = some (some (.int (oI (spl V m))), hp) := by
  have hP1 := I.P.1
  have hP2 := I.P.2
  have loop1 : ∀ d k a b x6, k + d = zP V → ∃ a' x6', xm_out 137 (18, [some (.ref o), some (.int (nI m)), some (.int (xrd V m False)), some (.int a), some (.int b), some (.int (nI k)), x6], [], hp) = xm_out 137 (77, [some (.ref o), some (.int (nI m)), some (.int (xrd V m False)), some (.int a'), some (.int (spF V (nI m) (xrd V m False) k d a b)), some (.int (nI (zP V))), x6'], [], hp) := by
    intro d
    induction d with
    | zero =>
      intro k a b x6 hk
      refine ⟨a, x6, ?_⟩
      simp only [s137_18, s137_20, s137_21, s137_24, s137_27, Option.bind_some, Option.toList_some, Option.toList_none, List.cons_append, List.nil_append, xm_kl_n, xm_kl_i, xm_kl_a, xm_kl_j, xl_0, xm_low1, xm_low2, xm_low3, xm_low4, xl_n0, xl_n1, xb_nar, xe_if0, xe_ifn, xm_ci1, xm_ca1, pf_0_1 P, pf_6_0 P, hP1]
      rw [if_pos (nI_le (by omega) (by omega)), show k = zP V by omega]
      rfl
    | succ d ih =>
      intro k a b x6 hk
      simp only [s137_18, s137_20, s137_21, s137_24, s137_27, s137_30, s137_31, s137_34, s137_36, s137_37, s137_38, s137_41, s137_44, s137_45, s137_46, s137_49, s137_51, s137_54, s137_55, s137_57, s137_59, s137_60, s137_62, s137_63, s137_64, s137_66, s137_67, s137_69, s137_70, s137_71, Option.bind_some, Option.toList_some, Option.toList_none, List.cons_append, List.nil_append, xm_kl_n, xm_kl_i, xm_kl_a, xm_kl_j, xl_0, xm_low1, xm_low2, xm_low3, xm_low4, xl_n0, xl_n1, xb_nar, xe_if0, xe_ifn, xm_ci1, xm_ca1, pf_0_1 P, pf_6_0 P, hP1, pcl_6 P, c_isSeenBy P (show k < 30 by omega), c_Packs_nameOf P (show k < 30 by omega), nI_add]
      rw [if_neg (nI_ge (by omega) (by omega))]
      simp only [s137_74]
      by_cases h1 : xsb V k (nI m) (xrd V m False)
      · rw [if_pos h1]
        obtain ⟨a', x6', e⟩ := ih (k + 1) (a ||| (nI 1 <<< (V 8 k &&& 31))) (b ||| (a &&& (nI 1 <<< (V 8 k &&& 31)))) (some (.int (nI 1 <<< (V 8 k &&& 31)))) (by omega)
        refine ⟨a', x6', e.trans ?_⟩
        rw [show spF V (nI m) (xrd V m False) k (d + 1) a b = spF V (nI m) (xrd V m False) (k + 1) d (a ||| (nI 1 <<< (V 8 k &&& 31))) (b ||| (a &&& (nI 1 <<< (V 8 k &&& 31)))) from if_pos h1]
      · rw [if_neg h1]
        obtain ⟨a', x6', e⟩ := ih (k + 1) a b x6 (by omega)
        refine ⟨a', x6', e.trans ?_⟩
        rw [show spF V (nI m) (xrd V m False) k (d + 1) a b = spF V (nI m) (xrd V m False) (k + 1) d a b from if_neg h1]
  have loop2 : ∀ d k a b x6, k + d = 31 → xm_out 137 (80, [some (.ref o), some (.int (nI m)), some (.int (xrd V m False)), some (.int a), some (.int b), some (.int (nI k)), x6], [], hp) = some (some (.int (oI (xfo (fun x => ¬ b &&& (nI 1 <<< (nI x &&& 31)) = 0) k d))), hp) := by
    intro d
    induction d with
    | zero =>
      intro k a b x6 hk
      simp only [s137_80, s137_82, s137_84, s137_106, s137_107, Option.bind_some, Option.toList_some, Option.toList_none, List.cons_append, List.nil_append, xm_kl_n, xm_kl_i, xm_kl_a, xm_kl_j, xl_0, xm_low1, xm_low2, xm_low3, xm_low4, xl_n0, xl_n1, xb_nar, xe_if0, xe_ifn, xm_ci1, xm_ca1]
      rw [if_pos (nI_le (by omega) (by omega))]
      rfl
    | succ d ih =>
      intro k a b x6 hk
      simp only [s137_80, s137_82, s137_84, s137_87, s137_89, s137_91, s137_94, s137_97, s137_99, s137_100, Option.bind_some, Option.toList_some, Option.toList_none, List.cons_append, List.nil_append, xm_kl_n, xm_kl_i, xm_kl_a, xm_kl_j, xl_0, xm_low1, xm_low2, xm_low3, xm_low4, xl_n0, xl_n1, xb_nar, xe_if0, xe_ifn, xm_ci1, xm_ca1, c_hasBit, nI_add]
      rw [if_neg (nI_ge (by omega) (by omega))]
      simp only [s137_103, ih (k + 1) a b x6 (by omega)]
      by_cases h1 : b &&& (nI 1 <<< (nI k &&& 31)) = 0 <;> simp [h1, xfo, oI_s]
  simp only [k137, s137_0, s137_1, s137_4, s137_5, s137_6, s137_9, s137_10, s137_11, s137_12, s137_13, s137_15, s137_16, Option.bind_some, Option.toList_some, Option.toList_none, List.cons_append, List.nil_append, xm_kl_n, xm_kl_i, xm_kl_a, xm_kl_j, xl_0, xm_low1, xm_low2, xm_low3, xm_low4, xl_n0, xl_n1, xb_nar, xe_if0, xe_ifn, xm_ci1, xm_ca1, pf_0_0 P, pcl_1 P, c_readBy0 P I hm]
  obtain ⟨a', x6', e⟩ := loop1 (zP V) 0 (nI 0) (nI 0) none (by omega)
  rw [e]
  simp only [s137_77, s137_78, Option.bind_some, Option.toList_some, Option.toList_none, List.cons_append, List.nil_append, xm_kl_n, xm_kl_i, xm_kl_a, xm_kl_j, xl_0, xm_low1, xm_low2, xm_low3, xm_low4, xl_n0, xl_n1, xb_nar, xe_if0, xe_ifn, xm_ci1, xm_ca1]
  exact loop2 31 0 _ _ _ (by omega)
theorem c_anySplit (P : Pic o V J p1 p2 cap hp) (I : CInv V cap) (s : Int32) : xm_call 161 [.ref o, .int s] hp = some (some (.int (xb (xan (fun m => ¬ s &&& (nI 1 <<< (nI m &&& 31)) = 0 ∧ ¬ spl V m = none) 0 (zM V) = true))), hp) := by
  have hM1 := I.M.1
  have hM2 := I.M.2
  have hs : ∀ m t, spl V m = some t → t < 2 ^ 31 := fun m t h => by have := xfo_lt h; omega
  have loop : ∀ d k, k + d = zM V → xm_out 161 (2, [some (.ref o), some (.int s), some (.int (nI k))], [], hp) = some (some (.int (xb (xan (fun m => ¬ s &&& (nI 1 <<< (nI m &&& 31)) = 0 ∧ ¬ spl V m = none) k d = true))), hp) := by
    intro d
    induction d with
    | zero =>
      intro k hk
      simp only [s161_2, s161_3, s161_4, s161_7, s161_10, s161_38, s161_39, Option.bind_some, Option.toList_some, Option.toList_none, List.cons_append, List.nil_append, xm_kl_n, xm_kl_i, xm_kl_a, xm_kl_j, xl_0, xm_low1, xm_low2, xm_low3, xm_low4, xl_n0, xl_n1, xb_nar, xe_if0, xe_ifn, xm_ci1, xm_ca1, pf_0_0 P, pf_1_0 P, hM1]
      rw [if_pos (nI_le (by omega) (by omega))]
      simp [xan, xb_f]
    | succ d ih =>
      intro k hk
      simp only [s161_2, s161_3, s161_4, s161_7, s161_10, s161_13, s161_14, s161_15, s161_18, s161_21, s161_22, s161_23, s161_26, s161_27, s161_30, s161_31, s161_32, Option.bind_some, Option.toList_some, Option.toList_none, List.cons_append, List.nil_append, xm_kl_n, xm_kl_i, xm_kl_a, xm_kl_j, xl_0, xm_low1, xm_low2, xm_low3, xm_low4, xl_n0, xl_n1, xb_nar, xe_if0, xe_ifn, xm_ci1, xm_ca1, pf_0_0 P, pf_1_0 P, hM1, c_hasBit, pcl_0 P, c_leastSplitName P I (show k < zM V by omega), nI_add]
      rw [if_neg (nI_ge (by omega) (by omega))]
      simp only [s161_35, ih (k + 1) (by omega), oI_m1 (hs k)]
      by_cases h1 : s &&& (nI 1 <<< (nI k &&& 31)) = 0
      · rw [if_neg (fun z => z h1), xan_f (fun z => z.1 h1)]
      · rw [if_pos h1]
        by_cases h2 : spl V k = none
        · rw [if_pos h2, xan_f (fun z => z.2 h2)]
        · rw [if_neg h2, xan_t ⟨h1, h2⟩, xb_t rfl]
  simp only [k161, s161_0, s161_1, Option.bind_some, Option.toList_some, Option.toList_none, List.cons_append, List.nil_append, xm_kl_n, xm_kl_i, xm_kl_a, xm_kl_j, xl_0, xm_low1, xm_low2, xm_low3, xm_low4, xl_n0, xl_n1, xb_nar, xe_if0, xe_ifn, xm_ci1, xm_ca1]
  exact loop (zM V) 0 (by omega)
theorem c_isPackNameSeen (P : Pic o V J p1 p2 cap hp) (I : CInv V cap) {m : Nat} (hm : m < zM V) (nm : Int32) : xm_call 138 [.ref o, .int (nI m), .int nm] hp = some (some (.int (xb (xan (fun p => V 8 p = nm ∧ xsb V p (nI m) (xrd V m False)) 0 (zP V) = true))), hp) := by
  have hP1 := I.P.1
  have hP2 := I.P.2
  have loop : ∀ d k, k + d = zP V → xm_out 138 (13, [some (.ref o), some (.int (nI m)), some (.int nm), some (.int (xrd V m False)), some (.int (nI k))], [], hp) = some (some (.int (xb (xan (fun p => V 8 p = nm ∧ xsb V p (nI m) (xrd V m False)) k d = true))), hp) := by
    intro d
    induction d with
    | zero =>
      intro k hk
      simp only [s138_13, s138_15, s138_16, s138_19, s138_22, s138_60, s138_61, Option.bind_some, Option.toList_some, Option.toList_none, List.cons_append, List.nil_append, xm_kl_n, xm_kl_i, xm_kl_a, xm_kl_j, xl_0, xm_low1, xm_low2, xm_low3, xm_low4, xl_n0, xl_n1, xb_nar, xe_if0, xe_ifn, xm_ci1, xm_ca1, pf_0_1 P, pf_6_0 P, hP1]
      rw [if_pos (nI_le (by omega) (by omega))]
      simp [xan, xb_f]
    | succ d ih =>
      intro k hk
      simp only [s138_13, s138_15, s138_16, s138_19, s138_22, s138_25, s138_26, s138_29, s138_31, s138_34, s138_35, s138_38, s138_39, s138_42, s138_44, s138_45, s138_46, s138_49, s138_52, s138_53, s138_54, Option.bind_some, Option.toList_some, Option.toList_none, List.cons_append, List.nil_append, xm_kl_n, xm_kl_i, xm_kl_a, xm_kl_j, xl_0, xm_low1, xm_low2, xm_low3, xm_low4, xl_n0, xl_n1, xb_nar, xe_if0, xe_ifn, xm_ci1, xm_ca1, pf_0_1 P, pf_6_0 P, hP1, pcl_6 P, c_isSeenBy P (show k < 30 by omega), c_Packs_nameOf P (show k < 30 by omega), nI_add]
      rw [if_neg (nI_ge (by omega) (by omega))]
      simp only [s138_57, ih (k + 1) (by omega)]
      by_cases h1 : V 8 k = nm
      · rw [if_neg (fun z => z h1)]
        by_cases h2 : xsb V k (nI m) (xrd V m False)
        · rw [if_pos h2, xan_t ⟨h1, h2⟩, xb_t rfl]
        · rw [if_neg h2, xan_f (fun z => h2 z.2)]
      · rw [if_pos h1, xan_f (fun z => h1 z.1)]
  simp only [k138, s138_0, s138_1, s138_4, s138_5, s138_6, s138_9, s138_10, s138_11, Option.bind_some, Option.toList_some, Option.toList_none, List.cons_append, List.nil_append, xm_kl_n, xm_kl_i, xm_kl_a, xm_kl_j, xl_0, xm_low1, xm_low2, xm_low3, xm_low4, xl_n0, xl_n1, xb_nar, xe_if0, xe_ifn, xm_ci1, xm_ca1, pf_0_0 P, pcl_1 P, c_readBy0 P I hm]
  exact loop (zP V) 0 (by omega)
theorem c_nearestMember (P : Pic o V J p1 p2 cap hp) (I : CInv V cap) (nm kd : Int32) (q : Option Nat) (hq : ∀ t, q = some t → t < zT V) : xm_call 86 [.ref o, .int (oI q), .int nm, .int kd] hp = some (some (.int (oI (xnm V nm kd 40 q))), hp) := by
  have hB1 := I.B.1
  have hB2 := I.B.2
  have hT := I.T.2
  have loop : ∀ d k q x0 x6, k + d = 40 → (∀ t, q = some t → t < zT V) → xm_out 86 (6, [some (.ref o), some (.int x0), some (.int nm), some (.int kd), some (.int (oI q)), some (.int (nI k)), x6], [], hp) = some (some (.int (oI (xnm V nm kd d q))), hp) := by
    intro d
    induction d with
    | zero =>
      intro k q x0 x6 hk hq
      simp only [s86_6, s86_8, s86_10, s86_58, s86_59, Option.bind_some, Option.toList_some, Option.toList_none, List.cons_append, List.nil_append, xm_kl_n, xm_kl_i, xm_kl_a, xm_kl_j, xl_0, xm_low1, xm_low2, xm_low3, xm_low4, xl_n0, xl_n1, xb_nar, xe_if0, xe_ifn, xm_ci1, xm_ca1]
      rw [if_pos (nI_le (by omega) (by omega))]
      rfl
    | succ d ih =>
      intro k q x0 x6 hk hq
      cases q with
      | none =>
        simp only [s86_6, s86_8, s86_10, s86_13, s86_15, s86_16, s86_58, s86_59, Option.bind_some, Option.toList_some, Option.toList_none, List.cons_append, List.nil_append, xm_kl_n, xm_kl_i, xm_kl_a, xm_kl_j, xl_0, xm_low1, xm_low2, xm_low3, xm_low4, xl_n0, xl_n1, xb_nar, xe_if0, xe_ifn, xm_ci1, xm_ca1]
        rw [if_neg (nI_ge (by omega) (by omega)), if_pos (show oI none = -1 from rfl)]
        rfl
      | some t =>
        have ht := hq t rfl
        have hpr := I.par t ht
        simp only [oI_s, s86_6, s86_8, s86_10, s86_13, s86_15, s86_16, s86_19, s86_20, s86_23, s86_25, s86_26, s86_27, s86_30, s86_32, s86_34, s86_35, s86_38, s86_40, s86_41, s86_42, s86_45, s86_47, s86_50, s86_52, Option.bind_some, Option.toList_some, Option.toList_none, List.cons_append, List.nil_append, xm_kl_n, xm_kl_i, xm_kl_a, xm_kl_j, xl_0, xm_low1, xm_low2, xm_low3, xm_low4, xl_n0, xl_n1, xb_nar, xe_if0, xe_ifn, xm_ci1, xm_ca1, pf_0_2 P, pf_0_3 P, pcl_11 P, pcl_17 P, c_Members_find P hB1 hB2, c_Types_parentOf P (show t < 40 by omega), nI_add, hpr.1]
        rw [if_neg (nI_ge (by omega) (by omega)), if_neg (nI_m1 (by omega))]
        have ih' := ih (k + 1) (fpar V t) x0 (some (.int (oI (xom V nm kd t)))) (by omega) (fun s h => Nat.lt_trans (hpr.2 s h) ht)
        have hx : ∀ t', xom V nm kd t = some t' → t' < 2 ^ 31 := fun t' h => by have := xfo_lt h; omega
        simp only [s86_55]
        cases hr : xom V nm kd t with
        | none =>
          have hr' : xfo (fun p => V 18 p = nI t ∧ V 19 p = nm ∧ V 20 p = kd) 0 (zB V) = none := hr
          rw [hr] at ih'
          rw [hr', if_pos (show oI none = -1 from rfl)]
          rw [show xnm V nm kd (d + 1) (some t) = xnm V nm kd d (fpar V t) by simp only [xnm, hr]]
          exact ih'
        | some b =>
          have hr' : xfo (fun p => V 18 p = nI t ∧ V 19 p = nm ∧ V 20 p = kd) 0 (zB V) = some b := hr
          rw [hr', oI_s, if_neg (nI_m1 (hx b hr))]
          rw [show xnm V nm kd (d + 1) (some t) = some b by simp only [xnm, hr]]
          rfl
  simp only [k86, s86_0, s86_1, s86_3, s86_4, Option.bind_some, Option.toList_some, Option.toList_none, List.cons_append, List.nil_append, xm_kl_n, xm_kl_i, xm_kl_a, xm_kl_j, xl_0, xm_low1, xm_low2, xm_low3, xm_low4, xl_n0, xl_n1, xb_nar, xe_if0, xe_ifn, xm_ci1, xm_ca1]
  exact loop 40 0 q _ _ (by omega) hq
theorem xnm_lt {nm kd : Int32} : ∀ d q b, xnm V nm kd d q = some b → b < zB V := by
  intro d
  induction d with
  | zero => intro q b h; cases h
  | succ d ih =>
    intro q b h
    cases q with
    | none => cases h
    | some t =>
      simp only [xnm] at h
      split at h
      · rename_i b' hb'
        cases h
        have := xfo_lt hb'
        omega
      · exact ih _ _ h
theorem xum_lt {u t b : Nat} {nm kd : Int32} (h : xum V u t nm kd = some b) : b < zB V := by
  unfold xum at h
  split at h
  · cases h
  · rename_i b' hb'
    by_cases hc : xus1 V u b'
    · rw [if_pos hc] at h; cases h; exact xnm_lt _ _ _ hb'
    · rw [if_neg hc] at h; cases h
theorem c_usableMember (P : Pic o V J p1 p2 cap hp) (I : CInv V cap) {u t : Nat} (hu : u < zU V) (ht : t < zT V) (nm kd : Int32) : xm_call 116 [.ref o, .int (nI u), .int (nI t), .int nm, .int kd] hp = some (some (.int (oI (xum V u t nm kd))), hp) := by
  have hB2 := I.B.2
  have hn := c_nearestMember P I nm kd (some t) (fun s h => by cases h; exact ht)
  rw [oI_s] at hn
  simp only [k116, s116_0, s116_1, s116_2, s116_3, s116_5, s116_8, s116_10, s116_12, s116_13, Option.bind_some, Option.toList_some, Option.toList_none, List.cons_append, List.nil_append, xm_kl_n, xm_kl_i, xm_kl_a, xm_kl_j, xl_0, xm_low1, xm_low2, xm_low3, xm_low4, xl_n0, xl_n1, xb_nar, xe_if0, xe_ifn, xm_ci1, xm_ca1, pcl_0 P, hn]
  cases hr : xnm V nm kd 40 (some t) with
  | none =>
    rw [if_neg (fun z => z rfl)]
    simp only [s116_16, s116_17, Option.bind_some, Option.toList_some, Option.toList_none, List.cons_append, List.nil_append, xm_kl_n, xm_kl_i, xm_kl_a, xm_kl_j, xl_0, xm_low1, xm_low2, xm_low3, xm_low4, xl_n0, xl_n1, xb_nar, xe_if0, xe_ifn, xm_ci1, xm_ca1]
    unfold xum
    rw [hr]
    rfl
  | some b =>
    have hb := xnm_lt _ _ _ hr
    have hty := I.bty b hb
    have hop := I.bop b hb
    rw [oI_s, if_pos (nI_m1 (by omega))]
    simp only [s116_18, s116_19, s116_20, s116_23, s116_25, s116_28, s116_31, s116_32, s116_33, s116_36, s116_39, s116_40, s116_43, s116_44, s116_46, s116_48, s116_51, s116_52, s116_55, s116_57, s116_60, s116_63, s116_65, s116_68, s116_69, Option.bind_some, Option.toList_some, Option.toList_none, List.cons_append, List.nil_append, xm_kl_n, xm_kl_i, xm_kl_a, xm_kl_j, xl_0, xm_low1, xm_low2, xm_low3, xm_low4, xl_n0, xl_n1, xb_nar, xe_if0, xe_ifn, xm_ci1, xm_ca1, pf_0_3 P, pcl_0 P, pcl_17 P, c_Members_typeOf P (show b < 60 by omega), hty.1, c_ownerOfType P I hty.2, c_ownerOfUnit P I hu, c_Members_isOpen P (show b < 60 by omega) hop]
    unfold xum
    rw [hr]
    dsimp only
    by_cases h1 : V 7 (ftpk V (fbty V b)) = V 7 (fupk V u)
    · rw [if_neg (fun z => z h1), if_pos (show ¬ nI 1 = 0 by decide), if_pos (show xus1 V u b from Or.inl h1)]
      rfl
    · rw [if_pos h1, if_neg (show ¬ ¬ nI 0 = 0 by decide)]
      by_cases h2 : V 21 b = nI 1
      · rw [if_pos h2, if_pos (show xus1 V u b from Or.inr h2)]
        rfl
      · rw [if_neg h2, if_neg (show ¬ xus1 V u b from fun z => z.elim h1 h2)]
        rfl
end UPPER
