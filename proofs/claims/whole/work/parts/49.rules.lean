/-! rules, graphs, providers, what is found -/
section RULEDEFS
variable (V : pc_V) (u m w : Nat) (kd nm : Int32)
def xr1 : Prop := (kd = nI 1 ∧ ¬ xan (fun p => V 8 p = nI w ∧ xsb V p (nI m) (xrd V m False)) 0 (zP V) = true) ∨ (¬ kd = nI 1 ∧ ¬ xts V m w)
def xr2 : Prop := (kd = 0 ∧ (¬ xsi V u (V 13 w) = none ∧ ¬ xsi V u (V 13 w) = some w)) ∨ (kd = nI 2 ∧ ¬ (¬ xum V u w nm (nI 0) = none ∨ ¬ xum V u w nm (nI 1) = none))
def xr3 : Prop := xan (fun k => V 26 (u * 10 + k) = kd ∧ V 27 (u * 10 + k) = nI w ∧ V 28 (u * 10 + k) = nm) 0 (fusz V u) = true
noncomputable def xir : Int32 := @ite _ (xr1 V m w kd) (Classical.propDecidable _) (nI 1) (@ite _ (xr2 V u w kd nm) (Classical.propDecidable _) (nI 2) (@ite _ (xr3 V u w kd nm) (Classical.propDecidable _) (nI 3) (nI 0)))
end RULEDEFS
/-- which of the rules 4 to 7 is broken; 0: none -/
noncomputable def xmk (V : pc_V) (t : Nat) (s : Int32) : Int32 := @ite _ (V 14 t = 0) (Classical.propDecidable _) (@ite _ (V 15 t &&& nI 2 = 0) (Classical.propDecidable _) (nI 6) (@ite _ (xsub (fpar V) s 40 (some t) = true) (Classical.propDecidable _) (nI 0) (nI 7))) (nI 5)
noncomputable def xgv (V : pc_V) (b : Nat) (s : Int32) : Int32 := @ite _ (xsub (fpar V) s 40 (fbgv V b) = true) (Classical.propDecidable _) (nI 0) (nI 4)
noncomputable def xp47 (V : pc_V) (t : Nat) (s : Int32) : Int32 := match xom V (nI 0) (nI 1) t with
  | none => xmk V t s
  | some b => @ite _ (V 21 b = nI 1) (Classical.propDecidable _) (xgv V b s) (xmk V t s)
/-- rule 8 behind the others -/
noncomputable def xpt (V : pc_V) (s t : Nat) (r : Int32) : Int32 := @ite _ (r = nI 0) (Classical.propDecidable _) (@ite _ (xan (fun p => V 31 p = nI s ∧ V 32 p = nI t) 0 (zS V) = true) (Classical.propDecidable _) (nI 8) (nI 0)) r
noncomputable def xpr (V : pc_V) (m s t : Nat) : Int32 := @ite _ (xts V m s) (Classical.propDecidable _) (@ite _ (V 7 (ftpk V t) = nI m) (Classical.propDecidable _) (@ite _ (V 15 t &&& nI 1 = 0) (Classical.propDecidable _) (nI 3)
  (xpt V s t (xp47 V t (nI s)))) (nI 2)) (nI 1)
/-- the modules of providers of what is used -/
noncomputable def prF (V : pc_V) (us : Int64) : Nat → Nat → Int32 → Int32
  | _, 0, a => a
  | k, d + 1, a => prF V us (k + 1) d (@ite _ (lg_cmp (us &&& ((1 : Int64) <<< ((V 31 k).toInt64 &&& 63))) 0 = 0) (Classical.propDecidable _) a (a ||| (nI 1 <<< (V 7 (ftpk V (fsty V k)) &&& 31))))
noncomputable def prv (V : pc_V) (J : Nat → Int64) (s : Int32) : Int32 := prF V (xus J s 0 12 0) 0 (zS V) (nI 0)
noncomputable def grf (V : pc_V) (J : Nat → Int64) : Nat → Int32 → Int32
  | 0, s => s
  | r + 1, s => @ite _ (clr (V 4) (zM V) 12 (s ||| prv V J s) = s) (Classical.propDecidable _) (clr (V 4) (zM V) 12 (s ||| prv V J s)) (grf V J r (clr (V 4) (zM V) 12 (s ||| prv V J s)))
noncomputable def grh (V : pc_V) (J : Nat → Int64) (root : Nat) (bound : Prop) : Int32 := @ite _ bound (Classical.propDecidable _) (grf V J 12 (clr (V 4) (zM V) 12 (nI 1 <<< (nI root &&& 31)))) (clr (V 4) (zM V) 12 (nI 1 <<< (nI root &&& 31)))
/-- the l-th of d numbers that have c, or how many are left to pass -/
noncomputable def pa1 (c : Nat → Prop) : Nat → Nat → Nat → Nat ⊕ Nat
  | _, 0, l => .inr l
  | k, d + 1, l => @ite _ (c k) (Classical.propDecidable _) (match l with
    | 0 => .inl k
    | l + 1 => pa1 c (k + 1) d l) (pa1 c (k + 1) d l)
noncomputable def pa2 (V : pc_V) (set : Int32) (sv : Int32) : Nat → Nat → Nat → Option Nat
  | _, 0, _ => none
  | m, d + 1, l => @ite _ (set &&& (nI 1 <<< (nI m &&& 31)) = 0) (Classical.propDecidable _) (pa2 V set sv (m + 1) d l) (match pa1 (fun k => V 31 k = sv ∧ V 7 (ftpk V (fsty V k)) = nI m) 0 (zS V) l with
    | .inl a => some a
    | .inr l' => pa2 V set sv (m + 1) d l')
/-- the package of a name that one of these modules exports to m -/
noncomputable def fpk (V : pc_V) (rs m nm : Int32) : Nat → Nat → Option Nat
  | _, 0 => none
  | k, d + 1 => @ite _ (rs &&& (nI 1 <<< (nI k &&& 31)) = 0) (Classical.propDecidable _) (fpk V rs m nm (k + 1) d) (match xfo (fun p => V 7 p = nI k ∧ V 8 p = nm) 0 (zP V) with
    | none => fpk V rs m nm (k + 1) d
    | some p => @ite _ (V 9 p &&& (nI 4096 ||| xbit m) = 0) (Classical.propDecidable _) (fpk V rs m nm (k + 1) d) (some p))
theorem pa1_f {c : Nat → Prop} {k d l : Nat} (h : ¬ c k) : pa1 c k (d + 1) l = pa1 c (k + 1) d l := by
  cases l with
  | zero => exact if_neg h
  | succ l => exact if_neg h
theorem pa1_0 {c : Nat → Prop} {k d : Nat} (h : c k) : pa1 c k (d + 1) 0 = .inl k := if_pos h
theorem pa1_s {c : Nat → Prop} {k d l : Nat} (h : c k) : pa1 c k (d + 1) (l + 1) = pa1 c (k + 1) d l := if_pos h
section RULES
variable {o : Nat} {V : pc_V} {J : Nat → Int64} {p1 p2 cap : Nat} {hp : xm_H}
theorem c_importRule (P : Pic o V J p1 p2 cap hp) (I : CInv V cap) {u w : Nat} (hu : u < zU V) (kd nm : Int32) (hw : ¬ kd = nI 1 → w < zT V) : xm_call 172 [.ref o, .int (nI u), .int kd, .int (nI w), .int nm] hp = some (some (.int (xir V u (fown V (fupk V u)) w kd nm)), hp) := by
  have hU := I.U.2
  have hu2 := I.upk u hu
  have ho := I.own _ hu2.2
  have hS := I.usz u hu
  unfold xir
  simp only [k172, s172_0, s172_1, s172_2, s172_5, s172_7, s172_8, s172_9, Option.bind_some, Option.toList_some, Option.toList_none, List.cons_append, List.nil_append, xm_kl_n, xm_kl_i, xm_kl_a, xm_kl_j, xl_0, xm_low1, xm_low2, xm_low3, xm_low4, xl_n0, xl_n1, xb_nar, xe_if0, xe_ifn, xm_ci1, xm_ca1, pcl_0 P, c_ownerOfUnit P I hu, ho.1]
  by_cases h1 : kd = nI 1
  · rw [if_neg (fun z => z h1)]
    have k0 : ¬ kd = 0 := by rw [h1]; decide
    have k2 : ¬ kd = nI 2 := by rw [h1]; decide
    simp only [s172_12, s172_13, s172_15, s172_16, s172_19, s172_22, s172_25, s172_26, s172_28, s172_29, s172_32, s172_35, s172_36, s172_37, s172_38, s172_41, s172_42, s172_43, s172_44, s172_47, s172_50, s172_51, s172_52, s172_53, s172_54, s172_57, s172_58, s172_59, s172_60, s172_62, s172_65, s172_68, s172_69, s172_70, s172_71, s172_74, s172_75, s172_76, s172_77, s172_79, s172_82, s172_85, s172_86, s172_89, s172_90, Option.bind_some, Option.toList_some, Option.toList_none, List.cons_append, List.nil_append, xm_kl_n, xm_kl_i, xm_kl_a, xm_kl_j, xl_0, xm_low1, xm_low2, xm_low3, xm_low4, xl_n0, xl_n1, xb_nar, xe_if0, xe_ifn, xm_ci1, xm_ca1, pf_0_4 P, pcl_0 P, pcl_23 P, c_isPackNameSeen P I ho.2, c_Units_hasImport P (show u < 12 by omega) hS.1 hS.2]
    by_cases h2 : xan (fun p => V 8 p = nI w ∧ xsb V p (nI (fown V (fupk V u))) (xrd V (fown V (fupk V u)) False)) 0 (zP V) = true
    · rw [if_pos h2, if_pos k0, if_pos k2, if_neg (show ¬ xr1 V (fown V (fupk V u)) w kd from fun z => z.elim (fun q => q.2 h2) (fun q => q.1 h1)), if_neg (show ¬ xr2 V u w kd nm from fun z => z.elim (fun q => k0 q.1) (fun q => k2 q.1))]
      by_cases h3 : xr3 V u w kd nm
      · rw [if_pos h3, if_pos (show xan (fun k => V 26 (u * 10 + k) = kd ∧ V 27 (u * 10 + k) = nI w ∧ V 28 (u * 10 + k) = nm) 0 (fusz V u) = true from h3)]
      · rw [if_neg h3, if_neg (show ¬ xan (fun k => V 26 (u * 10 + k) = kd ∧ V 27 (u * 10 + k) = nI w ∧ V 28 (u * 10 + k) = nm) 0 (fusz V u) = true from h3)]
    · rw [if_neg h2, if_pos (show xr1 V (fown V (fupk V u)) w kd from Or.inl ⟨h1, h2⟩)]
  · rw [if_pos h1]
    have hw' := hw h1
    simp only [s172_25, s172_26, s172_28, s172_29, s172_32, s172_35, s172_36, Option.bind_some, Option.toList_some, Option.toList_none, List.cons_append, List.nil_append, xm_kl_n, xm_kl_i, xm_kl_a, xm_kl_j, xl_0, xm_low1, xm_low2, xm_low3, xm_low4, xl_n0, xl_n1, xb_nar, xe_if0, xe_ifn, xm_ci1, xm_ca1, pcl_0 P, c_isTypeSeen P I ho.2 hw']
    by_cases h2 : xts V (fown V (fupk V u)) w
    · rw [if_pos h2, if_neg (show ¬ xr1 V (fown V (fupk V u)) w kd from fun z => z.elim (fun q => h1 q.1) (fun q => q.2 h2))]
      simp only [s172_37, s172_38, Option.bind_some, Option.toList_some, Option.toList_none, List.cons_append, List.nil_append, xm_kl_n, xm_kl_i, xm_kl_a, xm_kl_j, xl_0, xm_low1, xm_low2, xm_low3, xm_low4, xl_n0, xl_n1, xb_nar, xe_if0, xe_ifn, xm_ci1, xm_ca1]
      by_cases k0 : kd = 0
      · rw [if_neg (fun z => z k0)]
        have k2 : ¬ kd = nI 2 := by rw [k0]; decide
        simp only [s172_41, s172_42, s172_43, s172_44, s172_47, s172_50, s172_51, s172_52, s172_53, s172_54, s172_57, s172_58, s172_59, s172_60, s172_62, s172_65, s172_68, s172_69, s172_70, s172_71, s172_74, s172_75, s172_76, s172_77, s172_79, s172_82, s172_85, s172_86, s172_89, s172_90, Option.bind_some, Option.toList_some, Option.toList_none, List.cons_append, List.nil_append, xm_kl_n, xm_kl_i, xm_kl_a, xm_kl_j, xl_0, xm_low1, xm_low2, xm_low3, xm_low4, xl_n0, xl_n1, xb_nar, xe_if0, xe_ifn, xm_ci1, xm_ca1, pf_0_4 P, pcl_0 P, pcl_23 P, c_importsRival P I hu hw', c_Units_hasImport P (show u < 12 by omega) hS.1 hS.2]
        by_cases h4 : ¬ xsi V u (V 13 w) = none ∧ ¬ xsi V u (V 13 w) = some w
        · rw [if_pos h4, if_pos (show xr2 V u w kd nm from Or.inl ⟨k0, h4⟩)]
        · rw [if_neg h4, if_pos k2, if_neg (show ¬ xr2 V u w kd nm from fun z => z.elim (fun q => h4 q.2) (fun q => k2 q.1))]
          by_cases h3 : xr3 V u w kd nm
          · rw [if_pos h3, if_pos (show xan (fun k => V 26 (u * 10 + k) = kd ∧ V 27 (u * 10 + k) = nI w ∧ V 28 (u * 10 + k) = nm) 0 (fusz V u) = true from h3)]
          · rw [if_neg h3, if_neg (show ¬ xan (fun k => V 26 (u * 10 + k) = kd ∧ V 27 (u * 10 + k) = nI w ∧ V 28 (u * 10 + k) = nm) 0 (fusz V u) = true from h3)]
      · rw [if_pos k0]
        simp only [s172_52, s172_53, s172_54, s172_57, s172_58, s172_59, s172_60, s172_62, s172_65, s172_68, s172_69, s172_70, s172_71, s172_74, s172_75, s172_76, s172_77, s172_79, s172_82, s172_85, s172_86, s172_89, s172_90, Option.bind_some, Option.toList_some, Option.toList_none, List.cons_append, List.nil_append, xm_kl_n, xm_kl_i, xm_kl_a, xm_kl_j, xl_0, xm_low1, xm_low2, xm_low3, xm_low4, xl_n0, xl_n1, xb_nar, xe_if0, xe_ifn, xm_ci1, xm_ca1, pf_0_4 P, pcl_0 P, pcl_23 P, c_hasUsableMember P I hu hw', c_Units_hasImport P (show u < 12 by omega) hS.1 hS.2]
        by_cases k2 : kd = nI 2
        · rw [if_neg (fun z => z k2)]
          by_cases h4 : ¬ xum V u w nm (nI 0) = none ∨ ¬ xum V u w nm (nI 1) = none
          · rw [if_pos h4, if_neg (show ¬ xr2 V u w kd nm from fun z => z.elim (fun q => k0 q.1) (fun q => q.2 h4))]
            by_cases h3 : xr3 V u w kd nm
            · rw [if_pos h3, if_pos (show xan (fun k => V 26 (u * 10 + k) = kd ∧ V 27 (u * 10 + k) = nI w ∧ V 28 (u * 10 + k) = nm) 0 (fusz V u) = true from h3)]
            · rw [if_neg h3, if_neg (show ¬ xan (fun k => V 26 (u * 10 + k) = kd ∧ V 27 (u * 10 + k) = nI w ∧ V 28 (u * 10 + k) = nm) 0 (fusz V u) = true from h3)]
          · rw [if_neg h4, if_pos (show xr2 V u w kd nm from Or.inr ⟨k2, h4⟩)]
        · rw [if_pos k2, if_neg (show ¬ xr2 V u w kd nm from fun z => z.elim (fun q => k0 q.1) (fun q => k2 q.1))]
          by_cases h3 : xr3 V u w kd nm
          · rw [if_pos h3, if_pos (show xan (fun k => V 26 (u * 10 + k) = kd ∧ V 27 (u * 10 + k) = nI w ∧ V 28 (u * 10 + k) = nm) 0 (fusz V u) = true from h3)]
          · rw [if_neg h3, if_neg (show ¬ xan (fun k => V 26 (u * 10 + k) = kd ∧ V 27 (u * 10 + k) = nI w ∧ V 28 (u * 10 + k) = nm) 0 (fusz V u) = true from h3)]
    · rw [if_neg h2, if_pos (show xr1 V (fown V (fupk V u)) w kd from Or.inr ⟨h1, h2⟩)]
theorem CInv.par' (I : CInv V cap) : ∀ t, t < zT V → V 16 t = oI (fpar V t) ∧ ∀ s, fpar V t = some s → s < zT V := fun t ht => ⟨(I.par t ht).1, fun s h => Nat.lt_trans ((I.par t ht).2 s h) ht⟩
theorem c_giverRule (P : Pic o V J p1 p2 cap hp) (I : CInv V cap) {b : Nat} (hb : b < zB V) (s : Int32) : xm_call 88 [.ref o, .int (nI b), .int s] hp = some (some (.int (xgv V b s)), hp) := by
  have hB := I.B.2
  have hg := I.bgv b hb
  simp only [k88, s88_0, s88_1, s88_4, s88_5, s88_8, s88_9, s88_12, s88_13, s88_16, s88_19, s88_20, s88_23, s88_24, Option.bind_some, Option.toList_some, Option.toList_none, List.cons_append, List.nil_append, xm_kl_n, xm_kl_i, xm_kl_a, xm_kl_j, xl_0, xm_low1, xm_low2, xm_low3, xm_low4, xl_n0, xl_n1, xb_nar, xe_if0, xe_ifn, xm_ci1, xm_ca1, pf_0_2 P, pf_0_3 P, pcl_11 P, pcl_17 P, c_Members_givenBy P (show b < 60 by omega), hg.1, c_Types_isSubtype P I.T.2 I.par' s (fbgv V b) hg.2]
  unfold xgv
  by_cases h : xsub (fpar V) s 40 (fbgv V b) = true
  · rw [if_pos h, if_pos h]
  · rw [if_neg h, if_neg h]
theorem c_makerRule (P : Pic o V J p1 p2 cap hp) (I : CInv V cap) {t : Nat} (ht : t < zT V) (s : Int32) : xm_call 89 [.ref o, .int (nI t), .int s] hp = some (some (.int (xmk V t s)), hp) := by
  have hT := I.T.2
  have hs := c_Types_isSubtype P I.T.2 I.par' s (some t) (fun q h => by cases h; exact ht)
  rw [oI_s] at hs
  simp only [k89, s89_0, s89_1, s89_4, s89_5, s89_8, s89_11, s89_12, s89_13, s89_14, s89_17, s89_18, s89_21, s89_24, s89_26, s89_27, s89_28, s89_31, s89_32, s89_33, s89_36, s89_39, s89_40, s89_43, s89_45, Option.bind_some, Option.toList_some, Option.toList_none, List.cons_append, List.nil_append, xm_kl_n, xm_kl_i, xm_kl_a, xm_kl_j, xl_0, xm_low1, xm_low2, xm_low3, xm_low4, xl_n0, xl_n1, xb_nar, xe_if0, xe_ifn, xm_ci1, xm_ca1, pf_0_2 P, pcl_11 P, c_Types_kindOf P (show t < 40 by omega), c_Types_hasMaker P (show t < 40 by omega), hs]
  unfold xmk
  by_cases h1 : V 14 t = 0
  · rw [if_pos h1, if_pos h1]
    by_cases h2 : V 15 t &&& nI 2 = 0
    · rw [if_neg (fun z => z h2), if_pos h2]
    · rw [if_pos h2, if_neg h2]
      by_cases h3 : xsub (fpar V) s 40 (some t) = true
      · rw [if_pos h3, if_pos h3]
      · rw [if_neg h3, if_neg h3]
  · rw [if_neg h1, if_neg h1]
theorem c_provideRule (P : Pic o V J p1 p2 cap hp) (I : CInv V cap) {m s t : Nat} (hm : m < zM V) (hs : s < zT V) (ht : t < zT V) : xm_call 174 [.ref o, .int (nI m), .int (nI s), .int (nI t)] hp = some (some (.int (xpr V m s t)), hp) := by
  have hT := I.T.2
  have hB := I.B.2
  have hSv := I.S
  have tail : ∀ r x4 x5, xm_out 174 (81, [some (.ref o), some (.int (nI m)), some (.int (nI s)), some (.int (nI t)), x4, x5], [.int r], hp) = some (some (.int (xpt V s t r)), hp) := by
    intro r x4 x5
    unfold xpt
    simp only [s174_81, s174_83, s174_85, s174_88, s174_90, s174_91, s174_92, s174_95, s174_96, s174_97, s174_100, s174_103, s174_105, s174_108, s174_109, Option.bind_some, Option.toList_some, Option.toList_none, List.cons_append, List.nil_append, xm_kl_n, xm_kl_i, xm_kl_a, xm_kl_j, xl_0, xm_low1, xm_low2, xm_low3, xm_low4, xl_n0, xl_n1, xb_nar, xe_if0, xe_ifn, xm_ci1, xm_ca1, pf_0_5 P, pcl_29 P, c_Services_isProvided P (show cap < 2 ^ 31 by omega) hSv.1 hSv.2.1]
    by_cases h : r = 0
    · rw [if_pos h, if_pos (show r = nI 0 from h)]
      by_cases h2 : xan (fun p => V 31 p = nI s ∧ V 32 p = nI t) 0 (zS V) = true
      · rw [if_pos h2, if_pos h2]
      · rw [if_neg h2, if_neg h2]
    · rw [if_neg h, if_neg (show ¬ r = nI 0 from h)]
  unfold xpr
  simp only [k174, s174_0, s174_1, s174_2, s174_3, s174_6, s174_9, s174_10, s174_11, s174_12, s174_13, s174_16, s174_17, s174_20, s174_21, s174_22, s174_23, s174_26, s174_27, s174_30, s174_33, s174_34, Option.bind_some, Option.toList_some, Option.toList_none, List.cons_append, List.nil_append, xm_kl_n, xm_kl_i, xm_kl_a, xm_kl_j, xl_0, xm_low1, xm_low2, xm_low3, xm_low4, xl_n0, xl_n1, xb_nar, xe_if0, xe_ifn, xm_ci1, xm_ca1, pf_0_2 P, pcl_0 P, pcl_11 P, c_isTypeSeen P I hm hs, c_ownerOfType P I ht, c_Types_isOpen P (show t < 40 by omega)]
  by_cases h1 : xts V m s
  · rw [if_pos h1, if_pos h1]
    by_cases h2 : V 7 (ftpk V t) = nI m
    · rw [if_pos h2, if_pos h2]
      by_cases h3 : V 15 t &&& nI 1 = 0
      · rw [if_neg (fun z => z h3), if_pos h3]
      · rw [if_pos h3, if_neg h3]
        simp only [s174_35, s174_36, s174_39, s174_40, s174_41, s174_42, s174_45, s174_47, s174_49, s174_50, Option.bind_some, Option.toList_some, Option.toList_none, List.cons_append, List.nil_append, xm_kl_n, xm_kl_i, xm_kl_a, xm_kl_j, xl_0, xm_low1, xm_low2, xm_low3, xm_low4, xl_n0, xl_n1, xb_nar, xe_if0, xe_ifn, xm_ci1, xm_ca1, pf_0_3 P, pcl_17 P, c_Members_find P I.B.1 I.B.2]
        unfold xp47
        have hx : xom V (nI 0) (nI 1) t = xfo (fun p => V 18 p = nI t ∧ V 19 p = nI 0 ∧ V 20 p = nI 1) 0 (zB V) := rfl
        cases hr : xom V (nI 0) (nI 1) t with
        | none =>
          rw [← hx, hr, if_pos (show oI none = -1 from rfl)]
          simp only [s174_75, s174_76, s174_77, s174_78, Option.bind_some, Option.toList_some, Option.toList_none, List.cons_append, List.nil_append, xm_kl_n, xm_kl_i, xm_kl_a, xm_kl_j, xl_0, xm_low1, xm_low2, xm_low3, xm_low4, xl_n0, xl_n1, xb_nar, xe_if0, xe_ifn, xm_ci1, xm_ca1, pcl_0 P, c_makerRule P I ht, tail]
        | some b =>
          have hb : b < zB V := by have := xfo_lt (hx.symm.trans hr); omega
          rw [← hx, hr, oI_s, if_neg (nI_m1 (by omega))]
          simp only [s174_53, s174_54, s174_57, s174_59, s174_62, s174_65, s174_66, s174_68, s174_69, s174_72, s174_75, s174_76, s174_77, s174_78, Option.bind_some, Option.toList_some, Option.toList_none, List.cons_append, List.nil_append, xm_kl_n, xm_kl_i, xm_kl_a, xm_kl_j, xl_0, xm_low1, xm_low2, xm_low3, xm_low4, xl_n0, xl_n1, xb_nar, xe_if0, xe_ifn, xm_ci1, xm_ca1, pf_0_3 P, pcl_0 P, pcl_17 P, c_Members_isOpen P (show b < 60 by omega) (I.bop b hb), c_giverRule P I hb, c_makerRule P I ht, tail]
          by_cases h4 : V 21 b = nI 1
          · rw [if_pos h4, if_pos h4]
          · rw [if_neg h4, if_neg h4]
    · rw [if_neg h2, if_neg h2]
  · rw [if_neg h1, if_neg h1]
theorem c_providersFor (P : Pic o V J p1 p2 cap hp) (I : CInv V cap) (s : Int32) : xm_call 118 [.ref o, .int s] hp = some (some (.int (prv V J s)), hp) := by
  have hSv := I.S
  have loop : ∀ d k a us, k + d = zS V → xm_out 118 (15, [some (.ref o), some (.int s), some (.long us), none, some (.int a), some (.int (nI k))], [], hp) = some (some (.int (prF V us k d a)), hp) := by
    intro d
    induction d with
    | zero =>
      intro k a us hk
      simp only [s118_15, s118_17, s118_18, s118_21, s118_24, s118_71, s118_73, Option.bind_some, Option.toList_some, Option.toList_none, List.cons_append, List.nil_append, xm_kl_n, xm_kl_i, xm_kl_a, xm_kl_j, xl_0, xm_low1, xm_low2, xm_low3, xm_low4, xl_n0, xl_n1, xb_nar, xe_if0, xe_ifn, xm_ci1, xm_ca1, pf_0_5 P, pf_29_0 P, hSv.1]
      rw [if_pos (nI_le (by omega) (by omega))]
      rfl
    | succ d ih =>
      intro k a us hk
      have ht := I.sty k (by omega)
      simp only [s118_15, s118_17, s118_18, s118_21, s118_24, s118_27, s118_28, s118_29, s118_30, s118_33, s118_35, s118_38, s118_39, s118_40, s118_41, s118_42, s118_45, s118_47, s118_48, s118_49, s118_50, s118_53, s118_55, s118_58, s118_61, s118_62, s118_63, s118_65, Option.bind_some, Option.toList_some, Option.toList_none, List.cons_append, List.nil_append, xm_kl_n, xm_kl_i, xm_kl_a, xm_kl_j, xl_0, xm_low1, xm_low2, xm_low3, xm_low4, xl_n0, xl_n1, xb_nar, xe_if0, xe_ifn, xm_ci1, xm_ca1, pf_0_5 P, pf_29_0 P, hSv.1, pcl_0 P, pcl_29 P, c_Services_serviceAt P (show k < cap by omega) (show cap < 2 ^ 31 by omega), c_Services_typeAt P (show k < cap by omega) (show cap < 2 ^ 31 by omega), ht.1, c_ownerOfType P I ht.2, nI_add]
      rw [if_neg (nI_ge (by omega) (by omega))]
      simp only [s118_68, ih (k + 1) _ _ (show k + 1 + d = zS V by omega)]
      by_cases h : lg_cmp (us &&& ((1 : Int64) <<< ((V 31 k).toInt64 &&& 63))) 0 = 0
      · rw [if_pos h]
        simp only [prF, h, if_true]
      · rw [if_neg h]
        simp only [prF, h, if_false]
  simp only [k118, s118_0, s118_1, s118_4, s118_5, s118_8, s118_9, s118_10, s118_12, s118_13, Option.bind_some, Option.toList_some, Option.toList_none, List.cons_append, List.nil_append, xm_kl_n, xm_kl_i, xm_kl_a, xm_kl_j, xl_0, xm_low1, xm_low2, xm_low3, xm_low4, xl_n0, xl_n1, xb_nar, xe_if0, xe_ifn, xm_ci1, xm_ca1, pf_0_5 P, pcl_29 P, c_Services_usedBy P]
  exact loop (zS V) 0 _ _ (by omega)
theorem c_graphOf (P : Pic o V J p1 p2 cap hp) (I : CInv V cap) (root : Nat) (bound : Prop) : xm_call 141 [.ref o, .int (nI root), .int (xb bound)] hp = some (some (.int (grh V J root bound)), hp) := by
  have loop : ∀ d k s x5, k + d = 12 → xm_out 141 (20, [some (.ref o), some (.int (nI root)), some (.int (xb bound)), some (.int s), some (.int (nI k)), x5], [], hp) = some (some (.int (grf V J d s)), hp) := by
    intro d
    induction d with
    | zero =>
      intro k s x5 hk
      simp only [s141_20, s141_22, s141_24, s141_60, s141_61, Option.bind_some, Option.toList_some, Option.toList_none, List.cons_append, List.nil_append, xm_kl_n, xm_kl_i, xm_kl_a, xm_kl_j, xl_0, xm_low1, xm_low2, xm_low3, xm_low4, xl_n0, xl_n1, xb_nar, xe_if0, xe_ifn, xm_ci1, xm_ca1]
      rw [if_pos (nI_le (by omega) (by omega))]
      rfl
    | succ d ih =>
      intro k s x5 hk
      simp only [s141_20, s141_22, s141_24, s141_27, s141_28, s141_30, s141_31, s141_34, s141_35, s141_36, s141_37, s141_40, s141_41, s141_44, s141_45, s141_46, s141_48, s141_51, s141_54, s141_60, s141_61, Option.bind_some, Option.toList_some, Option.toList_none, List.cons_append, List.nil_append, xm_kl_n, xm_kl_i, xm_kl_a, xm_kl_j, xl_0, xm_low1, xm_low2, xm_low3, xm_low4, xl_n0, xl_n1, xb_nar, xe_if0, xe_ifn, xm_ci1, xm_ca1, pf_0_0 P, pcl_0 P, pcl_1 P, c_providersFor P I, c_neededAtRun P I, nI_add]
      rw [if_neg (nI_ge (by omega) (by omega))]
      simp only [s141_57, ih (k + 1) _ _ (show k + 1 + d = 12 by omega)]
      by_cases h : clr (V 4) (zM V) 12 (s ||| prv V J s) = s
      · rw [if_neg (fun z => z h), show grf V J (d + 1) s = clr (V 4) (zM V) 12 (s ||| prv V J s) from if_pos h]
      · rw [if_pos h, show grf V J (d + 1) s = grf V J d (clr (V 4) (zM V) 12 (s ||| prv V J s)) from if_neg h]
  simp only [k141, s141_0, s141_1, s141_4, s141_5, s141_6, s141_7, s141_10, s141_11, s141_12, s141_15, s141_16, s141_17, s141_18, Option.bind_some, Option.toList_some, Option.toList_none, List.cons_append, List.nil_append, xm_kl_n, xm_kl_i, xm_kl_a, xm_kl_j, xl_0, xm_low1, xm_low2, xm_low3, xm_low4, xl_n0, xl_n1, xb_nar, xe_if0, xe_ifn, xm_ci1, xm_ca1, pf_0_0 P, pcl_1 P, c_neededAtRun P I]
  unfold grh
  by_cases h : bound
  · rw [if_pos h, if_pos h]
    exact loop 12 0 _ _ (by omega)
  · rw [if_neg h, if_neg h]
theorem nI_dec (l : Nat) : nI (l + 1) + (-1) = nI l := pk_m1 l
theorem c_providerAt (P : Pic o V J p1 p2 cap hp) (I : CInv V cap) (set sv : Int32) {l : Nat} (hl : l < 2 ^ 31) : xm_call 119 [.ref o, .int set, .int sv, .int (nI l)] hp = some (some (.int (oI ((pa2 V set sv 0 (zM V) l).map (fsty V)))), hp) := by
  have hSv := I.S
  have hM := I.M
  have inner : ∀ d k m l x3 x7, k + d = zS V → l < 2 ^ 31 → (∃ a, pa1 (fun k => V 31 k = sv ∧ V 7 (ftpk V (fsty V k)) = nI m) k d l = .inl a ∧ xm_out 119 (33, [some (.ref o), some (.int set), some (.int sv), some (.int x3), some (.int (nI l)), some (.int (nI m)), some (.int (nI k)), x7], [], hp) = some (some (.int (nI (fsty V a))), hp)) ∨ (∃ l' x7', l' < 2 ^ 31 ∧ pa1 (fun k => V 31 k = sv ∧ V 7 (ftpk V (fsty V k)) = nI m) k d l = .inr l' ∧ xm_out 119 (33, [some (.ref o), some (.int set), some (.int sv), some (.int x3), some (.int (nI l)), some (.int (nI m)), some (.int (nI k)), x7], [], hp) = xm_out 119 (97, [some (.ref o), some (.int set), some (.int sv), some (.int x3), some (.int (nI l')), some (.int (nI m)), some (.int (nI (zS V))), x7'], [], hp)) := by
    intro d
    induction d with
    | zero =>
      intro k m l x3 x7 hk hl
      refine Or.inr ⟨l, x7, hl, rfl, ?_⟩
      simp only [s119_33, s119_35, s119_36, s119_39, s119_42, Option.bind_some, Option.toList_some, Option.toList_none, List.cons_append, List.nil_append, xm_kl_n, xm_kl_i, xm_kl_a, xm_kl_j, xl_0, xm_low1, xm_low2, xm_low3, xm_low4, xl_n0, xl_n1, xb_nar, xe_if0, xe_ifn, xm_ci1, xm_ca1, pf_0_5 P, pf_29_0 P, hSv.1]
      rw [if_pos (nI_le (by omega) (by omega)), show k = zS V by omega]
    | succ d ih =>
      intro k m l x3 x7 hk hl
      have ht := I.sty k (by omega)
      have e : xm_out 119 (33, [some (.ref o), some (.int set), some (.int sv), some (.int x3), some (.int (nI l)), some (.int (nI m)), some (.int (nI k)), x7], [], hp) = if ¬ V 31 k = sv then xm_out 119 (33, [some (.ref o), some (.int set), some (.int sv), some (.int x3), some (.int (nI l)), some (.int (nI m)), some (.int (nI (k + 1))), some (.int (nI (fsty V k)))], [], hp) else if ¬ V 7 (ftpk V (fsty V k)) = nI m then xm_out 119 (33, [some (.ref o), some (.int set), some (.int sv), some (.int x3), some (.int (nI l)), some (.int (nI m)), some (.int (nI (k + 1))), some (.int (nI (fsty V k)))], [], hp) else if ¬ nI l = 0 then xm_out 119 (33, [some (.ref o), some (.int set), some (.int sv), some (.int x3), some (.int (nI l + (-1))), some (.int (nI m)), some (.int (nI (k + 1))), some (.int (nI (fsty V k)))], [], hp) else some (some (.int (nI (fsty V k))), hp) := by
        conv => lhs; simp only [s119_33, s119_35, s119_36, s119_39, s119_42, s119_45, s119_46, s119_49, s119_51, s119_54, s119_56, s119_57, s119_60, s119_62, s119_65, s119_66, s119_69, s119_70, s119_72, s119_75, s119_77, s119_80, s119_82, s119_85, s119_87, s119_88, s119_91, Option.bind_some, Option.toList_some, Option.toList_none, List.cons_append, List.nil_append, xm_kl_n, xm_kl_i, xm_kl_a, xm_kl_j, xl_0, xm_low1, xm_low2, xm_low3, xm_low4, xl_n0, xl_n1, xb_nar, xe_if0, xe_ifn, xm_ci1, xm_ca1, pf_0_5 P, pf_29_0 P, hSv.1, pcl_0 P, pcl_29 P, c_Services_serviceAt P (show k < cap by omega) (show cap < 2 ^ 31 by omega), c_Services_typeAt P (show k < cap by omega) (show cap < 2 ^ 31 by omega), ht.1, c_ownerOfType P I ht.2, nI_add]
        rw [if_neg (nI_ge (by omega) (by omega))]
        simp only [s119_94]
      rw [e]
      by_cases h1 : V 31 k = sv
      · rw [if_neg (fun z => z h1)]
        by_cases h2 : V 7 (ftpk V (fsty V k)) = nI m
        · rw [if_neg (fun z => z h2)]
          cases l with
          | zero =>
            refine Or.inl ⟨k, pa1_0 ⟨h1, h2⟩, ?_⟩
            rw [if_neg (fun z => z rfl)]
          | succ l =>
            rw [if_pos (nI_ne0 (by omega) hl), nI_dec, pa1_s (c := fun k => V 31 k = sv ∧ V 7 (ftpk V (fsty V k)) = nI m) ⟨h1, h2⟩]
            exact ih (k + 1) m l x3 _ (by omega) (by omega)
        · rw [if_pos h2, pa1_f (c := fun k => V 31 k = sv ∧ V 7 (ftpk V (fsty V k)) = nI m) (fun z => h2 z.2)]
          exact ih (k + 1) m l x3 _ (by omega) hl
      · rw [if_pos h1, pa1_f (c := fun k => V 31 k = sv ∧ V 7 (ftpk V (fsty V k)) = nI m) (fun z => h1 z.1)]
        exact ih (k + 1) m l x3 _ (by omega) hl
  have outer : ∀ d m l x3 x6 x7, m + d = zM V → l < 2 ^ 31 → xm_out 119 (6, [some (.ref o), some (.int set), some (.int sv), some (.int x3), some (.int (nI l)), some (.int (nI m)), x6, x7], [], hp) = some (some (.int (oI ((pa2 V set sv m d l).map (fsty V)))), hp) := by
    intro d
    induction d with
    | zero =>
      intro m l x3 x6 x7 hk hl
      simp only [s119_6, s119_8, s119_9, s119_12, s119_15, s119_103, s119_104, Option.bind_some, Option.toList_some, Option.toList_none, List.cons_append, List.nil_append, xm_kl_n, xm_kl_i, xm_kl_a, xm_kl_j, xl_0, xm_low1, xm_low2, xm_low3, xm_low4, xl_n0, xl_n1, xb_nar, xe_if0, xe_ifn, xm_ci1, xm_ca1, pf_0_0 P, pf_1_0 P, hM.1]
      rw [if_pos (nI_le (by omega) (by omega))]
      rfl
    | succ d ih =>
      intro m l x3 x6 x7 hk hl
      simp only [s119_6, s119_8, s119_9, s119_12, s119_15, s119_18, s119_19, s119_21, s119_24, s119_27, s119_30, s119_31, s119_97, Option.bind_some, Option.toList_some, Option.toList_none, List.cons_append, List.nil_append, xm_kl_n, xm_kl_i, xm_kl_a, xm_kl_j, xl_0, xm_low1, xm_low2, xm_low3, xm_low4, xl_n0, xl_n1, xb_nar, xe_if0, xe_ifn, xm_ci1, xm_ca1, pf_0_0 P, pf_1_0 P, hM.1, c_hasBit, nI_add]
      rw [if_neg (nI_ge (by omega) (by omega))]
      by_cases h1 : set &&& (nI 1 <<< (nI m &&& 31)) = 0
      · rw [if_neg (fun z => z h1), show pa2 V set sv m (d + 1) l = pa2 V set sv (m + 1) d l from if_pos h1]
        simp only [s119_100]
        exact ih (m + 1) l x3 _ _ (by omega) hl
      · rw [if_pos h1]
        rcases inner (zS V) 0 m l x3 x7 (by omega) hl with ⟨a, e1, e2⟩ | ⟨l', x7', hl', e1, e2⟩
        · rw [e2, show pa2 V set sv m (d + 1) l = some a by unfold pa2; rw [if_neg h1, e1]]
          rfl
        · rw [e2, show pa2 V set sv m (d + 1) l = pa2 V set sv (m + 1) d l' by rw [pa2]; rw [if_neg h1, e1]]
          simp only [s119_97, s119_100, Option.bind_some, Option.toList_some, Option.toList_none, List.cons_append, List.nil_append, xm_kl_n, xm_kl_i, xm_kl_a, xm_kl_j, xl_0, xm_low1, xm_low2, xm_low3, xm_low4, xl_n0, xl_n1, xb_nar, xe_if0, xe_ifn, xm_ci1, xm_ca1, nI_add]
          exact ih (m + 1) l' x3 _ _ (by omega) hl'
  simp only [k119, s119_0, s119_1, s119_3, s119_4, Option.bind_some, Option.toList_some, Option.toList_none, List.cons_append, List.nil_append, xm_kl_n, xm_kl_i, xm_kl_a, xm_kl_j, xl_0, xm_low1, xm_low2, xm_low3, xm_low4, xl_n0, xl_n1, xb_nar, xe_if0, xe_ifn, xm_ci1, xm_ca1]
  exact outer (zM V) 0 l _ _ _ (by omega) hl
/-- what foundPack finds -/
noncomputable def xfp (V : pc_V) (h m : Nat) (nm : Int32) : Option Nat := match xfo (fun p => V 7 p = nI m ∧ V 8 p = nm) 0 (zP V) with
  | some p => some p
  | none => fpk V (xrd V m True &&& xkn (V 35) (flpr V) 4 (nI 0) (some h)) (nI m) nm 0 (zM V)
theorem CInv.lpr' (I : CInv V cap) : ∀ t, t < zL V → V 34 t = oI (flpr V t) ∧ ∀ s, flpr V t = some s → s < zL V := fun t ht => ⟨(I.lpr t ht).1, fun s h => Nat.lt_trans ((I.lpr t ht).2 s h) ht⟩
theorem c_foundPack (P : Pic o V J p1 p2 cap hp) (I : CInv V cap) {h m : Nat} (hh : h < zL V) (hm : m < zM V) (nm : Int32) : xm_call 142 [.ref o, .int (nI h), .int (nI m), .int nm] hp = some (some (.int (oI (xfp V h m nm))), hp) := by
  have hP := I.P
  have hM := I.M
  have hkn := c_Layers_knownTo P I.L.2 I.lpr' (some h) (fun t e => by cases e; exact hh)
  rw [oI_s] at hkn
  have loop : ∀ d k x4 rs x7, k + d = zM V → xm_out 142 (43, [some (.ref o), some (.int (nI h)), some (.int (nI m)), some (.int nm), some (.int x4), some (.int rs), some (.int (nI k)), x7], [], hp) = some (some (.int (oI (fpk V rs (nI m) nm k d))), hp) := by
    intro d
    induction d with
    | zero =>
      intro k x4 rs x7 hk
      simp only [s142_43, s142_45, s142_46, s142_49, s142_52, s142_105, s142_106, Option.bind_some, Option.toList_some, Option.toList_none, List.cons_append, List.nil_append, xm_kl_n, xm_kl_i, xm_kl_a, xm_kl_j, xl_0, xm_low1, xm_low2, xm_low3, xm_low4, xl_n0, xl_n1, xb_nar, xe_if0, xe_ifn, xm_ci1, xm_ca1, pf_0_0 P, pf_1_0 P, hM.1]
      rw [if_pos (nI_le (by omega) (by omega))]
      rfl
    | succ d ih =>
      intro k x4 rs x7 hk
      simp only [s142_43, s142_45, s142_46, s142_49, s142_52, s142_55, s142_57, s142_59, s142_62, s142_65, s142_66, s142_69, s142_71, s142_72, s142_75, s142_77, s142_79, s142_80, s142_99, Option.bind_some, Option.toList_some, Option.toList_none, List.cons_append, List.nil_append, xm_kl_n, xm_kl_i, xm_kl_a, xm_kl_j, xl_0, xm_low1, xm_low2, xm_low3, xm_low4, xl_n0, xl_n1, xb_nar, xe_if0, xe_ifn, xm_ci1, xm_ca1, pf_0_0 P, pf_0_1 P, pf_1_0 P, hM.1, pcl_6 P, c_hasBit, c_Packs_find P hP.1 hP.2, nI_add]
      rw [if_neg (nI_ge (by omega) (by omega))]
      by_cases h1 : rs &&& (nI 1 <<< (nI k &&& 31)) = 0
      · rw [if_neg (fun z => z h1), show fpk V rs (nI m) nm k (d + 1) = fpk V rs (nI m) nm (k + 1) d from if_pos h1]
        simp only [s142_102]
        exact ih (k + 1) _ _ _ (by omega)
      · rw [if_pos h1]
        cases hr : xfo (fun p => V 7 p = nI k ∧ V 8 p = nm) 0 (zP V) with
        | none =>
          rw [if_pos (show oI none = -1 from rfl), show fpk V rs (nI m) nm k (d + 1) = fpk V rs (nI m) nm (k + 1) d by rw [fpk, if_neg h1, hr]]
          simp only [s142_102]
          exact ih (k + 1) _ _ _ (by omega)
        | some p =>
          have hp' := xfo_lt hr
          rw [oI_s, if_neg (nI_m1 (by omega))]
          simp only [s142_83, s142_84, s142_87, s142_89, s142_90, s142_93, s142_96, s142_98, s142_99, Option.bind_some, Option.toList_some, Option.toList_none, List.cons_append, List.nil_append, xm_kl_n, xm_kl_i, xm_kl_a, xm_kl_j, xl_0, xm_low1, xm_low2, xm_low3, xm_low4, xl_n0, xl_n1, xb_nar, xe_if0, xe_ifn, xm_ci1, xm_ca1, pf_0_1 P, pcl_6 P, c_Packs_isExportedTo P (show p < 30 by omega), nI_add]
          by_cases h2 : V 9 p &&& (nI 4096 ||| xbit (nI m)) = 0
          · rw [if_neg (fun z => z h2), show fpk V rs (nI m) nm k (d + 1) = fpk V rs (nI m) nm (k + 1) d by rw [fpk, if_neg h1, hr]; exact if_pos h2]
            simp only [s142_102]
            exact ih (k + 1) _ _ _ (by omega)
          · rw [if_pos h2, show fpk V rs (nI m) nm k (d + 1) = some p by rw [fpk, if_neg h1, hr]; exact if_neg h2]
            rfl
  simp only [k142, s142_0, s142_1, s142_4, s142_5, s142_6, s142_9, s142_11, s142_13, s142_14, Option.bind_some, Option.toList_some, Option.toList_none, List.cons_append, List.nil_append, xm_kl_n, xm_kl_i, xm_kl_a, xm_kl_j, xl_0, xm_low1, xm_low2, xm_low3, xm_low4, xl_n0, xl_n1, xb_nar, xe_if0, xe_ifn, xm_ci1, xm_ca1, pf_0_1 P, pcl_6 P, c_Packs_find P hP.1 hP.2]
  unfold xfp
  cases hr : xfo (fun p => V 7 p = nI m ∧ V 8 p = nm) 0 (zP V) with
  | none =>
    rw [if_pos (show oI none = -1 from rfl)]
    simp only [s142_20, s142_21, s142_24, s142_25, s142_26, s142_29, s142_30, s142_33, s142_34, s142_37, s142_38, s142_40, s142_41, Option.bind_some, Option.toList_some, Option.toList_none, List.cons_append, List.nil_append, xm_kl_n, xm_kl_i, xm_kl_a, xm_kl_j, xl_0, xm_low1, xm_low2, xm_low3, xm_low4, xl_n0, xl_n1, xb_nar, xe_if0, xe_ifn, xm_ci1, xm_ca1, pf_0_0 P, pf_0_6 P, pcl_1 P, pcl_33 P, c_readBy1 P I hm, hkn]
    exact loop (zM V) 0 _ _ _ (by omega)
  | some p =>
    have hp' := xfo_lt hr
    rw [oI_s, if_neg (nI_m1 (by omega))]
    simp only [s142_17, s142_19, Option.bind_some, Option.toList_some, Option.toList_none, List.cons_append, List.nil_append, xm_kl_n, xm_kl_i, xm_kl_a, xm_kl_j, xl_0, xm_low1, xm_low2, xm_low3, xm_low4, xl_n0, xl_n1, xb_nar, xe_if0, xe_ifn, xm_ci1, xm_ca1]
end RULES
