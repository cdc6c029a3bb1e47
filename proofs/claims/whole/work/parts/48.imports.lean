/-! units and imports -/
/-- the type that a unit imports singly by this name -/
noncomputable def xsi (V : pc_V) (u : Nat) (nm : Int32) : Option Nat := (xfo (fun k => V 26 (u * 10 + k) = 0 ∧ V 13 (fiwh V u k) = nm) 0 (fusz V u)).map (fiwh V u)
/-- a unit imports all types of the package of type t -/
def xwi (V : pc_V) (u t : Nat) : Prop := xan (fun k => V 26 (u * 10 + k) = nI 1 ∧ V 27 (u * 10 + k) = V 8 (ftpk V t) ∧ V 28 (u * 10 + k) = nI 0) 0 (fusz V u) = true
/-- the only one of d numbers that has c; -5 if there are two -/
noncomputable def xon (c : Nat → Prop) : Nat → Nat → Option Nat → Int32
  | _, 0, f => oI f
  | k, d + 1, f => @ite _ (c k) (Classical.propDecidable _) (match f with
    | none => xon c (k + 1) d (some k)
    | some _ => -5) (xon c (k + 1) d f)
noncomputable def xbi (V : pc_V) (u k : Nat) (ik nm kd : Int32) : Option Nat :=
  @ite _ (V 26 (u * 10 + k) = ik ∧ (ik = nI 2 → V 28 (u * 10 + k) = nm)) (Classical.propDecidable _) (xum V u (fiwh V u k) nm kd) none
/-- the member that imports of a kind give -/
noncomputable def xim (g : Nat → Option Nat) (me : Prop) : Nat → Nat → Option Nat → Int32
  | _, 0, f => oI f
  | k, d + 1, f => match g k with
    | none => xim g me (k + 1) d f
    | some b => @ite _ (f = some b) (Classical.propDecidable _) (xim g me (k + 1) d f) (@ite _ me (Classical.propDecidable _) (nI b) (match f with
      | none => xim g me (k + 1) d (some b)
      | some _ => -5))
theorem xon_f {c : Nat → Prop} {k d : Nat} {f : Option Nat} (h : ¬ c k) : xon c k (d + 1) f = xon c (k + 1) d f := if_neg h
theorem xon_n {c : Nat → Prop} {k d : Nat} (h : c k) : xon c k (d + 1) none = xon c (k + 1) d (some k) := if_pos h
theorem xon_s {c : Nat → Prop} {k d s : Nat} (h : c k) : xon c k (d + 1) (some s) = -5 := if_pos h
theorem xim_0 {g : Nat → Option Nat} {me : Prop} {k d : Nat} {f : Option Nat} (h : g k = none) : xim g me k (d + 1) f = xim g me (k + 1) d f := by simp only [xim, h]
theorem xim_e {g : Nat → Option Nat} {me : Prop} {k d b : Nat} {f : Option Nat} (h : g k = some b) (hf : f = some b) : xim g me k (d + 1) f = xim g me (k + 1) d f := by
  simp only [xim, h]
  exact if_pos hf
theorem xim_m {g : Nat → Option Nat} {me : Prop} {k d b : Nat} {f : Option Nat} (h : g k = some b) (hf : ¬ f = some b) (hm : me) : xim g me k (d + 1) f = nI b := by
  simp only [xim, h]
  rw [if_neg hf, if_pos hm]
theorem xim_n {g : Nat → Option Nat} {me : Prop} {k d b : Nat} (h : g k = some b) (hm : ¬ me) : xim g me k (d + 1) none = xim g me (k + 1) d (some b) := by
  simp only [xim, h]
  rw [if_neg (by simp), if_neg hm]
theorem xim_s {g : Nat → Option Nat} {me : Prop} {k d b s : Nat} (h : g k = some b) (hf : ¬ some s = some b) (hm : ¬ me) : xim g me k (d + 1) (some s) = -5 := by
  simp only [xim, h]
  rw [if_neg hf, if_neg hm]
section IMPORTS
variable {o : Nat} {V : pc_V} {J : Nat → Int64} {p1 p2 cap : Nat} {hp : xm_H}
theorem c_hasUsableMember (P : Pic o V J p1 p2 cap hp) (I : CInv V cap) {u t : Nat} (hu : u < zU V) (ht : t < zT V) (nm : Int32) : xm_call 139 [.ref o, .int (nI u), .int (nI t), .int nm] hp = some (some (.int (xb (¬ xum V u t nm (nI 0) = none ∨ ¬ xum V u t nm (nI 1) = none))), hp) := by
  have hB2 := I.B.2
  have hs : ∀ kd b, xum V u t nm kd = some b → b < 2 ^ 31 := fun kd b h => by have := xum_lt h; omega
  have one : ∀ k, xm_out 139 (3, [some (.ref o), some (.int (nI u)), some (.int (nI t)), some (.int nm), some (.int (nI k))], [], hp) = if nI 2 ≤ nI k then some (some (.int (nI 0)), hp) else if xum V u t nm (nI k) = none then xm_out 139 (27, [some (.ref o), some (.int (nI u)), some (.int (nI t)), some (.int nm), some (.int (nI (k + 1)))], [], hp) else some (some (.int (nI 1)), hp) := by
    intro k
    simp only [s139_3, s139_5, s139_6, s139_9, s139_10, s139_11, s139_12, s139_13, s139_15, s139_18, s139_19, s139_22, s139_23, s139_24, s139_30, s139_31, Option.bind_some, Option.toList_some, Option.toList_none, List.cons_append, List.nil_append, xm_kl_n, xm_kl_i, xm_kl_a, xm_kl_j, xl_0, xm_low1, xm_low2, xm_low3, xm_low4, xl_n0, xl_n1, xb_nar, xe_if0, xe_ifn, xm_ci1, xm_ca1, pcl_0 P, c_usableMember P I hu ht, nI_add, oI_m1 (hs _)]
  simp only [k139, s139_0, s139_1, Option.bind_some, Option.toList_some, Option.toList_none, List.cons_append, List.nil_append, xm_kl_n, xm_kl_i, xm_kl_a, xm_kl_j, xl_0, xm_low1, xm_low2, xm_low3, xm_low4, xl_n0, xl_n1, xb_nar, xe_if0, xe_ifn, xm_ci1, xm_ca1]
  rw [one 0, if_neg (by decide)]
  by_cases h0 : xum V u t nm (nI 0) = none
  · rw [if_pos h0]
    simp only [s139_27]
    rw [one 1, if_neg (by decide)]
    by_cases h1 : xum V u t nm (nI 1) = none
    · rw [if_pos h1]
      simp only [s139_27]
      rw [one 2, if_pos (by decide), xb_f (fun z => z.elim (fun w => w h0) (fun w => w h1))]
    · rw [if_neg h1, xb_t (Or.inr h1)]
  · rw [if_neg h0, xb_t (Or.inl h0)]
theorem c_singlyImportedType (P : Pic o V J p1 p2 cap hp) (I : CInv V cap) {u : Nat} (hu : u < zU V) (nm : Int32) : xm_call 87 [.ref o, .int (nI u), .int nm] hp = some (some (.int (oI (xsi V u nm))), hp) := by
  have hU := I.U.2
  have hS := I.usz u hu
  have hT := I.T.2
  have loop : ∀ d k x4, k + d = fusz V u → xm_out 87 (2, [some (.ref o), some (.int (nI u)), some (.int nm), some (.int (nI k)), x4], [], hp) = some (some (.int (oI ((xfo (fun k => V 26 (u * 10 + k) = 0 ∧ V 13 (fiwh V u k) = nm) k d).map (fiwh V u)))), hp) := by
    intro d
    induction d with
    | zero =>
      intro k x4 hk
      simp only [s87_2, s87_3, s87_4, s87_7, s87_8, s87_11, s87_59, s87_60, Option.bind_some, Option.toList_some, Option.toList_none, List.cons_append, List.nil_append, xm_kl_n, xm_kl_i, xm_kl_a, xm_kl_j, xl_0, xm_low1, xm_low2, xm_low3, xm_low4, xl_n0, xl_n1, xb_nar, xe_if0, xe_ifn, xm_ci1, xm_ca1, pf_0_4 P, pcl_23 P, c_Units_importsOf P (show u < 12 by omega), hS.1]
      rw [if_pos (nI_le (by omega) (by omega))]
      rfl
    | succ d ih =>
      intro k x4 hk
      have hw := I.iwh u k hu (by omega)
      simp only [s87_2, s87_3, s87_4, s87_7, s87_8, s87_11, s87_14, s87_15, s87_18, s87_19, s87_20, s87_23, Option.bind_some, Option.toList_some, Option.toList_none, List.cons_append, List.nil_append, xm_kl_n, xm_kl_i, xm_kl_a, xm_kl_j, xl_0, xm_low1, xm_low2, xm_low3, xm_low4, xl_n0, xl_n1, xb_nar, xe_if0, xe_ifn, xm_ci1, xm_ca1, pf_0_4 P, pcl_23 P, c_Units_importsOf P (show u < 12 by omega), hS.1, c_Units_kindAt P (show u < 12 by omega) (show k < 10 by omega)]
      rw [if_neg (nI_ge (by omega) (by omega))]
      by_cases h1 : V 26 (u * 10 + k) = 0
      · rw [if_neg (fun z => z h1)]
        have hlt := hw.2 (by rw [h1]; decide)
        simp only [s87_26, s87_27, s87_30, s87_31, s87_32, s87_35, s87_37, s87_38, s87_41, s87_43, s87_46, s87_47, s87_50, s87_52, s87_53, Option.bind_some, Option.toList_some, Option.toList_none, List.cons_append, List.nil_append, xm_kl_n, xm_kl_i, xm_kl_a, xm_kl_j, xl_0, xm_low1, xm_low2, xm_low3, xm_low4, xl_n0, xl_n1, xb_nar, xe_if0, xe_ifn, xm_ci1, xm_ca1, pf_0_4 P, pf_0_2 P, pcl_11 P, pcl_23 P, c_Units_whatAt P (show u < 12 by omega) (show k < 10 by omega), hw.1, c_Types_nameOf P (show fiwh V u k < 40 by omega), nI_add]
        by_cases h2 : V 13 (fiwh V u k) = nm
        · rw [if_neg (fun z => z h2), xfo_t ⟨h1, h2⟩]
          rfl
        · rw [if_pos h2, xfo_f (fun z => h2 z.2)]
          simp only [s87_56]
          exact ih (k + 1) _ (by omega)
      · rw [if_pos h1, xfo_f (fun z => h1 z.1)]
        simp only [s87_53, s87_56, Option.bind_some, Option.toList_some, Option.toList_none, List.cons_append, List.nil_append, xm_kl_n, xm_kl_i, xm_kl_a, xm_kl_j, xl_0, xm_low1, xm_low2, xm_low3, xm_low4, xl_n0, xl_n1, xb_nar, xe_if0, xe_ifn, xm_ci1, xm_ca1, nI_add]
        exact ih (k + 1) _ (by omega)
  simp only [k87, s87_0, s87_1, Option.bind_some, Option.toList_some, Option.toList_none, List.cons_append, List.nil_append, xm_kl_n, xm_kl_i, xm_kl_a, xm_kl_j, xl_0, xm_low1, xm_low2, xm_low3, xm_low4, xl_n0, xl_n1, xb_nar, xe_if0, xe_ifn, xm_ci1, xm_ca1]
  exact loop (fusz V u) 0 _ (by omega)
theorem xsi_lt (I : CInv V cap) {u : Nat} (hu : u < zU V) {nm : Int32} {t : Nat} (h : xsi V u nm = some t) : t < zT V := by
  unfold xsi at h
  cases hx : xfo (fun k => V 26 (u * 10 + k) = 0 ∧ V 13 (fiwh V u k) = nm) 0 (fusz V u) with
  | none => rw [hx] at h; cases h
  | some k =>
    rw [hx] at h
    cases h
    have h2 := (xfo_some _ _ _ _).mp hx
    exact (I.iwh u k hu (by omega)).2 (by rw [h2.2.2.1.1]; decide)
theorem c_importsRival (P : Pic o V J p1 p2 cap hp) (I : CInv V cap) {u t : Nat} (hu : u < zU V) (ht : t < zT V) : xm_call 115 [.ref o, .int (nI u), .int (nI t)] hp = some (some (.int (xb (¬ xsi V u (V 13 t) = none ∧ ¬ xsi V u (V 13 t) = some t))), hp) := by
  have hT := I.T.2
  have hs : ∀ s, xsi V u (V 13 t) = some s → s < 2 ^ 31 := fun s h => by have := xsi_lt I hu h; omega
  simp only [k115, s115_0, s115_1, s115_2, s115_3, s115_6, s115_7, s115_10, s115_13, s115_14, s115_15, s115_16, s115_19, s115_20, s115_21, s115_24, s115_25, s115_28, s115_29, Option.bind_some, Option.toList_some, Option.toList_none, List.cons_append, List.nil_append, xm_kl_n, xm_kl_i, xm_kl_a, xm_kl_j, xl_0, xm_low1, xm_low2, xm_low3, xm_low4, xl_n0, xl_n1, xb_nar, xe_if0, xe_ifn, xm_ci1, xm_ca1, pf_0_2 P, pcl_0 P, pcl_11 P, c_Types_nameOf P (show t < 40 by omega), c_singlyImportedType P I hu, oI_m1 hs, oI_ne (show t < 2 ^ 31 by omega) hs]
  by_cases h1 : xsi V u (V 13 t) = none
  · rw [if_pos h1, xb_f (fun z => z.1 h1)]
  · rw [if_neg h1]
    by_cases h2 : xsi V u (V 13 t) = some t
    · rw [if_pos h2, xb_f (fun z => z.2 h2)]
    · rw [if_neg h2, xb_t ⟨h1, h2⟩]
theorem c_isWidelyImported (P : Pic o V J p1 p2 cap hp) (I : CInv V cap) {u t : Nat} (hu : u < zU V) (ht : t < zT V) : xm_call 117 [.ref o, .int (nI u), .int (nI t)] hp = some (some (.int (xb (xwi V u t))), hp) := by
  have hT := I.T.2
  have hU := I.U.2
  have hP := I.P.2
  have hk := I.tpk t ht
  have hS := I.usz u hu
  simp only [k117, s117_0, s117_1, s117_4, s117_5, s117_6, s117_7, s117_10, s117_11, s117_14, s117_15, s117_18, s117_21, s117_22, s117_25, Option.bind_some, Option.toList_some, Option.toList_none, List.cons_append, List.nil_append, xm_kl_n, xm_kl_i, xm_kl_a, xm_kl_j, xl_0, xm_low1, xm_low2, xm_low3, xm_low4, xl_n0, xl_n1, xb_nar, xe_if0, xe_ifn, xm_ci1, xm_ca1, pf_0_1 P, pf_0_2 P, pf_0_4 P, pcl_6 P, pcl_11 P, pcl_23 P, c_Types_packOf P (show t < 40 by omega), hk.1, c_Packs_nameOf P (show ftpk V t < 30 by omega), c_Units_hasImport P (show u < 12 by omega) hS.1 hS.2]
  rfl
theorem c_widelyImportedType (P : Pic o V J p1 p2 cap hp) (I : CInv V cap) {u : Nat} (hu : u < zU V) (nm : Int32) : xm_call 173 [.ref o, .int (nI u), .int nm] hp = some (some (.int (xon (fun t => V 13 t = nm ∧ xwi V u t ∧ xts V (fown V (fupk V u)) t) 0 (zT V) none)), hp) := by
  have hT1 := I.T.1
  have hT := I.T.2
  have hu2 := I.upk u hu
  have ho := I.own _ hu2.2
  have loop : ∀ d k f, k + d = zT V → (∀ t, f = some t → t < 2 ^ 31) → xm_out 173 (12, [some (.ref o), some (.int (nI u)), some (.int nm), some (.int (nI (fown V (fupk V u)))), some (.int (oI f)), some (.int (nI k))], [], hp) = some (some (.int (xon (fun t => V 13 t = nm ∧ xwi V u t ∧ xts V (fown V (fupk V u)) t) k d f)), hp) := by
    intro d
    induction d with
    | zero =>
      intro k f hk hf
      simp only [s173_12, s173_14, s173_15, s173_18, s173_21, s173_76, s173_78, Option.bind_some, Option.toList_some, Option.toList_none, List.cons_append, List.nil_append, xm_kl_n, xm_kl_i, xm_kl_a, xm_kl_j, xl_0, xm_low1, xm_low2, xm_low3, xm_low4, xl_n0, xl_n1, xb_nar, xe_if0, xe_ifn, xm_ci1, xm_ca1, pf_0_2 P, pf_11_0 P, hT1]
      rw [if_pos (nI_le (by omega) (by omega))]
      rfl
    | succ d ih =>
      intro k f hk hf
      simp only [s173_12, s173_14, s173_15, s173_18, s173_21, s173_24, s173_25, s173_28, s173_30, s173_33, s173_34, s173_37, s173_38, s173_39, s173_41, s173_44, s173_47, s173_48, s173_49, s173_51, s173_54, s173_57, s173_59, s173_60, s173_63, s173_65, s173_66, s173_68, s173_70, Option.bind_some, Option.toList_some, Option.toList_none, List.cons_append, List.nil_append, xm_kl_n, xm_kl_i, xm_kl_a, xm_kl_j, xl_0, xm_low1, xm_low2, xm_low3, xm_low4, xl_n0, xl_n1, xb_nar, xe_if0, xe_ifn, xm_ci1, xm_ca1, pf_0_2 P, pf_11_0 P, hT1, pcl_0 P, pcl_11 P, c_Types_nameOf P (show k < 40 by omega), c_isWidelyImported P I hu (show k < zT V by omega), c_isTypeSeen P I ho.2 (show k < zT V by omega), nI_add, oI_m1 hf]
      rw [if_neg (nI_ge (by omega) (by omega))]
      simp only [s173_73]
      by_cases h1 : V 13 k = nm ∧ xwi V u k ∧ xts V (fown V (fupk V u)) k
      · rw [if_neg (fun z => z h1.1), if_pos h1.2.1, if_pos h1.2.2]
        cases f with
        | none =>
          rw [if_pos rfl, xon_n h1]
          exact ih (k + 1) (some k) (by omega) (fun t h => by cases h; omega)
        | some s => rw [if_neg (by simp), xon_s h1]
      · rw [xon_f h1]
        have ih' := ih (k + 1) f (by omega) hf
        by_cases h2 : V 13 k = nm
        · rw [if_neg (fun z => z h2)]
          by_cases h3 : xwi V u k
          · rw [if_pos h3, if_neg (fun z => h1 ⟨h2, h3, z⟩)]
            exact ih'
          · rw [if_neg h3]
            exact ih'
        · rw [if_pos h2]
          exact ih'
  simp only [k173, s173_0, s173_1, s173_2, s173_5, s173_6, s173_7, s173_9, s173_10, Option.bind_some, Option.toList_some, Option.toList_none, List.cons_append, List.nil_append, xm_kl_n, xm_kl_i, xm_kl_a, xm_kl_j, xl_0, xm_low1, xm_low2, xm_low3, xm_low4, xl_n0, xl_n1, xb_nar, xe_if0, xe_ifn, xm_ci1, xm_ca1, pcl_0 P, c_ownerOfUnit P I hu, ho.1]
  exact loop (zT V) 0 none (by omega) (fun t h => by cases h)
theorem c_memberByImport (P : Pic o V J p1 p2 cap hp) (I : CInv V cap) {u k : Nat} (hu : u < zU V) (hk : k < fusz V u) (ik nm kd : Int32) (hik : ¬ ik = nI 1) : xm_call 140 [.ref o, .int (nI u), .int (nI k), .int ik, .int nm, .int kd] hp = some (some (.int (oI (xbi V u k ik nm kd))), hp) := by
  have hU := I.U.2
  have hS := I.usz u hu
  have hw := I.iwh u k hu hk
  simp only [k140, s140_0, s140_1, s140_4, s140_5, s140_6, s140_9, s140_10, s140_13, s140_14, s140_15, s140_16, s140_17, s140_20, s140_21, s140_24, s140_25, s140_26, s140_29, s140_31, s140_34, s140_35, Option.bind_some, Option.toList_some, Option.toList_none, List.cons_append, List.nil_append, xm_kl_n, xm_kl_i, xm_kl_a, xm_kl_j, xl_0, xm_low1, xm_low2, xm_low3, xm_low4, xl_n0, xl_n1, xb_nar, xe_if0, xe_ifn, xm_ci1, xm_ca1, pf_0_4 P, pcl_23 P, c_Units_kindAt P (show u < 12 by omega) (show k < 10 by omega), c_Units_nameAt P (show u < 12 by omega) (show k < 10 by omega)]
  unfold xbi
  by_cases h1 : V 26 (u * 10 + k) = ik
  · rw [if_pos h1]
    have hlt := hw.2 (by rw [h1]; exact hik)
    simp only [s140_36, s140_37, s140_38, s140_39, s140_42, s140_43, s140_44, s140_47, s140_49, s140_51, s140_54, Option.bind_some, Option.toList_some, Option.toList_none, List.cons_append, List.nil_append, xm_kl_n, xm_kl_i, xm_kl_a, xm_kl_j, xl_0, xm_low1, xm_low2, xm_low3, xm_low4, xl_n0, xl_n1, xb_nar, xe_if0, xe_ifn, xm_ci1, xm_ca1, pf_0_4 P, pcl_0 P, pcl_23 P, c_Units_whatAt P (show u < 12 by omega) (show k < 10 by omega), hw.1, c_usableMember P I hu hlt]
    by_cases h2 : ik = nI 2
    · rw [if_neg (fun z => z h2)]
      by_cases h3 : V 28 (u * 10 + k) = nm
      · rw [if_pos h3, if_pos ⟨h1, fun _ => h3⟩]
      · rw [if_neg h3, if_neg (fun z => h3 (z.2 h2))]
        rfl
    · rw [if_pos h2, if_pos ⟨h1, fun z => absurd z h2⟩]
  · rw [if_neg h1, if_neg (fun z => h1 z.1)]
    rfl
theorem xbi_lt {u k b : Nat} {ik nm kd : Int32} (h : xbi V u k ik nm kd = some b) : b < zB V := by
  unfold xbi at h
  by_cases hc : V 26 (u * 10 + k) = ik ∧ (ik = nI 2 → V 28 (u * 10 + k) = nm)
  · rw [if_pos hc] at h; exact xum_lt h
  · rw [if_neg hc] at h; cases h
theorem c_importedMember (P : Pic o V J p1 p2 cap hp) (I : CInv V cap) {u : Nat} (hu : u < zU V) (ik nm kd : Int32) (hik : ¬ ik = nI 1) : xm_call 162 [.ref o, .int (nI u), .int ik, .int nm, .int kd] hp = some (some (.int (xim (fun k => xbi V u k ik nm kd) (kd = nI 1) 0 (fusz V u) none)), hp) := by
  have hU := I.U.2
  have hS := I.usz u hu
  have hB := I.B.2
  have loop : ∀ d k f x7, k + d = fusz V u → (∀ t, f = some t → t < 2 ^ 31) → xm_out 162 (6, [some (.ref o), some (.int (nI u)), some (.int ik), some (.int nm), some (.int kd), some (.int (oI f)), some (.int (nI k)), x7], [], hp) = some (some (.int (xim (fun k => xbi V u k ik nm kd) (kd = nI 1) k d f)), hp) := by
    intro d
    induction d with
    | zero =>
      intro k f x7 hk hf
      simp only [s162_6, s162_8, s162_9, s162_12, s162_13, s162_16, s162_73, s162_75, Option.bind_some, Option.toList_some, Option.toList_none, List.cons_append, List.nil_append, xm_kl_n, xm_kl_i, xm_kl_a, xm_kl_j, xl_0, xm_low1, xm_low2, xm_low3, xm_low4, xl_n0, xl_n1, xb_nar, xe_if0, xe_ifn, xm_ci1, xm_ca1, pf_0_4 P, pcl_23 P, c_Units_importsOf P (show u < 12 by omega), hS.1]
      rw [if_pos (nI_le (by omega) (by omega))]
      rfl
    | succ d ih =>
      intro k f x7 hk hf
      simp only [s162_6, s162_8, s162_9, s162_12, s162_13, s162_16, s162_19, s162_20, s162_21, s162_23, s162_24, s162_25, s162_27, s162_30, s162_32, s162_34, s162_35, Option.bind_some, Option.toList_some, Option.toList_none, List.cons_append, List.nil_append, xm_kl_n, xm_kl_i, xm_kl_a, xm_kl_j, xl_0, xm_low1, xm_low2, xm_low3, xm_low4, xl_n0, xl_n1, xb_nar, xe_if0, xe_ifn, xm_ci1, xm_ca1, pf_0_4 P, pcl_0 P, pcl_23 P, c_Units_importsOf P (show u < 12 by omega), hS.1, c_memberByImport P I hu (show k < fusz V u by omega) ik nm kd hik]
      rw [if_neg (nI_ge (by omega) (by omega))]
      cases hr : xbi V u k ik nm kd with
      | none =>
        rw [if_pos (show oI none = -1 from rfl)]
        simp only [s162_67, s162_70, Option.bind_some, Option.toList_some, Option.toList_none, List.cons_append, List.nil_append, xm_kl_n, xm_kl_i, xm_kl_a, xm_kl_j, xl_0, xm_low1, xm_low2, xm_low3, xm_low4, xl_n0, xl_n1, xb_nar, xe_if0, xe_ifn, xm_ci1, xm_ca1, nI_add]
        rw [xim_0 hr]
        exact ih (k + 1) f _ (by omega) hf
      | some b =>
        have hb := xbi_lt hr
        rw [oI_s, if_neg (nI_m1 (by omega))]
        simp only [s162_38, s162_40, s162_42, s162_45, s162_47, s162_48, s162_51, s162_53, s162_54, s162_56, s162_57, s162_60, s162_62, s162_63, s162_65, s162_67, Option.bind_some, Option.toList_some, Option.toList_none, List.cons_append, List.nil_append, xm_kl_n, xm_kl_i, xm_kl_a, xm_kl_j, xl_0, xm_low1, xm_low2, xm_low3, xm_low4, xl_n0, xl_n1, xb_nar, xe_if0, xe_ifn, xm_ci1, xm_ca1, nI_add, oI_m1 hf]
        have e : (nI b = oI f) = (f = some b) := propext ⟨fun q => (oI_ne (show b < 2 ^ 31 by omega) hf).mp q.symm, fun q => ((oI_ne (show b < 2 ^ 31 by omega) hf).mpr q).symm⟩
        simp only [e]
        simp only [s162_70]
        by_cases h1 : f = some b
        · rw [if_pos h1, xim_e hr h1]
          exact ih (k + 1) f _ (by omega) hf
        · rw [if_neg h1]
          by_cases h2 : kd = nI 1
          · rw [if_neg (fun z => z h2), xim_m hr h1 h2]
          · rw [if_pos h2]
            cases f with
            | none =>
              rw [if_pos rfl, xim_n hr h2]
              exact ih (k + 1) (some b) _ (by omega) (fun t h => by cases h; omega)
            | some s => rw [if_neg (by simp), xim_s hr h1 h2]
  simp only [k162, s162_0, s162_1, s162_3, s162_4, Option.bind_some, Option.toList_some, Option.toList_none, List.cons_append, List.nil_append, xm_kl_n, xm_kl_i, xm_kl_a, xm_kl_j, xl_0, xm_low1, xm_low2, xm_low3, xm_low4, xl_n0, xl_n1, xb_nar, xe_if0, xe_ifn, xm_ci1, xm_ca1]
  exact loop (fusz V u) 0 none _ (by omega) (fun t h => by cases h)
theorem c_isImport (P : Pic o V J p1 p2 cap hp) (kd w nm : Int32) : xm_call 114 [.ref o, .int kd, .int w, .int nm] hp = some (some (.int (xb ((0 ≤ kd ∧ kd < nI 4) ∧ ((kd = nI 1 ∧ (0 ≤ w ∧ w < nI 31)) ∨ (¬ kd = nI 1 ∧ (0 ≤ w ∧ w < V 11 0))) ∧ ((kd = nI 2 ∧ (0 ≤ nm ∧ nm < nI 31)) ∨ (¬ kd = nI 2 ∧ nm = 0))))), hp) := by
  simp only [k114, s114_0, s114_1, s114_2, s114_5, s114_8, s114_9, s114_10, s114_11, s114_12, s114_15, s114_16, s114_19, s114_22, s114_23, s114_26, s114_27, s114_30, s114_32, s114_34, s114_37, s114_38, s114_39, s114_42, s114_43, s114_46, s114_49, s114_52, s114_53, s114_56, s114_57, s114_60, s114_61, Option.bind_some, Option.toList_some, Option.toList_none, List.cons_append, List.nil_append, xm_kl_n, xm_kl_i, xm_kl_a, xm_kl_j, xl_0, xm_low1, xm_low2, xm_low3, xm_low4, xl_n0, xl_n1, xb_nar, xe_if0, xe_ifn, xm_ci1, xm_ca1, c_within, c_isName, pf_0_2 P, pcl_11 P, c_Types_holds P]
  by_cases h0 : 0 ≤ kd ∧ kd < nI 4
  · rw [if_pos h0]
    by_cases h1 : kd = nI 1
    · rw [if_neg (fun z => z h1)]
      have h2 : ¬ kd = nI 2 := by rw [h1]; decide
      by_cases h3 : 0 ≤ w ∧ w < nI 31
      · rw [if_pos h3, if_pos h2]
        by_cases h4 : nm = 0
        · rw [if_neg (fun z => z h4), xb_t ⟨h0, Or.inl ⟨h1, h3⟩, Or.inr ⟨h2, h4⟩⟩]
        · rw [if_pos h4, xb_f (fun z => z.2.2.elim (fun q => h2 q.1) (fun q => h4 q.2))]
      · rw [if_neg h3, xb_f (fun z => z.2.1.elim (fun q => h3 q.2) (fun q => q.1 h1))]
    · rw [if_pos h1]
      by_cases h3 : 0 ≤ w ∧ w < V 11 0
      · rw [if_pos h3]
        by_cases h2 : kd = nI 2
        · rw [if_neg (fun z => z h2)]
          by_cases h4 : 0 ≤ nm ∧ nm < nI 31
          · rw [if_pos h4, xb_t ⟨h0, Or.inr ⟨h1, h3⟩, Or.inl ⟨h2, h4⟩⟩]
          · rw [if_neg h4, xb_f (fun z => z.2.2.elim (fun q => h4 q.2) (fun q => q.1 h2))]
        · rw [if_pos h2]
          by_cases h4 : nm = 0
          · rw [if_neg (fun z => z h4), xb_t ⟨h0, Or.inr ⟨h1, h3⟩, Or.inr ⟨h2, h4⟩⟩]
          · rw [if_pos h4, xb_f (fun z => z.2.2.elim (fun q => h2 q.1) (fun q => h4 q.2))]
      · rw [if_neg h3, xb_f (fun z => z.2.1.elim (fun q => h1 q.1) (fun q => h3 q.2))]
  · rw [if_neg h0, xb_f (fun z => h0 z.1)]
end IMPORTS
