/-! the reference's half of the picture; all else stands as Ou has it -/
def Pm (o : Nat) (Ou : Nat → Option xm_E) (V : pc_V) (hp : xm_H) : Prop := (∀ k, 36 ≤ k → k < 64 → hp.1 (o + k) = some (pc_e o (fun _ => 0) 0 0 k (V k))) ∧ (∀ a, a < o + 36 ∨ o + 64 ≤ a → hp.1 a = Ou a)
section PM
variable {o : Nat} {V : pc_V} {Ou : Nat → Option xm_E} {hp : xm_H}
theorem Pm.w (P : Pm o Ou V hp) (c : Nat) (h36 : 36 ≤ c) (hc : c < 64) (f : Nat → Int32) : Pm o Ou (pv_row V c f) (pw o (fun _ => 0) 0 0 hp c f) := by
  obtain ⟨g1, g2⟩ := P
  refine ⟨fun k k36 hk => ?_, fun a ha => ?_⟩
  · by_cases hkc : k = c
    · subst hkc
      rw [pv_same]
      exact xm_set_self _ _ _
    · rw [pv_ne V f hkc]
      exact (xm_set_ne (by omega)).trans (g1 k k36 hk)
  · exact (xm_set_ne (by omega)).trans (g2 a ha)
theorem pc_e36 (o : Nat) (J : Nat → Int64) (p1 p2 k : Nat) (h36 : 36 ≤ k) (f : Nat → Int32) : pc_e o J p1 p2 k f = pc_e o (fun _ => 0) 0 0 k f := by
  unfold pc_e
  split <;> first | rfl | (exfalso; revert h36; decide)
theorem Pic.m {J : Nat → Int64} {p1 p2 cap : Nat} {W : pc_V} (P : Pic o V J p1 p2 cap hp) (h : ∀ k, 36 ≤ k → W k = V k) : Pm o hp.1 W hp := ⟨fun k h36 hk => by rw [P.1 k hk (by omega) (by omega), pc_e36 o J p1 p2 k h36, h k h36], fun _ _ => rfl⟩
theorem Pm.pic {J : Nat → Int64} {p1 p2 cap : Nat} {W U : pc_V} {hp1 : xm_H} (P1 : Pic o V J p1 p2 cap hp1) (P : Pm o hp1.1 W hp) (hs : hp.2 = hp1.2) (h1 : ∀ k, k < 36 → U k = V k) (h2 : ∀ k, 36 ≤ k → U k = W k) : Pic o U J p1 p2 cap hp := by
  obtain ⟨g1, g2, g3, g4, g5, g6, g7⟩ := P1
  refine ⟨fun k hk k1 k2 => ?_, ?_, ?_, g4, by rw [hs]; exact g5, g6, g7⟩
  · by_cases h36 : k < 36
    · rw [h1 k h36, P.2 (o + k) (by omega)]; exact g1 k hk k1 k2
    · rw [h2 k (by omega), P.1 k (by omega) hk, pc_e36 o J p1 p2 k (by omega)]
  · rw [h1 31 (by decide), P.2 p1 (by omega)]; exact g2
  · rw [h1 32 (by decide), P.2 p2 (by omega)]; exact g3
theorem mcl_36 (P : Pm o Ou V hp) : xm_cls hp (o + 36) = some 8 := by unfold xm_cls; rw [(P.1 36 (by decide) (by decide))]; rfl
theorem mf_36_0 (P : Pm o Ou V hp) : xm_fld hp (o + 36) 8 0 = some (.int (V 36 0)) := by unfold xm_fld; rw [(P.1 36 (by decide) (by decide))]; rfl
theorem mwf_36_0 (P : Pm o Ou V hp) (x : Int32) : xm_pf hp (o + 36) 8 0 .int (.int x) = some (pw o (fun _ => 0) 0 0 hp 36 (upd (V 36) 0 x)) := by unfold xm_pf; rw [(P.1 36 (by decide) (by decide))]; exact if_pos ⟨rfl, Nat.le_of_ble_eq_true rfl, rfl, rfl⟩
theorem mf_36_1 (P : Pm o Ou V hp) : xm_fld hp (o + 36) 8 1 = some (.ref (o + 37)) := by unfold xm_fld; rw [(P.1 36 (by decide) (by decide))]; rfl
theorem mf_36_2 (P : Pm o Ou V hp) : xm_fld hp (o + 36) 8 2 = some (.int (V 36 2)) := by unfold xm_fld; rw [(P.1 36 (by decide) (by decide))]; rfl
theorem mwf_36_2 (P : Pm o Ou V hp) (x : Int32) : xm_pf hp (o + 36) 8 2 .int (.int x) = some (pw o (fun _ => 0) 0 0 hp 36 (upd (V 36) 2 x)) := by unfold xm_pf; rw [(P.1 36 (by decide) (by decide))]; exact if_pos ⟨rfl, Nat.le_of_ble_eq_true rfl, rfl, rfl⟩
theorem mf_36_3 (P : Pm o Ou V hp) : xm_fld hp (o + 36) 8 3 = some (.ref (o + 38)) := by unfold xm_fld; rw [(P.1 36 (by decide) (by decide))]; rfl
theorem mf_36_4 (P : Pm o Ou V hp) : xm_fld hp (o + 36) 8 4 = some (.ref (o + 39)) := by unfold xm_fld; rw [(P.1 36 (by decide) (by decide))]; rfl
theorem mf_36_5 (P : Pm o Ou V hp) : xm_fld hp (o + 36) 8 5 = some (.ref (o + 40)) := by unfold xm_fld; rw [(P.1 36 (by decide) (by decide))]; rfl
theorem mf_36_6 (P : Pm o Ou V hp) : xm_fld hp (o + 36) 8 6 = some (.ref (o + 41)) := by unfold xm_fld; rw [(P.1 36 (by decide) (by decide))]; rfl
theorem mf_36_7 (P : Pm o Ou V hp) : xm_fld hp (o + 36) 8 7 = some (.int (V 36 7)) := by unfold xm_fld; rw [(P.1 36 (by decide) (by decide))]; rfl
theorem mwf_36_7 (P : Pm o Ou V hp) (x : Int32) : xm_pf hp (o + 36) 8 7 .int (.int x) = some (pw o (fun _ => 0) 0 0 hp 36 (upd (V 36) 7 x)) := by unfold xm_pf; rw [(P.1 36 (by decide) (by decide))]; exact if_pos ⟨rfl, Nat.le_of_ble_eq_true rfl, rfl, rfl⟩
theorem mf_36_8 (P : Pm o Ou V hp) : xm_fld hp (o + 36) 8 8 = some (.ref (o + 42)) := by unfold xm_fld; rw [(P.1 36 (by decide) (by decide))]; rfl
theorem mf_36_9 (P : Pm o Ou V hp) : xm_fld hp (o + 36) 8 9 = some (.ref (o + 43)) := by unfold xm_fld; rw [(P.1 36 (by decide) (by decide))]; rfl
theorem mf_36_10 (P : Pm o Ou V hp) : xm_fld hp (o + 36) 8 10 = some (.ref (o + 44)) := by unfold xm_fld; rw [(P.1 36 (by decide) (by decide))]; rfl
theorem mf_36_11 (P : Pm o Ou V hp) : xm_fld hp (o + 36) 8 11 = some (.ref (o + 45)) := by unfold xm_fld; rw [(P.1 36 (by decide) (by decide))]; rfl
theorem mf_36_12 (P : Pm o Ou V hp) : xm_fld hp (o + 36) 8 12 = some (.ref (o + 46)) := by unfold xm_fld; rw [(P.1 36 (by decide) (by decide))]; rfl
theorem mf_36_13 (P : Pm o Ou V hp) : xm_fld hp (o + 36) 8 13 = some (.int (V 36 13)) := by unfold xm_fld; rw [(P.1 36 (by decide) (by decide))]; rfl
theorem mwf_36_13 (P : Pm o Ou V hp) (x : Int32) : xm_pf hp (o + 36) 8 13 .int (.int x) = some (pw o (fun _ => 0) 0 0 hp 36 (upd (V 36) 13 x)) := by unfold xm_pf; rw [(P.1 36 (by decide) (by decide))]; exact if_pos ⟨rfl, Nat.le_of_ble_eq_true rfl, rfl, rfl⟩
theorem mf_36_14 (P : Pm o Ou V hp) : xm_fld hp (o + 36) 8 14 = some (.ref (o + 47)) := by unfold xm_fld; rw [(P.1 36 (by decide) (by decide))]; rfl
theorem mf_36_15 (P : Pm o Ou V hp) : xm_fld hp (o + 36) 8 15 = some (.ref (o + 48)) := by unfold xm_fld; rw [(P.1 36 (by decide) (by decide))]; rfl
theorem mf_36_16 (P : Pm o Ou V hp) : xm_fld hp (o + 36) 8 16 = some (.ref (o + 49)) := by unfold xm_fld; rw [(P.1 36 (by decide) (by decide))]; rfl
theorem mf_36_17 (P : Pm o Ou V hp) : xm_fld hp (o + 36) 8 17 = some (.ref (o + 50)) := by unfold xm_fld; rw [(P.1 36 (by decide) (by decide))]; rfl
theorem mf_36_18 (P : Pm o Ou V hp) : xm_fld hp (o + 36) 8 18 = some (.ref (o + 51)) := by unfold xm_fld; rw [(P.1 36 (by decide) (by decide))]; rfl
theorem mf_36_19 (P : Pm o Ou V hp) : xm_fld hp (o + 36) 8 19 = some (.int (V 36 19)) := by unfold xm_fld; rw [(P.1 36 (by decide) (by decide))]; rfl
theorem mwf_36_19 (P : Pm o Ou V hp) (x : Int32) : xm_pf hp (o + 36) 8 19 .int (.int x) = some (pw o (fun _ => 0) 0 0 hp 36 (upd (V 36) 19 x)) := by unfold xm_pf; rw [(P.1 36 (by decide) (by decide))]; exact if_pos ⟨rfl, Nat.le_of_ble_eq_true rfl, rfl, rfl⟩
theorem mf_36_20 (P : Pm o Ou V hp) : xm_fld hp (o + 36) 8 20 = some (.ref (o + 52)) := by unfold xm_fld; rw [(P.1 36 (by decide) (by decide))]; rfl
theorem mf_36_21 (P : Pm o Ou V hp) : xm_fld hp (o + 36) 8 21 = some (.ref (o + 53)) := by unfold xm_fld; rw [(P.1 36 (by decide) (by decide))]; rfl
theorem mf_36_22 (P : Pm o Ou V hp) : xm_fld hp (o + 36) 8 22 = some (.ref (o + 54)) := by unfold xm_fld; rw [(P.1 36 (by decide) (by decide))]; rfl
theorem mf_36_23 (P : Pm o Ou V hp) : xm_fld hp (o + 36) 8 23 = some (.ref (o + 55)) := by unfold xm_fld; rw [(P.1 36 (by decide) (by decide))]; rfl
theorem mf_36_24 (P : Pm o Ou V hp) : xm_fld hp (o + 36) 8 24 = some (.ref (o + 56)) := by unfold xm_fld; rw [(P.1 36 (by decide) (by decide))]; rfl
theorem mf_36_25 (P : Pm o Ou V hp) : xm_fld hp (o + 36) 8 25 = some (.ref (o + 57)) := by unfold xm_fld; rw [(P.1 36 (by decide) (by decide))]; rfl
theorem mf_36_26 (P : Pm o Ou V hp) : xm_fld hp (o + 36) 8 26 = some (.int (V 36 26)) := by unfold xm_fld; rw [(P.1 36 (by decide) (by decide))]; rfl
theorem mwf_36_26 (P : Pm o Ou V hp) (x : Int32) : xm_pf hp (o + 36) 8 26 .int (.int x) = some (pw o (fun _ => 0) 0 0 hp 36 (upd (V 36) 26 x)) := by unfold xm_pf; rw [(P.1 36 (by decide) (by decide))]; exact if_pos ⟨rfl, Nat.le_of_ble_eq_true rfl, rfl, rfl⟩
theorem mf_36_27 (P : Pm o Ou V hp) : xm_fld hp (o + 36) 8 27 = some (.ref (o + 58)) := by unfold xm_fld; rw [(P.1 36 (by decide) (by decide))]; rfl
theorem mf_36_28 (P : Pm o Ou V hp) : xm_fld hp (o + 36) 8 28 = some (.ref (o + 59)) := by unfold xm_fld; rw [(P.1 36 (by decide) (by decide))]; rfl
theorem mf_36_29 (P : Pm o Ou V hp) : xm_fld hp (o + 36) 8 29 = some (.ref (o + 60)) := by unfold xm_fld; rw [(P.1 36 (by decide) (by decide))]; rfl
theorem mf_36_30 (P : Pm o Ou V hp) : xm_fld hp (o + 36) 8 30 = some (.int (V 36 30)) := by unfold xm_fld; rw [(P.1 36 (by decide) (by decide))]; rfl
theorem mwf_36_30 (P : Pm o Ou V hp) (x : Int32) : xm_pf hp (o + 36) 8 30 .int (.int x) = some (pw o (fun _ => 0) 0 0 hp 36 (upd (V 36) 30 x)) := by unfold xm_pf; rw [(P.1 36 (by decide) (by decide))]; exact if_pos ⟨rfl, Nat.le_of_ble_eq_true rfl, rfl, rfl⟩
theorem mf_36_31 (P : Pm o Ou V hp) : xm_fld hp (o + 36) 8 31 = some (.ref (o + 61)) := by unfold xm_fld; rw [(P.1 36 (by decide) (by decide))]; rfl
theorem mf_36_32 (P : Pm o Ou V hp) : xm_fld hp (o + 36) 8 32 = some (.ref (o + 62)) := by unfold xm_fld; rw [(P.1 36 (by decide) (by decide))]; rfl
theorem mf_36_33 (P : Pm o Ou V hp) : xm_fld hp (o + 36) 8 33 = some (.ref (o + 63)) := by unfold xm_fld; rw [(P.1 36 (by decide) (by decide))]; rfl
theorem mai_37 (P : Pm o Ou V hp) {i : Nat} (hi : i < 144) : xm_ai hp (o + 37) (nI i) = some (V 37 i) := by unfold xm_ai; rw [(P.1 37 (by decide) (by decide))]; simp only [pc_e, xm_oo hi (by decide), nI_clamp (show i < 2 ^ 31 by omega)]; rfl
theorem mwi_37 (P : Pm o Ou V hp) {i : Nat} (hi : i < 144) (x : Int32) : xm_wi hp (o + 37) (nI i) x = some (pw o (fun _ => 0) 0 0 hp 37 (upd (V 37) i x)) := by unfold xm_wi; rw [(P.1 37 (by decide) (by decide))]; simp only [pc_e, xm_oo hi (by decide), nI_clamp (show i < 2 ^ 31 by omega)]; rfl
theorem mai_38 (P : Pm o Ou V hp) {i : Nat} (hi : i < 30) : xm_ai hp (o + 38) (nI i) = some (V 38 i) := by unfold xm_ai; rw [(P.1 38 (by decide) (by decide))]; simp only [pc_e, xm_oo hi (by decide), nI_clamp (show i < 2 ^ 31 by omega)]; rfl
theorem mwi_38 (P : Pm o Ou V hp) {i : Nat} (hi : i < 30) (x : Int32) : xm_wi hp (o + 38) (nI i) x = some (pw o (fun _ => 0) 0 0 hp 38 (upd (V 38) i x)) := by unfold xm_wi; rw [(P.1 38 (by decide) (by decide))]; simp only [pc_e, xm_oo hi (by decide), nI_clamp (show i < 2 ^ 31 by omega)]; rfl
theorem mai_39 (P : Pm o Ou V hp) {i : Nat} (hi : i < 30) : xm_ai hp (o + 39) (nI i) = some (V 39 i) := by unfold xm_ai; rw [(P.1 39 (by decide) (by decide))]; simp only [pc_e, xm_oo hi (by decide), nI_clamp (show i < 2 ^ 31 by omega)]; rfl
theorem mwi_39 (P : Pm o Ou V hp) {i : Nat} (hi : i < 30) (x : Int32) : xm_wi hp (o + 39) (nI i) x = some (pw o (fun _ => 0) 0 0 hp 39 (upd (V 39) i x)) := by unfold xm_wi; rw [(P.1 39 (by decide) (by decide))]; simp only [pc_e, xm_oo hi (by decide), nI_clamp (show i < 2 ^ 31 by omega)]; rfl
theorem maz_40 (P : Pm o Ou V hp) {i : Nat} (hi : i < 390) : xm_az hp (o + 40) (nI i) = some (V 40 i) := by unfold xm_az; rw [(P.1 40 (by decide) (by decide))]; simp only [pc_e, xm_oo hi (by decide), nI_clamp (show i < 2 ^ 31 by omega)]; rfl
theorem mwz_40 (P : Pm o Ou V hp) {i : Nat} (hi : i < 390) (x : Int32) : xm_wz hp (o + 40) (nI i) x = some (pw o (fun _ => 0) 0 0 hp 40 (upd (V 40) i (vp_nar .boolean x))) := by unfold xm_wz; rw [(P.1 40 (by decide) (by decide))]; simp only [pc_e, xm_oo hi (by decide), nI_clamp (show i < 2 ^ 31 by omega)]; rfl
theorem maz_41 (P : Pm o Ou V hp) {i : Nat} (hi : i < 390) : xm_az hp (o + 41) (nI i) = some (V 41 i) := by unfold xm_az; rw [(P.1 41 (by decide) (by decide))]; simp only [pc_e, xm_oo hi (by decide), nI_clamp (show i < 2 ^ 31 by omega)]; rfl
theorem mwz_41 (P : Pm o Ou V hp) {i : Nat} (hi : i < 390) (x : Int32) : xm_wz hp (o + 41) (nI i) x = some (pw o (fun _ => 0) 0 0 hp 41 (upd (V 41) i (vp_nar .boolean x))) := by unfold xm_wz; rw [(P.1 41 (by decide) (by decide))]; simp only [pc_e, xm_oo hi (by decide), nI_clamp (show i < 2 ^ 31 by omega)]; rfl
theorem mai_42 (P : Pm o Ou V hp) {i : Nat} (hi : i < 40) : xm_ai hp (o + 42) (nI i) = some (V 42 i) := by unfold xm_ai; rw [(P.1 42 (by decide) (by decide))]; simp only [pc_e, xm_oo hi (by decide), nI_clamp (show i < 2 ^ 31 by omega)]; rfl
theorem mwi_42 (P : Pm o Ou V hp) {i : Nat} (hi : i < 40) (x : Int32) : xm_wi hp (o + 42) (nI i) x = some (pw o (fun _ => 0) 0 0 hp 42 (upd (V 42) i x)) := by unfold xm_wi; rw [(P.1 42 (by decide) (by decide))]; simp only [pc_e, xm_oo hi (by decide), nI_clamp (show i < 2 ^ 31 by omega)]; rfl
theorem mai_43 (P : Pm o Ou V hp) {i : Nat} (hi : i < 40) : xm_ai hp (o + 43) (nI i) = some (V 43 i) := by unfold xm_ai; rw [(P.1 43 (by decide) (by decide))]; simp only [pc_e, xm_oo hi (by decide), nI_clamp (show i < 2 ^ 31 by omega)]; rfl
theorem mwi_43 (P : Pm o Ou V hp) {i : Nat} (hi : i < 40) (x : Int32) : xm_wi hp (o + 43) (nI i) x = some (pw o (fun _ => 0) 0 0 hp 43 (upd (V 43) i x)) := by unfold xm_wi; rw [(P.1 43 (by decide) (by decide))]; simp only [pc_e, xm_oo hi (by decide), nI_clamp (show i < 2 ^ 31 by omega)]; rfl
theorem mai_44 (P : Pm o Ou V hp) {i : Nat} (hi : i < 40) : xm_ai hp (o + 44) (nI i) = some (V 44 i) := by unfold xm_ai; rw [(P.1 44 (by decide) (by decide))]; simp only [pc_e, xm_oo hi (by decide), nI_clamp (show i < 2 ^ 31 by omega)]; rfl
theorem mwi_44 (P : Pm o Ou V hp) {i : Nat} (hi : i < 40) (x : Int32) : xm_wi hp (o + 44) (nI i) x = some (pw o (fun _ => 0) 0 0 hp 44 (upd (V 44) i x)) := by unfold xm_wi; rw [(P.1 44 (by decide) (by decide))]; simp only [pc_e, xm_oo hi (by decide), nI_clamp (show i < 2 ^ 31 by omega)]; rfl
theorem mai_45 (P : Pm o Ou V hp) {i : Nat} (hi : i < 40) : xm_ai hp (o + 45) (nI i) = some (V 45 i) := by unfold xm_ai; rw [(P.1 45 (by decide) (by decide))]; simp only [pc_e, xm_oo hi (by decide), nI_clamp (show i < 2 ^ 31 by omega)]; rfl
theorem mwi_45 (P : Pm o Ou V hp) {i : Nat} (hi : i < 40) (x : Int32) : xm_wi hp (o + 45) (nI i) x = some (pw o (fun _ => 0) 0 0 hp 45 (upd (V 45) i x)) := by unfold xm_wi; rw [(P.1 45 (by decide) (by decide))]; simp only [pc_e, xm_oo hi (by decide), nI_clamp (show i < 2 ^ 31 by omega)]; rfl
theorem mai_46 (P : Pm o Ou V hp) {i : Nat} (hi : i < 40) : xm_ai hp (o + 46) (nI i) = some (V 46 i) := by unfold xm_ai; rw [(P.1 46 (by decide) (by decide))]; simp only [pc_e, xm_oo hi (by decide), nI_clamp (show i < 2 ^ 31 by omega)]; rfl
theorem mwi_46 (P : Pm o Ou V hp) {i : Nat} (hi : i < 40) (x : Int32) : xm_wi hp (o + 46) (nI i) x = some (pw o (fun _ => 0) 0 0 hp 46 (upd (V 46) i x)) := by unfold xm_wi; rw [(P.1 46 (by decide) (by decide))]; simp only [pc_e, xm_oo hi (by decide), nI_clamp (show i < 2 ^ 31 by omega)]; rfl
theorem mai_47 (P : Pm o Ou V hp) {i : Nat} (hi : i < 60) : xm_ai hp (o + 47) (nI i) = some (V 47 i) := by unfold xm_ai; rw [(P.1 47 (by decide) (by decide))]; simp only [pc_e, xm_oo hi (by decide), nI_clamp (show i < 2 ^ 31 by omega)]; rfl
theorem mwi_47 (P : Pm o Ou V hp) {i : Nat} (hi : i < 60) (x : Int32) : xm_wi hp (o + 47) (nI i) x = some (pw o (fun _ => 0) 0 0 hp 47 (upd (V 47) i x)) := by unfold xm_wi; rw [(P.1 47 (by decide) (by decide))]; simp only [pc_e, xm_oo hi (by decide), nI_clamp (show i < 2 ^ 31 by omega)]; rfl
theorem mai_48 (P : Pm o Ou V hp) {i : Nat} (hi : i < 60) : xm_ai hp (o + 48) (nI i) = some (V 48 i) := by unfold xm_ai; rw [(P.1 48 (by decide) (by decide))]; simp only [pc_e, xm_oo hi (by decide), nI_clamp (show i < 2 ^ 31 by omega)]; rfl
theorem mwi_48 (P : Pm o Ou V hp) {i : Nat} (hi : i < 60) (x : Int32) : xm_wi hp (o + 48) (nI i) x = some (pw o (fun _ => 0) 0 0 hp 48 (upd (V 48) i x)) := by unfold xm_wi; rw [(P.1 48 (by decide) (by decide))]; simp only [pc_e, xm_oo hi (by decide), nI_clamp (show i < 2 ^ 31 by omega)]; rfl
theorem mai_49 (P : Pm o Ou V hp) {i : Nat} (hi : i < 60) : xm_ai hp (o + 49) (nI i) = some (V 49 i) := by unfold xm_ai; rw [(P.1 49 (by decide) (by decide))]; simp only [pc_e, xm_oo hi (by decide), nI_clamp (show i < 2 ^ 31 by omega)]; rfl
theorem mwi_49 (P : Pm o Ou V hp) {i : Nat} (hi : i < 60) (x : Int32) : xm_wi hp (o + 49) (nI i) x = some (pw o (fun _ => 0) 0 0 hp 49 (upd (V 49) i x)) := by unfold xm_wi; rw [(P.1 49 (by decide) (by decide))]; simp only [pc_e, xm_oo hi (by decide), nI_clamp (show i < 2 ^ 31 by omega)]; rfl
theorem maz_50 (P : Pm o Ou V hp) {i : Nat} (hi : i < 60) : xm_az hp (o + 50) (nI i) = some (V 50 i) := by unfold xm_az; rw [(P.1 50 (by decide) (by decide))]; simp only [pc_e, xm_oo hi (by decide), nI_clamp (show i < 2 ^ 31 by omega)]; rfl
theorem mwz_50 (P : Pm o Ou V hp) {i : Nat} (hi : i < 60) (x : Int32) : xm_wz hp (o + 50) (nI i) x = some (pw o (fun _ => 0) 0 0 hp 50 (upd (V 50) i (vp_nar .boolean x))) := by unfold xm_wz; rw [(P.1 50 (by decide) (by decide))]; simp only [pc_e, xm_oo hi (by decide), nI_clamp (show i < 2 ^ 31 by omega)]; rfl
theorem mai_51 (P : Pm o Ou V hp) {i : Nat} (hi : i < 60) : xm_ai hp (o + 51) (nI i) = some (V 51 i) := by unfold xm_ai; rw [(P.1 51 (by decide) (by decide))]; simp only [pc_e, xm_oo hi (by decide), nI_clamp (show i < 2 ^ 31 by omega)]; rfl
theorem mwi_51 (P : Pm o Ou V hp) {i : Nat} (hi : i < 60) (x : Int32) : xm_wi hp (o + 51) (nI i) x = some (pw o (fun _ => 0) 0 0 hp 51 (upd (V 51) i x)) := by unfold xm_wi; rw [(P.1 51 (by decide) (by decide))]; simp only [pc_e, xm_oo hi (by decide), nI_clamp (show i < 2 ^ 31 by omega)]; rfl
theorem mai_52 (P : Pm o Ou V hp) {i : Nat} (hi : i < 12) : xm_ai hp (o + 52) (nI i) = some (V 52 i) := by unfold xm_ai; rw [(P.1 52 (by decide) (by decide))]; simp only [pc_e, xm_oo hi (by decide), nI_clamp (show i < 2 ^ 31 by omega)]; rfl
theorem mwi_52 (P : Pm o Ou V hp) {i : Nat} (hi : i < 12) (x : Int32) : xm_wi hp (o + 52) (nI i) x = some (pw o (fun _ => 0) 0 0 hp 52 (upd (V 52) i x)) := by unfold xm_wi; rw [(P.1 52 (by decide) (by decide))]; simp only [pc_e, xm_oo hi (by decide), nI_clamp (show i < 2 ^ 31 by omega)]; rfl
theorem mai_53 (P : Pm o Ou V hp) {i : Nat} (hi : i < 12) : xm_ai hp (o + 53) (nI i) = some (V 53 i) := by unfold xm_ai; rw [(P.1 53 (by decide) (by decide))]; simp only [pc_e, xm_oo hi (by decide), nI_clamp (show i < 2 ^ 31 by omega)]; rfl
theorem mwi_53 (P : Pm o Ou V hp) {i : Nat} (hi : i < 12) (x : Int32) : xm_wi hp (o + 53) (nI i) x = some (pw o (fun _ => 0) 0 0 hp 53 (upd (V 53) i x)) := by unfold xm_wi; rw [(P.1 53 (by decide) (by decide))]; simp only [pc_e, xm_oo hi (by decide), nI_clamp (show i < 2 ^ 31 by omega)]; rfl
theorem mai_54 (P : Pm o Ou V hp) {i : Nat} (hi : i < 120) : xm_ai hp (o + 54) (nI i) = some (V 54 i) := by unfold xm_ai; rw [(P.1 54 (by decide) (by decide))]; simp only [pc_e, xm_oo hi (by decide), nI_clamp (show i < 2 ^ 31 by omega)]; rfl
theorem mwi_54 (P : Pm o Ou V hp) {i : Nat} (hi : i < 120) (x : Int32) : xm_wi hp (o + 54) (nI i) x = some (pw o (fun _ => 0) 0 0 hp 54 (upd (V 54) i x)) := by unfold xm_wi; rw [(P.1 54 (by decide) (by decide))]; simp only [pc_e, xm_oo hi (by decide), nI_clamp (show i < 2 ^ 31 by omega)]; rfl
theorem mai_55 (P : Pm o Ou V hp) {i : Nat} (hi : i < 120) : xm_ai hp (o + 55) (nI i) = some (V 55 i) := by unfold xm_ai; rw [(P.1 55 (by decide) (by decide))]; simp only [pc_e, xm_oo hi (by decide), nI_clamp (show i < 2 ^ 31 by omega)]; rfl
theorem mwi_55 (P : Pm o Ou V hp) {i : Nat} (hi : i < 120) (x : Int32) : xm_wi hp (o + 55) (nI i) x = some (pw o (fun _ => 0) 0 0 hp 55 (upd (V 55) i x)) := by unfold xm_wi; rw [(P.1 55 (by decide) (by decide))]; simp only [pc_e, xm_oo hi (by decide), nI_clamp (show i < 2 ^ 31 by omega)]; rfl
theorem mai_56 (P : Pm o Ou V hp) {i : Nat} (hi : i < 120) : xm_ai hp (o + 56) (nI i) = some (V 56 i) := by unfold xm_ai; rw [(P.1 56 (by decide) (by decide))]; simp only [pc_e, xm_oo hi (by decide), nI_clamp (show i < 2 ^ 31 by omega)]; rfl
theorem mwi_56 (P : Pm o Ou V hp) {i : Nat} (hi : i < 120) (x : Int32) : xm_wi hp (o + 56) (nI i) x = some (pw o (fun _ => 0) 0 0 hp 56 (upd (V 56) i x)) := by unfold xm_wi; rw [(P.1 56 (by decide) (by decide))]; simp only [pc_e, xm_oo hi (by decide), nI_clamp (show i < 2 ^ 31 by omega)]; rfl
theorem maz_57 (P : Pm o Ou V hp) {i : Nat} (hi : i < 480) : xm_az hp (o + 57) (nI i) = some (V 57 i) := by unfold xm_az; rw [(P.1 57 (by decide) (by decide))]; simp only [pc_e, xm_oo hi (by decide), nI_clamp (show i < 2 ^ 31 by omega)]; rfl
theorem mwz_57 (P : Pm o Ou V hp) {i : Nat} (hi : i < 480) (x : Int32) : xm_wz hp (o + 57) (nI i) x = some (pw o (fun _ => 0) 0 0 hp 57 (upd (V 57) i (vp_nar .boolean x))) := by unfold xm_wz; rw [(P.1 57 (by decide) (by decide))]; simp only [pc_e, xm_oo hi (by decide), nI_clamp (show i < 2 ^ 31 by omega)]; rfl
theorem mai_58 (P : Pm o Ou V hp) {i : Nat} (hi : i < 520) : xm_ai hp (o + 58) (nI i) = some (V 58 i) := by unfold xm_ai; rw [(P.1 58 (by decide) (by decide))]; simp only [pc_e, xm_oo hi (by decide), nI_clamp (show i < 2 ^ 31 by omega)]; rfl
theorem mwi_58 (P : Pm o Ou V hp) {i : Nat} (hi : i < 520) (x : Int32) : xm_wi hp (o + 58) (nI i) x = some (pw o (fun _ => 0) 0 0 hp 58 (upd (V 58) i x)) := by unfold xm_wi; rw [(P.1 58 (by decide) (by decide))]; simp only [pc_e, xm_oo hi (by decide), nI_clamp (show i < 2 ^ 31 by omega)]; rfl
theorem mai_59 (P : Pm o Ou V hp) {i : Nat} (hi : i < 520) : xm_ai hp (o + 59) (nI i) = some (V 59 i) := by unfold xm_ai; rw [(P.1 59 (by decide) (by decide))]; simp only [pc_e, xm_oo hi (by decide), nI_clamp (show i < 2 ^ 31 by omega)]; rfl
theorem mwi_59 (P : Pm o Ou V hp) {i : Nat} (hi : i < 520) (x : Int32) : xm_wi hp (o + 59) (nI i) x = some (pw o (fun _ => 0) 0 0 hp 59 (upd (V 59) i x)) := by unfold xm_wi; rw [(P.1 59 (by decide) (by decide))]; simp only [pc_e, xm_oo hi (by decide), nI_clamp (show i < 2 ^ 31 by omega)]; rfl
theorem mai_60 (P : Pm o Ou V hp) {i : Nat} (hi : i < 520) : xm_ai hp (o + 60) (nI i) = some (V 60 i) := by unfold xm_ai; rw [(P.1 60 (by decide) (by decide))]; simp only [pc_e, xm_oo hi (by decide), nI_clamp (show i < 2 ^ 31 by omega)]; rfl
theorem mwi_60 (P : Pm o Ou V hp) {i : Nat} (hi : i < 520) (x : Int32) : xm_wi hp (o + 60) (nI i) x = some (pw o (fun _ => 0) 0 0 hp 60 (upd (V 60) i x)) := by unfold xm_wi; rw [(P.1 60 (by decide) (by decide))]; simp only [pc_e, xm_oo hi (by decide), nI_clamp (show i < 2 ^ 31 by omega)]; rfl
theorem mai_61 (P : Pm o Ou V hp) {i : Nat} (hi : i < 4) : xm_ai hp (o + 61) (nI i) = some (V 61 i) := by unfold xm_ai; rw [(P.1 61 (by decide) (by decide))]; simp only [pc_e, xm_oo hi (by decide), nI_clamp (show i < 2 ^ 31 by omega)]; rfl
theorem mwi_61 (P : Pm o Ou V hp) {i : Nat} (hi : i < 4) (x : Int32) : xm_wi hp (o + 61) (nI i) x = some (pw o (fun _ => 0) 0 0 hp 61 (upd (V 61) i x)) := by unfold xm_wi; rw [(P.1 61 (by decide) (by decide))]; simp only [pc_e, xm_oo hi (by decide), nI_clamp (show i < 2 ^ 31 by omega)]; rfl
theorem maz_62 (P : Pm o Ou V hp) {i : Nat} (hi : i < 48) : xm_az hp (o + 62) (nI i) = some (V 62 i) := by unfold xm_az; rw [(P.1 62 (by decide) (by decide))]; simp only [pc_e, xm_oo hi (by decide), nI_clamp (show i < 2 ^ 31 by omega)]; rfl
theorem mwz_62 (P : Pm o Ou V hp) {i : Nat} (hi : i < 48) (x : Int32) : xm_wz hp (o + 62) (nI i) x = some (pw o (fun _ => 0) 0 0 hp 62 (upd (V 62) i (vp_nar .boolean x))) := by unfold xm_wz; rw [(P.1 62 (by decide) (by decide))]; simp only [pc_e, xm_oo hi (by decide), nI_clamp (show i < 2 ^ 31 by omega)]; rfl
theorem maz_63 (P : Pm o Ou V hp) {i : Nat} (hi : i < 12) : xm_az hp (o + 63) (nI i) = some (V 63 i) := by unfold xm_az; rw [(P.1 63 (by decide) (by decide))]; simp only [pc_e, xm_oo hi (by decide), nI_clamp (show i < 2 ^ 31 by omega)]; rfl
theorem mwz_63 (P : Pm o Ou V hp) {i : Nat} (hi : i < 12) (x : Int32) : xm_wz hp (o + 63) (nI i) x = some (pw o (fun _ => 0) 0 0 hp 63 (upd (V 63) i (vp_nar .boolean x))) := by unfold xm_wz; rw [(P.1 63 (by decide) (by decide))]; simp only [pc_e, xm_oo hi (by decide), nI_clamp (show i < 2 ^ 31 by omega)]; rfl
end PM
