/-! THE PICTURE: cell k of the run stands at o + k; its ints are the row V k; the longs of Services.used are J; the two rows of Services that grow stand at p1 and p2 -/
def pc_e (o : Nat) (J : Nat → Int64) (p1 p2 : Nat) (k : Nat) (f : Nat → Int32) : xm_E := match k with
  | 0 => .inr (.inl (7, [.ref (o + 1), .ref (o + 6), .ref (o + 11), .ref (o + 17), .ref (o + 23), .ref (o + 29), .ref (o + 33)]))
  | 1 => .inr (.inl (2, [.int (f 0), .ref (o + 2), .ref (o + 3), .ref (o + 4), .ref (o + 5)]))
  | 2 => .inl (.int, 12, .inl f)
  | 3 => .inl (.int, 12, .inl f)
  | 4 => .inl (.int, 12, .inl f)
  | 5 => .inl (.int, 12, .inl f)
  | 6 => .inr (.inl (3, [.int (f 0), .ref (o + 7), .ref (o + 8), .ref (o + 9), .ref (o + 10)]))
  | 7 => .inl (.int, 30, .inl f)
  | 8 => .inl (.int, 30, .inl f)
  | 9 => .inl (.int, 30, .inl f)
  | 10 => .inl (.int, 30, .inl f)
  | 11 => .inr (.inl (5, [.int (f 0), .ref (o + 12), .ref (o + 13), .ref (o + 14), .ref (o + 15), .ref (o + 16)]))
  | 12 => .inl (.int, 40, .inl f)
  | 13 => .inl (.int, 40, .inl f)
  | 14 => .inl (.int, 40, .inl f)
  | 15 => .inl (.int, 40, .inl f)
  | 16 => .inl (.int, 40, .inl f)
  | 17 => .inr (.inl (1, [.int (f 0), .ref (o + 18), .ref (o + 19), .ref (o + 20), .ref (o + 21), .ref (o + 22)]))
  | 18 => .inl (.int, 60, .inl f)
  | 19 => .inl (.int, 60, .inl f)
  | 20 => .inl (.int, 60, .inl f)
  | 21 => .inl (.boolean, 60, .inl f)
  | 22 => .inl (.int, 60, .inl f)
  | 23 => .inr (.inl (6, [.int (f 0), .ref (o + 24), .ref (o + 25), .ref (o + 26), .ref (o + 27), .ref (o + 28)]))
  | 24 => .inl (.int, 12, .inl f)
  | 25 => .inl (.int, 12, .inl f)
  | 26 => .inl (.int, 120, .inl f)
  | 27 => .inl (.int, 120, .inl f)
  | 28 => .inl (.int, 120, .inl f)
  | 29 => .inr (.inl (4, [.int (f 0), .ref (o + 30), .ref p1, .ref p2]))
  | 30 => .inl (.long, 12, .inr (.inl J))
  | 31 => .inl (.int, 0, .inl f)
  | 32 => .inl (.int, 0, .inl f)
  | 33 => .inr (.inl (0, [.int (f 0), .ref (o + 34), .ref (o + 35)]))
  | 34 => .inl (.int, 4, .inl f)
  | 35 => .inl (.int, 4, .inl f)
  | 36 => .inr (.inl (8, [.int (f 0), .ref (o + 37), .int (f 2), .ref (o + 38), .ref (o + 39), .ref (o + 40), .ref (o + 41), .int (f 7), .ref (o + 42), .ref (o + 43), .ref (o + 44), .ref (o + 45), .ref (o + 46), .int (f 13), .ref (o + 47), .ref (o + 48), .ref (o + 49), .ref (o + 50), .ref (o + 51), .int (f 19), .ref (o + 52), .ref (o + 53), .ref (o + 54), .ref (o + 55), .ref (o + 56), .ref (o + 57), .int (f 26), .ref (o + 58), .ref (o + 59), .ref (o + 60), .int (f 30), .ref (o + 61), .ref (o + 62), .ref (o + 63)]))
  | 37 => .inl (.int, 144, .inl f)
  | 38 => .inl (.int, 30, .inl f)
  | 39 => .inl (.int, 30, .inl f)
  | 40 => .inl (.boolean, 390, .inl f)
  | 41 => .inl (.boolean, 390, .inl f)
  | 42 => .inl (.int, 40, .inl f)
  | 43 => .inl (.int, 40, .inl f)
  | 44 => .inl (.int, 40, .inl f)
  | 45 => .inl (.int, 40, .inl f)
  | 46 => .inl (.int, 40, .inl f)
  | 47 => .inl (.int, 60, .inl f)
  | 48 => .inl (.int, 60, .inl f)
  | 49 => .inl (.int, 60, .inl f)
  | 50 => .inl (.boolean, 60, .inl f)
  | 51 => .inl (.int, 60, .inl f)
  | 52 => .inl (.int, 12, .inl f)
  | 53 => .inl (.int, 12, .inl f)
  | 54 => .inl (.int, 120, .inl f)
  | 55 => .inl (.int, 120, .inl f)
  | 56 => .inl (.int, 120, .inl f)
  | 57 => .inl (.boolean, 480, .inl f)
  | 58 => .inl (.int, 520, .inl f)
  | 59 => .inl (.int, 520, .inl f)
  | 60 => .inl (.int, 520, .inl f)
  | 61 => .inl (.int, 4, .inl f)
  | 62 => .inl (.boolean, 48, .inl f)
  | 63 => .inl (.boolean, 12, .inl f)
  | _ => .inl (.int, 0, .inl f)
abbrev pc_V : Type := Nat → Nat → Int32
/-- the run's heap holds V, J -/
def Pic (o : Nat) (V : pc_V) (J : Nat → Int64) (p1 p2 cap : Nat) (hp : xm_H) : Prop :=
  (∀ k, k < 64 → k ≠ 31 → k ≠ 32 → hp.1 (o + k) = some (pc_e o J p1 p2 k (V k))) ∧ hp.1 p1 = some (.inl (.int, cap, .inl (V 31))) ∧ hp.1 p2 = some (.inl (.int, cap, .inl (V 32))) ∧ p1 ≠ p2 ∧ (p1 < hp.2.1 ∧ p2 < hp.2.1 ∧ o + 64 ≤ hp.2.1) ∧ (p1 = o + 31 ∨ o + 64 ≤ p1) ∧ (p2 = o + 32 ∨ o + 64 ≤ p2)
def pv_row (V : pc_V) (c : Nat) (f : Nat → Int32) : pc_V := fun k => if k = c then f else V k
theorem pv_same (V : pc_V) (c : Nat) (f : Nat → Int32) : pv_row V c f c = f := if_pos rfl
theorem pv_ne (V : pc_V) {c k : Nat} (f : Nat → Int32) (h : k ≠ c) : pv_row V c f k = V k := if_neg h
/-- the heap with one row anew -/
def pw (o : Nat) (J : Nat → Int64) (p1 p2 : Nat) (hp : xm_H) (c : Nat) (f : Nat → Int32) : xm_H := xm_up hp (o + c) (pc_e o J p1 p2 c f)
theorem pw_size {o : Nat} {J : Nat → Int64} {p1 p2 : Nat} {hp : xm_H} {c : Nat} {f : Nat → Int32} : (pw o J p1 p2 hp c f).2 = hp.2 := rfl
theorem pw_pw {o : Nat} {J : Nat → Int64} {p1 p2 : Nat} {hp : xm_H} {c : Nat} {f g : Nat → Int32} : pw o J p1 p2 (pw o J p1 p2 hp c f) c g = pw o J p1 p2 hp c g := by
  unfold pw xm_up xm_set
  dsimp only
  congr 1
  funext q
  by_cases h : q = o + c <;> simp [h]
section PIC
variable {o : Nat} {V : pc_V} {J : Nat → Int64} {p1 p2 cap : Nat} {hp : xm_H}
theorem Pic.self (P : Pic o V J p1 p2 cap hp) {c : Nat} (hc : c < 64) (h1 : c ≠ 31) (h2 : c ≠ 32) : pw o J p1 p2 hp c (V c) = hp := by
  unfold pw xm_up xm_set
  obtain ⟨g, s⟩ := hp
  dsimp only
  congr 1
  funext q
  by_cases h : q = o + c
  · subst h
    rw [if_pos rfl]
    exact (P.1 c hc h1 h2).symm
  · rw [if_neg h]
theorem Pic.w (P : Pic o V J p1 p2 cap hp) (c : Nat) (hc : c < 64) (h1 : c ≠ 31) (h2 : c ≠ 32) (f : Nat → Int32) : Pic o (pv_row V c f) J p1 p2 cap (pw o J p1 p2 hp c f) := by
  obtain ⟨g1, g2, g3, g4, g5, g6, g7⟩ := P
  have n1 : p1 ≠ o + c := by omega
  have n2 : p2 ≠ o + c := by omega
  refine ⟨fun k hk k1 k2 => ?_, ?_, ?_, g4, g5, g6, g7⟩
  · by_cases hkc : k = c
    · subst hkc
      rw [pv_same]
      exact xm_set_self _ _ _
    · rw [pv_ne V f hkc]
      exact (xm_set_ne (by omega)).trans (g1 k hk k1 k2)
  · rw [pv_ne V f (Ne.symm h1)]
    exact (xm_set_ne n1).trans g2
  · rw [pv_ne V f (Ne.symm h2)]
    exact (xm_set_ne n2).trans g3
/-- the longs -/
theorem Pic.wJ (P : Pic o V J p1 p2 cap hp) (K : Nat → Int64) : Pic o V K p1 p2 cap (xm_up hp (o + 30) (.inl (.long, 12, .inr (.inl K)))) := by
  obtain ⟨g1, g2, g3, g4, g5, g6, g7⟩ := P
  refine ⟨fun k hk k1 k2 => ?_, ?_, ?_, g4, g5, g6, g7⟩
  · by_cases hkc : k = 30
    · subst hkc
      exact xm_set_self _ _ _
    · refine (xm_set_ne (by omega)).trans ((g1 k hk k1 k2).trans ?_)
      unfold pc_e
      split <;> first | rfl | exact absurd rfl hkc
  · exact (xm_set_ne (by omega)).trans g2
  · exact (xm_set_ne (by omega)).trans g3
theorem xm_oo {i N : Nat} (h : i < N) (hN : N < 2 ^ 31) : xm_out_of (nI i) N = false := by
  unfold xm_out_of
  rw [Bool.or_eq_false_iff, decide_eq_false_iff_not, decide_eq_false_iff_not, nI_clamp (by omega)]
  exact ⟨nI_pos (by omega), by omega⟩
theorem pcl_0 (P : Pic o V J p1 p2 cap hp) : xm_cls hp o = some 7 := by unfold xm_cls; rw [(show hp.1 o = _ from P.1 0 (by decide) (by decide) (by decide))]; rfl
theorem pf_0_0 (P : Pic o V J p1 p2 cap hp) : xm_fld hp o 7 0 = some (.ref (o + 1)) := by unfold xm_fld; rw [(show hp.1 o = _ from P.1 0 (by decide) (by decide) (by decide))]; rfl
theorem pf_0_1 (P : Pic o V J p1 p2 cap hp) : xm_fld hp o 7 1 = some (.ref (o + 6)) := by unfold xm_fld; rw [(show hp.1 o = _ from P.1 0 (by decide) (by decide) (by decide))]; rfl
theorem pf_0_2 (P : Pic o V J p1 p2 cap hp) : xm_fld hp o 7 2 = some (.ref (o + 11)) := by unfold xm_fld; rw [(show hp.1 o = _ from P.1 0 (by decide) (by decide) (by decide))]; rfl
theorem pf_0_3 (P : Pic o V J p1 p2 cap hp) : xm_fld hp o 7 3 = some (.ref (o + 17)) := by unfold xm_fld; rw [(show hp.1 o = _ from P.1 0 (by decide) (by decide) (by decide))]; rfl
theorem pf_0_4 (P : Pic o V J p1 p2 cap hp) : xm_fld hp o 7 4 = some (.ref (o + 23)) := by unfold xm_fld; rw [(show hp.1 o = _ from P.1 0 (by decide) (by decide) (by decide))]; rfl
theorem pf_0_5 (P : Pic o V J p1 p2 cap hp) : xm_fld hp o 7 5 = some (.ref (o + 29)) := by unfold xm_fld; rw [(show hp.1 o = _ from P.1 0 (by decide) (by decide) (by decide))]; rfl
theorem pf_0_6 (P : Pic o V J p1 p2 cap hp) : xm_fld hp o 7 6 = some (.ref (o + 33)) := by unfold xm_fld; rw [(show hp.1 o = _ from P.1 0 (by decide) (by decide) (by decide))]; rfl
theorem pcl_1 (P : Pic o V J p1 p2 cap hp) : xm_cls hp (o + 1) = some 2 := by unfold xm_cls; rw [(P.1 1 (by decide) (by decide) (by decide))]; rfl
theorem pf_1_0 (P : Pic o V J p1 p2 cap hp) : xm_fld hp (o + 1) 2 0 = some (.int (V 1 0)) := by unfold xm_fld; rw [(P.1 1 (by decide) (by decide) (by decide))]; rfl
theorem pwf_1_0 (P : Pic o V J p1 p2 cap hp) (x : Int32) : xm_pf hp (o + 1) 2 0 .int (.int x) = some (pw o J p1 p2 hp 1 (upd (V 1) 0 x)) := by unfold xm_pf; rw [(P.1 1 (by decide) (by decide) (by decide))]; exact if_pos ⟨rfl, Nat.le_of_ble_eq_true rfl, rfl, rfl⟩
theorem pf_1_1 (P : Pic o V J p1 p2 cap hp) : xm_fld hp (o + 1) 2 1 = some (.ref (o + 2)) := by unfold xm_fld; rw [(P.1 1 (by decide) (by decide) (by decide))]; rfl
theorem pf_1_2 (P : Pic o V J p1 p2 cap hp) : xm_fld hp (o + 1) 2 2 = some (.ref (o + 3)) := by unfold xm_fld; rw [(P.1 1 (by decide) (by decide) (by decide))]; rfl
theorem pf_1_3 (P : Pic o V J p1 p2 cap hp) : xm_fld hp (o + 1) 2 3 = some (.ref (o + 4)) := by unfold xm_fld; rw [(P.1 1 (by decide) (by decide) (by decide))]; rfl
theorem pf_1_4 (P : Pic o V J p1 p2 cap hp) : xm_fld hp (o + 1) 2 4 = some (.ref (o + 5)) := by unfold xm_fld; rw [(P.1 1 (by decide) (by decide) (by decide))]; rfl
theorem pai_2 (P : Pic o V J p1 p2 cap hp) {i : Nat} (hi : i < 12) : xm_ai hp (o + 2) (nI i) = some (V 2 i) := by unfold xm_ai; rw [(P.1 2 (by decide) (by decide) (by decide))]; simp only [pc_e, xm_oo hi (by decide), nI_clamp (show i < 2 ^ 31 by omega)]; rfl
theorem pwi_2 (P : Pic o V J p1 p2 cap hp) {i : Nat} (hi : i < 12) (x : Int32) : xm_wi hp (o + 2) (nI i) x = some (pw o J p1 p2 hp 2 (upd (V 2) i x)) := by unfold xm_wi; rw [(P.1 2 (by decide) (by decide) (by decide))]; simp only [pc_e, xm_oo hi (by decide), nI_clamp (show i < 2 ^ 31 by omega)]; rfl
theorem pai_3 (P : Pic o V J p1 p2 cap hp) {i : Nat} (hi : i < 12) : xm_ai hp (o + 3) (nI i) = some (V 3 i) := by unfold xm_ai; rw [(P.1 3 (by decide) (by decide) (by decide))]; simp only [pc_e, xm_oo hi (by decide), nI_clamp (show i < 2 ^ 31 by omega)]; rfl
theorem pwi_3 (P : Pic o V J p1 p2 cap hp) {i : Nat} (hi : i < 12) (x : Int32) : xm_wi hp (o + 3) (nI i) x = some (pw o J p1 p2 hp 3 (upd (V 3) i x)) := by unfold xm_wi; rw [(P.1 3 (by decide) (by decide) (by decide))]; simp only [pc_e, xm_oo hi (by decide), nI_clamp (show i < 2 ^ 31 by omega)]; rfl
theorem pai_4 (P : Pic o V J p1 p2 cap hp) {i : Nat} (hi : i < 12) : xm_ai hp (o + 4) (nI i) = some (V 4 i) := by unfold xm_ai; rw [(P.1 4 (by decide) (by decide) (by decide))]; simp only [pc_e, xm_oo hi (by decide), nI_clamp (show i < 2 ^ 31 by omega)]; rfl
theorem pwi_4 (P : Pic o V J p1 p2 cap hp) {i : Nat} (hi : i < 12) (x : Int32) : xm_wi hp (o + 4) (nI i) x = some (pw o J p1 p2 hp 4 (upd (V 4) i x)) := by unfold xm_wi; rw [(P.1 4 (by decide) (by decide) (by decide))]; simp only [pc_e, xm_oo hi (by decide), nI_clamp (show i < 2 ^ 31 by omega)]; rfl
theorem pai_5 (P : Pic o V J p1 p2 cap hp) {i : Nat} (hi : i < 12) : xm_ai hp (o + 5) (nI i) = some (V 5 i) := by unfold xm_ai; rw [(P.1 5 (by decide) (by decide) (by decide))]; simp only [pc_e, xm_oo hi (by decide), nI_clamp (show i < 2 ^ 31 by omega)]; rfl
theorem pwi_5 (P : Pic o V J p1 p2 cap hp) {i : Nat} (hi : i < 12) (x : Int32) : xm_wi hp (o + 5) (nI i) x = some (pw o J p1 p2 hp 5 (upd (V 5) i x)) := by unfold xm_wi; rw [(P.1 5 (by decide) (by decide) (by decide))]; simp only [pc_e, xm_oo hi (by decide), nI_clamp (show i < 2 ^ 31 by omega)]; rfl
theorem pcl_6 (P : Pic o V J p1 p2 cap hp) : xm_cls hp (o + 6) = some 3 := by unfold xm_cls; rw [(P.1 6 (by decide) (by decide) (by decide))]; rfl
theorem pf_6_0 (P : Pic o V J p1 p2 cap hp) : xm_fld hp (o + 6) 3 0 = some (.int (V 6 0)) := by unfold xm_fld; rw [(P.1 6 (by decide) (by decide) (by decide))]; rfl
theorem pwf_6_0 (P : Pic o V J p1 p2 cap hp) (x : Int32) : xm_pf hp (o + 6) 3 0 .int (.int x) = some (pw o J p1 p2 hp 6 (upd (V 6) 0 x)) := by unfold xm_pf; rw [(P.1 6 (by decide) (by decide) (by decide))]; exact if_pos ⟨rfl, Nat.le_of_ble_eq_true rfl, rfl, rfl⟩
theorem pf_6_1 (P : Pic o V J p1 p2 cap hp) : xm_fld hp (o + 6) 3 1 = some (.ref (o + 7)) := by unfold xm_fld; rw [(P.1 6 (by decide) (by decide) (by decide))]; rfl
theorem pf_6_2 (P : Pic o V J p1 p2 cap hp) : xm_fld hp (o + 6) 3 2 = some (.ref (o + 8)) := by unfold xm_fld; rw [(P.1 6 (by decide) (by decide) (by decide))]; rfl
theorem pf_6_3 (P : Pic o V J p1 p2 cap hp) : xm_fld hp (o + 6) 3 3 = some (.ref (o + 9)) := by unfold xm_fld; rw [(P.1 6 (by decide) (by decide) (by decide))]; rfl
theorem pf_6_4 (P : Pic o V J p1 p2 cap hp) : xm_fld hp (o + 6) 3 4 = some (.ref (o + 10)) := by unfold xm_fld; rw [(P.1 6 (by decide) (by decide) (by decide))]; rfl
theorem pai_7 (P : Pic o V J p1 p2 cap hp) {i : Nat} (hi : i < 30) : xm_ai hp (o + 7) (nI i) = some (V 7 i) := by unfold xm_ai; rw [(P.1 7 (by decide) (by decide) (by decide))]; simp only [pc_e, xm_oo hi (by decide), nI_clamp (show i < 2 ^ 31 by omega)]; rfl
theorem pwi_7 (P : Pic o V J p1 p2 cap hp) {i : Nat} (hi : i < 30) (x : Int32) : xm_wi hp (o + 7) (nI i) x = some (pw o J p1 p2 hp 7 (upd (V 7) i x)) := by unfold xm_wi; rw [(P.1 7 (by decide) (by decide) (by decide))]; simp only [pc_e, xm_oo hi (by decide), nI_clamp (show i < 2 ^ 31 by omega)]; rfl
theorem pai_8 (P : Pic o V J p1 p2 cap hp) {i : Nat} (hi : i < 30) : xm_ai hp (o + 8) (nI i) = some (V 8 i) := by unfold xm_ai; rw [(P.1 8 (by decide) (by decide) (by decide))]; simp only [pc_e, xm_oo hi (by decide), nI_clamp (show i < 2 ^ 31 by omega)]; rfl
theorem pwi_8 (P : Pic o V J p1 p2 cap hp) {i : Nat} (hi : i < 30) (x : Int32) : xm_wi hp (o + 8) (nI i) x = some (pw o J p1 p2 hp 8 (upd (V 8) i x)) := by unfold xm_wi; rw [(P.1 8 (by decide) (by decide) (by decide))]; simp only [pc_e, xm_oo hi (by decide), nI_clamp (show i < 2 ^ 31 by omega)]; rfl
theorem pai_9 (P : Pic o V J p1 p2 cap hp) {i : Nat} (hi : i < 30) : xm_ai hp (o + 9) (nI i) = some (V 9 i) := by unfold xm_ai; rw [(P.1 9 (by decide) (by decide) (by decide))]; simp only [pc_e, xm_oo hi (by decide), nI_clamp (show i < 2 ^ 31 by omega)]; rfl
theorem pwi_9 (P : Pic o V J p1 p2 cap hp) {i : Nat} (hi : i < 30) (x : Int32) : xm_wi hp (o + 9) (nI i) x = some (pw o J p1 p2 hp 9 (upd (V 9) i x)) := by unfold xm_wi; rw [(P.1 9 (by decide) (by decide) (by decide))]; simp only [pc_e, xm_oo hi (by decide), nI_clamp (show i < 2 ^ 31 by omega)]; rfl
theorem pai_10 (P : Pic o V J p1 p2 cap hp) {i : Nat} (hi : i < 30) : xm_ai hp (o + 10) (nI i) = some (V 10 i) := by unfold xm_ai; rw [(P.1 10 (by decide) (by decide) (by decide))]; simp only [pc_e, xm_oo hi (by decide), nI_clamp (show i < 2 ^ 31 by omega)]; rfl
theorem pwi_10 (P : Pic o V J p1 p2 cap hp) {i : Nat} (hi : i < 30) (x : Int32) : xm_wi hp (o + 10) (nI i) x = some (pw o J p1 p2 hp 10 (upd (V 10) i x)) := by unfold xm_wi; rw [(P.1 10 (by decide) (by decide) (by decide))]; simp only [pc_e, xm_oo hi (by decide), nI_clamp (show i < 2 ^ 31 by omega)]; rfl
theorem pcl_11 (P : Pic o V J p1 p2 cap hp) : xm_cls hp (o + 11) = some 5 := by unfold xm_cls; rw [(P.1 11 (by decide) (by decide) (by decide))]; rfl
theorem pf_11_0 (P : Pic o V J p1 p2 cap hp) : xm_fld hp (o + 11) 5 0 = some (.int (V 11 0)) := by unfold xm_fld; rw [(P.1 11 (by decide) (by decide) (by decide))]; rfl
theorem pwf_11_0 (P : Pic o V J p1 p2 cap hp) (x : Int32) : xm_pf hp (o + 11) 5 0 .int (.int x) = some (pw o J p1 p2 hp 11 (upd (V 11) 0 x)) := by unfold xm_pf; rw [(P.1 11 (by decide) (by decide) (by decide))]; exact if_pos ⟨rfl, Nat.le_of_ble_eq_true rfl, rfl, rfl⟩
theorem pf_11_1 (P : Pic o V J p1 p2 cap hp) : xm_fld hp (o + 11) 5 1 = some (.ref (o + 12)) := by unfold xm_fld; rw [(P.1 11 (by decide) (by decide) (by decide))]; rfl
theorem pf_11_2 (P : Pic o V J p1 p2 cap hp) : xm_fld hp (o + 11) 5 2 = some (.ref (o + 13)) := by unfold xm_fld; rw [(P.1 11 (by decide) (by decide) (by decide))]; rfl
theorem pf_11_3 (P : Pic o V J p1 p2 cap hp) : xm_fld hp (o + 11) 5 3 = some (.ref (o + 14)) := by unfold xm_fld; rw [(P.1 11 (by decide) (by decide) (by decide))]; rfl
theorem pf_11_4 (P : Pic o V J p1 p2 cap hp) : xm_fld hp (o + 11) 5 4 = some (.ref (o + 15)) := by unfold xm_fld; rw [(P.1 11 (by decide) (by decide) (by decide))]; rfl
theorem pf_11_5 (P : Pic o V J p1 p2 cap hp) : xm_fld hp (o + 11) 5 5 = some (.ref (o + 16)) := by unfold xm_fld; rw [(P.1 11 (by decide) (by decide) (by decide))]; rfl
theorem pai_12 (P : Pic o V J p1 p2 cap hp) {i : Nat} (hi : i < 40) : xm_ai hp (o + 12) (nI i) = some (V 12 i) := by unfold xm_ai; rw [(P.1 12 (by decide) (by decide) (by decide))]; simp only [pc_e, xm_oo hi (by decide), nI_clamp (show i < 2 ^ 31 by omega)]; rfl
theorem pwi_12 (P : Pic o V J p1 p2 cap hp) {i : Nat} (hi : i < 40) (x : Int32) : xm_wi hp (o + 12) (nI i) x = some (pw o J p1 p2 hp 12 (upd (V 12) i x)) := by unfold xm_wi; rw [(P.1 12 (by decide) (by decide) (by decide))]; simp only [pc_e, xm_oo hi (by decide), nI_clamp (show i < 2 ^ 31 by omega)]; rfl
theorem pai_13 (P : Pic o V J p1 p2 cap hp) {i : Nat} (hi : i < 40) : xm_ai hp (o + 13) (nI i) = some (V 13 i) := by unfold xm_ai; rw [(P.1 13 (by decide) (by decide) (by decide))]; simp only [pc_e, xm_oo hi (by decide), nI_clamp (show i < 2 ^ 31 by omega)]; rfl
theorem pwi_13 (P : Pic o V J p1 p2 cap hp) {i : Nat} (hi : i < 40) (x : Int32) : xm_wi hp (o + 13) (nI i) x = some (pw o J p1 p2 hp 13 (upd (V 13) i x)) := by unfold xm_wi; rw [(P.1 13 (by decide) (by decide) (by decide))]; simp only [pc_e, xm_oo hi (by decide), nI_clamp (show i < 2 ^ 31 by omega)]; rfl
theorem pai_14 (P : Pic o V J p1 p2 cap hp) {i : Nat} (hi : i < 40) : xm_ai hp (o + 14) (nI i) = some (V 14 i) := by unfold xm_ai; rw [(P.1 14 (by decide) (by decide) (by decide))]; simp only [pc_e, xm_oo hi (by decide), nI_clamp (show i < 2 ^ 31 by omega)]; rfl
theorem pwi_14 (P : Pic o V J p1 p2 cap hp) {i : Nat} (hi : i < 40) (x : Int32) : xm_wi hp (o + 14) (nI i) x = some (pw o J p1 p2 hp 14 (upd (V 14) i x)) := by unfold xm_wi; rw [(P.1 14 (by decide) (by decide) (by decide))]; simp only [pc_e, xm_oo hi (by decide), nI_clamp (show i < 2 ^ 31 by omega)]; rfl
theorem pai_15 (P : Pic o V J p1 p2 cap hp) {i : Nat} (hi : i < 40) : xm_ai hp (o + 15) (nI i) = some (V 15 i) := by unfold xm_ai; rw [(P.1 15 (by decide) (by decide) (by decide))]; simp only [pc_e, xm_oo hi (by decide), nI_clamp (show i < 2 ^ 31 by omega)]; rfl
theorem pwi_15 (P : Pic o V J p1 p2 cap hp) {i : Nat} (hi : i < 40) (x : Int32) : xm_wi hp (o + 15) (nI i) x = some (pw o J p1 p2 hp 15 (upd (V 15) i x)) := by unfold xm_wi; rw [(P.1 15 (by decide) (by decide) (by decide))]; simp only [pc_e, xm_oo hi (by decide), nI_clamp (show i < 2 ^ 31 by omega)]; rfl
theorem pai_16 (P : Pic o V J p1 p2 cap hp) {i : Nat} (hi : i < 40) : xm_ai hp (o + 16) (nI i) = some (V 16 i) := by unfold xm_ai; rw [(P.1 16 (by decide) (by decide) (by decide))]; simp only [pc_e, xm_oo hi (by decide), nI_clamp (show i < 2 ^ 31 by omega)]; rfl
theorem pwi_16 (P : Pic o V J p1 p2 cap hp) {i : Nat} (hi : i < 40) (x : Int32) : xm_wi hp (o + 16) (nI i) x = some (pw o J p1 p2 hp 16 (upd (V 16) i x)) := by unfold xm_wi; rw [(P.1 16 (by decide) (by decide) (by decide))]; simp only [pc_e, xm_oo hi (by decide), nI_clamp (show i < 2 ^ 31 by omega)]; rfl
theorem pcl_17 (P : Pic o V J p1 p2 cap hp) : xm_cls hp (o + 17) = some 1 := by unfold xm_cls; rw [(P.1 17 (by decide) (by decide) (by decide))]; rfl
theorem pf_17_0 (P : Pic o V J p1 p2 cap hp) : xm_fld hp (o + 17) 1 0 = some (.int (V 17 0)) := by unfold xm_fld; rw [(P.1 17 (by decide) (by decide) (by decide))]; rfl
theorem pwf_17_0 (P : Pic o V J p1 p2 cap hp) (x : Int32) : xm_pf hp (o + 17) 1 0 .int (.int x) = some (pw o J p1 p2 hp 17 (upd (V 17) 0 x)) := by unfold xm_pf; rw [(P.1 17 (by decide) (by decide) (by decide))]; exact if_pos ⟨rfl, Nat.le_of_ble_eq_true rfl, rfl, rfl⟩
theorem pf_17_1 (P : Pic o V J p1 p2 cap hp) : xm_fld hp (o + 17) 1 1 = some (.ref (o + 18)) := by unfold xm_fld; rw [(P.1 17 (by decide) (by decide) (by decide))]; rfl
theorem pf_17_2 (P : Pic o V J p1 p2 cap hp) : xm_fld hp (o + 17) 1 2 = some (.ref (o + 19)) := by unfold xm_fld; rw [(P.1 17 (by decide) (by decide) (by decide))]; rfl
theorem pf_17_3 (P : Pic o V J p1 p2 cap hp) : xm_fld hp (o + 17) 1 3 = some (.ref (o + 20)) := by unfold xm_fld; rw [(P.1 17 (by decide) (by decide) (by decide))]; rfl
theorem pf_17_4 (P : Pic o V J p1 p2 cap hp) : xm_fld hp (o + 17) 1 4 = some (.ref (o + 21)) := by unfold xm_fld; rw [(P.1 17 (by decide) (by decide) (by decide))]; rfl
theorem pf_17_5 (P : Pic o V J p1 p2 cap hp) : xm_fld hp (o + 17) 1 5 = some (.ref (o + 22)) := by unfold xm_fld; rw [(P.1 17 (by decide) (by decide) (by decide))]; rfl
theorem pai_18 (P : Pic o V J p1 p2 cap hp) {i : Nat} (hi : i < 60) : xm_ai hp (o + 18) (nI i) = some (V 18 i) := by unfold xm_ai; rw [(P.1 18 (by decide) (by decide) (by decide))]; simp only [pc_e, xm_oo hi (by decide), nI_clamp (show i < 2 ^ 31 by omega)]; rfl
theorem pwi_18 (P : Pic o V J p1 p2 cap hp) {i : Nat} (hi : i < 60) (x : Int32) : xm_wi hp (o + 18) (nI i) x = some (pw o J p1 p2 hp 18 (upd (V 18) i x)) := by unfold xm_wi; rw [(P.1 18 (by decide) (by decide) (by decide))]; simp only [pc_e, xm_oo hi (by decide), nI_clamp (show i < 2 ^ 31 by omega)]; rfl
theorem pai_19 (P : Pic o V J p1 p2 cap hp) {i : Nat} (hi : i < 60) : xm_ai hp (o + 19) (nI i) = some (V 19 i) := by unfold xm_ai; rw [(P.1 19 (by decide) (by decide) (by decide))]; simp only [pc_e, xm_oo hi (by decide), nI_clamp (show i < 2 ^ 31 by omega)]; rfl
theorem pwi_19 (P : Pic o V J p1 p2 cap hp) {i : Nat} (hi : i < 60) (x : Int32) : xm_wi hp (o + 19) (nI i) x = some (pw o J p1 p2 hp 19 (upd (V 19) i x)) := by unfold xm_wi; rw [(P.1 19 (by decide) (by decide) (by decide))]; simp only [pc_e, xm_oo hi (by decide), nI_clamp (show i < 2 ^ 31 by omega)]; rfl
theorem pai_20 (P : Pic o V J p1 p2 cap hp) {i : Nat} (hi : i < 60) : xm_ai hp (o + 20) (nI i) = some (V 20 i) := by unfold xm_ai; rw [(P.1 20 (by decide) (by decide) (by decide))]; simp only [pc_e, xm_oo hi (by decide), nI_clamp (show i < 2 ^ 31 by omega)]; rfl
theorem pwi_20 (P : Pic o V J p1 p2 cap hp) {i : Nat} (hi : i < 60) (x : Int32) : xm_wi hp (o + 20) (nI i) x = some (pw o J p1 p2 hp 20 (upd (V 20) i x)) := by unfold xm_wi; rw [(P.1 20 (by decide) (by decide) (by decide))]; simp only [pc_e, xm_oo hi (by decide), nI_clamp (show i < 2 ^ 31 by omega)]; rfl
theorem paz_21 (P : Pic o V J p1 p2 cap hp) {i : Nat} (hi : i < 60) : xm_az hp (o + 21) (nI i) = some (V 21 i) := by unfold xm_az; rw [(P.1 21 (by decide) (by decide) (by decide))]; simp only [pc_e, xm_oo hi (by decide), nI_clamp (show i < 2 ^ 31 by omega)]; rfl
theorem pwz_21 (P : Pic o V J p1 p2 cap hp) {i : Nat} (hi : i < 60) (x : Int32) : xm_wz hp (o + 21) (nI i) x = some (pw o J p1 p2 hp 21 (upd (V 21) i (vp_nar .boolean x))) := by unfold xm_wz; rw [(P.1 21 (by decide) (by decide) (by decide))]; simp only [pc_e, xm_oo hi (by decide), nI_clamp (show i < 2 ^ 31 by omega)]; rfl
theorem pai_22 (P : Pic o V J p1 p2 cap hp) {i : Nat} (hi : i < 60) : xm_ai hp (o + 22) (nI i) = some (V 22 i) := by unfold xm_ai; rw [(P.1 22 (by decide) (by decide) (by decide))]; simp only [pc_e, xm_oo hi (by decide), nI_clamp (show i < 2 ^ 31 by omega)]; rfl
theorem pwi_22 (P : Pic o V J p1 p2 cap hp) {i : Nat} (hi : i < 60) (x : Int32) : xm_wi hp (o + 22) (nI i) x = some (pw o J p1 p2 hp 22 (upd (V 22) i x)) := by unfold xm_wi; rw [(P.1 22 (by decide) (by decide) (by decide))]; simp only [pc_e, xm_oo hi (by decide), nI_clamp (show i < 2 ^ 31 by omega)]; rfl
theorem pcl_23 (P : Pic o V J p1 p2 cap hp) : xm_cls hp (o + 23) = some 6 := by unfold xm_cls; rw [(P.1 23 (by decide) (by decide) (by decide))]; rfl
theorem pf_23_0 (P : Pic o V J p1 p2 cap hp) : xm_fld hp (o + 23) 6 0 = some (.int (V 23 0)) := by unfold xm_fld; rw [(P.1 23 (by decide) (by decide) (by decide))]; rfl
theorem pwf_23_0 (P : Pic o V J p1 p2 cap hp) (x : Int32) : xm_pf hp (o + 23) 6 0 .int (.int x) = some (pw o J p1 p2 hp 23 (upd (V 23) 0 x)) := by unfold xm_pf; rw [(P.1 23 (by decide) (by decide) (by decide))]; exact if_pos ⟨rfl, Nat.le_of_ble_eq_true rfl, rfl, rfl⟩
theorem pf_23_1 (P : Pic o V J p1 p2 cap hp) : xm_fld hp (o + 23) 6 1 = some (.ref (o + 24)) := by unfold xm_fld; rw [(P.1 23 (by decide) (by decide) (by decide))]; rfl
theorem pf_23_2 (P : Pic o V J p1 p2 cap hp) : xm_fld hp (o + 23) 6 2 = some (.ref (o + 25)) := by unfold xm_fld; rw [(P.1 23 (by decide) (by decide) (by decide))]; rfl
theorem pf_23_3 (P : Pic o V J p1 p2 cap hp) : xm_fld hp (o + 23) 6 3 = some (.ref (o + 26)) := by unfold xm_fld; rw [(P.1 23 (by decide) (by decide) (by decide))]; rfl
theorem pf_23_4 (P : Pic o V J p1 p2 cap hp) : xm_fld hp (o + 23) 6 4 = some (.ref (o + 27)) := by unfold xm_fld; rw [(P.1 23 (by decide) (by decide) (by decide))]; rfl
theorem pf_23_5 (P : Pic o V J p1 p2 cap hp) : xm_fld hp (o + 23) 6 5 = some (.ref (o + 28)) := by unfold xm_fld; rw [(P.1 23 (by decide) (by decide) (by decide))]; rfl
theorem pai_24 (P : Pic o V J p1 p2 cap hp) {i : Nat} (hi : i < 12) : xm_ai hp (o + 24) (nI i) = some (V 24 i) := by unfold xm_ai; rw [(P.1 24 (by decide) (by decide) (by decide))]; simp only [pc_e, xm_oo hi (by decide), nI_clamp (show i < 2 ^ 31 by omega)]; rfl
theorem pwi_24 (P : Pic o V J p1 p2 cap hp) {i : Nat} (hi : i < 12) (x : Int32) : xm_wi hp (o + 24) (nI i) x = some (pw o J p1 p2 hp 24 (upd (V 24) i x)) := by unfold xm_wi; rw [(P.1 24 (by decide) (by decide) (by decide))]; simp only [pc_e, xm_oo hi (by decide), nI_clamp (show i < 2 ^ 31 by omega)]; rfl
theorem pai_25 (P : Pic o V J p1 p2 cap hp) {i : Nat} (hi : i < 12) : xm_ai hp (o + 25) (nI i) = some (V 25 i) := by unfold xm_ai; rw [(P.1 25 (by decide) (by decide) (by decide))]; simp only [pc_e, xm_oo hi (by decide), nI_clamp (show i < 2 ^ 31 by omega)]; rfl
theorem pwi_25 (P : Pic o V J p1 p2 cap hp) {i : Nat} (hi : i < 12) (x : Int32) : xm_wi hp (o + 25) (nI i) x = some (pw o J p1 p2 hp 25 (upd (V 25) i x)) := by unfold xm_wi; rw [(P.1 25 (by decide) (by decide) (by decide))]; simp only [pc_e, xm_oo hi (by decide), nI_clamp (show i < 2 ^ 31 by omega)]; rfl
theorem pai_26 (P : Pic o V J p1 p2 cap hp) {i : Nat} (hi : i < 120) : xm_ai hp (o + 26) (nI i) = some (V 26 i) := by unfold xm_ai; rw [(P.1 26 (by decide) (by decide) (by decide))]; simp only [pc_e, xm_oo hi (by decide), nI_clamp (show i < 2 ^ 31 by omega)]; rfl
theorem pwi_26 (P : Pic o V J p1 p2 cap hp) {i : Nat} (hi : i < 120) (x : Int32) : xm_wi hp (o + 26) (nI i) x = some (pw o J p1 p2 hp 26 (upd (V 26) i x)) := by unfold xm_wi; rw [(P.1 26 (by decide) (by decide) (by decide))]; simp only [pc_e, xm_oo hi (by decide), nI_clamp (show i < 2 ^ 31 by omega)]; rfl
theorem pai_27 (P : Pic o V J p1 p2 cap hp) {i : Nat} (hi : i < 120) : xm_ai hp (o + 27) (nI i) = some (V 27 i) := by unfold xm_ai; rw [(P.1 27 (by decide) (by decide) (by decide))]; simp only [pc_e, xm_oo hi (by decide), nI_clamp (show i < 2 ^ 31 by omega)]; rfl
theorem pwi_27 (P : Pic o V J p1 p2 cap hp) {i : Nat} (hi : i < 120) (x : Int32) : xm_wi hp (o + 27) (nI i) x = some (pw o J p1 p2 hp 27 (upd (V 27) i x)) := by unfold xm_wi; rw [(P.1 27 (by decide) (by decide) (by decide))]; simp only [pc_e, xm_oo hi (by decide), nI_clamp (show i < 2 ^ 31 by omega)]; rfl
theorem pai_28 (P : Pic o V J p1 p2 cap hp) {i : Nat} (hi : i < 120) : xm_ai hp (o + 28) (nI i) = some (V 28 i) := by unfold xm_ai; rw [(P.1 28 (by decide) (by decide) (by decide))]; simp only [pc_e, xm_oo hi (by decide), nI_clamp (show i < 2 ^ 31 by omega)]; rfl
theorem pwi_28 (P : Pic o V J p1 p2 cap hp) {i : Nat} (hi : i < 120) (x : Int32) : xm_wi hp (o + 28) (nI i) x = some (pw o J p1 p2 hp 28 (upd (V 28) i x)) := by unfold xm_wi; rw [(P.1 28 (by decide) (by decide) (by decide))]; simp only [pc_e, xm_oo hi (by decide), nI_clamp (show i < 2 ^ 31 by omega)]; rfl
theorem pcl_29 (P : Pic o V J p1 p2 cap hp) : xm_cls hp (o + 29) = some 4 := by unfold xm_cls; rw [(P.1 29 (by decide) (by decide) (by decide))]; rfl
theorem pf_29_0 (P : Pic o V J p1 p2 cap hp) : xm_fld hp (o + 29) 4 0 = some (.int (V 29 0)) := by unfold xm_fld; rw [(P.1 29 (by decide) (by decide) (by decide))]; rfl
theorem pwf_29_0 (P : Pic o V J p1 p2 cap hp) (x : Int32) : xm_pf hp (o + 29) 4 0 .int (.int x) = some (pw o J p1 p2 hp 29 (upd (V 29) 0 x)) := by unfold xm_pf; rw [(P.1 29 (by decide) (by decide) (by decide))]; exact if_pos ⟨rfl, Nat.le_of_ble_eq_true rfl, rfl, rfl⟩
theorem pf_29_1 (P : Pic o V J p1 p2 cap hp) : xm_fld hp (o + 29) 4 1 = some (.ref (o + 30)) := by unfold xm_fld; rw [(P.1 29 (by decide) (by decide) (by decide))]; rfl
theorem pf_29_2 (P : Pic o V J p1 p2 cap hp) : xm_fld hp (o + 29) 4 2 = some (.ref p1) := by unfold xm_fld; rw [(P.1 29 (by decide) (by decide) (by decide))]; rfl
theorem pf_29_3 (P : Pic o V J p1 p2 cap hp) : xm_fld hp (o + 29) 4 3 = some (.ref p2) := by unfold xm_fld; rw [(P.1 29 (by decide) (by decide) (by decide))]; rfl
theorem paj_30 (P : Pic o V J p1 p2 cap hp) {i : Nat} (hi : i < 12) : xm_aj hp (o + 30) (nI i) = some (J i) := by unfold xm_aj; rw [(P.1 30 (by decide) (by decide) (by decide))]; simp only [pc_e, xm_oo hi (by decide), nI_clamp (show i < 2 ^ 31 by omega)]; rfl
theorem pwj_30 (P : Pic o V J p1 p2 cap hp) {i : Nat} (hi : i < 12) (x : Int64) : xm_wj hp (o + 30) (nI i) x = some (xm_up hp (o + 30) (.inl (.long, 12, .inr (.inl (vp_updL J i x))))) := by unfold xm_wj; rw [(P.1 30 (by decide) (by decide) (by decide))]; simp only [pc_e, xm_oo hi (by decide), nI_clamp (show i < 2 ^ 31 by omega)]; rfl
theorem pcl_33 (P : Pic o V J p1 p2 cap hp) : xm_cls hp (o + 33) = some 0 := by unfold xm_cls; rw [(P.1 33 (by decide) (by decide) (by decide))]; rfl
theorem pf_33_0 (P : Pic o V J p1 p2 cap hp) : xm_fld hp (o + 33) 0 0 = some (.int (V 33 0)) := by unfold xm_fld; rw [(P.1 33 (by decide) (by decide) (by decide))]; rfl
theorem pwf_33_0 (P : Pic o V J p1 p2 cap hp) (x : Int32) : xm_pf hp (o + 33) 0 0 .int (.int x) = some (pw o J p1 p2 hp 33 (upd (V 33) 0 x)) := by unfold xm_pf; rw [(P.1 33 (by decide) (by decide) (by decide))]; exact if_pos ⟨rfl, Nat.le_of_ble_eq_true rfl, rfl, rfl⟩
theorem pf_33_1 (P : Pic o V J p1 p2 cap hp) : xm_fld hp (o + 33) 0 1 = some (.ref (o + 34)) := by unfold xm_fld; rw [(P.1 33 (by decide) (by decide) (by decide))]; rfl
theorem pf_33_2 (P : Pic o V J p1 p2 cap hp) : xm_fld hp (o + 33) 0 2 = some (.ref (o + 35)) := by unfold xm_fld; rw [(P.1 33 (by decide) (by decide) (by decide))]; rfl
theorem pai_34 (P : Pic o V J p1 p2 cap hp) {i : Nat} (hi : i < 4) : xm_ai hp (o + 34) (nI i) = some (V 34 i) := by unfold xm_ai; rw [(P.1 34 (by decide) (by decide) (by decide))]; simp only [pc_e, xm_oo hi (by decide), nI_clamp (show i < 2 ^ 31 by omega)]; rfl
theorem pwi_34 (P : Pic o V J p1 p2 cap hp) {i : Nat} (hi : i < 4) (x : Int32) : xm_wi hp (o + 34) (nI i) x = some (pw o J p1 p2 hp 34 (upd (V 34) i x)) := by unfold xm_wi; rw [(P.1 34 (by decide) (by decide) (by decide))]; simp only [pc_e, xm_oo hi (by decide), nI_clamp (show i < 2 ^ 31 by omega)]; rfl
theorem pai_35 (P : Pic o V J p1 p2 cap hp) {i : Nat} (hi : i < 4) : xm_ai hp (o + 35) (nI i) = some (V 35 i) := by unfold xm_ai; rw [(P.1 35 (by decide) (by decide) (by decide))]; simp only [pc_e, xm_oo hi (by decide), nI_clamp (show i < 2 ^ 31 by omega)]; rfl
theorem pwi_35 (P : Pic o V J p1 p2 cap hp) {i : Nat} (hi : i < 4) (x : Int32) : xm_wi hp (o + 35) (nI i) x = some (pw o J p1 p2 hp 35 (upd (V 35) i x)) := by unfold xm_wi; rw [(P.1 35 (by decide) (by decide) (by decide))]; simp only [pc_e, xm_oo hi (by decide), nI_clamp (show i < 2 ^ 31 by omega)]; rfl
theorem pcl_36 (P : Pic o V J p1 p2 cap hp) : xm_cls hp (o + 36) = some 8 := by unfold xm_cls; rw [(P.1 36 (by decide) (by decide) (by decide))]; rfl
theorem pf_36_0 (P : Pic o V J p1 p2 cap hp) : xm_fld hp (o + 36) 8 0 = some (.int (V 36 0)) := by unfold xm_fld; rw [(P.1 36 (by decide) (by decide) (by decide))]; rfl
theorem pwf_36_0 (P : Pic o V J p1 p2 cap hp) (x : Int32) : xm_pf hp (o + 36) 8 0 .int (.int x) = some (pw o J p1 p2 hp 36 (upd (V 36) 0 x)) := by unfold xm_pf; rw [(P.1 36 (by decide) (by decide) (by decide))]; exact if_pos ⟨rfl, Nat.le_of_ble_eq_true rfl, rfl, rfl⟩
theorem pf_36_1 (P : Pic o V J p1 p2 cap hp) : xm_fld hp (o + 36) 8 1 = some (.ref (o + 37)) := by unfold xm_fld; rw [(P.1 36 (by decide) (by decide) (by decide))]; rfl
theorem pf_36_2 (P : Pic o V J p1 p2 cap hp) : xm_fld hp (o + 36) 8 2 = some (.int (V 36 2)) := by unfold xm_fld; rw [(P.1 36 (by decide) (by decide) (by decide))]; rfl
theorem pwf_36_2 (P : Pic o V J p1 p2 cap hp) (x : Int32) : xm_pf hp (o + 36) 8 2 .int (.int x) = some (pw o J p1 p2 hp 36 (upd (V 36) 2 x)) := by unfold xm_pf; rw [(P.1 36 (by decide) (by decide) (by decide))]; exact if_pos ⟨rfl, Nat.le_of_ble_eq_true rfl, rfl, rfl⟩
theorem pf_36_3 (P : Pic o V J p1 p2 cap hp) : xm_fld hp (o + 36) 8 3 = some (.ref (o + 38)) := by unfold xm_fld; rw [(P.1 36 (by decide) (by decide) (by decide))]; rfl
theorem pf_36_4 (P : Pic o V J p1 p2 cap hp) : xm_fld hp (o + 36) 8 4 = some (.ref (o + 39)) := by unfold xm_fld; rw [(P.1 36 (by decide) (by decide) (by decide))]; rfl
theorem pf_36_5 (P : Pic o V J p1 p2 cap hp) : xm_fld hp (o + 36) 8 5 = some (.ref (o + 40)) := by unfold xm_fld; rw [(P.1 36 (by decide) (by decide) (by decide))]; rfl
theorem pf_36_6 (P : Pic o V J p1 p2 cap hp) : xm_fld hp (o + 36) 8 6 = some (.ref (o + 41)) := by unfold xm_fld; rw [(P.1 36 (by decide) (by decide) (by decide))]; rfl
theorem pf_36_7 (P : Pic o V J p1 p2 cap hp) : xm_fld hp (o + 36) 8 7 = some (.int (V 36 7)) := by unfold xm_fld; rw [(P.1 36 (by decide) (by decide) (by decide))]; rfl
theorem pwf_36_7 (P : Pic o V J p1 p2 cap hp) (x : Int32) : xm_pf hp (o + 36) 8 7 .int (.int x) = some (pw o J p1 p2 hp 36 (upd (V 36) 7 x)) := by unfold xm_pf; rw [(P.1 36 (by decide) (by decide) (by decide))]; exact if_pos ⟨rfl, Nat.le_of_ble_eq_true rfl, rfl, rfl⟩
theorem pf_36_8 (P : Pic o V J p1 p2 cap hp) : xm_fld hp (o + 36) 8 8 = some (.ref (o + 42)) := by unfold xm_fld; rw [(P.1 36 (by decide) (by decide) (by decide))]; rfl
theorem pf_36_9 (P : Pic o V J p1 p2 cap hp) : xm_fld hp (o + 36) 8 9 = some (.ref (o + 43)) := by unfold xm_fld; rw [(P.1 36 (by decide) (by decide) (by decide))]; rfl
theorem pf_36_10 (P : Pic o V J p1 p2 cap hp) : xm_fld hp (o + 36) 8 10 = some (.ref (o + 44)) := by unfold xm_fld; rw [(P.1 36 (by decide) (by decide) (by decide))]; rfl
theorem pf_36_11 (P : Pic o V J p1 p2 cap hp) : xm_fld hp (o + 36) 8 11 = some (.ref (o + 45)) := by unfold xm_fld; rw [(P.1 36 (by decide) (by decide) (by decide))]; rfl
theorem pf_36_12 (P : Pic o V J p1 p2 cap hp) : xm_fld hp (o + 36) 8 12 = some (.ref (o + 46)) := by unfold xm_fld; rw [(P.1 36 (by decide) (by decide) (by decide))]; rfl
theorem pf_36_13 (P : Pic o V J p1 p2 cap hp) : xm_fld hp (o + 36) 8 13 = some (.int (V 36 13)) := by unfold xm_fld; rw [(P.1 36 (by decide) (by decide) (by decide))]; rfl
theorem pwf_36_13 (P : Pic o V J p1 p2 cap hp) (x : Int32) : xm_pf hp (o + 36) 8 13 .int (.int x) = some (pw o J p1 p2 hp 36 (upd (V 36) 13 x)) := by unfold xm_pf; rw [(P.1 36 (by decide) (by decide) (by decide))]; exact if_pos ⟨rfl, Nat.le_of_ble_eq_true rfl, rfl, rfl⟩
theorem pf_36_14 (P : Pic o V J p1 p2 cap hp) : xm_fld hp (o + 36) 8 14 = some (.ref (o + 47)) := by unfold xm_fld; rw [(P.1 36 (by decide) (by decide) (by decide))]; rfl
theorem pf_36_15 (P : Pic o V J p1 p2 cap hp) : xm_fld hp (o + 36) 8 15 = some (.ref (o + 48)) := by unfold xm_fld; rw [(P.1 36 (by decide) (by decide) (by decide))]; rfl
theorem pf_36_16 (P : Pic o V J p1 p2 cap hp) : xm_fld hp (o + 36) 8 16 = some (.ref (o + 49)) := by unfold xm_fld; rw [(P.1 36 (by decide) (by decide) (by decide))]; rfl
theorem pf_36_17 (P : Pic o V J p1 p2 cap hp) : xm_fld hp (o + 36) 8 17 = some (.ref (o + 50)) := by unfold xm_fld; rw [(P.1 36 (by decide) (by decide) (by decide))]; rfl
theorem pf_36_18 (P : Pic o V J p1 p2 cap hp) : xm_fld hp (o + 36) 8 18 = some (.ref (o + 51)) := by unfold xm_fld; rw [(P.1 36 (by decide) (by decide) (by decide))]; rfl
theorem pf_36_19 (P : Pic o V J p1 p2 cap hp) : xm_fld hp (o + 36) 8 19 = some (.int (V 36 19)) := by unfold xm_fld; rw [(P.1 36 (by decide) (by decide) (by decide))]; rfl
theorem pwf_36_19 (P : Pic o V J p1 p2 cap hp) (x : Int32) : xm_pf hp (o + 36) 8 19 .int (.int x) = some (pw o J p1 p2 hp 36 (upd (V 36) 19 x)) := by unfold xm_pf; rw [(P.1 36 (by decide) (by decide) (by decide))]; exact if_pos ⟨rfl, Nat.le_of_ble_eq_true rfl, rfl, rfl⟩
theorem pf_36_20 (P : Pic o V J p1 p2 cap hp) : xm_fld hp (o + 36) 8 20 = some (.ref (o + 52)) := by unfold xm_fld; rw [(P.1 36 (by decide) (by decide) (by decide))]; rfl
theorem pf_36_21 (P : Pic o V J p1 p2 cap hp) : xm_fld hp (o + 36) 8 21 = some (.ref (o + 53)) := by unfold xm_fld; rw [(P.1 36 (by decide) (by decide) (by decide))]; rfl
theorem pf_36_22 (P : Pic o V J p1 p2 cap hp) : xm_fld hp (o + 36) 8 22 = some (.ref (o + 54)) := by unfold xm_fld; rw [(P.1 36 (by decide) (by decide) (by decide))]; rfl
theorem pf_36_23 (P : Pic o V J p1 p2 cap hp) : xm_fld hp (o + 36) 8 23 = some (.ref (o + 55)) := by unfold xm_fld; rw [(P.1 36 (by decide) (by decide) (by decide))]; rfl
theorem pf_36_24 (P : Pic o V J p1 p2 cap hp) : xm_fld hp (o + 36) 8 24 = some (.ref (o + 56)) := by unfold xm_fld; rw [(P.1 36 (by decide) (by decide) (by decide))]; rfl
theorem pf_36_25 (P : Pic o V J p1 p2 cap hp) : xm_fld hp (o + 36) 8 25 = some (.ref (o + 57)) := by unfold xm_fld; rw [(P.1 36 (by decide) (by decide) (by decide))]; rfl
theorem pf_36_26 (P : Pic o V J p1 p2 cap hp) : xm_fld hp (o + 36) 8 26 = some (.int (V 36 26)) := by unfold xm_fld; rw [(P.1 36 (by decide) (by decide) (by decide))]; rfl
theorem pwf_36_26 (P : Pic o V J p1 p2 cap hp) (x : Int32) : xm_pf hp (o + 36) 8 26 .int (.int x) = some (pw o J p1 p2 hp 36 (upd (V 36) 26 x)) := by unfold xm_pf; rw [(P.1 36 (by decide) (by decide) (by decide))]; exact if_pos ⟨rfl, Nat.le_of_ble_eq_true rfl, rfl, rfl⟩
theorem pf_36_27 (P : Pic o V J p1 p2 cap hp) : xm_fld hp (o + 36) 8 27 = some (.ref (o + 58)) := by unfold xm_fld; rw [(P.1 36 (by decide) (by decide) (by decide))]; rfl
theorem pf_36_28 (P : Pic o V J p1 p2 cap hp) : xm_fld hp (o + 36) 8 28 = some (.ref (o + 59)) := by unfold xm_fld; rw [(P.1 36 (by decide) (by decide) (by decide))]; rfl
theorem pf_36_29 (P : Pic o V J p1 p2 cap hp) : xm_fld hp (o + 36) 8 29 = some (.ref (o + 60)) := by unfold xm_fld; rw [(P.1 36 (by decide) (by decide) (by decide))]; rfl
theorem pf_36_30 (P : Pic o V J p1 p2 cap hp) : xm_fld hp (o + 36) 8 30 = some (.int (V 36 30)) := by unfold xm_fld; rw [(P.1 36 (by decide) (by decide) (by decide))]; rfl
theorem pwf_36_30 (P : Pic o V J p1 p2 cap hp) (x : Int32) : xm_pf hp (o + 36) 8 30 .int (.int x) = some (pw o J p1 p2 hp 36 (upd (V 36) 30 x)) := by unfold xm_pf; rw [(P.1 36 (by decide) (by decide) (by decide))]; exact if_pos ⟨rfl, Nat.le_of_ble_eq_true rfl, rfl, rfl⟩
theorem pf_36_31 (P : Pic o V J p1 p2 cap hp) : xm_fld hp (o + 36) 8 31 = some (.ref (o + 61)) := by unfold xm_fld; rw [(P.1 36 (by decide) (by decide) (by decide))]; rfl
theorem pf_36_32 (P : Pic o V J p1 p2 cap hp) : xm_fld hp (o + 36) 8 32 = some (.ref (o + 62)) := by unfold xm_fld; rw [(P.1 36 (by decide) (by decide) (by decide))]; rfl
theorem pf_36_33 (P : Pic o V J p1 p2 cap hp) : xm_fld hp (o + 36) 8 33 = some (.ref (o + 63)) := by unfold xm_fld; rw [(P.1 36 (by decide) (by decide) (by decide))]; rfl
theorem pai_37 (P : Pic o V J p1 p2 cap hp) {i : Nat} (hi : i < 144) : xm_ai hp (o + 37) (nI i) = some (V 37 i) := by unfold xm_ai; rw [(P.1 37 (by decide) (by decide) (by decide))]; simp only [pc_e, xm_oo hi (by decide), nI_clamp (show i < 2 ^ 31 by omega)]; rfl
theorem pwi_37 (P : Pic o V J p1 p2 cap hp) {i : Nat} (hi : i < 144) (x : Int32) : xm_wi hp (o + 37) (nI i) x = some (pw o J p1 p2 hp 37 (upd (V 37) i x)) := by unfold xm_wi; rw [(P.1 37 (by decide) (by decide) (by decide))]; simp only [pc_e, xm_oo hi (by decide), nI_clamp (show i < 2 ^ 31 by omega)]; rfl
theorem pai_38 (P : Pic o V J p1 p2 cap hp) {i : Nat} (hi : i < 30) : xm_ai hp (o + 38) (nI i) = some (V 38 i) := by unfold xm_ai; rw [(P.1 38 (by decide) (by decide) (by decide))]; simp only [pc_e, xm_oo hi (by decide), nI_clamp (show i < 2 ^ 31 by omega)]; rfl
theorem pwi_38 (P : Pic o V J p1 p2 cap hp) {i : Nat} (hi : i < 30) (x : Int32) : xm_wi hp (o + 38) (nI i) x = some (pw o J p1 p2 hp 38 (upd (V 38) i x)) := by unfold xm_wi; rw [(P.1 38 (by decide) (by decide) (by decide))]; simp only [pc_e, xm_oo hi (by decide), nI_clamp (show i < 2 ^ 31 by omega)]; rfl
theorem pai_39 (P : Pic o V J p1 p2 cap hp) {i : Nat} (hi : i < 30) : xm_ai hp (o + 39) (nI i) = some (V 39 i) := by unfold xm_ai; rw [(P.1 39 (by decide) (by decide) (by decide))]; simp only [pc_e, xm_oo hi (by decide), nI_clamp (show i < 2 ^ 31 by omega)]; rfl
theorem pwi_39 (P : Pic o V J p1 p2 cap hp) {i : Nat} (hi : i < 30) (x : Int32) : xm_wi hp (o + 39) (nI i) x = some (pw o J p1 p2 hp 39 (upd (V 39) i x)) := by unfold xm_wi; rw [(P.1 39 (by decide) (by decide) (by decide))]; simp only [pc_e, xm_oo hi (by decide), nI_clamp (show i < 2 ^ 31 by omega)]; rfl
theorem paz_40 (P : Pic o V J p1 p2 cap hp) {i : Nat} (hi : i < 390) : xm_az hp (o + 40) (nI i) = some (V 40 i) := by unfold xm_az; rw [(P.1 40 (by decide) (by decide) (by decide))]; simp only [pc_e, xm_oo hi (by decide), nI_clamp (show i < 2 ^ 31 by omega)]; rfl
theorem pwz_40 (P : Pic o V J p1 p2 cap hp) {i : Nat} (hi : i < 390) (x : Int32) : xm_wz hp (o + 40) (nI i) x = some (pw o J p1 p2 hp 40 (upd (V 40) i (vp_nar .boolean x))) := by unfold xm_wz; rw [(P.1 40 (by decide) (by decide) (by decide))]; simp only [pc_e, xm_oo hi (by decide), nI_clamp (show i < 2 ^ 31 by omega)]; rfl
theorem paz_41 (P : Pic o V J p1 p2 cap hp) {i : Nat} (hi : i < 390) : xm_az hp (o + 41) (nI i) = some (V 41 i) := by unfold xm_az; rw [(P.1 41 (by decide) (by decide) (by decide))]; simp only [pc_e, xm_oo hi (by decide), nI_clamp (show i < 2 ^ 31 by omega)]; rfl
theorem pwz_41 (P : Pic o V J p1 p2 cap hp) {i : Nat} (hi : i < 390) (x : Int32) : xm_wz hp (o + 41) (nI i) x = some (pw o J p1 p2 hp 41 (upd (V 41) i (vp_nar .boolean x))) := by unfold xm_wz; rw [(P.1 41 (by decide) (by decide) (by decide))]; simp only [pc_e, xm_oo hi (by decide), nI_clamp (show i < 2 ^ 31 by omega)]; rfl
theorem pai_42 (P : Pic o V J p1 p2 cap hp) {i : Nat} (hi : i < 40) : xm_ai hp (o + 42) (nI i) = some (V 42 i) := by unfold xm_ai; rw [(P.1 42 (by decide) (by decide) (by decide))]; simp only [pc_e, xm_oo hi (by decide), nI_clamp (show i < 2 ^ 31 by omega)]; rfl
theorem pwi_42 (P : Pic o V J p1 p2 cap hp) {i : Nat} (hi : i < 40) (x : Int32) : xm_wi hp (o + 42) (nI i) x = some (pw o J p1 p2 hp 42 (upd (V 42) i x)) := by unfold xm_wi; rw [(P.1 42 (by decide) (by decide) (by decide))]; simp only [pc_e, xm_oo hi (by decide), nI_clamp (show i < 2 ^ 31 by omega)]; rfl
theorem pai_43 (P : Pic o V J p1 p2 cap hp) {i : Nat} (hi : i < 40) : xm_ai hp (o + 43) (nI i) = some (V 43 i) := by unfold xm_ai; rw [(P.1 43 (by decide) (by decide) (by decide))]; simp only [pc_e, xm_oo hi (by decide), nI_clamp (show i < 2 ^ 31 by omega)]; rfl
theorem pwi_43 (P : Pic o V J p1 p2 cap hp) {i : Nat} (hi : i < 40) (x : Int32) : xm_wi hp (o + 43) (nI i) x = some (pw o J p1 p2 hp 43 (upd (V 43) i x)) := by unfold xm_wi; rw [(P.1 43 (by decide) (by decide) (by decide))]; simp only [pc_e, xm_oo hi (by decide), nI_clamp (show i < 2 ^ 31 by omega)]; rfl
theorem pai_44 (P : Pic o V J p1 p2 cap hp) {i : Nat} (hi : i < 40) : xm_ai hp (o + 44) (nI i) = some (V 44 i) := by unfold xm_ai; rw [(P.1 44 (by decide) (by decide) (by decide))]; simp only [pc_e, xm_oo hi (by decide), nI_clamp (show i < 2 ^ 31 by omega)]; rfl
theorem pwi_44 (P : Pic o V J p1 p2 cap hp) {i : Nat} (hi : i < 40) (x : Int32) : xm_wi hp (o + 44) (nI i) x = some (pw o J p1 p2 hp 44 (upd (V 44) i x)) := by unfold xm_wi; rw [(P.1 44 (by decide) (by decide) (by decide))]; simp only [pc_e, xm_oo hi (by decide), nI_clamp (show i < 2 ^ 31 by omega)]; rfl
theorem pai_45 (P : Pic o V J p1 p2 cap hp) {i : Nat} (hi : i < 40) : xm_ai hp (o + 45) (nI i) = some (V 45 i) := by unfold xm_ai; rw [(P.1 45 (by decide) (by decide) (by decide))]; simp only [pc_e, xm_oo hi (by decide), nI_clamp (show i < 2 ^ 31 by omega)]; rfl
theorem pwi_45 (P : Pic o V J p1 p2 cap hp) {i : Nat} (hi : i < 40) (x : Int32) : xm_wi hp (o + 45) (nI i) x = some (pw o J p1 p2 hp 45 (upd (V 45) i x)) := by unfold xm_wi; rw [(P.1 45 (by decide) (by decide) (by decide))]; simp only [pc_e, xm_oo hi (by decide), nI_clamp (show i < 2 ^ 31 by omega)]; rfl
theorem pai_46 (P : Pic o V J p1 p2 cap hp) {i : Nat} (hi : i < 40) : xm_ai hp (o + 46) (nI i) = some (V 46 i) := by unfold xm_ai; rw [(P.1 46 (by decide) (by decide) (by decide))]; simp only [pc_e, xm_oo hi (by decide), nI_clamp (show i < 2 ^ 31 by omega)]; rfl
theorem pwi_46 (P : Pic o V J p1 p2 cap hp) {i : Nat} (hi : i < 40) (x : Int32) : xm_wi hp (o + 46) (nI i) x = some (pw o J p1 p2 hp 46 (upd (V 46) i x)) := by unfold xm_wi; rw [(P.1 46 (by decide) (by decide) (by decide))]; simp only [pc_e, xm_oo hi (by decide), nI_clamp (show i < 2 ^ 31 by omega)]; rfl
theorem pai_47 (P : Pic o V J p1 p2 cap hp) {i : Nat} (hi : i < 60) : xm_ai hp (o + 47) (nI i) = some (V 47 i) := by unfold xm_ai; rw [(P.1 47 (by decide) (by decide) (by decide))]; simp only [pc_e, xm_oo hi (by decide), nI_clamp (show i < 2 ^ 31 by omega)]; rfl
theorem pwi_47 (P : Pic o V J p1 p2 cap hp) {i : Nat} (hi : i < 60) (x : Int32) : xm_wi hp (o + 47) (nI i) x = some (pw o J p1 p2 hp 47 (upd (V 47) i x)) := by unfold xm_wi; rw [(P.1 47 (by decide) (by decide) (by decide))]; simp only [pc_e, xm_oo hi (by decide), nI_clamp (show i < 2 ^ 31 by omega)]; rfl
theorem pai_48 (P : Pic o V J p1 p2 cap hp) {i : Nat} (hi : i < 60) : xm_ai hp (o + 48) (nI i) = some (V 48 i) := by unfold xm_ai; rw [(P.1 48 (by decide) (by decide) (by decide))]; simp only [pc_e, xm_oo hi (by decide), nI_clamp (show i < 2 ^ 31 by omega)]; rfl
theorem pwi_48 (P : Pic o V J p1 p2 cap hp) {i : Nat} (hi : i < 60) (x : Int32) : xm_wi hp (o + 48) (nI i) x = some (pw o J p1 p2 hp 48 (upd (V 48) i x)) := by unfold xm_wi; rw [(P.1 48 (by decide) (by decide) (by decide))]; simp only [pc_e, xm_oo hi (by decide), nI_clamp (show i < 2 ^ 31 by omega)]; rfl
theorem pai_49 (P : Pic o V J p1 p2 cap hp) {i : Nat} (hi : i < 60) : xm_ai hp (o + 49) (nI i) = some (V 49 i) := by unfold xm_ai; rw [(P.1 49 (by decide) (by decide) (by decide))]; simp only [pc_e, xm_oo hi (by decide), nI_clamp (show i < 2 ^ 31 by omega)]; rfl
theorem pwi_49 (P : Pic o V J p1 p2 cap hp) {i : Nat} (hi : i < 60) (x : Int32) : xm_wi hp (o + 49) (nI i) x = some (pw o J p1 p2 hp 49 (upd (V 49) i x)) := by unfold xm_wi; rw [(P.1 49 (by decide) (by decide) (by decide))]; simp only [pc_e, xm_oo hi (by decide), nI_clamp (show i < 2 ^ 31 by omega)]; rfl
theorem paz_50 (P : Pic o V J p1 p2 cap hp) {i : Nat} (hi : i < 60) : xm_az hp (o + 50) (nI i) = some (V 50 i) := by unfold xm_az; rw [(P.1 50 (by decide) (by decide) (by decide))]; simp only [pc_e, xm_oo hi (by decide), nI_clamp (show i < 2 ^ 31 by omega)]; rfl
theorem pwz_50 (P : Pic o V J p1 p2 cap hp) {i : Nat} (hi : i < 60) (x : Int32) : xm_wz hp (o + 50) (nI i) x = some (pw o J p1 p2 hp 50 (upd (V 50) i (vp_nar .boolean x))) := by unfold xm_wz; rw [(P.1 50 (by decide) (by decide) (by decide))]; simp only [pc_e, xm_oo hi (by decide), nI_clamp (show i < 2 ^ 31 by omega)]; rfl
theorem pai_51 (P : Pic o V J p1 p2 cap hp) {i : Nat} (hi : i < 60) : xm_ai hp (o + 51) (nI i) = some (V 51 i) := by unfold xm_ai; rw [(P.1 51 (by decide) (by decide) (by decide))]; simp only [pc_e, xm_oo hi (by decide), nI_clamp (show i < 2 ^ 31 by omega)]; rfl
theorem pwi_51 (P : Pic o V J p1 p2 cap hp) {i : Nat} (hi : i < 60) (x : Int32) : xm_wi hp (o + 51) (nI i) x = some (pw o J p1 p2 hp 51 (upd (V 51) i x)) := by unfold xm_wi; rw [(P.1 51 (by decide) (by decide) (by decide))]; simp only [pc_e, xm_oo hi (by decide), nI_clamp (show i < 2 ^ 31 by omega)]; rfl
theorem pai_52 (P : Pic o V J p1 p2 cap hp) {i : Nat} (hi : i < 12) : xm_ai hp (o + 52) (nI i) = some (V 52 i) := by unfold xm_ai; rw [(P.1 52 (by decide) (by decide) (by decide))]; simp only [pc_e, xm_oo hi (by decide), nI_clamp (show i < 2 ^ 31 by omega)]; rfl
theorem pwi_52 (P : Pic o V J p1 p2 cap hp) {i : Nat} (hi : i < 12) (x : Int32) : xm_wi hp (o + 52) (nI i) x = some (pw o J p1 p2 hp 52 (upd (V 52) i x)) := by unfold xm_wi; rw [(P.1 52 (by decide) (by decide) (by decide))]; simp only [pc_e, xm_oo hi (by decide), nI_clamp (show i < 2 ^ 31 by omega)]; rfl
theorem pai_53 (P : Pic o V J p1 p2 cap hp) {i : Nat} (hi : i < 12) : xm_ai hp (o + 53) (nI i) = some (V 53 i) := by unfold xm_ai; rw [(P.1 53 (by decide) (by decide) (by decide))]; simp only [pc_e, xm_oo hi (by decide), nI_clamp (show i < 2 ^ 31 by omega)]; rfl
theorem pwi_53 (P : Pic o V J p1 p2 cap hp) {i : Nat} (hi : i < 12) (x : Int32) : xm_wi hp (o + 53) (nI i) x = some (pw o J p1 p2 hp 53 (upd (V 53) i x)) := by unfold xm_wi; rw [(P.1 53 (by decide) (by decide) (by decide))]; simp only [pc_e, xm_oo hi (by decide), nI_clamp (show i < 2 ^ 31 by omega)]; rfl
theorem pai_54 (P : Pic o V J p1 p2 cap hp) {i : Nat} (hi : i < 120) : xm_ai hp (o + 54) (nI i) = some (V 54 i) := by unfold xm_ai; rw [(P.1 54 (by decide) (by decide) (by decide))]; simp only [pc_e, xm_oo hi (by decide), nI_clamp (show i < 2 ^ 31 by omega)]; rfl
theorem pwi_54 (P : Pic o V J p1 p2 cap hp) {i : Nat} (hi : i < 120) (x : Int32) : xm_wi hp (o + 54) (nI i) x = some (pw o J p1 p2 hp 54 (upd (V 54) i x)) := by unfold xm_wi; rw [(P.1 54 (by decide) (by decide) (by decide))]; simp only [pc_e, xm_oo hi (by decide), nI_clamp (show i < 2 ^ 31 by omega)]; rfl
theorem pai_55 (P : Pic o V J p1 p2 cap hp) {i : Nat} (hi : i < 120) : xm_ai hp (o + 55) (nI i) = some (V 55 i) := by unfold xm_ai; rw [(P.1 55 (by decide) (by decide) (by decide))]; simp only [pc_e, xm_oo hi (by decide), nI_clamp (show i < 2 ^ 31 by omega)]; rfl
theorem pwi_55 (P : Pic o V J p1 p2 cap hp) {i : Nat} (hi : i < 120) (x : Int32) : xm_wi hp (o + 55) (nI i) x = some (pw o J p1 p2 hp 55 (upd (V 55) i x)) := by unfold xm_wi; rw [(P.1 55 (by decide) (by decide) (by decide))]; simp only [pc_e, xm_oo hi (by decide), nI_clamp (show i < 2 ^ 31 by omega)]; rfl
theorem pai_56 (P : Pic o V J p1 p2 cap hp) {i : Nat} (hi : i < 120) : xm_ai hp (o + 56) (nI i) = some (V 56 i) := by unfold xm_ai; rw [(P.1 56 (by decide) (by decide) (by decide))]; simp only [pc_e, xm_oo hi (by decide), nI_clamp (show i < 2 ^ 31 by omega)]; rfl
theorem pwi_56 (P : Pic o V J p1 p2 cap hp) {i : Nat} (hi : i < 120) (x : Int32) : xm_wi hp (o + 56) (nI i) x = some (pw o J p1 p2 hp 56 (upd (V 56) i x)) := by unfold xm_wi; rw [(P.1 56 (by decide) (by decide) (by decide))]; simp only [pc_e, xm_oo hi (by decide), nI_clamp (show i < 2 ^ 31 by omega)]; rfl
theorem paz_57 (P : Pic o V J p1 p2 cap hp) {i : Nat} (hi : i < 480) : xm_az hp (o + 57) (nI i) = some (V 57 i) := by unfold xm_az; rw [(P.1 57 (by decide) (by decide) (by decide))]; simp only [pc_e, xm_oo hi (by decide), nI_clamp (show i < 2 ^ 31 by omega)]; rfl
theorem pwz_57 (P : Pic o V J p1 p2 cap hp) {i : Nat} (hi : i < 480) (x : Int32) : xm_wz hp (o + 57) (nI i) x = some (pw o J p1 p2 hp 57 (upd (V 57) i (vp_nar .boolean x))) := by unfold xm_wz; rw [(P.1 57 (by decide) (by decide) (by decide))]; simp only [pc_e, xm_oo hi (by decide), nI_clamp (show i < 2 ^ 31 by omega)]; rfl
theorem pai_58 (P : Pic o V J p1 p2 cap hp) {i : Nat} (hi : i < 520) : xm_ai hp (o + 58) (nI i) = some (V 58 i) := by unfold xm_ai; rw [(P.1 58 (by decide) (by decide) (by decide))]; simp only [pc_e, xm_oo hi (by decide), nI_clamp (show i < 2 ^ 31 by omega)]; rfl
theorem pwi_58 (P : Pic o V J p1 p2 cap hp) {i : Nat} (hi : i < 520) (x : Int32) : xm_wi hp (o + 58) (nI i) x = some (pw o J p1 p2 hp 58 (upd (V 58) i x)) := by unfold xm_wi; rw [(P.1 58 (by decide) (by decide) (by decide))]; simp only [pc_e, xm_oo hi (by decide), nI_clamp (show i < 2 ^ 31 by omega)]; rfl
theorem pai_59 (P : Pic o V J p1 p2 cap hp) {i : Nat} (hi : i < 520) : xm_ai hp (o + 59) (nI i) = some (V 59 i) := by unfold xm_ai; rw [(P.1 59 (by decide) (by decide) (by decide))]; simp only [pc_e, xm_oo hi (by decide), nI_clamp (show i < 2 ^ 31 by omega)]; rfl
theorem pwi_59 (P : Pic o V J p1 p2 cap hp) {i : Nat} (hi : i < 520) (x : Int32) : xm_wi hp (o + 59) (nI i) x = some (pw o J p1 p2 hp 59 (upd (V 59) i x)) := by unfold xm_wi; rw [(P.1 59 (by decide) (by decide) (by decide))]; simp only [pc_e, xm_oo hi (by decide), nI_clamp (show i < 2 ^ 31 by omega)]; rfl
theorem pai_60 (P : Pic o V J p1 p2 cap hp) {i : Nat} (hi : i < 520) : xm_ai hp (o + 60) (nI i) = some (V 60 i) := by unfold xm_ai; rw [(P.1 60 (by decide) (by decide) (by decide))]; simp only [pc_e, xm_oo hi (by decide), nI_clamp (show i < 2 ^ 31 by omega)]; rfl
theorem pwi_60 (P : Pic o V J p1 p2 cap hp) {i : Nat} (hi : i < 520) (x : Int32) : xm_wi hp (o + 60) (nI i) x = some (pw o J p1 p2 hp 60 (upd (V 60) i x)) := by unfold xm_wi; rw [(P.1 60 (by decide) (by decide) (by decide))]; simp only [pc_e, xm_oo hi (by decide), nI_clamp (show i < 2 ^ 31 by omega)]; rfl
theorem pai_61 (P : Pic o V J p1 p2 cap hp) {i : Nat} (hi : i < 4) : xm_ai hp (o + 61) (nI i) = some (V 61 i) := by unfold xm_ai; rw [(P.1 61 (by decide) (by decide) (by decide))]; simp only [pc_e, xm_oo hi (by decide), nI_clamp (show i < 2 ^ 31 by omega)]; rfl
theorem pwi_61 (P : Pic o V J p1 p2 cap hp) {i : Nat} (hi : i < 4) (x : Int32) : xm_wi hp (o + 61) (nI i) x = some (pw o J p1 p2 hp 61 (upd (V 61) i x)) := by unfold xm_wi; rw [(P.1 61 (by decide) (by decide) (by decide))]; simp only [pc_e, xm_oo hi (by decide), nI_clamp (show i < 2 ^ 31 by omega)]; rfl
theorem paz_62 (P : Pic o V J p1 p2 cap hp) {i : Nat} (hi : i < 48) : xm_az hp (o + 62) (nI i) = some (V 62 i) := by unfold xm_az; rw [(P.1 62 (by decide) (by decide) (by decide))]; simp only [pc_e, xm_oo hi (by decide), nI_clamp (show i < 2 ^ 31 by omega)]; rfl
theorem pwz_62 (P : Pic o V J p1 p2 cap hp) {i : Nat} (hi : i < 48) (x : Int32) : xm_wz hp (o + 62) (nI i) x = some (pw o J p1 p2 hp 62 (upd (V 62) i (vp_nar .boolean x))) := by unfold xm_wz; rw [(P.1 62 (by decide) (by decide) (by decide))]; simp only [pc_e, xm_oo hi (by decide), nI_clamp (show i < 2 ^ 31 by omega)]; rfl
theorem paz_63 (P : Pic o V J p1 p2 cap hp) {i : Nat} (hi : i < 12) : xm_az hp (o + 63) (nI i) = some (V 63 i) := by unfold xm_az; rw [(P.1 63 (by decide) (by decide) (by decide))]; simp only [pc_e, xm_oo hi (by decide), nI_clamp (show i < 2 ^ 31 by omega)]; rfl
theorem pwz_63 (P : Pic o V J p1 p2 cap hp) {i : Nat} (hi : i < 12) (x : Int32) : xm_wz hp (o + 63) (nI i) x = some (pw o J p1 p2 hp 63 (upd (V 63) i (vp_nar .boolean x))) := by unfold xm_wz; rw [(P.1 63 (by decide) (by decide) (by decide))]; simp only [pc_e, xm_oo hi (by decide), nI_clamp (show i < 2 ^ 31 by omega)]; rfl
end PIC
