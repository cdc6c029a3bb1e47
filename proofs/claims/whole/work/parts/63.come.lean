/-! the reference's scratch row (63) put aside: what is said of V holds of V with another row 63 -/
theorem pv63_0 (V : pc_V) (F : Nat → Int32) : pv_row V 63 F 0 = V 0 := rfl
theorem pv63_1 (V : pc_V) (F : Nat → Int32) : pv_row V 63 F 1 = V 1 := rfl
theorem pv63_2 (V : pc_V) (F : Nat → Int32) : pv_row V 63 F 2 = V 2 := rfl
theorem pv63_3 (V : pc_V) (F : Nat → Int32) : pv_row V 63 F 3 = V 3 := rfl
theorem pv63_4 (V : pc_V) (F : Nat → Int32) : pv_row V 63 F 4 = V 4 := rfl
theorem pv63_5 (V : pc_V) (F : Nat → Int32) : pv_row V 63 F 5 = V 5 := rfl
theorem pv63_6 (V : pc_V) (F : Nat → Int32) : pv_row V 63 F 6 = V 6 := rfl
theorem pv63_7 (V : pc_V) (F : Nat → Int32) : pv_row V 63 F 7 = V 7 := rfl
theorem pv63_8 (V : pc_V) (F : Nat → Int32) : pv_row V 63 F 8 = V 8 := rfl
theorem pv63_9 (V : pc_V) (F : Nat → Int32) : pv_row V 63 F 9 = V 9 := rfl
theorem pv63_10 (V : pc_V) (F : Nat → Int32) : pv_row V 63 F 10 = V 10 := rfl
theorem pv63_11 (V : pc_V) (F : Nat → Int32) : pv_row V 63 F 11 = V 11 := rfl
theorem pv63_12 (V : pc_V) (F : Nat → Int32) : pv_row V 63 F 12 = V 12 := rfl
theorem pv63_13 (V : pc_V) (F : Nat → Int32) : pv_row V 63 F 13 = V 13 := rfl
theorem pv63_14 (V : pc_V) (F : Nat → Int32) : pv_row V 63 F 14 = V 14 := rfl
theorem pv63_15 (V : pc_V) (F : Nat → Int32) : pv_row V 63 F 15 = V 15 := rfl
theorem pv63_16 (V : pc_V) (F : Nat → Int32) : pv_row V 63 F 16 = V 16 := rfl
theorem pv63_17 (V : pc_V) (F : Nat → Int32) : pv_row V 63 F 17 = V 17 := rfl
theorem pv63_18 (V : pc_V) (F : Nat → Int32) : pv_row V 63 F 18 = V 18 := rfl
theorem pv63_19 (V : pc_V) (F : Nat → Int32) : pv_row V 63 F 19 = V 19 := rfl
theorem pv63_20 (V : pc_V) (F : Nat → Int32) : pv_row V 63 F 20 = V 20 := rfl
theorem pv63_21 (V : pc_V) (F : Nat → Int32) : pv_row V 63 F 21 = V 21 := rfl
theorem pv63_22 (V : pc_V) (F : Nat → Int32) : pv_row V 63 F 22 = V 22 := rfl
theorem pv63_23 (V : pc_V) (F : Nat → Int32) : pv_row V 63 F 23 = V 23 := rfl
theorem pv63_24 (V : pc_V) (F : Nat → Int32) : pv_row V 63 F 24 = V 24 := rfl
theorem pv63_25 (V : pc_V) (F : Nat → Int32) : pv_row V 63 F 25 = V 25 := rfl
theorem pv63_26 (V : pc_V) (F : Nat → Int32) : pv_row V 63 F 26 = V 26 := rfl
theorem pv63_27 (V : pc_V) (F : Nat → Int32) : pv_row V 63 F 27 = V 27 := rfl
theorem pv63_28 (V : pc_V) (F : Nat → Int32) : pv_row V 63 F 28 = V 28 := rfl
theorem pv63_29 (V : pc_V) (F : Nat → Int32) : pv_row V 63 F 29 = V 29 := rfl
theorem pv63_30 (V : pc_V) (F : Nat → Int32) : pv_row V 63 F 30 = V 30 := rfl
theorem pv63_31 (V : pc_V) (F : Nat → Int32) : pv_row V 63 F 31 = V 31 := rfl
theorem pv63_32 (V : pc_V) (F : Nat → Int32) : pv_row V 63 F 32 = V 32 := rfl
theorem pv63_33 (V : pc_V) (F : Nat → Int32) : pv_row V 63 F 33 = V 33 := rfl
theorem pv63_34 (V : pc_V) (F : Nat → Int32) : pv_row V 63 F 34 = V 34 := rfl
theorem pv63_35 (V : pc_V) (F : Nat → Int32) : pv_row V 63 F 35 = V 35 := rfl
theorem pv63_36 (V : pc_V) (F : Nat → Int32) : pv_row V 63 F 36 = V 36 := rfl
theorem pv63_37 (V : pc_V) (F : Nat → Int32) : pv_row V 63 F 37 = V 37 := rfl
theorem pv63_38 (V : pc_V) (F : Nat → Int32) : pv_row V 63 F 38 = V 38 := rfl
theorem pv63_39 (V : pc_V) (F : Nat → Int32) : pv_row V 63 F 39 = V 39 := rfl
theorem pv63_40 (V : pc_V) (F : Nat → Int32) : pv_row V 63 F 40 = V 40 := rfl
theorem pv63_41 (V : pc_V) (F : Nat → Int32) : pv_row V 63 F 41 = V 41 := rfl
theorem pv63_42 (V : pc_V) (F : Nat → Int32) : pv_row V 63 F 42 = V 42 := rfl
theorem pv63_43 (V : pc_V) (F : Nat → Int32) : pv_row V 63 F 43 = V 43 := rfl
theorem pv63_44 (V : pc_V) (F : Nat → Int32) : pv_row V 63 F 44 = V 44 := rfl
theorem pv63_45 (V : pc_V) (F : Nat → Int32) : pv_row V 63 F 45 = V 45 := rfl
theorem pv63_46 (V : pc_V) (F : Nat → Int32) : pv_row V 63 F 46 = V 46 := rfl
theorem pv63_47 (V : pc_V) (F : Nat → Int32) : pv_row V 63 F 47 = V 47 := rfl
theorem pv63_48 (V : pc_V) (F : Nat → Int32) : pv_row V 63 F 48 = V 48 := rfl
theorem pv63_49 (V : pc_V) (F : Nat → Int32) : pv_row V 63 F 49 = V 49 := rfl
theorem pv63_50 (V : pc_V) (F : Nat → Int32) : pv_row V 63 F 50 = V 50 := rfl
theorem pv63_51 (V : pc_V) (F : Nat → Int32) : pv_row V 63 F 51 = V 51 := rfl
theorem pv63_52 (V : pc_V) (F : Nat → Int32) : pv_row V 63 F 52 = V 52 := rfl
theorem pv63_53 (V : pc_V) (F : Nat → Int32) : pv_row V 63 F 53 = V 53 := rfl
theorem pv63_54 (V : pc_V) (F : Nat → Int32) : pv_row V 63 F 54 = V 54 := rfl
theorem pv63_55 (V : pc_V) (F : Nat → Int32) : pv_row V 63 F 55 = V 55 := rfl
theorem pv63_56 (V : pc_V) (F : Nat → Int32) : pv_row V 63 F 56 = V 56 := rfl
theorem pv63_57 (V : pc_V) (F : Nat → Int32) : pv_row V 63 F 57 = V 57 := rfl
theorem pv63_58 (V : pc_V) (F : Nat → Int32) : pv_row V 63 F 58 = V 58 := rfl
theorem pv63_59 (V : pc_V) (F : Nat → Int32) : pv_row V 63 F 59 = V 59 := rfl
theorem pv63_60 (V : pc_V) (F : Nat → Int32) : pv_row V 63 F 60 = V 60 := rfl
theorem pv63_61 (V : pc_V) (F : Nat → Int32) : pv_row V 63 F 61 = V 61 := rfl
theorem pv63_62 (V : pc_V) (F : Nat → Int32) : pv_row V 63 F 62 = V 62 := rfl
theorem pv63_63 (V : pc_V) (F : Nat → Int32) : pv_row V 63 F 63 = F := rfl
theorem CInv.c63 {V : pc_V} {cap : Nat} (I : CInv V cap) (F : Nat → Int32) : CInv (pv_row V 63 F) cap := I
theorem Rel.c63 {V : pc_V} {J : Nat → Int64} (R : Rel V J) (F : Nat → Int32) : Rel (pv_row V 63 F) J := R
theorem pv63_pv (V : pc_V) (F G : Nat → Int32) : pv_row (pv_row V 63 F) 63 G = pv_row V 63 G := by
  funext k
  unfold pv_row
  by_cases h : k = 63 <;> simp [h]
section N63
variable {o : Nat} {V : pc_V} {J : Nat → Int64} {Ou : Nat → Option xm_E} {cap : Nat} {hp : xm_H} {F : Nat → Int32}
theorem n_packOf (P : Pm o Ou (pv_row V 63 F) hp) (I : CInv V cap) (R : Rel V J) (m nm : Int32) : xm_call 44 [.ref (o + 36), .int m, .int nm] hp = some (some (.int (oI (xfo (fun p => V 7 p = m ∧ V 8 p = nm) 0 (zP V)))), hp) := m_packOf P (I.c63 F) (R.c63 F) m nm
theorem n_typeOf (P : Pm o Ou (pv_row V 63 F) hp) (I : CInv V cap) (R : Rel V J) (m nm : Int32) : xm_call 45 [.ref (o + 36), .int m, .int nm] hp = some (some (.int (oI (xfo (fun p => V 12 p = m ∧ V 13 p = nm) 0 (zT V)))), hp) := m_typeOf P (I.c63 F) (R.c63 F) m nm
theorem n_ownMember (P : Pm o Ou (pv_row V 63 F) hp) (I : CInv V cap) (R : Rel V J) (t nm kd : Int32) : xm_call 46 [.ref (o + 36), .int t, .int nm, .int kd] hp = some (some (.int (oI (xfo (fun p => V 18 p = t ∧ V 19 p = nm ∧ V 20 p = kd) 0 (zB V)))), hp) := m_ownMember P (I.c63 F) (R.c63 F) t nm kd
theorem n_isOpen (P : Pm o Ou (pv_row V 63 F) hp) (I : CInv V cap) (R : Rel V J) {t : Nat} (ht : t < zT V) : xm_call 47 [.ref (o + 36), .int (nI t)] hp = some (some (.int (xb (¬ V 15 t &&& nI 1 = 0))), hp) := m_isOpen P (I.c63 F) (R.c63 F) ht
theorem n_moduleOf (P : Pm o Ou (pv_row V 63 F) hp) (I : CInv V cap) (R : Rel V J) {t : Nat} (ht : t < zT V) : xm_call 48 [.ref (o + 36), .int (nI t)] hp = some (some (.int (V 7 (ftpk V t))), hp) := m_moduleOf P (I.c63 F) (R.c63 F) ht
theorem n_home (P : Pm o Ou (pv_row V 63 F) hp) (I : CInv V cap) (R : Rel V J) {u : Nat} (hu : u < zU V) : xm_call 55 [.ref (o + 36), .int (nI u)] hp = some (some (.int (V 7 (fupk V u))), hp) := m_home P (I.c63 F) (R.c63 F) hu
theorem n_isSubtype (P : Pm o Ou (pv_row V 63 F) hp) (I : CInv V cap) (R : Rel V J) {s : Nat} (hs : s < zT V) {t : Nat} (ht : t < zT V) : xm_call 49 [.ref (o + 36), .int (nI t), .int (nI s)] hp = some (some (.int (xb (xsub (fpar V) (nI s) 40 (some t) = true))), hp) := m_isSubtype P (I.c63 F) (R.c63 F) hs ht
/-- every row is some row 63 -/
theorem Pm.s63 (P : Pm o Ou V hp) : Pm o Ou (pv_row V 63 (V 63)) hp := by
  have e : pv_row V 63 (V 63) = V := by
    funext k
    unfold pv_row
    by_cases h : k = 63
    · subst h; rw [if_pos rfl]
    · rw [if_neg h]
  rw [e]; exact P
theorem Pm.w63 (P : Pm o Ou (pv_row V 63 F) hp) (G : Nat → Int32) : Pm o Ou (pv_row V 63 G) (pw o (fun _ => 0) 0 0 hp 63 G) := by
  have := P.w 63 (by decide) (by decide) G
  rw [pv63_pv] at this
  exact this
theorem m_clear (P : Pm o Ou (pv_row V 63 F) hp) : ∃ hp' G, xm_call 50 [.ref (o + 36)] hp = some (none, hp') ∧ Pm o Ou (pv_row V 63 G) hp' ∧ hp'.2 = hp.2 ∧ ∀ i, i < 12 → G i = nI 0 := by
  have loop : ∀ d k F hp, k + d = 12 → Pm o Ou (pv_row V 63 F) hp → (∀ i, i < k → F i = nI 0) → ∃ hp' G, xm_out 50 (2, [some (.ref (o + 36)), some (.int (nI k))], [], hp) = some (none, hp') ∧ Pm o Ou (pv_row V 63 G) hp' ∧ hp'.2 = hp.2 ∧ ∀ i, i < 12 → G i = nI 0 := by
    intro d
    induction d with
    | zero =>
      intro k F hp hk P hF
      refine ⟨hp, F, ?_, P, rfl, fun i hi => hF i (by omega)⟩
      simp only [s50_2, s50_3, s50_5, s50_21, Option.bind_some, Option.toList_some, Option.toList_none, List.cons_append, List.nil_append, xm_kl_n, xm_kl_i, xm_kl_a, xm_kl_j, xl_0, xm_low1, xm_low2, xm_low3, xm_low4, xl_n0, xl_n1, xb_nar, xe_if0, xe_ifn, xm_ci1, xm_ca1]
      rw [if_pos (nI_le (by omega) (by omega))]
    | succ d ih =>
      intro k F hp hk P hF
      obtain ⟨hp', G, e, Q, hs, hG⟩ := ih (k + 1) _ _ (by omega) (P.w63 (upd F k (nI 0))) (fun i hi => by
        by_cases hik : i = k
        · subst hik; exact pk_us
        · rw [pk_un hik]; exact hF i (by omega))
      refine ⟨hp', G, ?_, Q, hs, hG⟩
      simp only [s50_2, s50_3, s50_5, s50_8, s50_9, s50_12, s50_13, s50_14, s50_15, Option.bind_some, Option.toList_some, Option.toList_none, List.cons_append, List.nil_append, xm_kl_n, xm_kl_i, xm_kl_a, xm_kl_j, xl_0, xm_low1, xm_low2, xm_low3, xm_low4, xl_n0, xl_n1, xb_nar, xe_if0, xe_ifn, xm_ci1, xm_ca1, mf_36_33 P, mwz_63 P (show k < 12 by omega), pv63_63, nI_add]
      rw [if_neg (nI_ge (by omega) (by omega))]
      simp only [s50_18]
      exact e
  simp only [k50, s50_0, s50_1, Option.bind_some, Option.toList_some, Option.toList_none, List.cons_append, List.nil_append, xm_kl_n, xm_kl_i, xm_kl_a, xm_kl_j, xl_0, xm_low1, xm_low2, xm_low3, xm_low4, xl_n0, xl_n1, xb_nar, xe_if0, xe_ifn, xm_ci1, xm_ca1]
  exact loop 12 0 F hp (by omega) P (fun i hi => by omega)
/-- an edge of the reference: m requires p (on; at the run) -/
def xed (V : pc_V) (on run : Prop) (m p : Nat) : Prop := ¬ frq V m p = 0 ∧ (on → frq V m p = 2 ∨ frq V m p = 4) ∧ (run → frq V m p = 1 ∨ frq V m p = 2)
theorem m_isEdge (P : Pm o Ou (pv_row V 63 F) hp) (R : Rel V J) {m p : Nat} (hm : m < 12) (hq : p < 12) (on run : Prop) : xm_call 51 [.ref (o + 36), .int (nI m), .int (nI p), .int (xb on), .int (xb run)] hp = some (some (.int (xb (xed V on run m p))), hp) := by
  have hr := R.rq m p hm hq
  have e0 : nI 0 - nI 1 = -1 := by decide
  simp only [k51, s51_0, s51_1, s51_4, s51_6, s51_7, s51_8, s51_9, s51_10, s51_11, s51_12, s51_13, s51_15, s51_17, s51_20, s51_21, s51_24, s51_26, s51_27, s51_28, s51_29, s51_32, s51_34, s51_37, s51_39, s51_40, s51_41, s51_44, s51_45, s51_48, s51_49, Option.bind_some, Option.toList_some, Option.toList_none, List.cons_append, List.nil_append, xm_kl_n, xm_kl_i, xm_kl_a, xm_kl_j, xl_0, xm_low1, xm_low2, xm_low3, xm_low4, xl_n0, xl_n1, xb_nar, xe_if0, xe_ifn, xm_ci1, xm_ca1, mf_36_1 P, pk_mul, nI_add, mai_37 P (show 12 * m + p < 144 by omega), pv63_37, hr.1]
  have hcases : frq V m p = 0 ∨ frq V m p = 1 ∨ frq V m p = 2 ∨ frq V m p = 3 ∨ frq V m p = 4 := by omega
  rcases hcases with h | h | h | h | h
  · rw [h, if_pos (by decide), xb_f (fun z => z.1 h)]
  · rw [h, if_neg (by decide)]
    by_cases h1 : on
    · rw [if_pos h1, if_pos (by decide), xb_f (fun z => by have := z.2.1 h1; omega)]
    · rw [if_neg h1]
      by_cases h2 : run
      · rw [if_pos h2, if_neg (by decide), xb_t ⟨by omega, fun z => absurd z h1, fun _ => Or.inl h⟩]
      · rw [if_neg h2, xb_t ⟨by omega, fun z => absurd z h1, fun z => absurd z h2⟩]
  · rw [h, if_neg (by decide)]
    by_cases h1 : on
    · rw [if_pos h1, if_neg (by decide)]
      by_cases h2 : run
      · rw [if_pos h2, if_neg (by decide), xb_t ⟨by omega, fun _ => Or.inl h, fun _ => Or.inr h⟩]
      · rw [if_neg h2, xb_t ⟨by omega, fun _ => Or.inl h, fun z => absurd z h2⟩]
    · rw [if_neg h1]
      by_cases h2 : run
      · rw [if_pos h2, if_neg (by decide), xb_t ⟨by omega, fun z => absurd z h1, fun _ => Or.inr h⟩]
      · rw [if_neg h2, xb_t ⟨by omega, fun z => absurd z h1, fun z => absurd z h2⟩]
  · rw [h, if_neg (by decide)]
    by_cases h1 : on
    · rw [if_pos h1, if_pos (by decide), xb_f (fun z => by have := z.2.1 h1; omega)]
    · rw [if_neg h1]
      by_cases h2 : run
      · rw [if_pos h2, if_pos (by decide), xb_f (fun z => by have := z.2.2 h2; omega)]
      · rw [if_neg h2, xb_t ⟨by omega, fun z => absurd z h1, fun z => absurd z h2⟩]
  · rw [h, if_neg (by decide)]
    by_cases h1 : on
    · rw [if_pos h1, if_neg (by decide)]
      by_cases h2 : run
      · rw [if_pos h2, if_pos (by decide), xb_f (fun z => by have := z.2.2 h2; omega)]
      · rw [if_neg h2, xb_t ⟨by omega, fun _ => Or.inr h, fun z => absurd z h2⟩]
    · rw [if_neg h1]
      by_cases h2 : run
      · rw [if_pos h2, if_pos (by decide), xb_f (fun z => by have := z.2.2 h2; omega)]
      · rw [if_neg h2, xb_t ⟨by omega, fun z => absurd z h1, fun z => absurd z h2⟩]
end N63
