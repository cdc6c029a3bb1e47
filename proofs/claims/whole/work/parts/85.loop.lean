/-! the law's loop -/
theorem and31 (x : Int32) : ∃ j, j < 32 ∧ x &&& nI 31 = nI j := by
  refine ⟨x.toBitVec.toNat % 32, Nat.mod_lt _ (by decide), ?_⟩
  apply Int32.toBitVec_inj.mp
  rw [Int32.toBitVec_and]
  show x.toBitVec &&& 31#32 = BitVec.ofNat 32 (x.toBitVec.toNat % 32)
  have h : x.toBitVec.toNat &&& 31 = x.toBitVec.toNat % 32 := Nat.and_two_pow_sub_one_eq_mod x.toBitVec.toNat 5
  have e1 : (x.toBitVec &&& 31#32).toNat = x.toBitVec.toNat &&& 31 := BitVec.toNat_and _ _
  have e2 : (BitVec.ofNat 32 (x.toBitVec.toNat % 32)).toNat = x.toBitVec.toNat % 32 % 2 ^ 32 := BitVec.toNat_ofNat _ _
  apply BitVec.eq_of_toNat_eq
  rw [e1, e2, h, Nat.mod_eq_of_lt (show x.toBitVec.toNat % 32 < 2 ^ 32 by omega)]
def law_t (j : Nat) : Nat := ([140, 153, 186, 249, 328, 371, 430, 463, 506, 565, 624, 657, 680, 703, 756, 789, 832, 881, 940, 983, 1042, 1075, 1128][j]?).getD 1151
theorem law_sw : ∀ j, j < 32 → xm_sw 33 (nI j) 1118 0 22 #[107, 120, 153, 216, 295, 338, 397, 430, 473, 532, 591, 624, 647, 670, 723, 756, 799, 848, 907, 950, 1009, 1042, 1095] = some (law_t j) := by decide +kernel
theorem law_d : ∀ j, j < 32 → 23 ≤ j → law_t j = 1151 := by decide +kernel
theorem lt6 {L n : Nat} (hL : L ≤ 3072) (hn : n ≤ 512) : nI L - nI 6 < nI (6 * n) ↔ L < 6 * n + 6 := by
  rw [Int32.lt_iff_toInt_lt, pk_sub_toInt (by omega) (by omega), nI_toInt (by omega)]
  omega
section LOOP
variable {b o L : Nat} {xs : Nat → Int32}
theorem law_one {n : Nat} {hp : xm_H} (hS : Sta o n hp) (hn : n < 512) (hbo : b < hp.2.1) (hscr : hp.1 b = some (.inr (.inr (L, xs)))) (hL : L ≤ 3072) (h6 : 6 * n + 6 ≤ L) (x : Int32) : ∃ hp', xm_out 192 (33, [some (.ref b), some (.ref o), some (.ref (o + 36)), some (.int (nI (6 * n)))], [.int (x &&& nI 31)], hp) = xm_out 192 (1151, [some (.ref b), some (.ref o), some (.ref (o + 36)), some (.int (nI (6 * n)))], [], hp') ∧ Sta o (n + 1) hp' ∧ b < hp'.2.1 ∧ hp'.1 b = some (.inr (.inr (L, xs))) := by
  obtain ⟨j, hj, e⟩ := and31 x
  rw [e, s192_33, law_sw j hj, Option.bind_some]
  by_cases h23 : 23 ≤ j
  · obtain ⟨V, J, p1, p2, cap, S⟩ := hS
    rw [law_d j hj h23]
    exact ⟨hp, rfl, S.s, hbo, hscr⟩
  rcases (show j = 0 ∨ j = 1 ∨ j = 2 ∨ j = 3 ∨ j = 4 ∨ j = 5 ∨ j = 6 ∨ j = 7 ∨ j = 8 ∨ j = 9 ∨ j = 10 ∨ j = 11 ∨ j = 12 ∨ j = 13 ∨ j = 14 ∨ j = 15 ∨ j = 16 ∨ j = 17 ∨ j = 18 ∨ j = 19 ∨ j = 20 ∨ j = 21 ∨ j = 22 by omega) with h | h | h | h | h | h | h | h | h | h | h | h | h | h | h | h | h | h | h | h | h | h | h
  · subst h; rw [show law_t 0 = 140 from rfl]; exact law_0 hS hn hbo hscr hL h6
  · subst h; rw [show law_t 1 = 153 from rfl]; exact law_1 hS hn hbo hscr hL h6
  · subst h; rw [show law_t 2 = 186 from rfl]; exact law_2 hS hn hbo hscr hL h6
  · subst h; rw [show law_t 3 = 249 from rfl]; exact law_3 hS hn hbo hscr hL h6
  · subst h; rw [show law_t 4 = 328 from rfl]; exact law_4 hS hn hbo hscr hL h6
  · subst h; rw [show law_t 5 = 371 from rfl]; exact law_5 hS hn hbo hscr hL h6
  · subst h; rw [show law_t 6 = 430 from rfl]; exact law_6 hS hn hbo hscr hL h6
  · subst h; rw [show law_t 7 = 463 from rfl]; exact law_7 hS hn hbo hscr hL h6
  · subst h; rw [show law_t 8 = 506 from rfl]; exact law_8 hS hn hbo hscr hL h6
  · subst h; rw [show law_t 9 = 565 from rfl]; exact law_9 hS hn hbo hscr hL h6
  · subst h; rw [show law_t 10 = 624 from rfl]; exact law_10 hS hn hbo hscr hL h6
  · subst h; rw [show law_t 11 = 657 from rfl]; exact law_11 hS hn hbo hscr hL h6
  · subst h; rw [show law_t 12 = 680 from rfl]; exact law_12 hS hn hbo hscr hL h6
  · subst h; rw [show law_t 13 = 703 from rfl]; exact law_13 hS hn hbo hscr hL h6
  · subst h; rw [show law_t 14 = 756 from rfl]; exact law_14 hS hn hbo hscr hL h6
  · subst h; rw [show law_t 15 = 789 from rfl]; exact law_15 hS hn hbo hscr hL h6
  · subst h; rw [show law_t 16 = 832 from rfl]; exact law_16 hS hn hbo hscr hL h6
  · subst h; rw [show law_t 17 = 881 from rfl]; exact law_17 hS hn hbo hscr hL h6
  · subst h; rw [show law_t 18 = 940 from rfl]; exact law_18 hS hn hbo hscr hL h6
  · subst h; rw [show law_t 19 = 983 from rfl]; exact law_19 hS hn hbo hscr hL h6
  · subst h; rw [show law_t 20 = 1042 from rfl]; exact law_20 hS hn hbo hscr hL h6
  · subst h; rw [show law_t 21 = 1075 from rfl]; exact law_21 hS hn hbo hscr hL h6
  · subst h; rw [show law_t 22 = 1128 from rfl]; exact law_22 hS hn hbo hscr hL h6
theorem law_loop (hL : L ≤ 3072) : ∀ (d n : Nat) (hp : xm_H), n + d = L / 6 → Sta o n hp → b < hp.2.1 → hp.1 b = some (.inr (.inr (L, xs))) → ∃ hp', xm_out 192 (18, [some (.ref b), some (.ref o), some (.ref (o + 36)), some (.int (nI (6 * n)))], [], hp) = some (some (.int 1), hp') ∧ Sta o (L / 6) hp' := by
  intro d
  induction d with
  | zero =>
    intro n hp hd hS hbo hscr
    have hlt : nI L - nI 6 < nI (6 * n) := (lt6 hL (by omega)).mpr (by omega)
    refine ⟨hp, ?_, (show n = L / 6 by omega) ▸ hS⟩
    rw [s192_18, s192_19, s192_20, sln hscr, Option.bind_some, s192_21, s192_23, s192_24, if_pos hlt, s192_1157, s192_1158 xl_n1]
    rfl
  | succ d ih =>
    intro n hp hd hS hbo hscr
    have hlt : ¬ nI L - nI 6 < nI (6 * n) := fun z => by have := (lt6 hL (by omega)).mp z; omega
    obtain ⟨hp1, e, st, hb1, sc1⟩ := law_one hS (by omega) hbo hscr hL (by omega) (xs (6 * n))
    obtain ⟨hp2, e2, st2⟩ := ih (n + 1) hp1 (by omega) st hb1 sc1
    refine ⟨hp2, ?_, st2⟩
    rw [s192_18, s192_19, s192_20, sln hscr, Option.bind_some, s192_21, s192_23, s192_24, if_neg hlt, s192_27, s192_28, s192_29, sai hscr (show 6 * n < L by omega) hL, Option.bind_some, s192_30, s192_32, e, s192_1151, xm_kl_a, nI_add, s192_1154]
    exact e2
end LOOP
theorem xw_main (b L B : Nat) (xs : Nat → Int32) (hb : b < B) (hL : L ≤ 3072) : ∃ hp', xm_call 192 [.ref b] (xw_hp0 b L xs B) = some (some (.int 1), hp') ∧ hp'.2.1 ≤ B + 600000 ∧ hp'.2.2 ≤ 7302250 := by
  have h0 : xw_hp0 b L xs B = hl b (.inr (.inr (L, xs))) B [] 0 := by
    unfold xw_hp0 hl
    refine Prod.ext ?_ rfl
    funext q
    show (if q = b then some (.inr (.inr (L, xs))) else none : Option xm_E) = if q = b then some (.inr (.inr (L, xs))) else if q < B then none else ([] : List xm_E)[q - B]?
    by_cases h1 : q = b
    · rw [if_pos h1, if_pos h1]
    · rw [if_neg h1, if_neg h1]
      by_cases h2 : q < B
      · rw [if_pos h2]
      · rw [if_neg h2]; rfl
  have hsz : b < (hl b (.inr (.inr (L, xs))) B (ce64 B) sl64).2.1 := by
    show b < B + (ce64 B).length
    omega
  have hat : (hl b (.inr (.inr (L, xs))) B (ce64 B) sl64).1 b = some (.inr (.inr (L, xs))) := if_pos rfl
  obtain ⟨hp', e, st⟩ := law_loop hL (L / 6) 0 (hl b (.inr (.inr (L, xs))) B (ce64 B) sl64) (by omega) (sta0 hb) hsz hat
  obtain ⟨V, J, p1, p2, cap, S⟩ := st
  have h := S.h
  refine ⟨hp', ?_, by omega, by omega⟩
  rw [h0, law_new hb]
  exact e
