/-! class and reference read, see and graph the same -/
theorem bit_any {a b : Int32} : (¬ a &&& b = 0) ↔ ∃ k, k < 32 ∧ tb a k ∧ tb b k := by
  rw [tb_zero]
  constructor
  · intro h
    apply Classical.byContradiction
    intro hno
    apply h
    intro k hk q
    rw [tb_and hk] at q
    exact hno ⟨k, hk, q.1, q.2⟩
  · rintro ⟨k, hk, h1, h2⟩ h
    exact h k hk ((tb_and hk).mpr ⟨h1, h2⟩)
theorem xbit_nI {m : Nat} (hm : m < 2 ^ 31) : xbit (nI m) = nI 1 <<< (nI m &&& 31) := if_neg (nI_m1 hm)
theorem told_iff {a : Int32} {m : Nat} (hm : m < 12) : (¬ a &&& (nI 4096 ||| xbit (nI m)) = 0) ↔ (tb a 12 ∨ tb a m) := by
  rw [bit_any, xbit_nI (by omega)]
  constructor
  · rintro ⟨k, hk, h1, h2⟩
    rcases (tb_or hk).mp h2 with h | h
    · rw [tb_4096 k hk] at h; subst h; exact Or.inl h1
    · rw [tb_bit (by omega) hk] at h; subst h; exact Or.inr h1
  · rintro (h | h)
    · exact ⟨12, by decide, h, (tb_or (by decide)).mpr (Or.inl ((tb_4096 12 (by decide)).mpr rfl))⟩
    · exact ⟨m, by omega, h, (tb_or (by omega)).mpr (Or.inr ((tb_bit (by omega) (by omega)).mpr rfl))⟩
section SAME
variable {o : Nat} {V : pc_V} {J : Nat → Int64} {Ou : Nat → Option xm_E} {cap : Nat} {hp : xm_H} {F : Nat → Int32}
theorem rd_iff (I : CInv V cap) (R : Rel V J) {m : Nat} (hm : m < zM V) (run : Prop) {i : Nat} (hi : i < 32) : tb (xrd V m run) i ↔ xmr V m run i := by
  have hM := I.M.2
  -- both kinds at once: the row of edges, the row to begin with
  have key : ∀ (E N : Nat → Int32) (ed : Nat → Nat → Prop) (st : Nat → Prop), (∀ j k, j < 12 → k < 32 → (tb (E j) k ↔ k < 12 ∧ ed j k)) → (∀ k, k < 32 → (tb (N m) k ↔ k < 12 ∧ st k)) → (∀ j k, j < 12 → k < 12 → ed j k → k < zM V) → (∀ k, k < 12 → st k → k < zM V) → (∀ k, k < 12 → ed m k → st k) → ∀ i, i < 32 → (tb (clr E (zM V) 12 ((nI 1 <<< (nI m &&& 31)) ||| N m)) i ↔ (i = m ∨ Rch (fun j k => j < zM V ∧ k < zM V ∧ ¬ nI j = nI m ∧ ed j k) (fun j => j < zM V ∧ st j) i)) := by
    intro E N ed st hE hN hz1 hz2 hme i hi
    have hs : ∀ i, i < 32 → tb ((nI 1 <<< (nI m &&& 31)) ||| N m) i → i < zM V := by
      intro i hi h
      rcases (tb_or hi).mp h with h | h
      · rw [tb_bit (by omega) hi] at h; omega
      · have := (hN i hi).mp h; exact hz2 i this.1 this.2
    rw [clr_spec E (zM V) (by omega) (fun j k hj hk h => by have := (hE j k (by omega) hk).mp h; exact hz1 j k (by omega) this.1 this.2) 12 _ hs (by omega) i hi]
    constructor
    · intro h
      refine h (fun i => i = m ∨ Rch (fun j k => j < zM V ∧ k < zM V ∧ ¬ nI j = nI m ∧ ed j k) (fun j => j < zM V ∧ st j) i) (fun j q => ?_) (fun j k q e => ?_)
      · rcases (tb_or q.1).mp q.2 with w | w
        · rw [tb_bit (by omega) q.1] at w; exact Or.inl w.symm
        · have := (hN j q.1).mp w; exact Or.inr (.of ⟨hz2 j this.1 this.2, this.2⟩)
      · have hed := (hE j k (by omega) e.2.2).mp e.2.1
        have hkz := hz1 j k (by omega) hed.1 hed.2
        by_cases hjm : j = m
        · subst hjm; exact Or.inr (.of ⟨hkz, hme k hed.1 hed.2⟩)
        · rcases q with q | q
          · exact absurd q hjm
          · refine Or.inr (q.step ⟨e.1, hkz, ?_, hed.2⟩)
            rw [nI_eq (by omega) (by omega)]; exact hjm
    · rintro (rfl | h)
      · exact .of ⟨hi, (tb_or hi).mpr (Or.inl ((tb_bit hi hi).mpr rfl))⟩
      · refine h.mono (fun j q => .of ⟨by omega, (tb_or (by omega)).mpr (Or.inr ((hN j (by omega)).mpr ⟨by omega, q.2⟩))⟩) (fun j k q => ⟨q.1, (hE j k (by omega) (by omega)).mpr ⟨by omega, q.2.2.2⟩, by omega⟩)
  unfold xrd xmr
  by_cases hr : run
  · rw [if_pos hr, key (V 5) (V 4) (fun j k => frq V j k = 2) (fun k => frq V m k = 1 ∨ frq V m k = 2) (fun j k hj hk => R.e5 j k hj hk) (fun k hk => R.e4 m k (by omega) hk) (fun j k hj hk h => ((R.rq j k hj hk).2.2 (by omega)).2) (fun k hk h => ((R.rq m k (by omega) hk).2.2 (by omega)).2) (fun k _ h => Or.inr h) i hi]
    refine or_congr Iff.rfl (Rch.cg (fun j => ?_) (fun j k => ?_) i)
    · unfold xed
      exact ⟨fun q => ⟨q.1, by omega, fun z => z.elim, fun _ => q.2⟩, fun q => ⟨q.1, q.2.2.2 hr⟩⟩
    · unfold xeg xed
      exact ⟨fun q => ⟨q.1, q.2.1, q.2.2.1, by omega, fun _ => Or.inl q.2.2.2, fun _ => Or.inr q.2.2.2⟩, fun q => ⟨q.1, q.2.1, q.2.2.1, by have h1 := q.2.2.2.2.1 trivial; have h2 := q.2.2.2.2.2 hr; omega⟩⟩
  · rw [if_neg hr, key (V 3) (V 2) (fun j k => frq V j k = 2 ∨ frq V j k = 4) (fun k => ¬ frq V m k = 0) (fun j k hj hk => R.e3 j k hj hk) (fun k hk => R.e2 m k (by omega) hk) (fun j k hj hk h => ((R.rq j k hj hk).2.2 (by omega)).2) (fun k hk h => ((R.rq m k (by omega) hk).2.2 h).2) (fun k _ h => by omega) i hi]
    refine or_congr Iff.rfl (Rch.cg (fun j => ?_) (fun j k => ?_) i)
    · unfold xed
      exact ⟨fun q => ⟨q.1, q.2, fun z => z.elim, fun z => absurd z hr⟩, fun q => ⟨q.1, q.2.1⟩⟩
    · unfold xeg xed
      exact ⟨fun q => ⟨q.1, q.2.1, q.2.2.1, by omega, fun _ => q.2.2.2, fun z => absurd z hr⟩, fun q => ⟨q.1, q.2.1, q.2.2.1, q.2.2.2.2.1 trivial⟩⟩
theorem m_isExported (P : Pm o Ou (pv_row V 63 F) hp) (R : Rel V J) {p m : Nat} (hq : p < 30) (hm : m < 12) : xm_call 52 [.ref (o + 36), .int (nI p), .int (nI m)] hp = some (some (.int (xb (¬ V 9 p &&& (nI 4096 ||| xbit (nI m)) = 0))), hp) := by
  have h1 := R.ex p 12 hq (by omega)
  have h2 := R.ex p m hq (by omega)
  simp only [k52, s52_0, s52_1, s52_4, s52_6, s52_7, s52_8, s52_10, s52_11, s52_12, s52_15, s52_16, s52_19, s52_21, s52_22, s52_23, s52_24, s52_25, s52_26, s52_29, s52_30, s52_33, s52_34, Option.bind_some, Option.toList_some, Option.toList_none, List.cons_append, List.nil_append, xm_kl_n, xm_kl_i, xm_kl_a, xm_kl_j, xl_0, xm_low1, xm_low2, xm_low3, xm_low4, xl_n0, xl_n1, xb_nar, xe_if0, xe_ifn, xm_ci1, xm_ca1, mf_36_5 P, pk_mul, nI_add, maz_40 P (show 13 * p + 12 < 390 by omega), maz_40 P (show 13 * p + m < 390 by omega), pv63_40, h1, h2]
  rw [xb_cg (told_iff hm)]
  by_cases g1 : tb (V 9 p) 12
  · rw [if_pos g1, xb_t (Or.inl g1)]
  · rw [if_neg g1]
    by_cases g2 : tb (V 9 p) m
    · rw [if_pos g2, xb_t (Or.inr g2)]
    · rw [if_neg g2, xb_f (fun z => z.elim g1 g2)]
theorem m_seesPack (P : Pm o Ou (pv_row V 63 F) hp) (I : CInv V cap) (R : Rel V J) {p m : Nat} (hq : p < zP V) (hm : m < zM V) (hF : CS F (xmr V m False)) : xm_call 97 [.ref (o + 36), .int (nI m), .int (nI p)] hp = some (some (.int (xb (xsb V p (nI m) (xrd V m False)))), hp) := by
  have hP := I.P.2
  have hM := I.M.2
  have ho := I.own p hq
  have hFo := hF (fown V p) (by omega)
  simp only [k97, s97_0, s97_1, s97_4, s97_5, s97_6, s97_7, s97_10, s97_11, s97_14, s97_15, s97_18, s97_19, s97_20, s97_21, s97_24, s97_25, s97_26, s97_27, s97_30, s97_33, s97_34, s97_37, s97_38, Option.bind_some, Option.toList_some, Option.toList_none, List.cons_append, List.nil_append, xm_kl_n, xm_kl_i, xm_kl_a, xm_kl_j, xl_0, xm_low1, xm_low2, xm_low3, xm_low4, xl_n0, xl_n1, xb_nar, xe_if0, xe_ifn, xm_ci1, xm_ca1, mf_36_3 P, mf_36_33 P, mcl_36 P, mai_38 P (show p < 30 by omega), pv63_38, R.r38, ho.1, maz_63 P (show fown V p < 12 by omega), pv63_63, hFo, m_isExported P R (show p < 30 by omega) (show m < 12 by omega)]
  have hb : tb (xrd V m False) (fown V p) ↔ xmr V m False (fown V p) := rd_iff I R hm False (by omega)
  have hb' : (¬ xrd V m False &&& (nI 1 <<< (V 7 p &&& 31)) = 0) ↔ xmr V m False (fown V p) := by rw [ho.1]; exact hb
  by_cases h1 : nI (fown V p) = nI m
  · rw [if_pos h1, xb_t (c := xsb V p (nI m) (xrd V m False)) (Or.inl (ho.1.trans h1))]
  · rw [if_neg h1]
    by_cases h2 : xmr V m False (fown V p)
    · rw [if_pos h2]
      by_cases h3 : V 9 p &&& (nI 4096 ||| xbit (nI m)) = 0
      · rw [if_neg (fun z => z h3), xb_f (c := xsb V p (nI m) (xrd V m False)) (fun z => z.elim (fun w => h1 (ho.1.symm.trans w)) (fun w => w.2 h3))]
      · rw [if_pos h3, xb_t (c := xsb V p (nI m) (xrd V m False)) (Or.inr ⟨hb'.mpr h2, h3⟩)]
    · rw [if_neg h2, xb_f (c := xsb V p (nI m) (xrd V m False)) (fun z => z.elim (fun w => h1 (ho.1.symm.trans w)) (fun w => h2 (hb'.mp w.1)))]
theorem m_seesType (P : Pm o Ou (pv_row V 63 F) hp) (I : CInv V cap) (R : Rel V J) {t m : Nat} (ht : t < zT V) (hm : m < zM V) (hF : CS F (xmr V m False)) : xm_call 126 [.ref (o + 36), .int (nI m), .int (nI t)] hp = some (some (.int (xb (xts V m t))), hp) := by
  have hT := I.T.2
  have h2 := I.tpk t ht
  simp only [k126, s126_0, s126_1, s126_2, s126_3, s126_6, s126_7, s126_8, s126_11, s126_14, s126_15, s126_16, s126_19, s126_22, s126_23, s126_24, s126_27, s126_28, s126_31, s126_32, s126_35, s126_36, Option.bind_some, Option.toList_some, Option.toList_none, List.cons_append, List.nil_append, xm_kl_n, xm_kl_i, xm_kl_a, xm_kl_j, xl_0, xm_low1, xm_low2, xm_low3, xm_low4, xl_n0, xl_n1, xb_nar, xe_if0, xe_ifn, xm_ci1, xm_ca1, mf_36_8 P, mcl_36 P, mai_42 P (show t < 40 by omega), pv63_42, R.r42, h2.1, m_seesPack P I R h2.2 hm hF, n_isOpen P I R ht, n_moduleOf P I R ht]
  by_cases g1 : xsb V (ftpk V t) (nI m) (xrd V m False)
  · rw [if_pos g1]
    by_cases g2 : V 15 t &&& nI 1 = 0
    · rw [if_neg (fun z => z g2)]
      by_cases g3 : V 7 (ftpk V t) = nI m
      · rw [if_neg (fun z => z g3), xb_t (c := xts V m t) (Or.inl g3)]
      · rw [if_pos g3, xb_f (c := xts V m t) (fun z => z.elim g3 (fun w => w.1 g2))]
    · rw [if_pos g2, xb_t (c := xts V m t) (Or.inr ⟨g2, g1⟩)]
  · rw [if_neg g1, xb_f (c := xts V m t) (fun z => z.elim (fun w => g1 (Or.inl w)) (fun w => g1 w.2))]
end SAME
