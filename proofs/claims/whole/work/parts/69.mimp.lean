/-! the reference's imports -/
/-- 2 where A, else 3 where B, else 0 -/
noncomputable def xrl (A B : Prop) : Int32 := @ite _ A (Classical.propDecidable _) (nI 2) (@ite _ B (Classical.propDecidable _) (nI 3) (nI 0))
theorem xrl_A {A B : Prop} (h : A) : xrl A B = nI 2 := if_pos h
theorem xrl_B {A B : Prop} (h : ¬ A) (g : B) : xrl A B = nI 3 := (if_neg h).trans (if_pos g)
theorem xrl_0 {A B : Prop} (h : ¬ A) (g : ¬ B) : xrl A B = nI 0 := (if_neg h).trans (if_neg g)
theorem xrl_cg {A B C D : Prop} (h : A ↔ C) (g : B ↔ D) : xrl A B = xrl C D := by rw [propext h, propext g]
theorem xrl_2 {A B : Prop} : xrl A B = nI 2 ↔ A := by
  by_cases h : A
  · exact ⟨fun _ => h, fun _ => xrl_A h⟩
  · by_cases g : B
    · rw [xrl_B h g]; exact ⟨fun q => absurd q (by decide), fun q => absurd q h⟩
    · rw [xrl_0 h g]; exact ⟨fun q => absurd q (by decide), fun q => absurd q h⟩
section MIMP
variable {o : Nat} {V : pc_V} {J : Nat → Int64} {Ou : Nat → Option xm_E} {cap : Nat} {hp : xm_H} {F : Nat → Int32}
/-- an import just the same; another of that name -/
def xsm (V : pc_V) (u w : Nat) (kd nm : Int32) (k : Nat) : Prop := V 26 (10 * u + k) = kd ∧ V 27 (10 * u + k) = nI w ∧ V 28 (10 * u + k) = nm
def xot (V : pc_V) (u w : Nat) (kd : Int32) (k : Nat) : Prop := kd = 0 ∧ V 26 (10 * u + k) = 0 ∧ ¬ V 27 (10 * u + k) = nI w ∧ V 13 (nt (V 27 (10 * u + k))) = V 13 w
theorem m_importLoop (P : Pm o Ou (pv_row V 63 F) hp) (I : CInv V cap) (R : Rel V J) {u w : Nat} (hu : u < zU V) (kd nm : Int32) (hw : ¬ kd = nI 1 → w < zT V) (y5 : Int32) : ∀ d k A B x8 x9, k + d = fusz V u → xm_out 151 (136, [some (.ref (o + 36)), some (.int (nI u)), some (.int kd), some (.int (nI w)), some (.int nm), some (.int y5), some (.int (xrl A B)), some (.int (nI (10 * u + k))), x8, x9], [], hp) = some (some (.int (xrl (A ∨ ∃ j, k ≤ j ∧ j < k + d ∧ xot V u w kd j) (B ∨ ∃ j, k ≤ j ∧ j < k + d ∧ xsm V u w kd nm j))), hp) := by
  have hU := I.U.2
  have hT := I.T.2
  have hS := I.usz u hu
  intro d
  induction d with
  | zero =>
    intro k A B x8 x9 hk
    simp only [s151_136, s151_138, s151_140, s151_141, s151_142, s151_143, s151_146, s151_147, s151_148, s151_149, s151_280, s151_282, Option.bind_some, Option.toList_some, Option.toList_none, List.cons_append, List.nil_append, xm_kl_n, xm_kl_i, xm_kl_a, xm_kl_j, xl_0, xm_low1, xm_low2, xm_low3, xm_low4, xl_n0, xl_n1, xb_nar, xe_if0, xe_ifn, xm_ci1, xm_ca1, mf_36_21 P, pk_mul, mai_53 P (show u < 12 by omega), pv63_53, R.r53, hS.1, nI_add]
    rw [if_pos (nI_le (by omega) (by omega)), xrl_cg (C := A) (D := B) ⟨fun z => z.elim id (fun ⟨j, h1, h2, _⟩ => by omega), Or.inl⟩ ⟨fun z => z.elim id (fun ⟨j, h1, h2, _⟩ => by omega), Or.inl⟩]
  | succ d ih =>
    intro k A B x8 x9 hk
    have hx : 10 * u + k < 120 := by omega
    have e1 : ∀ x8 x9, xm_out 151 (152, [some (.ref (o + 36)), some (.int (nI u)), some (.int kd), some (.int (nI w)), some (.int nm), some (.int y5), some (.int (xrl A B)), some (.int (nI (10 * u + k))), x8, x9], [], hp) = xm_out 151 (193, [some (.ref (o + 36)), some (.int (nI u)), some (.int kd), some (.int (nI w)), some (.int nm), some (.int y5), some (.int (xrl A B)), some (.int (nI (10 * u + k))), some (.int (xb (xsm V u w kd nm k))), x9], [], hp) := by
      intro x8 x9
      simp only [s151_152, s151_153, s151_156, s151_158, s151_159, s151_160, s151_163, s151_164, s151_167, s151_169, s151_170, s151_171, s151_174, s151_175, s151_178, s151_180, s151_181, s151_183, s151_186, s151_187, s151_190, s151_191, Option.bind_some, Option.toList_some, Option.toList_none, List.cons_append, List.nil_append, xm_kl_n, xm_kl_i, xm_kl_a, xm_kl_j, xl_0, xm_low1, xm_low2, xm_low3, xm_low4, xl_n0, xl_n1, xb_nar, xe_if0, xe_ifn, xm_ci1, xm_ca1, mf_36_22 P, mf_36_23 P, mf_36_24 P, mai_54 P hx, mai_55 P hx, mai_56 P hx, pv63_54, pv63_55, pv63_56, R.r54, R.r55, R.r56]
      by_cases h1 : V 26 (10 * u + k) = kd
      · rw [if_neg (fun z => z h1)]
        by_cases h2 : V 27 (10 * u + k) = nI w
        · rw [if_neg (fun z => z h2)]
          by_cases h3 : V 28 (10 * u + k) = nm
          · rw [if_neg (fun z => z h3), xb_t (c := xsm V u w kd nm k) ⟨h1, h2, h3⟩]
          · rw [if_pos h3, xb_f (c := xsm V u w kd nm k) (fun z => h3 z.2.2)]
        · rw [if_pos h2, xb_f (c := xsm V u w kd nm k) (fun z => h2 z.2.1)]
      · rw [if_pos h1, xb_f (c := xsm V u w kd nm k) (fun z => h1 z.1)]
    have e2 : ∀ x9, xm_out 151 (193, [some (.ref (o + 36)), some (.int (nI u)), some (.int kd), some (.int (nI w)), some (.int nm), some (.int y5), some (.int (xrl A B)), some (.int (nI (10 * u + k))), some (.int (xb (xsm V u w kd nm k))), x9], [], hp) = xm_out 151 (246, [some (.ref (o + 36)), some (.int (nI u)), some (.int kd), some (.int (nI w)), some (.int nm), some (.int y5), some (.int (xrl A B)), some (.int (nI (10 * u + k))), some (.int (xb (xsm V u w kd nm k))), some (.int (xb (xot V u w kd k)))], [], hp) := by
      intro x9
      simp only [s151_193, s151_194, s151_197, s151_198, s151_201, s151_203, s151_204, s151_207, s151_208, s151_211, s151_213, s151_214, s151_215, s151_243, s151_244, Option.bind_some, Option.toList_some, Option.toList_none, List.cons_append, List.nil_append, xm_kl_n, xm_kl_i, xm_kl_a, xm_kl_j, xl_0, xm_low1, xm_low2, xm_low3, xm_low4, xl_n0, xl_n1, xb_nar, xe_if0, xe_ifn, xm_ci1, xm_ca1, mf_36_22 P, mf_36_23 P, mai_54 P hx, mai_55 P hx, pv63_54, pv63_55, R.r54, R.r55]
      by_cases h1 : kd = 0
      · rw [if_neg (fun z => z h1)]
        by_cases h2 : V 26 (10 * u + k) = 0
        · rw [if_neg (fun z => z h2)]
          by_cases h3 : V 27 (10 * u + k) = nI w
          · rw [if_pos h3, xb_f (c := xot V u w kd k) (fun z => z.2.2.1 h3)]
          · rw [if_neg h3]
            have hi := I.iwh u k hu (by omega)
            have hwt := hw (by rw [h1]; decide)
            rw [show u * 10 + k = 10 * u + k by omega] at hi
            have hil := hi.2 (by rw [h2]; decide)
            have hnt : nt (V 27 (10 * u + k)) = fiwh V u k := by unfold fiwh; rw [show u * 10 + k = 10 * u + k by omega]
            simp only [s151_218, s151_219, s151_222, s151_223, s151_226, s151_228, s151_229, s151_230, s151_231, s151_234, s151_235, s151_236, s151_239, s151_240, s151_243, s151_244, Option.bind_some, Option.toList_some, Option.toList_none, List.cons_append, List.nil_append, xm_kl_n, xm_kl_i, xm_kl_a, xm_kl_j, xl_0, xm_low1, xm_low2, xm_low3, xm_low4, xl_n0, xl_n1, xb_nar, xe_if0, xe_ifn, xm_ci1, xm_ca1, mf_36_9 P, mf_36_23 P, mai_55 P hx, pv63_55, R.r55, hi.1, mai_43 P (show fiwh V u k < 40 by omega), mai_43 P (show w < 40 by omega), pv63_43, R.r43]
            by_cases h4 : V 13 (fiwh V u k) = V 13 w
            · rw [if_neg (fun z => z h4), xb_t (c := xot V u w kd k) ⟨h1, h2, h3, by rw [hnt]; exact h4⟩]
            · rw [if_pos h4, xb_f (c := xot V u w kd k) (fun z => h4 (by have := z.2.2.2; rwa [hnt] at this))]
        · rw [if_pos h2, xb_f (c := xot V u w kd k) (fun z => h2 z.2.1)]
      · rw [if_pos h1, xb_f (c := xot V u w kd k) (fun z => h1 z.1)]
    have e3 : ∀ x8 x9, xm_out 151 (136, [some (.ref (o + 36)), some (.int (nI u)), some (.int kd), some (.int (nI w)), some (.int nm), some (.int y5), some (.int (xrl A B)), some (.int (nI (10 * u + k))), x8, x9], [], hp) = xm_out 151 (152, [some (.ref (o + 36)), some (.int (nI u)), some (.int kd), some (.int (nI w)), some (.int nm), some (.int y5), some (.int (xrl A B)), some (.int (nI (10 * u + k))), x8, x9], [], hp) := by
      intro x8 x9
      simp only [s151_136, s151_138, s151_140, s151_141, s151_142, s151_143, s151_146, s151_147, s151_148, s151_149, Option.bind_some, Option.toList_some, Option.toList_none, List.cons_append, List.nil_append, xm_kl_n, xm_kl_i, xm_kl_a, xm_kl_j, xl_0, xm_low1, xm_low2, xm_low3, xm_low4, xl_n0, xl_n1, xb_nar, xe_if0, xe_ifn, xm_ci1, xm_ca1, mf_36_21 P, pk_mul, mai_53 P (show u < 12 by omega), pv63_53, R.r53, hS.1, nI_add]
      rw [if_neg (nI_ge (by omega) (by omega))]
    rw [e3, e1, e2]
    simp only [s151_246, s151_248, s151_249, s151_252, s151_254, s151_257, s151_258, s151_261, s151_263, s151_266, s151_267, s151_270, s151_272, s151_274, Option.bind_some, Option.toList_some, Option.toList_none, List.cons_append, List.nil_append, xm_kl_n, xm_kl_i, xm_kl_a, xm_kl_j, xl_0, xm_low1, xm_low2, xm_low3, xm_low4, xl_n0, xl_n1, xb_nar, xe_if0, xe_ifn, xm_ci1, xm_ca1, nI_add]
    simp only [s151_277, show 10 * u + k + 1 = 10 * u + (k + 1) by omega]
    have fin : xrl ((A ∨ xot V u w kd k) ∨ ∃ j, k + 1 ≤ j ∧ j < k + 1 + d ∧ xot V u w kd j) ((B ∨ xsm V u w kd nm k) ∨ ∃ j, k + 1 ≤ j ∧ j < k + 1 + d ∧ xsm V u w kd nm j) = xrl (A ∨ ∃ j, k ≤ j ∧ j < k + (d + 1) ∧ xot V u w kd j) (B ∨ ∃ j, k ≤ j ∧ j < k + (d + 1) ∧ xsm V u w kd nm j) := by
      have gen : ∀ (C : Prop) (c : Nat → Prop), ((C ∨ c k) ∨ ∃ j, k + 1 ≤ j ∧ j < k + 1 + d ∧ c j) ↔ (C ∨ ∃ j, k ≤ j ∧ j < k + (d + 1) ∧ c j) := by
        intro C c
        constructor
        · rintro ((h | h) | ⟨j, h1, h2, h3⟩)
          · exact Or.inl h
          · exact Or.inr ⟨k, by omega, by omega, h⟩
          · exact Or.inr ⟨j, by omega, by omega, h3⟩
        · rintro (h | ⟨j, h1, h2, h3⟩)
          · exact Or.inl (Or.inl h)
          · by_cases hj : j = k
            · subst hj; exact Or.inl (Or.inr h3)
            · exact Or.inr ⟨j, by omega, by omega, h3⟩
      exact xrl_cg (gen _ _) (gen _ _)
    by_cases hA : A
    · rw [if_pos (xrl_2.mpr hA), ← xrl_A (A := A ∨ xot V u w kd k) (B := B ∨ xsm V u w kd nm k) (Or.inl hA), ih (k + 1) _ _ _ _ (by omega), fin]
    · rw [if_neg (fun z => hA (xrl_2.mp z))]
      by_cases hO : xot V u w kd k
      · rw [if_pos hO, ← xrl_A (A := A ∨ xot V u w kd k) (B := B ∨ xsm V u w kd nm k) (Or.inr hO), ih (k + 1) _ _ _ _ (by omega), fin]
      · rw [if_neg hO]
        by_cases hs : xsm V u w kd nm k
        · rw [if_pos hs, ← xrl_B (A := A ∨ xot V u w kd k) (B := B ∨ xsm V u w kd nm k) (fun z => z.elim hA hO) (Or.inr hs), ih (k + 1) _ _ _ _ (by omega), fin]
        · rw [if_neg hs, xrl_cg (A := A) (B := B) (C := A ∨ xot V u w kd k) (D := B ∨ xsm V u w kd nm k) ⟨Or.inl, fun z => z.elim id (fun w => absurd w hO)⟩ ⟨Or.inl, fun z => z.elim id (fun w => absurd w hs)⟩, ih (k + 1) _ _ _ _ (by omega), fin]
theorem ot_iff (I : CInv V cap) (R : Rel V J) {u w : Nat} (hu : u < zU V) (hw : w < zT V) : (∃ j, 0 ≤ j ∧ j < 0 + fusz V u ∧ xot V u w 0 j) ↔ (¬ xsi V u (V 13 w) = none ∧ ¬ xsi V u (V 13 w) = some w) := by
  have hT := I.T.2
  have hfi : ∀ k, nt (V 27 (10 * u + k)) = fiwh V u k := fun k => by unfold fiwh; rw [show u * 10 + k = 10 * u + k by omega]
  unfold xsi
  cases hr : xfo (fun k => V 26 (u * 10 + k) = 0 ∧ V 13 (fiwh V u k) = V 13 w) 0 (fusz V u) with
  | none =>
    have hn := (xfo_none _ _ _).mp hr
    refine ⟨fun ⟨j, _, h2, h3⟩ => ?_, fun z => absurd rfl z.1⟩
    refine absurd ⟨?_, ?_⟩ (hn j (by omega) (by omega))
    · rw [show u * 10 + j = 10 * u + j by omega]; exact h3.2.1
    · rw [← hfi]; exact h3.2.2.2
  | some a =>
    obtain ⟨_, h2, h3, _⟩ := (xfo_some _ _ _ _).mp hr
    have ha := I.iwh u a hu (by omega)
    have hal := ha.2 (by rw [h3.1]; decide)
    have e0 : u * 10 + a = 10 * u + a := by omega
    show _ ↔ (¬ some (fiwh V u a) = none ∧ ¬ some (fiwh V u a) = some w)
    constructor
    · rintro ⟨j, _, g2, g3⟩
      refine ⟨(by intro q; cases q), fun q => ?_⟩
      have q : fiwh V u a = w := by injection q
      have ej : u * 10 + j = 10 * u + j := by omega
      have hj := I.iwh u j hu (by omega)
      have := R.iu u j a hu (by omega) (by omega) (by rw [ej]; exact g3.2.1) h3.1 (by rw [← hfi j, g3.2.2.2, h3.2])
      apply g3.2.2.1
      rw [← ej, hj.1, this, q]
    · rintro ⟨_, g2⟩
      refine ⟨a, by omega, by omega, rfl, by rw [← e0]; exact h3.1, ?_, by rw [hfi]; exact h3.2⟩
      rw [← e0, ha.1]
      intro q
      rw [nI_eq (by omega) (by omega)] at q
      exact g2 (by rw [q])
theorem m_importRule (P : Pm o Ou (pv_row V 63 F) hp) (I : CInv V cap) (R : Rel V J) {u w : Nat} (hu : u < zU V) (kd nm : Int32) (hw : ¬ kd = nI 1 → w < zT V) : ∃ F' hp', xm_call 151 [.ref (o + 36), .int (nI u), .int kd, .int (nI w), .int nm] hp = some (some (.int (xir V u (fown V (fupk V u)) w kd nm)), hp') ∧ Pm o Ou (pv_row V 63 F') hp' ∧ hp'.2 = hp.2 := by
  have hU := I.U.2
  have hB := I.B.2
  have hPz := I.P
  have hS := I.usz u hu
  have hup := I.upk u hu
  have ho := I.own _ hup.2
  obtain ⟨F', hp', er, P', hsz, hF⟩ := m_read I R ho.2 False P
  rw [xb_f (c := False) id] at er
  refine ⟨F', hp', ?_, P', hsz⟩
  -- the packages
  have packs : ∀ d k c x8 x9, k + d = zP V → (c ↔ ∃ p, p < k ∧ V 8 p = nI w ∧ xsb V p (nI (fown V (fupk V u))) (xrd V (fown V (fupk V u)) False)) → ∃ x7, xm_out 151 (25, [some (.ref (o + 36)), some (.int (nI u)), some (.int kd), some (.int (nI w)), some (.int nm), some (.int (nI (fown V (fupk V u)))), some (.int (xb c)), some (.int (nI k)), x8, x9], [], hp') = xm_out 151 (74, [some (.ref (o + 36)), some (.int (nI u)), some (.int kd), some (.int (nI w)), some (.int nm), some (.int (nI (fown V (fupk V u)))), some (.int (xb (xan (fun p => V 8 p = nI w ∧ xsb V p (nI (fown V (fupk V u))) (xrd V (fown V (fupk V u)) False)) 0 (zP V) = true))), x7, x8, x9], [], hp') := by
    intro d
    induction d with
    | zero =>
      intro k c x8 x9 hk hc
      refine ⟨some (.int (nI k)), ?_⟩
      simp only [s151_25, s151_27, s151_28, s151_31, Option.bind_some, Option.toList_some, Option.toList_none, List.cons_append, List.nil_append, xm_kl_n, xm_kl_i, xm_kl_a, xm_kl_j, xl_0, xm_low1, xm_low2, xm_low3, xm_low4, xl_n0, xl_n1, xb_nar, xe_if0, xe_ifn, xm_ci1, xm_ca1, mf_36_2 P', pv63_36, R.nP, hPz.1]
      rw [if_pos (nI_le (by omega) (by omega))]
      have : c ↔ xan (fun p => V 8 p = nI w ∧ xsb V p (nI (fown V (fupk V u))) (xrd V (fown V (fupk V u)) False)) 0 (zP V) = true := by
        rw [hc, xan_spec]
        exact ⟨fun ⟨p, h1, h2⟩ => ⟨p, by omega, by omega, h2⟩, fun ⟨p, _, h1, h2⟩ => ⟨p, by omega, h2⟩⟩
      rw [xb_cg this]
    | succ d ih =>
      intro k c x8 x9 hk hc
      have step : ∀ c', (c' ↔ (c ∨ (V 8 k = nI w ∧ xsb V k (nI (fown V (fupk V u))) (xrd V (fown V (fupk V u)) False)))) → (c' ↔ ∃ p, p < k + 1 ∧ V 8 p = nI w ∧ xsb V p (nI (fown V (fupk V u))) (xrd V (fown V (fupk V u)) False)) := by
        intro c' h
        rw [h, hc]
        constructor
        · rintro (⟨p, h1, h2⟩ | h)
          · exact ⟨p, by omega, h2⟩
          · exact ⟨k, by omega, h⟩
        · rintro ⟨p, h1, h2⟩
          by_cases hpk : p = k
          · subst hpk; exact Or.inr h2
          · exact Or.inl ⟨p, by omega, h2⟩
      have e : ∃ c', (c' ↔ (c ∨ (V 8 k = nI w ∧ xsb V k (nI (fown V (fupk V u))) (xrd V (fown V (fupk V u)) False)))) ∧ xm_out 151 (25, [some (.ref (o + 36)), some (.int (nI u)), some (.int kd), some (.int (nI w)), some (.int nm), some (.int (nI (fown V (fupk V u)))), some (.int (xb c)), some (.int (nI k)), x8, x9], [], hp') = xm_out 151 (25, [some (.ref (o + 36)), some (.int (nI u)), some (.int kd), some (.int (nI w)), some (.int nm), some (.int (nI (fown V (fupk V u)))), some (.int (xb c')), some (.int (nI (k + 1))), x8, x9], [], hp') := by
        refine ⟨_, Iff.rfl, ?_⟩
        conv => lhs; simp only [s151_25, s151_27, s151_28, s151_31, s151_34, s151_36, s151_39, s151_40, s151_43, s151_45, s151_46, s151_47, s151_50, s151_51, s151_53, s151_55, s151_58, s151_61, s151_62, s151_65, s151_66, s151_68, Option.bind_some, Option.toList_some, Option.toList_none, List.cons_append, List.nil_append, xm_kl_n, xm_kl_i, xm_kl_a, xm_kl_j, xl_0, xm_low1, xm_low2, xm_low3, xm_low4, xl_n0, xl_n1, xb_nar, xe_if0, xe_ifn, xm_ci1, xm_ca1, mf_36_2 P', mf_36_4 P', pv63_36, R.nP, hPz.1, mai_39 P' (show k < 30 by omega), pv63_39, R.r39, mcl_36 P', m_seesPack P' I R (show k < zP V by omega) ho.2 hF, nI_add]
        rw [if_neg (nI_ge (by omega) (by omega))]
        conv => lhs; simp only [s151_71]
        by_cases h0 : c
        · rw [if_pos h0, xb_t (Or.inl h0)]
        · rw [if_neg h0]
          by_cases h1 : V 8 k = nI w
          · rw [if_neg (fun z => z h1)]
            by_cases h2 : xsb V k (nI (fown V (fupk V u))) (xrd V (fown V (fupk V u)) False)
            · rw [if_pos h2, xb_t (Or.inr ⟨h1, h2⟩)]
            · rw [if_neg h2, xb_f (fun z => z.elim h0 (fun w => h2 w.2))]
          · rw [if_pos h1, xb_f (fun z => z.elim h0 (fun w => h1 w.1))]
      obtain ⟨c', hc', e⟩ := e
      obtain ⟨x7, e7⟩ := ih (k + 1) c' x8 x9 (by omega) (step c' hc')
      exact ⟨x7, e.trans e7⟩
  -- behind rule 1
  have rest : ∀ x6 x7 x8 x9, (∀ h : kd = nI 1, True) → ¬ xr1 V (fown V (fupk V u)) w kd → xm_out 151 (96, [some (.ref (o + 36)), some (.int (nI u)), some (.int kd), some (.int (nI w)), some (.int nm), some (.int (nI (fown V (fupk V u)))), x6, x7, x8, x9], [], hp') = some (some (.int (xir V u (fown V (fupk V u)) w kd nm)), hp') := by
    intro x6 x7 x8 x9 _ h1
    have third : ∀ x6 x7 x8 x9, ¬ (kd = nI 2 ∧ ¬ (¬ xum V u w nm (nI 0) = none ∨ ¬ xum V u w nm (nI 1) = none)) → xm_out 151 (127, [some (.ref (o + 36)), some (.int (nI u)), some (.int kd), some (.int (nI w)), some (.int nm), some (.int (nI (fown V (fupk V u)))), x6, x7, x8, x9], [], hp') = some (some (.int (xir V u (fown V (fupk V u)) w kd nm)), hp') := by
      intro x6 x7 x8 x9 h2
      have hl := m_importLoop P' I R hu kd nm hw (nI (fown V (fupk V u))) (fusz V u) 0 False False x8 x9 (by omega)
      rw [xrl_0 id id] at hl
      simp only [s151_127, s151_128, s151_130, s151_132, s151_133, s151_134, Option.bind_some, Option.toList_some, Option.toList_none, List.cons_append, List.nil_append, xm_kl_n, xm_kl_i, xm_kl_a, xm_kl_j, xl_0, xm_low1, xm_low2, xm_low3, xm_low4, xl_n0, xl_n1, xb_nar, xe_if0, xe_ifn, xm_ci1, xm_ca1, pk_mul]
      rw [show 10 * u = 10 * u + 0 from rfl, hl]
      unfold xir
      rw [if_neg h1]
      have h3 : (False ∨ ∃ j, 0 ≤ j ∧ j < 0 + fusz V u ∧ xsm V u w kd nm j) ↔ xr3 V u w kd nm := by
        unfold xr3
        rw [xan_spec]
        constructor
        · rintro (h | ⟨j, g1, g2, g3⟩)
          · exact h.elim
          · refine ⟨j, g1, g2, ?_⟩
            rw [show u * 10 + j = 10 * u + j by omega]; exact g3
        · rintro ⟨j, g1, g2, g3⟩
          refine Or.inr ⟨j, g1, g2, ?_⟩
          rw [show u * 10 + j = 10 * u + j by omega] at g3; exact g3
      have h4 : (False ∨ ∃ j, 0 ≤ j ∧ j < 0 + fusz V u ∧ xot V u w kd j) ↔ xr2 V u w kd nm := by
        unfold xr2
        constructor
        · rintro (h | ⟨j, g1, g2, g3⟩)
          · exact h.elim
          · have hk0 := g3.1
            refine Or.inl ⟨hk0, (ot_iff I R hu (hw (by rw [hk0]; decide))).mp ⟨j, g1, g2, ?_⟩⟩
            rw [hk0] at g3; exact g3
        · rintro (⟨h, g⟩ | h)
          · obtain ⟨j, g1, g2, g3⟩ := (ot_iff I R hu (hw (by rw [h]; decide))).mpr g
            refine Or.inr ⟨j, g1, g2, ?_⟩
            rw [h]; exact g3
          · exact absurd h h2
      rw [xrl_cg h4 h3]
      rfl
    by_cases h2 : kd = nI 2
    · have hwt := hw (by rw [h2]; decide)
      simp only [s151_96, s151_97, s151_98, s151_101, s151_102, s151_103, s151_104, s151_106, s151_107, s151_110, s151_113, s151_114, s151_115, s151_116, s151_118, s151_119, s151_122, s151_125, s151_126, Option.bind_some, Option.toList_some, Option.toList_none, List.cons_append, List.nil_append, xm_kl_n, xm_kl_i, xm_kl_a, xm_kl_j, xl_0, xm_low1, xm_low2, xm_low3, xm_low4, xl_n0, xl_n1, xb_nar, xe_if0, xe_ifn, xm_ci1, xm_ca1, mcl_36 P', m_usable P' I R hu hwt]
      rw [if_neg (fun z => z h2)]
      cases hr0 : xum V u w nm (nI 0) with
      | some b =>
        have hb := xum_lt hr0
        rw [oI_s, if_pos (Int32.not_lt.mp (nI_pos (by omega)))]
        exact third _ _ _ _ (fun z => z.2 (Or.inl (by rw [hr0]; intro q; cases q)))
      | none =>
        rw [oI_n, if_neg (show ¬ (0 : Int32) ≤ -1 by decide)]
        cases hr1 : xum V u w nm (nI 1) with
        | some b =>
          have hb := xum_lt hr1
          rw [oI_s, if_pos (Int32.not_lt.mp (nI_pos (by omega)))]
          exact third _ _ _ _ (fun z => z.2 (Or.inr (by rw [hr1]; intro q; cases q)))
        | none =>
          rw [oI_n, if_neg (show ¬ (0 : Int32) ≤ -1 by decide)]
          unfold xir
          rw [if_neg h1, if_pos (show xr2 V u w kd nm from Or.inr ⟨h2, fun z => z.elim (fun q => q hr0) (fun q => q hr1)⟩)]
    · simp only [s151_96, s151_97, s151_98, Option.bind_some, Option.toList_some, Option.toList_none, List.cons_append, List.nil_append, xm_kl_n, xm_kl_i, xm_kl_a, xm_kl_j, xl_0, xm_low1, xm_low2, xm_low3, xm_low4, xl_n0, xl_n1, xb_nar, xe_if0, xe_ifn, xm_ci1, xm_ca1]
      rw [if_pos h2]
      exact third _ _ _ _ (fun z => h2 z.1)
  simp only [k151, s151_0, s151_1, s151_2, s151_5, s151_7, s151_8, s151_10, s151_11, s151_14, s151_15, s151_16, s151_19, s151_20, s151_22, s151_23, Option.bind_some, Option.toList_some, Option.toList_none, List.cons_append, List.nil_append, xm_kl_n, xm_kl_i, xm_kl_a, xm_kl_j, xl_0, xm_low1, xm_low2, xm_low3, xm_low4, xl_n0, xl_n1, xb_nar, xe_if0, xe_ifn, xm_ci1, xm_ca1, mcl_36 P, n_home P I R hu, ho.1, er]
  by_cases h1 : kd = nI 1
  · rw [if_neg (fun z => z h1)]
    obtain ⟨x7, e7⟩ := packs (zP V) 0 False none none (by omega) ⟨fun z => z.elim, fun ⟨p, h, _⟩ => by omega⟩
    rw [xb_f (c := False) id] at e7
    rw [e7]
    simp only [s151_74, s151_76, s151_79, s151_80, s151_81, Option.bind_some, Option.toList_some, Option.toList_none, List.cons_append, List.nil_append, xm_kl_n, xm_kl_i, xm_kl_a, xm_kl_j, xl_0, xm_low1, xm_low2, xm_low3, xm_low4, xl_n0, xl_n1, xb_nar, xe_if0, xe_ifn, xm_ci1, xm_ca1]
    by_cases h2 : xan (fun p => V 8 p = nI w ∧ xsb V p (nI (fown V (fupk V u))) (xrd V (fown V (fupk V u)) False)) 0 (zP V) = true
    · rw [if_pos h2]
      exact rest _ _ _ _ (fun _ => trivial) (fun z => z.elim (fun q => q.2 h2) (fun q => q.1 h1))
    · rw [if_neg h2]
      unfold xir
      rw [if_pos (show xr1 V (fown V (fupk V u)) w kd from Or.inl ⟨h1, h2⟩)]
  · rw [if_pos h1]
    simp only [s151_84, s151_85, s151_87, s151_88, s151_91, s151_94, s151_95, Option.bind_some, Option.toList_some, Option.toList_none, List.cons_append, List.nil_append, xm_kl_n, xm_kl_i, xm_kl_a, xm_kl_j, xl_0, xm_low1, xm_low2, xm_low3, xm_low4, xl_n0, xl_n1, xb_nar, xe_if0, xe_ifn, xm_ci1, xm_ca1, mcl_36 P', m_seesType P' I R (hw h1) ho.2 hF]
    by_cases h2 : xts V (fown V (fupk V u)) w
    · rw [if_pos h2]
      exact rest _ _ _ _ (fun _ => trivial) (fun z => z.elim (fun q => h1 q.1) (fun q => q.2 h2))
    · rw [if_neg h2]
      unfold xir
      rw [if_pos (show xr1 V (fown V (fupk V u)) w kd from Or.inr ⟨h1, h2⟩)]
end MIMP
