/-! the reference's meanings -/
section MBY
variable {o : Nat} {V : pc_V} {J : Nat → Int64} {Ou : Nat → Option xm_E} {cap : Nat} {hp : xm_H} {F : Nat → Int32}
theorem m_byPacks (P : Pm o Ou (pv_row V 63 F) hp) (I : CInv V cap) (R : Rel V J) {u : Nat} (hu : u < zU V) (nm : Int32) : ∃ F' hp', xm_call 152 [.ref (o + 36), .int (nI u), .int nm] hp = some (some (.int (xon (fun t => V 13 t = nm ∧ xwi V u t ∧ xts V (fown V (fupk V u)) t) 0 (zT V) none)), hp') ∧ Pm o Ou (pv_row V 63 F') hp' ∧ hp'.2 = hp.2 := by
  have hU := I.U.2
  have hT := I.T
  have hPz := I.P
  have hS := I.usz u hu
  have hup := I.upk u hu
  have ho := I.own _ hup.2
  obtain ⟨F', hp', er, P', hsz, hF⟩ := m_read I R ho.2 False P
  rw [xb_f (c := False) id] at er
  refine ⟨F', hp', ?_, P', hsz⟩
  have inner : ∀ t, t < zT V → ∀ (fv : Int32) d k c, k + d = fusz V u → (c ↔ ∃ j, j < k ∧ V 26 (10 * u + j) = nI 1 ∧ V 27 (10 * u + j) = V 8 (ftpk V t)) → ∃ x7, xm_out 152 (36, [some (.ref (o + 36)), some (.int (nI u)), some (.int nm), some (.int (nI (fown V (fupk V u)))), some (.int fv), some (.int (nI t)), some (.int (xb c)), some (.int (nI (10 * u + k)))], [], hp') = xm_out 152 (103, [some (.ref (o + 36)), some (.int (nI u)), some (.int nm), some (.int (nI (fown V (fupk V u)))), some (.int fv), some (.int (nI t)), some (.int (xb (xwi V u t))), x7], [], hp') := by
    intro t ht fv d
    have htp := I.tpk t ht
    induction d with
    | zero =>
      intro k c hk hc
      refine ⟨some (.int (nI (10 * u + k))), ?_⟩
      simp only [s152_36, s152_38, s152_40, s152_41, s152_42, s152_43, s152_46, s152_47, s152_48, s152_49, Option.bind_some, Option.toList_some, Option.toList_none, List.cons_append, List.nil_append, xm_kl_n, xm_kl_i, xm_kl_a, xm_kl_j, xl_0, xm_low1, xm_low2, xm_low3, xm_low4, xl_n0, xl_n1, xb_nar, xe_if0, xe_ifn, xm_ci1, xm_ca1, mf_36_21 P', pk_mul, mai_53 P' (show u < 12 by omega), pv63_53, R.r53, hS.1, nI_add]
      rw [if_pos (nI_le (by omega) (by omega))]
      have : c ↔ xwi V u t := by
        unfold xwi
        rw [hc, xan_spec]
        constructor
        · rintro ⟨j, h1, h2, h3⟩
          refine ⟨j, by omega, by omega, ?_⟩
          have hkd := R.kd u j hu (by omega)
          rw [show u * 10 + j = 10 * u + j by omega] at hkd ⊢
          exact ⟨h2, h3, hkd.2 (by rw [h2]; decide)⟩
        · rintro ⟨j, _, h1, h2⟩
          rw [show u * 10 + j = 10 * u + j by omega] at h2
          exact ⟨j, by omega, h2.1, h2.2.1⟩
      rw [xb_cg this]
    | succ d ih =>
      intro k c hk hc
      have hx : 10 * u + k < 120 := by omega
      have step : ∀ c', (c' ↔ (c ∨ (V 26 (10 * u + k) = nI 1 ∧ V 27 (10 * u + k) = V 8 (ftpk V t)))) → (c' ↔ ∃ j, j < k + 1 ∧ V 26 (10 * u + j) = nI 1 ∧ V 27 (10 * u + j) = V 8 (ftpk V t)) := by
        intro c' h
        rw [h, hc]
        constructor
        · rintro (⟨p, h1, h2⟩ | h)
          · exact ⟨p, by omega, h2⟩
          · exact ⟨k, by omega, h⟩
        · rintro ⟨p, h1, h2⟩
          by_cases hpk : p = k
          · subst hpk; exact Or.inr h2
          · exact Or.inl ⟨p, by omega, h2⟩
      have e : ∃ c', (c' ↔ (c ∨ (V 26 (10 * u + k) = nI 1 ∧ V 27 (10 * u + k) = V 8 (ftpk V t)))) ∧ xm_out 152 (36, [some (.ref (o + 36)), some (.int (nI u)), some (.int nm), some (.int (nI (fown V (fupk V u)))), some (.int fv), some (.int (nI t)), some (.int (xb c)), some (.int (nI (10 * u + k)))], [], hp') = xm_out 152 (36, [some (.ref (o + 36)), some (.int (nI u)), some (.int nm), some (.int (nI (fown V (fupk V u)))), some (.int fv), some (.int (nI t)), some (.int (xb c')), some (.int (nI (10 * u + (k + 1))))], [], hp') := by
        refine ⟨_, Iff.rfl, ?_⟩
        conv => lhs; simp only [s152_36, s152_38, s152_40, s152_41, s152_42, s152_43, s152_46, s152_47, s152_48, s152_49, s152_52, s152_54, s152_57, s152_58, s152_61, s152_63, s152_64, s152_65, s152_68, s152_69, s152_72, s152_74, s152_75, s152_76, s152_79, s152_80, s152_83, s152_85, s152_86, s152_87, s152_90, s152_91, s152_94, s152_95, s152_97, Option.bind_some, Option.toList_some, Option.toList_none, List.cons_append, List.nil_append, xm_kl_n, xm_kl_i, xm_kl_a, xm_kl_j, xl_0, xm_low1, xm_low2, xm_low3, xm_low4, xl_n0, xl_n1, xb_nar, xe_if0, xe_ifn, xm_ci1, xm_ca1, mf_36_21 P', mf_36_22 P', mf_36_23 P', mf_36_4 P', mf_36_8 P', pk_mul, mai_53 P' (show u < 12 by omega), mai_54 P' hx, mai_55 P' hx, mai_42 P' (show t < 40 by omega), pv63_53, pv63_54, pv63_55, pv63_42, R.r53, R.r54, R.r55, R.r42, hS.1, htp.1, mai_39 P' (show ftpk V t < 30 by omega), pv63_39, R.r39, nI_add]
        rw [if_neg (nI_ge (by omega) (by omega))]
        conv => lhs; simp only [s152_100, show 10 * u + k + 1 = 10 * u + (k + 1) by omega]
        by_cases h0 : c
        · rw [if_pos h0, xb_t (Or.inl h0)]
        · rw [if_neg h0]
          by_cases h1 : V 26 (10 * u + k) = nI 1
          · rw [if_neg (fun z => z h1)]
            by_cases h2 : V 27 (10 * u + k) = V 8 (ftpk V t)
            · rw [if_neg (fun z => z h2), xb_t (Or.inr ⟨h1, h2⟩)]
            · rw [if_pos h2, xb_f (fun z => z.elim h0 (fun w => h2 w.2))]
          · rw [if_pos h1, xb_f (fun z => z.elim h0 (fun w => h1 w.1))]
      obtain ⟨c', hc', e⟩ := e
      obtain ⟨x7, e7⟩ := ih (k + 1) c' (by omega) (step c' hc')
      exact ⟨x7, e.trans e7⟩
  -- one type
  have one : ∀ t, t < zT V → ∀ (fv : Int32) x6 x7, ∃ x6' x7', xm_out 152 (18, [some (.ref (o + 36)), some (.int (nI u)), some (.int nm), some (.int (nI (fown V (fupk V u)))), some (.int fv), some (.int (nI t)), x6, x7], [], hp') = @ite _ (V 13 t = nm ∧ xwi V u t ∧ xts V (fown V (fupk V u)) t) (Classical.propDecidable _) (xm_out 152 (18, [some (.ref (o + 36)), some (.int (nI u)), some (.int nm), some (.int (nI (fown V (fupk V u)))), some (.int (if fv = -1 then nI t else -5)), some (.int (nI (t + 1))), x6', x7'], [], hp')) (xm_out 152 (18, [some (.ref (o + 36)), some (.int (nI u)), some (.int nm), some (.int (nI (fown V (fupk V u)))), some (.int fv), some (.int (nI (t + 1))), x6', x7'], [], hp')) := by
    intro t ht fv x6 x7
    obtain ⟨x7', e7⟩ := inner t ht fv (fusz V u) 0 False (by omega) ⟨fun z => z.elim, fun ⟨j, h, _⟩ => by omega⟩
    rw [xb_f (c := False) id] at e7
    refine ⟨some (.int (xb (xwi V u t))), x7', ?_⟩
    have e0 : xm_out 152 (18, [some (.ref (o + 36)), some (.int (nI u)), some (.int nm), some (.int (nI (fown V (fupk V u)))), some (.int fv), some (.int (nI t)), x6, x7], [], hp') = xm_out 152 (36, [some (.ref (o + 36)), some (.int (nI u)), some (.int nm), some (.int (nI (fown V (fupk V u)))), some (.int fv), some (.int (nI t)), some (.int (nI 0)), some (.int (nI (10 * u + 0)))], [], hp') := by
      simp only [s152_18, s152_20, s152_21, s152_24, s152_27, s152_28, s152_30, s152_32, s152_33, s152_34, Option.bind_some, Option.toList_some, Option.toList_none, List.cons_append, List.nil_append, xm_kl_n, xm_kl_i, xm_kl_a, xm_kl_j, xl_0, xm_low1, xm_low2, xm_low3, xm_low4, xl_n0, xl_n1, xb_nar, xe_if0, xe_ifn, xm_ci1, xm_ca1, mf_36_7 P', pv63_36, R.nT, hT.1, pk_mul]
      rw [if_neg (nI_ge (by omega) (by omega))]
      rfl
    rw [e0, e7]
    conv => lhs; simp only [s152_103, s152_105, s152_108, s152_109, s152_112, s152_114, s152_115, s152_116, s152_119, s152_120, s152_121, s152_123, s152_126, s152_129, s152_131, s152_132, s152_135, s152_137, s152_140, s152_142, s152_144, Option.bind_some, Option.toList_some, Option.toList_none, List.cons_append, List.nil_append, xm_kl_n, xm_kl_i, xm_kl_a, xm_kl_j, xl_0, xm_low1, xm_low2, xm_low3, xm_low4, xl_n0, xl_n1, xb_nar, xe_if0, xe_ifn, xm_ci1, xm_ca1, mf_36_9 P', mai_43 P' (show t < 40 by omega), pv63_43, R.r43, mcl_36 P', m_seesType P' I R ht ho.2 hF, nI_add]
    conv => lhs; simp only [s152_147]
    by_cases h1 : xwi V u t
    · rw [if_pos h1]
      by_cases h2 : V 13 t = nm
      · rw [if_neg (fun z => z h2)]
        by_cases h3 : xts V (fown V (fupk V u)) t
        · rw [if_pos h3, if_pos (show V 13 t = nm ∧ xwi V u t ∧ xts V (fown V (fupk V u)) t from ⟨h2, h1, h3⟩)]
          by_cases h4 : fv = -1
          · rw [if_neg (fun z => z h4), if_pos h4]
          · rw [if_pos h4, if_neg h4]
        · rw [if_neg h3, if_neg (fun z => h3 z.2.2)]
      · rw [if_pos h2, if_neg (fun z => h2 z.1)]
    · rw [if_neg h1, if_neg (fun z => h1 z.2.1)]
  have fin : ∀ (fv : Int32) x6 x7, xm_out 152 (18, [some (.ref (o + 36)), some (.int (nI u)), some (.int nm), some (.int (nI (fown V (fupk V u)))), some (.int fv), some (.int (nI (zT V))), x6, x7], [], hp') = some (some (.int fv), hp') := by
    intro fv x6 x7
    simp only [s152_18, s152_20, s152_21, s152_24, s152_150, s152_152, Option.bind_some, Option.toList_some, Option.toList_none, List.cons_append, List.nil_append, xm_kl_n, xm_kl_i, xm_kl_a, xm_kl_j, xl_0, xm_low1, xm_low2, xm_low3, xm_low4, xl_n0, xl_n1, xb_nar, xe_if0, xe_ifn, xm_ci1, xm_ca1, mf_36_7 P', pv63_36, R.nT, hT.1]
    rw [if_pos (nI_le (by omega) (by omega))]
  have two : ∀ d t x6 x7, t + d = zT V → xm_out 152 (18, [some (.ref (o + 36)), some (.int (nI u)), some (.int nm), some (.int (nI (fown V (fupk V u)))), some (.int (-5)), some (.int (nI t)), x6, x7], [], hp') = some (some (.int (-5)), hp') := by
    intro d
    induction d with
    | zero => intro t x6 x7 hk; rw [show t = zT V by omega]; exact fin _ _ _
    | succ d ih =>
      intro t x6 x7 hk
      obtain ⟨x6', x7', e⟩ := one t (by omega) (-5) x6 x7
      rw [e, if_neg (show ¬ (-5 : Int32) = -1 by decide), ih (t + 1) x6' x7' (by omega)]
      split <;> rfl
  have outer : ∀ d t f x6 x7, t + d = zT V → (∀ s, f = some s → s < 2 ^ 31) → xm_out 152 (18, [some (.ref (o + 36)), some (.int (nI u)), some (.int nm), some (.int (nI (fown V (fupk V u)))), some (.int (oI f)), some (.int (nI t)), x6, x7], [], hp') = some (some (.int (xon (fun t => V 13 t = nm ∧ xwi V u t ∧ xts V (fown V (fupk V u)) t) t d f)), hp') := by
    intro d
    induction d with
    | zero => intro t f x6 x7 hk hf; rw [show t = zT V by omega]; exact fin _ _ _
    | succ d ih =>
      intro t f x6 x7 hk hf
      obtain ⟨x6', x7', e⟩ := one t (by omega) (oI f) x6 x7
      rw [e]
      by_cases hc : V 13 t = nm ∧ xwi V u t ∧ xts V (fown V (fupk V u)) t
      · rw [if_pos hc]
        cases f with
        | none =>
          rw [if_pos (show oI none = -1 from rfl), xon_n (c := fun t => V 13 t = nm ∧ xwi V u t ∧ xts V (fown V (fupk V u)) t) hc, ← oI_s]
          exact ih (t + 1) (some t) _ _ (by omega) (fun s h => by cases h; omega)
        | some s =>
          rw [oI_s, if_neg (nI_m1 (hf s rfl)), xon_s (c := fun t => V 13 t = nm ∧ xwi V u t ∧ xts V (fown V (fupk V u)) t) hc]
          exact two d (t + 1) _ _ (by omega)
      · rw [if_neg hc, xon_f (c := fun t => V 13 t = nm ∧ xwi V u t ∧ xts V (fown V (fupk V u)) t) hc]
        exact ih (t + 1) f _ _ (by omega) hf
  simp only [k152, s152_0, s152_1, s152_2, s152_5, s152_6, s152_7, s152_8, s152_9, s152_12, s152_13, s152_15, s152_16, Option.bind_some, Option.toList_some, Option.toList_none, List.cons_append, List.nil_append, xm_kl_n, xm_kl_i, xm_kl_a, xm_kl_j, xl_0, xm_low1, xm_low2, xm_low3, xm_low4, xl_n0, xl_n1, xb_nar, xe_if0, xe_ifn, xm_ci1, xm_ca1, mcl_36 P, n_home P I R hu, ho.1, er]
  exact outer (zT V) 0 none _ _ (by omega) (fun s h => by cases h)
theorem m_byImports (P : Pm o Ou (pv_row V 63 F) hp) (I : CInv V cap) (R : Rel V J) {u : Nat} (hu : u < zU V) (ik nm kd : Int32) (hik : ik = nI 2 ∨ ik = nI 3) (hkd : kd = nI 0 ∨ kd = nI 1) : xm_call 130 [.ref (o + 36), .int (nI u), .int ik, .int nm, .int kd] hp = some (some (.int (xim (fun k => xbi V u k ik nm kd) (kd = nI 1) 0 (fusz V u) none)), hp) := by
  have hU := I.U.2
  have hT := I.T.2
  have hB := I.B.2
  have hS := I.usz u hu
  have hik1 : ¬ ik = nI 1 := by rcases hik with h | h <;> rw [h] <;> decide
  have next : ∀ (fv : Int32) k x7, k < fusz V u → ∃ x7', xm_out 130 (9, [some (.ref (o + 36)), some (.int (nI u)), some (.int ik), some (.int nm), some (.int kd), some (.int fv), some (.int (nI (10 * u + k))), x7], [], hp) = match xbi V u k ik nm kd with
      | none => xm_out 130 (9, [some (.ref (o + 36)), some (.int (nI u)), some (.int ik), some (.int nm), some (.int kd), some (.int fv), some (.int (nI (10 * u + (k + 1)))), x7'], [], hp)
      | some b => if ¬ fv = -1 then (if ¬ kd = 0 then xm_out 130 (9, [some (.ref (o + 36)), some (.int (nI u)), some (.int ik), some (.int nm), some (.int kd), some (.int fv), some (.int (nI (10 * u + (k + 1)))), x7'], [], hp) else if fv = nI b then xm_out 130 (9, [some (.ref (o + 36)), some (.int (nI u)), some (.int ik), some (.int nm), some (.int kd), some (.int fv), some (.int (nI (10 * u + (k + 1)))), x7'], [], hp) else some (some (.int (-5)), hp)) else xm_out 130 (9, [some (.ref (o + 36)), some (.int (nI u)), some (.int ik), some (.int nm), some (.int kd), some (.int (nI b)), some (.int (nI (10 * u + (k + 1)))), x7'], [], hp) := by
    intro fv k x7 hk
    have hx : 10 * u + k < 120 := by omega
    have ei : u * 10 + k = 10 * u + k := by omega
    have hi := I.iwh u k hu hk
    rw [ei] at hi
    have e0 : xm_out 130 (9, [some (.ref (o + 36)), some (.int (nI u)), some (.int ik), some (.int nm), some (.int kd), some (.int fv), some (.int (nI (10 * u + k))), x7], [], hp) = @ite _ (V 26 (10 * u + k) = ik ∧ (ik = nI 2 → V 28 (10 * u + k) = nm)) (Classical.propDecidable _) (xm_out 130 (52, [some (.ref (o + 36)), some (.int (nI u)), some (.int ik), some (.int nm), some (.int kd), some (.int fv), some (.int (nI (10 * u + k))), x7], [], hp)) (xm_out 130 (9, [some (.ref (o + 36)), some (.int (nI u)), some (.int ik), some (.int nm), some (.int kd), some (.int fv), some (.int (nI (10 * u + (k + 1)))), x7], [], hp)) := by
      conv => lhs; simp only [s130_9, s130_11, s130_13, s130_14, s130_15, s130_16, s130_19, s130_20, s130_21, s130_22, s130_25, s130_26, s130_29, s130_31, s130_32, s130_33, s130_36, s130_37, s130_38, s130_41, s130_42, s130_45, s130_47, s130_48, s130_49, s130_107, Option.bind_some, Option.toList_some, Option.toList_none, List.cons_append, List.nil_append, xm_kl_n, xm_kl_i, xm_kl_a, xm_kl_j, xl_0, xm_low1, xm_low2, xm_low3, xm_low4, xl_n0, xl_n1, xb_nar, xe_if0, xe_ifn, xm_ci1, xm_ca1, mf_36_21 P, mf_36_22 P, mf_36_24 P, pk_mul, mai_53 P (show u < 12 by omega), mai_54 P hx, mai_56 P hx, pv63_53, pv63_54, pv63_56, R.r53, R.r54, R.r56, hS.1, nI_add]
      rw [if_neg (nI_ge (by omega) (by omega))]
      conv => lhs; simp only [s130_110, show 10 * u + k + 1 = 10 * u + (k + 1) by omega]
      by_cases h1 : V 26 (10 * u + k) = ik
      · rw [if_neg (fun z => z h1)]
        by_cases h2 : ik = nI 3
        · rw [if_pos h2, if_pos ⟨h1, fun z => absurd (z.symm.trans h2) (by decide)⟩]
        · rw [if_neg h2]
          by_cases h3 : V 28 (10 * u + k) = nm
          · rw [if_neg (fun z => z h3), if_pos ⟨h1, fun _ => h3⟩]
          · rw [if_pos h3, if_neg (fun z => h3 (z.2 (hik.elim id (fun q => absurd q h2))))]
      · rw [if_pos h1, if_neg (fun z => h1 z.1)]
    rw [e0]
    unfold xbi
    rw [ei]
    by_cases hc : V 26 (10 * u + k) = ik ∧ (ik = nI 2 → V 28 (10 * u + k) = nm)
    · rw [if_pos hc, if_pos hc]
      have hwt := hi.2 (by rw [hc.1]; exact hik1)
      have e1 : xm_out 130 (52, [some (.ref (o + 36)), some (.int (nI u)), some (.int ik), some (.int nm), some (.int kd), some (.int fv), some (.int (nI (10 * u + k))), x7], [], hp) = xm_out 130 (69, [some (.ref (o + 36)), some (.int (nI u)), some (.int ik), some (.int nm), some (.int kd), some (.int fv), some (.int (nI (10 * u + k))), some (.int (oI (xum V u (fiwh V u k) nm kd)))], [], hp) := by
        simp only [s130_52, s130_53, s130_54, s130_55, s130_58, s130_60, s130_61, s130_62, s130_64, s130_67, Option.bind_some, Option.toList_some, Option.toList_none, List.cons_append, List.nil_append, xm_kl_n, xm_kl_i, xm_kl_a, xm_kl_j, xl_0, xm_low1, xm_low2, xm_low3, xm_low4, xl_n0, xl_n1, xb_nar, xe_if0, xe_ifn, xm_ci1, xm_ca1, mcl_36 P, mf_36_23 P, mai_55 P hx, pv63_55, R.r55, hi.1, m_usable P I R hu hwt]
      rw [e1]
      cases hr : xum V u (fiwh V u k) nm kd with
      | none =>
        refine ⟨some (.int (-1)), ?_⟩
        show _ = xm_out _ _
        conv => lhs; simp only [oI_n, s130_69, s130_71, s130_74, s130_76, s130_77, s130_80, s130_82, s130_84, s130_87, s130_89, s130_92, s130_94, s130_97, s130_99, s130_101, s130_104, s130_106, s130_107, Option.bind_some, Option.toList_some, Option.toList_none, List.cons_append, List.nil_append, xm_kl_n, xm_kl_i, xm_kl_a, xm_kl_j, xl_0, xm_low1, xm_low2, xm_low3, xm_low4, xl_n0, xl_n1, xb_nar, xe_if0, xe_ifn, xm_ci1, xm_ca1, nI_add]
        rw [if_pos (show (-1 : Int32) < 0 by decide), if_pos (show (-1 : Int32) < 0 by decide)]
        conv => lhs; simp only [s130_110, show 10 * u + k + 1 = 10 * u + (k + 1) by omega]
      | some b =>
        have hb := xum_lt hr
        refine ⟨some (.int (nI b)), ?_⟩
        show _ = (if ¬ fv = -1 then _ else _)
        conv => lhs; simp only [oI_s, s130_69, s130_71, s130_74, s130_76, s130_77, s130_80, s130_82, s130_84, s130_87, s130_89, s130_92, s130_94, s130_97, s130_99, s130_101, s130_104, s130_106, s130_107, Option.bind_some, Option.toList_some, Option.toList_none, List.cons_append, List.nil_append, xm_kl_n, xm_kl_i, xm_kl_a, xm_kl_j, xl_0, xm_low1, xm_low2, xm_low3, xm_low4, xl_n0, xl_n1, xb_nar, xe_if0, xe_ifn, xm_ci1, xm_ca1, nI_add]
        rw [if_neg (nI_pos (by omega)), if_neg (nI_pos (by omega))]
        conv => lhs; simp only [s130_110, show 10 * u + k + 1 = 10 * u + (k + 1) by omega]
    · rw [if_neg hc, if_neg hc]
      exact ⟨x7, rfl⟩
  have fin : ∀ (fv : Int32) x7, xm_out 130 (9, [some (.ref (o + 36)), some (.int (nI u)), some (.int ik), some (.int nm), some (.int kd), some (.int fv), some (.int (nI (10 * u + fusz V u))), x7], [], hp) = some (some (.int fv), hp) := by
    intro fv x7
    simp only [s130_9, s130_11, s130_13, s130_14, s130_15, s130_16, s130_19, s130_20, s130_21, s130_22, s130_113, s130_115, Option.bind_some, Option.toList_some, Option.toList_none, List.cons_append, List.nil_append, xm_kl_n, xm_kl_i, xm_kl_a, xm_kl_j, xl_0, xm_low1, xm_low2, xm_low3, xm_low4, xl_n0, xl_n1, xb_nar, xe_if0, xe_ifn, xm_ci1, xm_ca1, mf_36_21 P, pk_mul, mai_53 P (show u < 12 by omega), pv63_53, R.r53, hS.1, nI_add]
    rw [if_pos (nI_le (by omega) (by omega))]
  have meth : kd = nI 1 → ∀ d k b x7, k + d = fusz V u → b < 2 ^ 31 → xm_out 130 (9, [some (.ref (o + 36)), some (.int (nI u)), some (.int ik), some (.int nm), some (.int kd), some (.int (nI b)), some (.int (nI (10 * u + k))), x7], [], hp) = some (some (.int (nI b)), hp) := by
    intro hk1 d
    induction d with
    | zero => intro k b x7 hk hb; rw [show k = fusz V u by omega]; exact fin _ _
    | succ d ih =>
      intro k b x7 hk hb
      obtain ⟨x7', e⟩ := next (nI b) k x7 (by omega)
      rw [e]
      cases hr : xbi V u k ik nm kd with
      | none => exact ih (k + 1) b x7' (by omega) hb
      | some b' =>
        show (if ¬ nI b = -1 then _ else _) = _
        rw [if_pos (nI_m1 hb), if_pos (show ¬ kd = 0 by rw [hk1]; decide)]
        exact ih (k + 1) b x7' (by omega) hb
  have outer : ∀ d k f x7, k + d = fusz V u → (∀ s, f = some s → s < 2 ^ 31) → (kd = nI 1 → f = none) → xm_out 130 (9, [some (.ref (o + 36)), some (.int (nI u)), some (.int ik), some (.int nm), some (.int kd), some (.int (oI f)), some (.int (nI (10 * u + k))), x7], [], hp) = some (some (.int (xim (fun k => xbi V u k ik nm kd) (kd = nI 1) k d f)), hp) := by
    intro d
    induction d with
    | zero => intro k f x7 hk hf hm; rw [show k = fusz V u by omega]; exact fin _ _
    | succ d ih =>
      intro k f x7 hk hf hm
      obtain ⟨x7', e⟩ := next (oI f) k x7 (by omega)
      rw [e]
      cases hr : xbi V u k ik nm kd with
      | none =>
        rw [xim_0 (g := fun k => xbi V u k ik nm kd) hr]
        exact ih (k + 1) f x7' (by omega) hf hm
      | some b =>
        have hb := xbi_lt hr
        show (if ¬ oI f = -1 then _ else _) = _
        cases f with
        | none =>
          rw [if_neg (fun z => z rfl)]
          by_cases h1 : kd = nI 1
          · rw [xim_m (g := fun k => xbi V u k ik nm kd) hr (fun z => by cases z) h1]
            exact meth h1 d (k + 1) b x7' (by omega) (by omega)
          · rw [xim_n (g := fun k => xbi V u k ik nm kd) hr h1]
            exact ih (k + 1) (some b) x7' (by omega) (fun s h => by cases h; omega) (fun z => absurd z h1)
        | some s =>
          have hsl := hf s rfl
          have h1 : ¬ kd = nI 1 := fun z => by have := hm z; cases this
          have h0 : kd = 0 := hkd.elim (fun z => z.trans rfl) (fun z => absurd z h1)
          rw [oI_s, if_pos (nI_m1 hsl), if_neg (fun z => z h0)]
          by_cases h2 : s = b
          · subst h2
            rw [if_pos rfl, xim_e (g := fun k => xbi V u k ik nm kd) hr rfl]
            exact ih (k + 1) (some s) x7' (by omega) hf hm
          · rw [if_neg (fun z => h2 (by rwa [nI_eq hsl (by omega)] at z)), xim_s (g := fun k => xbi V u k ik nm kd) hr (fun z => h2 (by injection z)) h1]
  simp only [k130, s130_0, s130_1, s130_3, s130_5, s130_6, s130_7, Option.bind_some, Option.toList_some, Option.toList_none, List.cons_append, List.nil_append, xm_kl_n, xm_kl_i, xm_kl_a, xm_kl_j, xl_0, xm_low1, xm_low2, xm_low3, xm_low4, xl_n0, xl_n1, xb_nar, xe_if0, xe_ifn, xm_ci1, xm_ca1, pk_mul]
  exact outer (fusz V u) 0 none _ (by omega) (fun s h => by cases h) (fun _ => rfl)
end MBY
