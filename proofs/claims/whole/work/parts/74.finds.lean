/-! provider, finds -/
section FINDS
variable {o n : Nat} {V : pc_V} {J : Nat → Int64} {p1 p2 cap : Nat} {hp hp' : xm_H} {F : Nat → Int32} {Ou : Nat → Option xm_E}
theorem xkn_spec (row : Nat → Int32) (par : Nat → Option Nat) {i : Nat} (hi : i < 32) (hr : ∀ t, par t = none ∨ ∃ s, par t = some s) : ∀ d s q, (∀ t, q = some t → t < 2 ^ 31) → (∀ t u, par t = some u → u < 2 ^ 31) → (tb (xkn row par d s q) i ↔ tb s i ∨ ¬ xhm row par (nI i) d q = -1) := by
  intro d
  induction d with
  | zero => intro s q hq hp; exact ⟨Or.inl, fun z => z.elim id (fun w => absurd rfl w)⟩
  | succ d ih =>
    intro s q hq hp
    cases q with
    | none => exact ⟨Or.inl, fun z => z.elim id (fun w => absurd rfl w)⟩
    | some t =>
      show tb (xkn row par d (s ||| row t) (par t)) i ↔ tb s i ∨ ¬ (if row t &&& (nI 1 <<< (nI i &&& 31)) = 0 then xhm row par (nI i) d (par t) else nI t) = -1
      rw [ih (s ||| row t) (par t) (fun u h => hp t u h) hp, tb_or hi]
      by_cases h : row t &&& (nI 1 <<< (nI i &&& 31)) = 0
      · rw [if_pos h]
        have h' : ¬ tb (row t) i := fun z => z h
        exact ⟨fun z => z.elim (fun w => w.elim Or.inl (fun w => absurd w h')) Or.inr, fun z => z.elim (fun w => Or.inl (Or.inl w)) Or.inr⟩
      · rw [if_neg h]
        have h' : tb (row t) i := h
        exact ⟨fun _ => Or.inr (nI_m1 (hq t rfl)), fun _ => Or.inl (Or.inr h')⟩
theorem kn_spec (I : CInv V cap) {i : Nat} (hi : i < 32) (q : Option Nat) (hq : ∀ t, q = some t → t < zL V) : tb (xkn (V 35) (flpr V) 4 (nI 0) q) i ↔ ¬ xhm (V 35) (flpr V) (nI i) 4 q = -1 := by
  have hL := I.L.2
  have hfl : ∀ t u, flpr V t = some u → u < 2 ^ 31 := by
    intro t u h
    unfold flpr rO at h
    split at h
    · cases h
    · injection h with h
      rw [← h]
      have := (V 34 t).toInt_lt
      unfold Int32.toNatClampNeg
      omega
  rw [xkn_spec (V 35) (flpr V) hi (fun t => by cases flpr V t with | none => exact Or.inl rfl | some s => exact Or.inr ⟨s, rfl⟩) 4 (nI 0) q (fun t h => by have := hq t h; omega) hfl]
  exact ⟨fun z => z.elim (fun w => absurd w (tb_0 hi)) id, Or.inr⟩
/-- a layer found is a layer -/
theorem xhm_or (I : CInv V cap) (b : Int32) : ∀ d q, (∀ t, q = some t → t < zL V) → xhm (V 35) (flpr V) b d q = -1 ∨ ∃ l, l < zL V ∧ xhm (V 35) (flpr V) b d q = nI l := by
  intro d
  induction d with
  | zero => intro q hq; exact Or.inl rfl
  | succ d ih =>
    intro q hq
    cases q with
    | none => exact Or.inl rfl
    | some t =>
      show (if V 35 t &&& (nI 1 <<< (b &&& 31)) = 0 then xhm (V 35) (flpr V) b d (flpr V t) else nI t) = -1 ∨ ∃ l, l < zL V ∧ (if V 35 t &&& (nI 1 <<< (b &&& 31)) = 0 then xhm (V 35) (flpr V) b d (flpr V t) else nI t) = nI l
      by_cases h : V 35 t &&& (nI 1 <<< (b &&& 31)) = 0
      · rw [if_pos h]
        exact ih (flpr V t) (fun s hs => Nat.lt_trans ((I.lpr t (hq t rfl)).2 s hs) (hq t rfl))
      · rw [if_neg h]
        exact Or.inr ⟨t, hq t rfl, rfl⟩
theorem sim_finds (S : Stb o n V J p1 p2 cap hp) (a b pn nm : Int32) : Sim o n 159 154 [.int a, .int b, .int pn, .int nm] hp := by
  have P := S.P
  have I := S.I
  have R := S.R
  have Q := S.Q
  have hM := I.M
  have hL := I.L
  have hT := I.T
  have hPz := I.P
  by_cases hg : (0 ≤ a ∧ a < V 33 0) ∧ (0 ≤ b ∧ b < V 1 0) ∧ (0 ≤ pn ∧ pn < nI 31) ∧ (0 ≤ nm ∧ nm < nI 31)
  · obtain ⟨ha, hb, hc, hd⟩ := hg
    obtain ⟨l, hl, rfl⟩ := rng ha hL.1 (by omega)
    obtain ⟨m, hm, rfl⟩ := rng hb hM.1 (by omega)
    have hq : ∀ t, some l = some t → t < zL V := fun t h => by cases h; exact hl
    have e1 := c_Layers_homeOf P I.L.2 I.lpr' (some l) hq (nI m)
    have e2 := m_loaderOf Q I R (show m < 12 by omega) (some l) hq
    rw [oI_s] at e1 e2
    rcases xhm_or I (nI m) 4 (some l) hq with h1 | ⟨h, hh, h1⟩
    · rw [h1] at e1 e2
      refine ⟨-3, hp, hp, ?_, ?_, S.s⟩
      · simp only [k159, s159_0, s159_1, s159_4, s159_5, s159_8, s159_11, s159_12, s159_15, s159_16, s159_19, s159_22, s159_23, s159_26, s159_29, s159_31, s159_34, s159_37, s159_39, s159_40, s159_41, s159_44, s159_45, s159_46, s159_49, s159_51, s159_53, s159_54, s159_57, s159_59, Option.bind_some, Option.toList_some, Option.toList_none, List.cons_append, List.nil_append, xm_kl_n, xm_kl_i, xm_kl_a, xm_kl_j, xl_0, xm_low1, xm_low2, xm_low3, xm_low4, xl_n0, xl_n1, xb_nar, xe_if0, xe_ifn, xm_ci1, xm_ca1, pf_0_0 P, pf_0_6 P, pcl_1 P, pcl_33 P, c_Modules_holds P, c_Layers_holds P, c_isName, e1]
        rw [if_pos ha, if_pos hb, if_pos hc, if_pos hd, if_neg (fun z => z trivial)]
      · simp only [k154, s154_0, s154_1, s154_2, s154_5, s154_8, s154_9, s154_10, s154_13, s154_16, s154_17, s154_20, s154_23, s154_25, s154_28, s154_31, s154_33, s154_34, s154_35, s154_36, s154_37, s154_40, s154_42, s154_44, s154_47, s154_49, Option.bind_some, Option.toList_some, Option.toList_none, List.cons_append, List.nil_append, xm_kl_n, xm_kl_i, xm_kl_a, xm_kl_j, xl_0, xm_low1, xm_low2, xm_low3, xm_low4, xl_n0, xl_n1, xb_nar, xe_if0, xe_ifn, xm_ci1, xm_ca1, mcl_36 Q, n_isModule Q I R, n_isLayer Q I R, m_name, e2]
        rw [if_pos ha, if_pos hb, if_pos hc, if_pos hd, if_neg (show ¬ (0 : Int32) ≤ -1 by decide)]
    · rw [h1] at e1 e2
      have hqh : ∀ t, some h = some t → t < zL V := fun t e => by cases e; exact hh
      obtain ⟨F', hp', er, P', hs, hF⟩ := m_read I R hm True Q
      rw [xb_t (c := True) trivial] at er
      have efp := c_foundPack P I hh hm pn
      -- the reference's walk
      have step : ∀ k x8, k < zM V → xm_out 154 (67, [some (.ref (o + 36)), some (.int (nI l)), some (.int (nI m)), some (.int pn), some (.int nm), some (.int (nI h)), some (.int (-1)), some (.int (nI k)), x8], [], hp') = (if ¬ nI k = nI m then @ite _ (xmr V m True k) (Classical.propDecidable _) (if xhm (V 35) (flpr V) (nI k) 4 (some h) < 0 then xm_out 154 (67, [some (.ref (o + 36)), some (.int (nI l)), some (.int (nI m)), some (.int pn), some (.int nm), some (.int (nI h)), some (.int (-1)), some (.int (nI (k + 1))), x8], [], hp') else xm_out 154 (117, [some (.ref (o + 36)), some (.int (nI l)), some (.int (nI m)), some (.int pn), some (.int nm), some (.int (nI h)), some (.int (-1)), some (.int (nI k)), some (.int (oI (xfo (fun p => V 7 p = nI k ∧ V 8 p = pn) 0 (zP V))))], [], hp')) (xm_out 154 (67, [some (.ref (o + 36)), some (.int (nI l)), some (.int (nI m)), some (.int pn), some (.int nm), some (.int (nI h)), some (.int (-1)), some (.int (nI (k + 1))), x8], [], hp')) else xm_out 154 (67, [some (.ref (o + 36)), some (.int (nI l)), some (.int (nI m)), some (.int pn), some (.int nm), some (.int (nI h)), some (.int (-1)), some (.int (nI (k + 1))), x8], [], hp')) := by
        intro k x8 hk
        have e3 := m_loaderOf P' I R (show k < 12 by omega) (some h) hqh
        rw [oI_s] at e3
        conv => lhs; simp only [s154_67, s154_69, s154_70, s154_73, s154_76, s154_78, s154_81, s154_83, s154_84, s154_87, s154_88, s154_91, s154_93, s154_94, s154_97, s154_98, s154_100, s154_102, s154_105, s154_108, s154_109, s154_111, s154_112, s154_115, s154_140, Option.bind_some, Option.toList_some, Option.toList_none, List.cons_append, List.nil_append, xm_kl_n, xm_kl_i, xm_kl_a, xm_kl_j, xl_0, xm_low1, xm_low2, xm_low3, xm_low4, xl_n0, xl_n1, xb_nar, xe_if0, xe_ifn, xm_ci1, xm_ca1, mcl_36 P', mf_36_0 P', pv63_36, R.nM, hM.1, mf_36_33 P', maz_63 P' (show k < 12 by omega), pv63_63, hF k (by omega), e3, n_packOf P' I R, nI_add]
        rw [if_neg (nI_ge (by omega) (by omega)), if_neg (show ¬ (0 : Int32) ≤ -1 by decide)]
        conv => lhs; simp only [s154_143]
        by_cases hkm : nI k = nI m
        · rw [if_pos hkm, if_neg (fun z => z hkm)]
        · rw [if_neg hkm, if_pos hkm]
      have at117 : ∀ k (q : Option Nat), k < zM V → (∀ p, q = some p → p < zP V) → ∃ x8', xm_out 154 (117, [some (.ref (o + 36)), some (.int (nI l)), some (.int (nI m)), some (.int pn), some (.int nm), some (.int (nI h)), some (.int (-1)), some (.int (nI k)), some (.int (oI q))], [], hp') = xm_out 154 (67, [some (.ref (o + 36)), some (.int (nI l)), some (.int (nI m)), some (.int pn), some (.int nm), some (.int (nI h)), some (.int (oI (match q with
          | none => none
          | some p => @ite _ (V 9 p &&& (nI 4096 ||| xbit (nI m)) = 0) (Classical.propDecidable _) none (some p)))), some (.int (nI (k + 1))), x8'], [], hp') := by
        intro k q hk hq
        refine ⟨some (.int (oI q)), ?_⟩
        cases q with
        | none =>
          conv => lhs; simp only [oI_n, s154_117, s154_119, s154_137, s154_138, s154_140, Option.bind_some, Option.toList_some, Option.toList_none, List.cons_append, List.nil_append, xm_kl_n, xm_kl_i, xm_kl_a, xm_kl_j, xl_0, xm_low1, xm_low2, xm_low3, xm_low4, xl_n0, xl_n1, xb_nar, xe_if0, xe_ifn, xm_ci1, xm_ca1, nI_add]
          rw [if_pos (show (-1 : Int32) < 0 by decide)]
          conv => lhs; simp only [s154_143]
          rfl
        | some p =>
          have hpl := hq p rfl
          conv => lhs; simp only [oI_s, s154_117, s154_119, s154_122, s154_123, s154_125, s154_126, s154_129, s154_132, s154_134, s154_137, s154_138, s154_140, Option.bind_some, Option.toList_some, Option.toList_none, List.cons_append, List.nil_append, xm_kl_n, xm_kl_i, xm_kl_a, xm_kl_j, xl_0, xm_low1, xm_low2, xm_low3, xm_low4, xl_n0, xl_n1, xb_nar, xe_if0, xe_ifn, xm_ci1, xm_ca1, mcl_36 P', m_isExported P' R (show p < 30 by omega) (show m < 12 by omega), nI_add]
          rw [if_neg (nI_pos (by omega))]
          conv => lhs; simp only [s154_143]
          show _ = xm_out _ (_, [_, _, _, _, _, _, some (.int (oI (@ite _ (V 9 p &&& (nI 4096 ||| xbit (nI m)) = 0) (Classical.propDecidable _) none (some p)))), _, _], _, _)
          by_cases h2 : V 9 p &&& (nI 4096 ||| xbit (nI m)) = 0
          · rw [if_neg (fun z => z h2), if_pos h2]
            rfl
          · rw [if_pos h2, if_neg h2]
            rfl
      have stop : ∀ p k x8, p < zP V → k ≤ zM V → xm_out 154 (67, [some (.ref (o + 36)), some (.int (nI l)), some (.int (nI m)), some (.int pn), some (.int nm), some (.int (nI h)), some (.int (nI p)), some (.int (nI k)), x8], [], hp') = xm_out 154 (146, [some (.ref (o + 36)), some (.int (nI l)), some (.int (nI m)), some (.int pn), some (.int nm), some (.int (nI h)), some (.int (nI p)), some (.int (nI k)), x8], [], hp') := by
        intro p k x8 hpl hk
        simp only [s154_67, s154_69, s154_70, s154_73, s154_76, s154_78, Option.bind_some, Option.toList_some, Option.toList_none, List.cons_append, List.nil_append, xm_kl_n, xm_kl_i, xm_kl_a, xm_kl_j, xl_0, xm_low1, xm_low2, xm_low3, xm_low4, xl_n0, xl_n1, xb_nar, xe_if0, xe_ifn, xm_ci1, xm_ca1, mf_36_0 P', pv63_36, R.nM, hM.1]
        by_cases hkz : k = zM V
        · rw [if_pos (nI_le (by omega) (by omega))]
        · rw [if_neg (nI_ge (by omega) (by omega)), if_pos (Int32.not_lt.mp (nI_pos (by omega)))]
      have walk : xfo (fun p => V 7 p = nI m ∧ V 8 p = pn) 0 (zP V) = none → ∀ d k x8, k + d = zM V → ∃ k' x8', xm_out 154 (67, [some (.ref (o + 36)), some (.int (nI l)), some (.int (nI m)), some (.int pn), some (.int nm), some (.int (nI h)), some (.int (-1)), some (.int (nI k)), x8], [], hp') = xm_out 154 (146, [some (.ref (o + 36)), some (.int (nI l)), some (.int (nI m)), some (.int pn), some (.int nm), some (.int (nI h)), some (.int (oI (fpk V (xrd V m True &&& xkn (V 35) (flpr V) 4 (nI 0) (some h)) (nI m) pn k d))), some (.int (nI k')), x8'], [], hp') := by
        intro hown d
        induction d with
        | zero =>
          intro k x8 hk
          refine ⟨k, x8, ?_⟩
          simp only [s154_67, s154_69, s154_70, s154_73, Option.bind_some, Option.toList_some, Option.toList_none, List.cons_append, List.nil_append, xm_kl_n, xm_kl_i, xm_kl_a, xm_kl_j, xl_0, xm_low1, xm_low2, xm_low3, xm_low4, xl_n0, xl_n1, xb_nar, xe_if0, xe_ifn, xm_ci1, xm_ca1, mf_36_0 P', pv63_36, R.nM, hM.1]
          rw [if_pos (nI_le (by omega) (by omega))]
          rfl
        | succ d ih =>
          intro k x8 hk
          have hbit : (xrd V m True &&& xkn (V 35) (flpr V) 4 (nI 0) (some h)) &&& (nI 1 <<< (nI k &&& 31)) = 0 ↔ ¬ (xmr V m True k ∧ ¬ xhm (V 35) (flpr V) (nI k) 4 (some h) = -1) := by
            have q1 : tb (xrd V m True &&& xkn (V 35) (flpr V) 4 (nI 0) (some h)) k ↔ xmr V m True k ∧ ¬ xhm (V 35) (flpr V) (nI k) 4 (some h) = -1 := by
              rw [tb_and (by omega), rd_iff I R hm True (by omega), kn_spec I (by omega) (some h) hqh]
            constructor
            · intro z w; exact (q1.mpr w) z
            · intro z; exact Classical.byContradiction (fun w => z (q1.mp w))
          rw [step k x8 (by omega)]
          by_cases hkm : nI k = nI m
          · rw [if_neg (fun z => z hkm)]
            obtain ⟨k', x8', e⟩ := ih (k + 1) x8 (by omega)
            refine ⟨k', x8', e.trans ?_⟩
            have hn0 : fpk V (xrd V m True &&& xkn (V 35) (flpr V) 4 (nI 0) (some h)) (nI m) pn k (d + 1) = fpk V (xrd V m True &&& xkn (V 35) (flpr V) 4 (nI 0) (some h)) (nI m) pn (k + 1) d := by
              rw [fpk]
              by_cases hz : (xrd V m True &&& xkn (V 35) (flpr V) 4 (nI 0) (some h)) &&& (nI 1 <<< (nI k &&& 31)) = 0
              · rw [if_pos hz]
              · rw [if_neg hz, hkm, hown]
            rw [hn0]
          · rw [if_pos hkm]
            by_cases hr : xmr V m True k
            · rw [if_pos hr]
              rcases xhm_or I (nI k) 4 (some h) hqh with g1 | ⟨l', hl', g1⟩
              · rw [g1, if_pos (show (-1 : Int32) < 0 by decide)]
                obtain ⟨k', x8', e⟩ := ih (k + 1) x8 (by omega)
                refine ⟨k', x8', e.trans ?_⟩
                rw [show fpk V (xrd V m True &&& xkn (V 35) (flpr V) 4 (nI 0) (some h)) (nI m) pn k (d + 1) = fpk V (xrd V m True &&& xkn (V 35) (flpr V) 4 (nI 0) (some h)) (nI m) pn (k + 1) d from if_pos (hbit.mpr (fun z => z.2 g1))]
              · have hne : ¬ xhm (V 35) (flpr V) (nI k) 4 (some h) = -1 := by rw [g1]; exact nI_m1 (by omega)
                rw [g1, if_neg (nI_pos (by omega))]
                obtain ⟨x8', e7⟩ := at117 k (xfo (fun p => V 7 p = nI k ∧ V 8 p = pn) 0 (zP V)) (by omega) (fun p hx => by have := xfo_lt hx; omega)
                rw [e7]
                have hz : ¬ (xrd V m True &&& xkn (V 35) (flpr V) 4 (nI 0) (some h)) &&& (nI 1 <<< (nI k &&& 31)) = 0 := fun z => hbit.mp z ⟨hr, hne⟩
                cases hx : xfo (fun p => V 7 p = nI k ∧ V 8 p = pn) 0 (zP V) with
                | none =>
                  obtain ⟨k', x8'', e⟩ := ih (k + 1) x8' (by omega)
                  refine ⟨k', x8'', Eq.trans e ?_⟩
                  rw [show fpk V (xrd V m True &&& xkn (V 35) (flpr V) 4 (nI 0) (some h)) (nI m) pn k (d + 1) = fpk V (xrd V m True &&& xkn (V 35) (flpr V) 4 (nI 0) (some h)) (nI m) pn (k + 1) d by rw [fpk, if_neg hz, hx]]
                | some p =>
                  have hpl : p < zP V := by have := xfo_lt hx; omega
                  show ∃ k' x8'', xm_out _ (_, [_, _, _, _, _, _, some (.int (oI (@ite _ (V 9 p &&& (nI 4096 ||| xbit (nI m)) = 0) (Classical.propDecidable _) none (some p)))), _, _], _, _) = _
                  by_cases h2 : V 9 p &&& (nI 4096 ||| xbit (nI m)) = 0
                  · rw [if_pos h2]
                    obtain ⟨k', x8'', e⟩ := ih (k + 1) x8' (by omega)
                    refine ⟨k', x8'', Eq.trans e ?_⟩
                    rw [show fpk V (xrd V m True &&& xkn (V 35) (flpr V) 4 (nI 0) (some h)) (nI m) pn k (d + 1) = fpk V (xrd V m True &&& xkn (V 35) (flpr V) 4 (nI 0) (some h)) (nI m) pn (k + 1) d by rw [fpk, if_neg hz, hx]; exact if_pos h2]
                  · rw [if_neg h2, oI_s, stop p (k + 1) x8' hpl (by omega)]
                    refine ⟨k + 1, x8', ?_⟩
                    rw [show fpk V (xrd V m True &&& xkn (V 35) (flpr V) 4 (nI 0) (some h)) (nI m) pn k (d + 1) = some p by rw [fpk, if_neg hz, hx]; exact if_neg h2]
                    rfl
            · rw [if_neg hr]
              obtain ⟨k', x8', e⟩ := ih (k + 1) x8 (by omega)
              refine ⟨k', x8', e.trans ?_⟩
              rw [show fpk V (xrd V m True &&& xkn (V 35) (flpr V) 4 (nI 0) (some h)) (nI m) pn k (d + 1) = fpk V (xrd V m True &&& xkn (V 35) (flpr V) 4 (nI 0) (some h)) (nI m) pn (k + 1) d from if_pos (hbit.mpr (fun z => hr z.1))]
      have front : ∃ k' x8', xm_call 154 [.ref (o + 36), .int (nI l), .int (nI m), .int pn, .int nm] hp = xm_out 154 (146, [some (.ref (o + 36)), some (.int (nI l)), some (.int (nI m)), some (.int pn), some (.int nm), some (.int (nI h)), some (.int (oI (xfp V h m pn))), some (.int (nI k')), x8'], [], hp') := by
        have f0 : xm_call 154 [.ref (o + 36), .int (nI l), .int (nI m), .int pn, .int nm] hp = xm_out 154 (67, [some (.ref (o + 36)), some (.int (nI l)), some (.int (nI m)), some (.int pn), some (.int nm), some (.int (nI h)), some (.int (oI (xfo (fun p => V 7 p = nI m ∧ V 8 p = pn) 0 (zP V)))), some (.int (nI 0)), none], [], hp') := by
          simp only [k154, s154_0, s154_1, s154_2, s154_5, s154_8, s154_9, s154_10, s154_13, s154_16, s154_17, s154_20, s154_23, s154_25, s154_28, s154_31, s154_33, s154_34, s154_35, s154_36, s154_37, s154_40, s154_42, s154_44, s154_47, s154_49, s154_50, s154_51, s154_52, s154_53, s154_56, s154_58, s154_59, s154_60, s154_61, s154_64, s154_65, Option.bind_some, Option.toList_some, Option.toList_none, List.cons_append, List.nil_append, xm_kl_n, xm_kl_i, xm_kl_a, xm_kl_j, xl_0, xm_low1, xm_low2, xm_low3, xm_low4, xl_n0, xl_n1, xb_nar, xe_if0, xe_ifn, xm_ci1, xm_ca1, mcl_36 Q, n_isModule Q I R, n_isLayer Q I R, m_name, e2, n_packOf Q I R, er]
          rw [if_pos ha, if_pos hb, if_pos hc, if_pos hd, if_pos (Int32.not_lt.mp (nI_pos (by omega)))]
        rw [f0]
        unfold xfp
        cases hx : xfo (fun p => V 7 p = nI m ∧ V 8 p = pn) 0 (zP V) with
        | none => exact walk hx (zM V) 0 none (by omega)
        | some p =>
          have hpl : p < zP V := by have := xfo_lt hx; omega
          exact ⟨0, none, stop p 0 none hpl (by omega)⟩
      obtain ⟨k', x8', front⟩ := front
      have hxl : ∀ p, xfp V h m pn = some p → p < zP V := by
        intro p hx
        unfold xfp at hx
        split at hx
        · rename_i p' hp'
          cases hx
          have := xfo_lt hp'
          omega
        · have gen : ∀ (rs : Int32) d k, fpk V rs (nI m) pn k d = some p → p < zP V := by
            intro rs d
            induction d with
            | zero => intro k hx; cases hx
            | succ d ih =>
              intro k hx
              rw [fpk] at hx
              by_cases g : rs &&& (nI 1 <<< (nI k &&& 31)) = 0
              · rw [if_pos g] at hx; exact ih _ hx
              · rw [if_neg g] at hx
                split at hx
                · exact ih _ hx
                · rename_i p' hp'
                  by_cases g2 : V 9 p' &&& (nI 4096 ||| xbit (nI m)) = 0
                  · rw [if_pos g2] at hx; exact ih _ hx
                  · rw [if_neg g2] at hx; cases hx; have := xfo_lt hp'; omega
          exact gen _ _ _ hx
      cases hx : xfp V h m pn with
      | none =>
        rw [hx, oI_n] at efp front
        refine ⟨(-10) - nI 1, hp, hp', ?_, ?_, S.q P' hs⟩
        · simp only [k159, s159_0, s159_1, s159_4, s159_5, s159_8, s159_11, s159_12, s159_15, s159_16, s159_19, s159_22, s159_23, s159_26, s159_29, s159_31, s159_34, s159_37, s159_39, s159_40, s159_41, s159_44, s159_45, s159_46, s159_49, s159_51, s159_53, s159_54, s159_57, s159_59, s159_60, s159_61, s159_63, s159_64, s159_65, s159_68, s159_70, s159_72, s159_73, s159_76, s159_77, s159_80, Option.bind_some, Option.toList_some, Option.toList_none, List.cons_append, List.nil_append, xm_kl_n, xm_kl_i, xm_kl_a, xm_kl_j, xl_0, xm_low1, xm_low2, xm_low3, xm_low4, xl_n0, xl_n1, xb_nar, xe_if0, xe_ifn, xm_ci1, xm_ca1, pf_0_0 P, pf_0_6 P, pcl_0 P, pcl_1 P, pcl_33 P, c_Modules_holds P, c_Layers_holds P, c_isName, e1, efp, c_broken]
          rw [if_pos ha, if_pos hb, if_pos hc, if_pos hd, if_pos (nI_m1 (by omega)), if_neg (fun z => z trivial)]
        · rw [front]
          simp only [s154_146, s154_148, s154_151, s154_152, s154_155, Option.bind_some, Option.toList_some, Option.toList_none, List.cons_append, List.nil_append, xm_kl_n, xm_kl_i, xm_kl_a, xm_kl_j, xl_0, xm_low1, xm_low2, xm_low3, xm_low4, xl_n0, xl_n1, xb_nar, xe_if0, xe_ifn, xm_ci1, xm_ca1, m_broken]
          rw [if_neg (show ¬ (0 : Int32) ≤ -1 by decide)]
      | some p =>
        have hpl := hxl p hx
        rw [hx, oI_s] at efp front
        cases ht : xfo (fun t => V 12 t = nI p ∧ V 13 t = nm) 0 (zT V) with
        | none =>
          refine ⟨(-10) - nI 2, hp, hp', ?_, ?_, S.q P' hs⟩
          · simp only [k159, s159_0, s159_1, s159_4, s159_5, s159_8, s159_11, s159_12, s159_15, s159_16, s159_19, s159_22, s159_23, s159_26, s159_29, s159_31, s159_34, s159_37, s159_39, s159_40, s159_41, s159_44, s159_45, s159_46, s159_49, s159_51, s159_53, s159_54, s159_57, s159_59, s159_60, s159_61, s159_63, s159_64, s159_65, s159_68, s159_70, s159_72, s159_73, s159_76, s159_77, s159_80, s159_81, s159_82, s159_85, s159_87, s159_89, s159_92, s159_94, s159_96, s159_97, s159_100, s159_101, s159_104, Option.bind_some, Option.toList_some, Option.toList_none, List.cons_append, List.nil_append, xm_kl_n, xm_kl_i, xm_kl_a, xm_kl_j, xl_0, xm_low1, xm_low2, xm_low3, xm_low4, xl_n0, xl_n1, xb_nar, xe_if0, xe_ifn, xm_ci1, xm_ca1, pf_0_0 P, pf_0_2 P, pf_0_6 P, pcl_0 P, pcl_1 P, pcl_11 P, pcl_33 P, c_Modules_holds P, c_Layers_holds P, c_isName, e1, efp, c_broken, c_Types_find P hT.1 hT.2, ht, oI_n]
            rw [if_pos ha, if_pos hb, if_pos hc, if_pos hd, if_pos (nI_m1 (by omega)), if_pos (nI_m1 (by omega)), if_neg (fun z => z trivial)]
          · rw [front]
            simp only [s154_146, s154_148, s154_151, s154_152, s154_155, s154_156, s154_157, s154_159, s154_161, s154_164, s154_166, s154_168, s154_171, s154_172, s154_175, s154_206, Option.bind_some, Option.toList_some, Option.toList_none, List.cons_append, List.nil_append, xm_kl_n, xm_kl_i, xm_kl_a, xm_kl_j, xl_0, xm_low1, xm_low2, xm_low3, xm_low4, xl_n0, xl_n1, xb_nar, xe_if0, xe_ifn, xm_ci1, xm_ca1, m_broken, mcl_36 P', n_typeOf P' I R, ht, oI_n]
            rw [if_pos (Int32.not_lt.mp (nI_pos (by omega))), if_neg (show ¬ (0 : Int32) ≤ -1 by decide)]
        | some t =>
          obtain ⟨_, htl, ⟨htp, _⟩, _⟩ := (xfo_some _ _ _ _).mp ht
          have htz : t < zT V := by omega
          have htk := I.tpk t htz
          have hpt : ftpk V t = p := by
            have := htk.1.symm.trans htp
            rwa [nI_eq (by omega) (by omega)] at this
          by_cases hc1 : V 15 t &&& nI 1 = 0
          · by_cases hc2 : V 7 p = nI m
            · refine ⟨nI t, hp, hp', ?_, ?_, S.q P' hs⟩
              · simp only [k159, s159_0, s159_1, s159_4, s159_5, s159_8, s159_11, s159_12, s159_15, s159_16, s159_19, s159_22, s159_23, s159_26, s159_29, s159_31, s159_34, s159_37, s159_39, s159_40, s159_41, s159_44, s159_45, s159_46, s159_49, s159_51, s159_53, s159_54, s159_57, s159_59, s159_60, s159_61, s159_63, s159_64, s159_65, s159_68, s159_70, s159_72, s159_73, s159_76, s159_77, s159_80, s159_81, s159_82, s159_85, s159_87, s159_89, s159_92, s159_94, s159_96, s159_97, s159_100, s159_101, s159_104, s159_105, s159_106, s159_109, s159_111, s159_114, s159_117, s159_118, s159_121, s159_123, s159_126, s159_127, s159_130, s159_132, s159_135, s159_136, s159_139, Option.bind_some, Option.toList_some, Option.toList_none, List.cons_append, List.nil_append, xm_kl_n, xm_kl_i, xm_kl_a, xm_kl_j, xl_0, xm_low1, xm_low2, xm_low3, xm_low4, xl_n0, xl_n1, xb_nar, xe_if0, xe_ifn, xm_ci1, xm_ca1, pf_0_0 P, pf_0_1 P, pf_0_2 P, pf_0_6 P, pcl_0 P, pcl_1 P, pcl_6 P, pcl_11 P, pcl_33 P, c_Modules_holds P, c_Layers_holds P, c_isName, e1, efp, c_broken, c_Types_find P hT.1 hT.2, ht, oI_s, c_Types_isOpen P (show t < 40 by omega), c_Packs_ownerOf P (show p < 30 by omega)]
                rw [if_pos ha, if_pos hb, if_pos hc, if_pos hd, if_pos (nI_m1 (by omega)), if_pos (nI_m1 (by omega)), if_pos (nI_m1 (by omega)), if_neg (fun z => z hc1), if_neg (fun z => z hc2)]
              · rw [front]
                simp only [s154_146, s154_148, s154_151, s154_152, s154_155, s154_156, s154_157, s154_159, s154_161, s154_164, s154_166, s154_168, s154_171, s154_172, s154_175, s154_178, s154_179, s154_181, s154_184, s154_187, s154_188, s154_190, s154_193, s154_194, s154_197, s154_199, s154_202, s154_203, s154_206, Option.bind_some, Option.toList_some, Option.toList_none, List.cons_append, List.nil_append, xm_kl_n, xm_kl_i, xm_kl_a, xm_kl_j, xl_0, xm_low1, xm_low2, xm_low3, xm_low4, xl_n0, xl_n1, xb_nar, xe_if0, xe_ifn, xm_ci1, xm_ca1, m_broken, mcl_36 P', n_typeOf P' I R, ht, oI_s, n_isOpen P' I R htz, n_moduleOf P' I R htz, hpt]
                rw [if_pos (Int32.not_lt.mp (nI_pos (by omega))), if_pos (Int32.not_lt.mp (nI_pos (by omega))), if_neg (fun z => z hc1), if_neg (fun z => z hc2)]
            · refine ⟨(-10) - nI 3, hp, hp', ?_, ?_, S.q P' hs⟩
              · simp only [k159, s159_0, s159_1, s159_4, s159_5, s159_8, s159_11, s159_12, s159_15, s159_16, s159_19, s159_22, s159_23, s159_26, s159_29, s159_31, s159_34, s159_37, s159_39, s159_40, s159_41, s159_44, s159_45, s159_46, s159_49, s159_51, s159_53, s159_54, s159_57, s159_59, s159_60, s159_61, s159_63, s159_64, s159_65, s159_68, s159_70, s159_72, s159_73, s159_76, s159_77, s159_80, s159_81, s159_82, s159_85, s159_87, s159_89, s159_92, s159_94, s159_96, s159_97, s159_100, s159_101, s159_104, s159_105, s159_106, s159_109, s159_111, s159_114, s159_117, s159_118, s159_121, s159_123, s159_126, s159_127, s159_130, s159_132, s159_135, s159_136, s159_139, Option.bind_some, Option.toList_some, Option.toList_none, List.cons_append, List.nil_append, xm_kl_n, xm_kl_i, xm_kl_a, xm_kl_j, xl_0, xm_low1, xm_low2, xm_low3, xm_low4, xl_n0, xl_n1, xb_nar, xe_if0, xe_ifn, xm_ci1, xm_ca1, pf_0_0 P, pf_0_1 P, pf_0_2 P, pf_0_6 P, pcl_0 P, pcl_1 P, pcl_6 P, pcl_11 P, pcl_33 P, c_Modules_holds P, c_Layers_holds P, c_isName, e1, efp, c_broken, c_Types_find P hT.1 hT.2, ht, oI_s, c_Types_isOpen P (show t < 40 by omega), c_Packs_ownerOf P (show p < 30 by omega)]
                rw [if_pos ha, if_pos hb, if_pos hc, if_pos hd, if_pos (nI_m1 (by omega)), if_pos (nI_m1 (by omega)), if_pos (nI_m1 (by omega)), if_neg (fun z => z hc1), if_pos hc2]
              · rw [front]
                simp only [s154_146, s154_148, s154_151, s154_152, s154_155, s154_156, s154_157, s154_159, s154_161, s154_164, s154_166, s154_168, s154_171, s154_172, s154_175, s154_178, s154_179, s154_181, s154_184, s154_187, s154_188, s154_190, s154_193, s154_194, s154_197, s154_199, s154_202, s154_203, s154_206, Option.bind_some, Option.toList_some, Option.toList_none, List.cons_append, List.nil_append, xm_kl_n, xm_kl_i, xm_kl_a, xm_kl_j, xl_0, xm_low1, xm_low2, xm_low3, xm_low4, xl_n0, xl_n1, xb_nar, xe_if0, xe_ifn, xm_ci1, xm_ca1, m_broken, mcl_36 P', n_typeOf P' I R, ht, oI_s, n_isOpen P' I R htz, n_moduleOf P' I R htz, hpt]
                rw [if_pos (Int32.not_lt.mp (nI_pos (by omega))), if_pos (Int32.not_lt.mp (nI_pos (by omega))), if_neg (fun z => z hc1), if_pos hc2]
          · refine ⟨nI t, hp, hp', ?_, ?_, S.q P' hs⟩
            · simp only [k159, s159_0, s159_1, s159_4, s159_5, s159_8, s159_11, s159_12, s159_15, s159_16, s159_19, s159_22, s159_23, s159_26, s159_29, s159_31, s159_34, s159_37, s159_39, s159_40, s159_41, s159_44, s159_45, s159_46, s159_49, s159_51, s159_53, s159_54, s159_57, s159_59, s159_60, s159_61, s159_63, s159_64, s159_65, s159_68, s159_70, s159_72, s159_73, s159_76, s159_77, s159_80, s159_81, s159_82, s159_85, s159_87, s159_89, s159_92, s159_94, s159_96, s159_97, s159_100, s159_101, s159_104, s159_105, s159_106, s159_109, s159_111, s159_114, s159_117, s159_118, s159_121, s159_123, s159_126, s159_127, s159_130, s159_132, s159_135, s159_136, s159_139, Option.bind_some, Option.toList_some, Option.toList_none, List.cons_append, List.nil_append, xm_kl_n, xm_kl_i, xm_kl_a, xm_kl_j, xl_0, xm_low1, xm_low2, xm_low3, xm_low4, xl_n0, xl_n1, xb_nar, xe_if0, xe_ifn, xm_ci1, xm_ca1, pf_0_0 P, pf_0_1 P, pf_0_2 P, pf_0_6 P, pcl_0 P, pcl_1 P, pcl_6 P, pcl_11 P, pcl_33 P, c_Modules_holds P, c_Layers_holds P, c_isName, e1, efp, c_broken, c_Types_find P hT.1 hT.2, ht, oI_s, c_Types_isOpen P (show t < 40 by omega), c_Packs_ownerOf P (show p < 30 by omega)]
              rw [if_pos ha, if_pos hb, if_pos hc, if_pos hd, if_pos (nI_m1 (by omega)), if_pos (nI_m1 (by omega)), if_pos (nI_m1 (by omega)), if_pos hc1]
            · rw [front]
              simp only [s154_146, s154_148, s154_151, s154_152, s154_155, s154_156, s154_157, s154_159, s154_161, s154_164, s154_166, s154_168, s154_171, s154_172, s154_175, s154_178, s154_179, s154_181, s154_184, s154_187, s154_188, s154_190, s154_193, s154_194, s154_197, s154_199, s154_202, s154_203, s154_206, Option.bind_some, Option.toList_some, Option.toList_none, List.cons_append, List.nil_append, xm_kl_n, xm_kl_i, xm_kl_a, xm_kl_j, xl_0, xm_low1, xm_low2, xm_low3, xm_low4, xl_n0, xl_n1, xb_nar, xe_if0, xe_ifn, xm_ci1, xm_ca1, m_broken, mcl_36 P', n_typeOf P' I R, ht, oI_s, n_isOpen P' I R htz, n_moduleOf P' I R htz, hpt]
              rw [if_pos (Int32.not_lt.mp (nI_pos (by omega))), if_pos (Int32.not_lt.mp (nI_pos (by omega))), if_pos hc1]
  · refine ⟨-2, hp, hp, ?_, ?_, S.s⟩
    · simp only [k159, s159_0, s159_1, s159_4, s159_5, s159_8, s159_11, s159_12, s159_15, s159_16, s159_19, s159_22, s159_23, s159_26, s159_29, s159_31, s159_34, s159_37, s159_39, Option.bind_some, Option.toList_some, Option.toList_none, List.cons_append, List.nil_append, xm_kl_n, xm_kl_i, xm_kl_a, xm_kl_j, xl_0, xm_low1, xm_low2, xm_low3, xm_low4, xl_n0, xl_n1, xb_nar, xe_if0, xe_ifn, xm_ci1, xm_ca1, pf_0_0 P, pf_0_6 P, pcl_1 P, pcl_33 P, c_Modules_holds P, c_Layers_holds P, c_isName]
      by_cases h1 : 0 ≤ a ∧ a < V 33 0
      · rw [if_pos h1]
        by_cases h2 : 0 ≤ b ∧ b < V 1 0
        · rw [if_pos h2]
          by_cases h3 : 0 ≤ pn ∧ pn < nI 31
          · rw [if_pos h3, if_neg (fun z => hg ⟨h1, h2, h3, z⟩)]
          · rw [if_neg h3]
        · rw [if_neg h2]
      · rw [if_neg h1]
    · simp only [k154, s154_0, s154_1, s154_2, s154_5, s154_8, s154_9, s154_10, s154_13, s154_16, s154_17, s154_20, s154_23, s154_25, s154_28, s154_31, s154_33, Option.bind_some, Option.toList_some, Option.toList_none, List.cons_append, List.nil_append, xm_kl_n, xm_kl_i, xm_kl_a, xm_kl_j, xl_0, xm_low1, xm_low2, xm_low3, xm_low4, xl_n0, xl_n1, xb_nar, xe_if0, xe_ifn, xm_ci1, xm_ca1, mcl_36 Q, n_isModule Q I R, n_isLayer Q I R, m_name]
      by_cases h1 : 0 ≤ a ∧ a < V 33 0
      · rw [if_pos h1]
        by_cases h2 : 0 ≤ b ∧ b < V 1 0
        · rw [if_pos h2]
          by_cases h3 : 0 ≤ pn ∧ pn < nI 31
          · rw [if_pos h3, if_neg (fun z => hg ⟨h1, h2, h3, z⟩)]
          · rw [if_neg h3]
        · rw [if_neg h2]
      · rw [if_neg h1]
end FINDS
