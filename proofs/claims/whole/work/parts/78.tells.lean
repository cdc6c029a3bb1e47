/-! requires, exports, uses -/
section TELLS
variable {o n : Nat} {V : pc_V} {J : Nat → Int64} {p1 p2 cap : Nat} {hp hp' : xm_H} {F : Nat → Int32} {Ou : Nat → Option xm_E}
theorem e2_iff (I : CInv V cap) (R : Rel V J) {j k : Nat} : (j < zM V ∧ tb (V 2 j) k ∧ k < 32) ↔ xeg V False False (-1) j k := by
  have hM := I.M.2
  unfold xeg xed
  constructor
  · rintro ⟨h1, h2, h3⟩
    have h := (R.e2 j k (by omega) h3).mp h2
    have hr := (R.rq j k (by omega) h.1).2.2 (by omega)
    exact ⟨h1, hr.2, nI_m1 (by omega), by omega, fun z => z.elim, fun z => z.elim⟩
  · rintro ⟨h1, h2, _, h3, _, _⟩
    exact ⟨h1, (R.e2 j k (by omega) (by omega)).mpr ⟨by omega, h3⟩, by omega⟩
theorem reach_iff (I : CInv V cap) (R : Rel V J) {a b : Nat} (ha : a < zM V) (hb : b < zM V) : tb (clr (V 2) (zM V) 12 (nI 1 <<< (nI a &&& 31))) b ↔ Rch (xeg V False False (-1)) (fun j => j = a) b := by
  have hM := I.M.2
  rw [clr_spec (V 2) (zM V) (by omega) (fun j k hj hk h => ((e2_iff I R).mp ⟨hj, h, hk⟩).2.1) 12 _ (fun j hj h => by rw [tb_bit (by omega) hj] at h; omega) (by omega) b (by omega)]
  refine Rch.cg (fun j => ?_) (fun _ _ => e2_iff I R) b
  constructor
  · rintro ⟨h1, h2⟩; rw [tb_bit (by omega) h1] at h2; exact h2.symm
  · rintro rfl; exact ⟨by omega, (tb_bit (by omega) (by omega)).mpr rfl⟩
theorem m_reqFront (I : CInv V cap) (R : Rel V J) {m k : Nat} (hm : m < zM V) (hk : k < zM V) {how : Int32} (hh : 0 ≤ how ∧ how < nI 4) (P : Pm o Ou (pv_row V 63 F) hp) : ∃ F' hp', xm_call 124 [.ref (o + 36), .int (nI m), .int (nI k), .int how] hp = xm_out 124 (59, [some (.ref (o + 36)), some (.int (nI m)), some (.int (nI k)), some (.int how), some (.int (nI 0))], [], hp') ∧ Pm o Ou (pv_row V 63 F') hp' ∧ hp'.2 = hp.2 ∧ CS F' (Rch (xeg V False False (-1)) (fun j => j = k)) := by
  have hM := I.M
  have ha : 0 ≤ nI m ∧ nI m < V 1 0 := ⟨Int32.not_lt.mp (nI_pos (by omega)), by rw [hM.1]; exact nI_lt hm (by omega)⟩
  have hb : 0 ≤ nI k ∧ nI k < V 1 0 := ⟨Int32.not_lt.mp (nI_pos (by omega)), by rw [hM.1]; exact nI_lt hk (by omega)⟩
  have hin : (nI 0 ≤ how ∧ how ≤ nI 3) ↔ (0 ≤ how ∧ how < nI 4) := in_n (by omega)
  obtain ⟨hp1, G, ec, P1, s1, hG⟩ := m_clear P
  have whil : ∀ f F C hp c0, 13 ≤ ccn C 12 + f → Pm o Ou (pv_row V 63 F) hp → CS F C → (∀ i, C i → i < 12) → C k → (∀ i, C i → Rch (xeg V False False (-1)) (fun j => j = k) i) → c0 = nI 1 → ∃ F' hp' C', xm_out 124 (42, [some (.ref (o + 36)), some (.int (nI m)), some (.int (nI k)), some (.int how), some (.int c0)], [], hp) = xm_out 124 (59, [some (.ref (o + 36)), some (.int (nI m)), some (.int (nI k)), some (.int how), some (.int (nI 0))], [], hp') ∧ Pm o Ou (pv_row V 63 F') hp' ∧ hp'.2 = hp.2 ∧ CS F' C' ∧ (∀ i, C' i ↔ Rch (xeg V False False (-1)) (fun j => j = k) i) := by
    intro f
    induction f with
    | zero => intro F C hp c0 hf; have := ccn_le C 12; omega
    | succ f ih =>
      intro F C hp c0 hf P hF h12 h0 hR hc0
      subst hc0
      obtain ⟨F', C', hp', e, P', s', hF', a1, a2, a3, a4⟩ := m_goesOn I R False False (-1) P hF h12
      rw [xb_f (c := False) id] at e
      have hR' : ∀ i, C' i → Rch (xeg V False False (-1)) (fun j => j = k) i := fun i q => (a2 i q).mono (fun j w => hR j w) (fun _ _ w => w)
      by_cases hg : grew C C'
      · obtain ⟨i, g1, g2⟩ := hg
        have hlt := ccn_lt a1 g1 g2 12 (a3 i g1)
        obtain ⟨F2, hp2, C2, e2, P2, s2, hF2, hC2⟩ := ih F' C' hp' (xb (grew C C')) (by omega) P' hF' a3 (a1 _ h0) hR' (xb_t ⟨i, g1, g2⟩)
        refine ⟨F2, hp2, C2, ?_, P2, s2.trans s', hF2, hC2⟩
        conv => lhs; simp only [s124_42, s124_44, s124_47, s124_48, s124_49, s124_50, s124_51, s124_54, Option.bind_some, Option.toList_some, Option.toList_none, List.cons_append, List.nil_append, xm_kl_n, xm_kl_i, xm_kl_a, xm_kl_j, xl_0, xm_low1, xm_low2, xm_low3, xm_low4, xl_n0, xl_n1, xb_nar, xe_if0, xe_ifn, xm_ci1, xm_ca1, mcl_36 P, e]
        rw [if_neg (by decide)]
        conv => lhs; simp only [s124_56]
        exact e2
      · have hcl := a4 hg
        have hCC : ∀ i, C' i ↔ C i := fun i => ⟨fun q => Classical.byContradiction fun w => hg ⟨i, q, w⟩, a1 i⟩
        refine ⟨F', hp', C', ?_, P', s', hF', fun i => ?_⟩
        · conv => lhs; simp only [s124_42, s124_44, s124_47, s124_48, s124_49, s124_50, s124_51, s124_54, Option.bind_some, Option.toList_some, Option.toList_none, List.cons_append, List.nil_append, xm_kl_n, xm_kl_i, xm_kl_a, xm_kl_j, xl_0, xm_low1, xm_low2, xm_low3, xm_low4, xl_n0, xl_n1, xb_nar, xe_if0, xe_ifn, xm_ci1, xm_ca1, mcl_36 P, e]
          rw [if_neg (by decide)]
          conv => lhs; simp only [s124_42, s124_44, s124_56, Option.bind_some, Option.toList_some, Option.toList_none, List.cons_append, List.nil_append, xm_kl_n, xm_kl_i, xm_kl_a, xm_kl_j, xl_0, xm_low1, xm_low2, xm_low3, xm_low4, xl_n0, xl_n1, xb_nar, xe_if0, xe_ifn, xm_ci1, xm_ca1]
          rw [if_neg hg, xb_f hg]
        · rw [hCC i]
          exact Rch.eq (fun j w => by subst w; exact h0) hcl hR i
  have P2 := P1.w63 (upd G k (nI 1))
  have hF2 : CS (upd G k (nI 1)) (fun i => i = k) := by
    intro i hi
    by_cases hik : i = k
    · subst hik; rw [pk_us, xb_t rfl]
    · rw [pk_un hik, hG i hi, xb_f hik]
  obtain ⟨F3, hp3, C3, e3, P3, s3, hF3, hC3⟩ := whil 13 _ _ _ (nI 1) (by omega) P2 hF2 (fun i q => by omega) rfl (fun i q => .of q) rfl
  refine ⟨F3, hp3, ?_, P3, s3.trans s1, hF3.cg (fun i _ => hC3 i)⟩
  simp only [k124, s124_0, s124_1, s124_2, s124_5, s124_8, s124_9, s124_10, s124_13, s124_16, s124_17, s124_18, s124_19, s124_22, s124_25, s124_27, s124_28, s124_29, s124_32, s124_33, s124_36, s124_37, s124_38, s124_39, s124_40, Option.bind_some, Option.toList_some, Option.toList_none, List.cons_append, List.nil_append, xm_kl_n, xm_kl_i, xm_kl_a, xm_kl_j, xl_0, xm_low1, xm_low2, xm_low3, xm_low4, xl_n0, xl_n1, xb_nar, xe_if0, xe_ifn, xm_ci1, xm_ca1, mcl_36 P, n_isModule P I R, m_in, ec, mf_36_33 P1, mwz_63 P1 (show k < 12 by omega), pv63_63, vp_nar1]
  rw [if_pos ha, if_pos hb, if_pos (hin.mpr hh)]
  exact e3
theorem tb_xj {a : Int32} {c : Prop} {k i : Nat} (hk : k < 32) (hi : i < 32) : tb (a ||| xj c (nI 1 <<< (nI k &&& 31))) i ↔ tb a i ∨ (c ∧ k = i) := by
  rw [tb_or hi]
  by_cases hc : c
  · rw [show xj c (nI 1 <<< (nI k &&& 31)) = nI 1 <<< (nI k &&& 31) from if_pos hc, tb_bit hk hi]
    exact ⟨fun z => z.elim Or.inl (fun w => Or.inr ⟨hc, w⟩), fun z => z.elim Or.inl (fun w => Or.inr w.2)⟩
  · rw [show xj c (nI 1 <<< (nI k &&& 31)) = nI 0 from if_neg hc]
    exact ⟨fun z => z.elim Or.inl (fun w => absurd w (tb_0 hi)), fun z => z.elim Or.inl (fun w => absurd w.1 hc)⟩
theorem e_new {f : Nat → Int32} {g : Nat → Nat → Nat} {D : Nat → Prop} {m k x : Nat} {c : Prop} (hk : k < 12) (h : ∀ m i, m < 12 → i < 32 → (tb (f m) i ↔ i < 12 ∧ D (g m i))) (h0 : ¬ D (g m k)) (hc : c ↔ D x) : ∀ m' i, m' < 12 → i < 32 → (tb (upd f m (f m ||| xj c (nI 1 <<< (nI k &&& 31))) m') i ↔ i < 12 ∧ D (if m' = m ∧ i = k then x else g m' i)) := by
  intro m' i hm' hi
  by_cases hmm : m' = m
  · subst hmm
    rw [pk_us, tb_xj (by omega) hi, h m' i hm' hi]
    by_cases hik : i = k
    · subst hik
      rw [if_pos ⟨rfl, rfl⟩]
      exact ⟨fun z => z.elim (fun w => absurd w.2 h0) (fun w => ⟨hk, hc.mp w.1⟩), fun z => Or.inr ⟨hc.mpr z.2, rfl⟩⟩
    · rw [if_neg (fun z => hik z.2)]
      exact ⟨fun z => z.elim id (fun w => absurd w.2.symm hik), Or.inl⟩
  · rw [pk_un hmm, if_neg (fun z => hmm z.1)]
    exact h m' i hm' hi
theorem sim_requires (S : Stb o n V J p1 p2 cap hp) (a b how : Int32) : Sim o n 134 124 [.int a, .int b, .int how] hp := by
  have P := S.P
  have I := S.I
  have R := S.R
  have Q := S.Q
  have hM := I.M
  have hin : (nI 0 ≤ how ∧ how ≤ nI 3) ↔ (0 ≤ how ∧ how < nI 4) := in_n (by omega)
  by_cases hg : (0 ≤ a ∧ a < V 1 0) ∧ (0 ≤ b ∧ b < V 1 0) ∧ (0 ≤ how ∧ how < nI 4)
  · obtain ⟨ha, hb, hh⟩ := hg
    obtain ⟨m, hm, rfl⟩ := rng ha hM.1 (by omega)
    obtain ⟨k, hk, rfl⟩ := rng hb hM.1 (by omega)
    have hri := reach_iff I R hk hm
    have hrq := R.rq m k (by omega) (by omega)
    have he2 := R.e2 m k (by omega) (by omega)
    have ecr : xm_call 102 [.ref (o + 1), .int (nI k), .int (nI m)] hp = some (some (.int (xb (tb (clr (V 2) (zM V) 12 (nI 1 <<< (nI k &&& 31))) m))), hp) := c_reaches P I (nI k) (nI m)
    have ecn : xm_call 66 [.ref (o + 1), .int (nI m), .int (nI k)] hp = some (some (.int (xb (tb (V 2 m) k))), hp) := c_Modules_needsAlready P (show m < 12 by omega) (nI k)
    by_cases h1 : tb (clr (V 2) (zM V) 12 (nI 1 <<< (nI k &&& 31))) m
    · obtain ⟨F', hp', er, P', hs, hF⟩ := m_reqFront I R hm hk hh Q
      refine ⟨(-10) - nI 1, hp, hp', ?_, ?_, S.q P' hs⟩
      · simp only [k134, s134_0, s134_1, s134_4, s134_5, s134_8, s134_11, s134_12, s134_15, s134_16, s134_19, s134_22, s134_23, s134_24, s134_27, s134_30, s134_32, s134_33, s134_34, s134_37, s134_38, s134_39, s134_42, s134_45, s134_46, s134_49, Option.bind_some, Option.toList_some, Option.toList_none, List.cons_append, List.nil_append, xm_kl_n, xm_kl_i, xm_kl_a, xm_kl_j, xl_0, xm_low1, xm_low2, xm_low3, xm_low4, xl_n0, xl_n1, xb_nar, xe_if0, xe_ifn, xm_ci1, xm_ca1, pf_0_0 P, pcl_1 P, c_Modules_holds P, c_within, ecr, c_broken]
        rw [if_pos ha, if_pos hb, if_pos hh, if_pos h1]
      · rw [er]
        simp only [s124_59, s124_60, s124_63, s124_64, s124_65, s124_68, s124_69, s124_72, Option.bind_some, Option.toList_some, Option.toList_none, List.cons_append, List.nil_append, xm_kl_n, xm_kl_i, xm_kl_a, xm_kl_j, xl_0, xm_low1, xm_low2, xm_low3, xm_low4, xl_n0, xl_n1, xb_nar, xe_if0, xe_ifn, xm_ci1, xm_ca1, mf_36_33 P', maz_63 P' (show m < 12 by omega), pv63_63, hF m (by omega), m_broken]
        rw [if_pos (hri.mp h1)]
    · by_cases h2 : tb (V 2 m) k
      · obtain ⟨F', hp', er, P', hs, hF⟩ := m_reqFront I R hm hk hh Q
        refine ⟨(-10) - nI 2, hp, hp', ?_, ?_, S.q P' hs⟩
        · simp only [k134, s134_0, s134_1, s134_4, s134_5, s134_8, s134_11, s134_12, s134_15, s134_16, s134_19, s134_22, s134_23, s134_24, s134_27, s134_30, s134_32, s134_33, s134_34, s134_37, s134_38, s134_39, s134_42, s134_45, s134_46, s134_49, s134_50, s134_51, s134_54, s134_55, s134_56, s134_59, s134_62, s134_63, s134_66, Option.bind_some, Option.toList_some, Option.toList_none, List.cons_append, List.nil_append, xm_kl_n, xm_kl_i, xm_kl_a, xm_kl_j, xl_0, xm_low1, xm_low2, xm_low3, xm_low4, xl_n0, xl_n1, xb_nar, xe_if0, xe_ifn, xm_ci1, xm_ca1, pf_0_0 P, pcl_1 P, c_Modules_holds P, c_within, ecr, ecn, c_broken]
          rw [if_pos ha, if_pos hb, if_pos hh, if_neg h1, if_pos h2]
        · rw [er]
          simp only [s124_59, s124_60, s124_63, s124_64, s124_65, s124_68, s124_69, s124_72, s124_73, s124_74, s124_77, s124_79, s124_80, s124_81, s124_82, s124_83, s124_84, s124_87, s124_88, s124_91, Option.bind_some, Option.toList_some, Option.toList_none, List.cons_append, List.nil_append, xm_kl_n, xm_kl_i, xm_kl_a, xm_kl_j, xl_0, xm_low1, xm_low2, xm_low3, xm_low4, xl_n0, xl_n1, xb_nar, xe_if0, xe_ifn, xm_ci1, xm_ca1, mf_36_33 P', maz_63 P' (show m < 12 by omega), pv63_63, hF m (by omega), m_broken, mf_36_1 P', pk_mul, nI_add, mai_37 P' (show 12 * m + k < 144 by omega), pv63_37, hrq.1]
          have hne := (he2.mp h2).2
          rw [if_neg (fun z => h1 (hri.mpr z)), if_neg (fun z => by rw [show (0 : Int32) = nI 0 from rfl, nI_leI (by omega) (by omega)] at z; omega)]
      · have hf0 : frq V m k = 0 := Classical.byContradiction (fun z => h2 (he2.mpr ⟨by omega, z⟩))
        obtain ⟨h, hhl, rfl⟩ := rng hh rfl (by omega)
        obtain ⟨hp1, ea, P1, hs1⟩ := c_Modules_join P (show m < 12 by omega) (nI k) (nI h)
        have Q1 : Pm o hp1.1 V hp1 := P1.m (pvh (by decide) (pvh (by decide) (pvh (by decide) (pvh (by decide) (fun _ _ => rfl)))))
        obtain ⟨F', hp', er, P', hs, hF⟩ := m_reqFront I R hm hk hh Q1.s63
        have Q2 := P'.w 37 (by decide) (by decide) (upd (V 37) (12 * m + k) (nI (1 + h)))
        generalize hW : pv_row (pv_row V 63 F') 37 (upd (V 37) (12 * m + k) (nI (1 + h))) = W at Q2
        generalize hV1 : pv_row (pv_row (pv_row (pv_row V 2 (upd (V 2) m (V 2 m ||| (nI 1 <<< (nI k &&& 31))))) 3 (upd (V 3) m (V 3 m ||| xj (¬ nI h &&& nI 1 = 0) (nI 1 <<< (nI k &&& 31))))) 4 (upd (V 4) m (V 4 m ||| xj (nI h &&& nI 2 = 0) (nI 1 <<< (nI k &&& 31))))) 5 (upd (V 5) m (V 5 m ||| xj (¬ nI h &&& nI 1 = 0 ∧ nI h &&& nI 2 = 0) (nI 1 <<< (nI k &&& 31)))) = V1 at P1
        refine ⟨nI 1, hp1, _, ?_, ?_, S.w P1 hs1 Q2 hs ?_ ?_ ?_ ?_⟩
        · simp only [k134, s134_0, s134_1, s134_4, s134_5, s134_8, s134_11, s134_12, s134_15, s134_16, s134_19, s134_22, s134_23, s134_24, s134_27, s134_30, s134_32, s134_33, s134_34, s134_37, s134_38, s134_39, s134_42, s134_45, s134_46, s134_49, s134_50, s134_51, s134_54, s134_55, s134_56, s134_59, s134_62, s134_63, s134_66, s134_67, s134_68, s134_71, s134_72, s134_73, s134_74, s134_77, s134_78, Option.bind_some, Option.toList_some, Option.toList_none, List.cons_append, List.nil_append, xm_kl_n, xm_kl_i, xm_kl_a, xm_kl_j, xl_0, xm_low1, xm_low2, xm_low3, xm_low4, xl_n0, xl_n1, xb_nar, xe_if0, xe_ifn, xm_ci1, xm_ca1, pf_0_0 P, pcl_1 P, c_Modules_holds P, c_within, ecr, ecn, ea]
          rw [if_pos ha, if_pos hb, if_pos hh, if_neg h1, if_neg h2]
        · rw [er]
          have r37 : (pv_row V 63 F') 37 = V 37 := rfl
          simp only [s124_59, s124_60, s124_63, s124_64, s124_65, s124_68, s124_69, s124_72, s124_73, s124_74, s124_77, s124_79, s124_80, s124_81, s124_82, s124_83, s124_84, s124_87, s124_88, s124_91, s124_92, s124_93, s124_96, s124_98, s124_99, s124_100, s124_101, s124_102, s124_103, s124_104, s124_105, s124_106, s124_107, Option.bind_some, Option.toList_some, Option.toList_none, List.cons_append, List.nil_append, xm_kl_n, xm_kl_i, xm_kl_a, xm_kl_j, xl_0, xm_low1, xm_low2, xm_low3, xm_low4, xl_n0, xl_n1, xb_nar, xe_if0, xe_ifn, xm_ci1, xm_ca1, mf_36_33 P', maz_63 P' (show m < 12 by omega), pv63_63, hF m (by omega), mf_36_1 P', pk_mul, nI_add, mai_37 P' (show 12 * m + k < 144 by omega), pv63_37, hrq.1, mwi_37 P' (show 12 * m + k < 144 by omega)]
          rw [if_neg (fun z => h1 (hri.mpr z)), if_pos (by rw [hf0]; decide)]
        · subst hW hV1
          exact I
        · subst hW hV1
          have hx : ∀ m' i, m' < 12 → i < 12 → (12 * m' + i = 12 * m + k ↔ m' = m ∧ i = k) := fun m' i h1 h2 => by omega
          have hfr : ∀ m' i, m' < 12 → i < 12 → nt (upd (V 37) (12 * m + k) (nI (1 + h)) (12 * m' + i)) = if m' = m ∧ i = k then 1 + h else frq V m' i := by
            intro m' i g1 g2
            by_cases hc : m' = m ∧ i = k
            · rw [if_pos hc, (hx m' i g1 g2).mpr hc, pk_us, nt_nI (by omega)]
            · rw [if_neg hc, pk_un (fun z => hc ((hx m' i g1 g2).mp z))]
              rfl
          have hd1 : ∀ h, h < 4 → ((¬ nI h &&& nI 1 = 0) ↔ (1 + h = 2 ∨ 1 + h = 4)) := by decide
          have hd2 : ∀ h, h < 4 → ((nI h &&& nI 2 = 0) ↔ (1 + h = 1 ∨ 1 + h = 2)) := by decide
          have hd3 : ∀ h, h < 4 → ((¬ nI h &&& nI 1 = 0 ∧ nI h &&& nI 2 = 0) ↔ (1 + h = 2)) := by decide
          refine ⟨R.nM, R.nP, R.nT, R.nB, R.nU, R.nS, R.nL, R.r38, R.r39, R.r42, R.r43, R.r44, R.r45, R.r46, R.r47, R.r48, R.r49, R.r50, R.r51, R.r52, R.r53, R.r54, R.r55, R.r56, R.r59, R.r60, R.r61, ?_, ?_, ?_, ?_, ?_, R.ex, R.op, R.us, R.lh, R.lz, R.pm, R.z3, R.up, R.ut, R.ub, R.kd, R.fl, R.us0, R.iu⟩
          · intro m' i g1 g2
            show upd (V 37) (12 * m + k) (nI (1 + h)) (12 * m' + i) = nI (nt (upd (V 37) (12 * m + k) (nI (1 + h)) (12 * m' + i))) ∧ nt (upd (V 37) (12 * m + k) (nI (1 + h)) (12 * m' + i)) ≤ 4 ∧ (¬ nt (upd (V 37) (12 * m + k) (nI (1 + h)) (12 * m' + i)) = 0 → m' < zM V ∧ i < zM V)
            rw [hfr m' i g1 g2]
            by_cases hc : m' = m ∧ i = k
            · rw [if_pos hc, (hx m' i g1 g2).mpr hc, pk_us]
              exact ⟨rfl, by omega, fun _ => ⟨by omega, by omega⟩⟩
            · rw [if_neg hc, pk_un (fun z => hc ((hx m' i g1 g2).mp z))]
              exact R.rq m' i g1 g2
          · intro m' i g1 g2
            show tb (upd (V 2) m (V 2 m ||| (nI 1 <<< (nI k &&& 31))) m') i ↔ i < 12 ∧ ¬ nt (upd (V 37) (12 * m + k) (nI (1 + h)) (12 * m' + i)) = 0
            have := e_new (f := V 2) (g := frq V) (D := fun z => ¬ z = 0) (m := m) (k := k) (x := 1 + h) (c := True) (by omega) R.e2 (fun z => z hf0) ⟨fun _ => by omega, fun _ => trivial⟩ m' i g1 g2
            rw [show xj True (nI 1 <<< (nI k &&& 31)) = nI 1 <<< (nI k &&& 31) from if_pos trivial] at this
            rw [this]
            exact and_congr_right (fun g => by rw [hfr m' i g1 g])
          · intro m' i g1 g2
            show tb (upd (V 3) m (V 3 m ||| xj (¬ nI h &&& nI 1 = 0) (nI 1 <<< (nI k &&& 31))) m') i ↔ i < 12 ∧ (nt (upd (V 37) (12 * m + k) (nI (1 + h)) (12 * m' + i)) = 2 ∨ nt (upd (V 37) (12 * m + k) (nI (1 + h)) (12 * m' + i)) = 4)
            rw [e_new (f := V 3) (g := frq V) (D := fun z => z = 2 ∨ z = 4) (m := m) (k := k) (x := 1 + h) (by omega) R.e3 (by show ¬ (frq V m k = 2 ∨ frq V m k = 4); omega) (hd1 h hhl) m' i g1 g2]
            exact and_congr_right (fun g => by rw [hfr m' i g1 g])
          · intro m' i g1 g2
            show tb (upd (V 4) m (V 4 m ||| xj (nI h &&& nI 2 = 0) (nI 1 <<< (nI k &&& 31))) m') i ↔ i < 12 ∧ (nt (upd (V 37) (12 * m + k) (nI (1 + h)) (12 * m' + i)) = 1 ∨ nt (upd (V 37) (12 * m + k) (nI (1 + h)) (12 * m' + i)) = 2)
            rw [e_new (f := V 4) (g := frq V) (D := fun z => z = 1 ∨ z = 2) (m := m) (k := k) (x := 1 + h) (by omega) R.e4 (by show ¬ (frq V m k = 1 ∨ frq V m k = 2); omega) (hd2 h hhl) m' i g1 g2]
            exact and_congr_right (fun g => by rw [hfr m' i g1 g])
          · intro m' i g1 g2
            show tb (upd (V 5) m (V 5 m ||| xj (¬ nI h &&& nI 1 = 0 ∧ nI h &&& nI 2 = 0) (nI 1 <<< (nI k &&& 31))) m') i ↔ i < 12 ∧ nt (upd (V 37) (12 * m + k) (nI (1 + h)) (12 * m' + i)) = 2
            rw [e_new (f := V 5) (g := frq V) (D := fun z => z = 2) (m := m) (k := k) (x := 1 + h) (by omega) R.e5 (by show ¬ frq V m k = 2; omega) (hd3 h hhl) m' i g1 g2]
            exact and_congr_right (fun g => by rw [hfr m' i g1 g])
        · subst hW hV1
          exact S.L0
        · subst hW hV1
          rfl
  · refine ⟨-2, hp, hp, ?_, ?_, S.s⟩
    · simp only [k134, s134_0, s134_1, s134_4, s134_5, s134_8, s134_11, s134_12, s134_15, s134_16, s134_19, s134_22, s134_23, s134_24, s134_27, s134_30, s134_32, Option.bind_some, Option.toList_some, Option.toList_none, List.cons_append, List.nil_append, xm_kl_n, xm_kl_i, xm_kl_a, xm_kl_j, xl_0, xm_low1, xm_low2, xm_low3, xm_low4, xl_n0, xl_n1, xb_nar, xe_if0, xe_ifn, xm_ci1, xm_ca1, pf_0_0 P, pcl_1 P, c_Modules_holds P, c_within]
      by_cases h1 : 0 ≤ a ∧ a < V 1 0
      · rw [if_pos h1]
        by_cases h2 : 0 ≤ b ∧ b < V 1 0
        · rw [if_pos h2, if_neg (fun z => hg ⟨h1, h2, z⟩)]
        · rw [if_neg h2]
      · rw [if_neg h1]
    · simp only [k124, s124_0, s124_1, s124_2, s124_5, s124_8, s124_9, s124_10, s124_13, s124_16, s124_17, s124_18, s124_19, s124_22, s124_25, s124_27, Option.bind_some, Option.toList_some, Option.toList_none, List.cons_append, List.nil_append, xm_kl_n, xm_kl_i, xm_kl_a, xm_kl_j, xl_0, xm_low1, xm_low2, xm_low3, xm_low4, xl_n0, xl_n1, xb_nar, xe_if0, xe_ifn, xm_ci1, xm_ca1, mcl_36 Q, n_isModule Q I R, m_in]
      by_cases h1 : 0 ≤ a ∧ a < V 1 0
      · rw [if_pos h1]
        by_cases h2 : 0 ≤ b ∧ b < V 1 0
        · rw [if_pos h2, if_neg (fun z => hg ⟨h1, h2, hin.mp z⟩)]
        · rw [if_neg h2]
      · rw [if_neg h1]
theorem sim_uses (S : Stb o n V J p1 p2 cap hp) (a b : Int32) : Sim o n 168 146 [.int a, .int b] hp := by
  have P := S.P
  have I := S.I
  have R := S.R
  have Q := S.Q
  have hM := I.M
  have hT := I.T
  by_cases ha : 0 ≤ a ∧ a < V 1 0
  · by_cases hb : 0 ≤ b ∧ b < V 11 0
    · obtain ⟨m, hm, rfl⟩ := rng ha hM.1 (by omega)
      obtain ⟨s, hs_, rfl⟩ := rng hb hT.1 (by omega)
      have hus := R.us m s (by omega) (by omega)
      have e1 : xm_call 14 [.ref (o + 29), .int (nI m), .int (nI s)] hp = some (some (.int (xb (tj (J m) s))), hp) := c_Services_isUsed P (show m < 12 by omega) (nI s)
      by_cases h1 : xts V m s
      · by_cases h2 : tj (J m) s
        · obtain ⟨F', hp', er, P', hs, hF⟩ := m_read I R hm False Q
          rw [xb_f (c := False) id] at er
          refine ⟨(-10) - nI 8, hp, hp', ?_, ?_, S.q P' hs⟩
          · simp only [k168, s168_0, s168_1, s168_4, s168_5, s168_8, s168_11, s168_12, s168_15, s168_16, s168_19, s168_22, s168_24, s168_25, s168_26, s168_27, s168_28, s168_31, s168_34, s168_35, s168_38, s168_39, s168_40, s168_43, s168_44, s168_45, s168_48, s168_51, s168_53, s168_56, Option.bind_some, Option.toList_some, Option.toList_none, List.cons_append, List.nil_append, xm_kl_n, xm_kl_i, xm_kl_a, xm_kl_j, xl_0, xm_low1, xm_low2, xm_low3, xm_low4, xl_n0, xl_n1, xb_nar, xe_if0, xe_ifn, xm_ci1, xm_ca1, pf_0_0 P, pf_0_2 P, pf_0_5 P, pcl_0 P, pcl_1 P, pcl_11 P, pcl_29 P, c_Modules_holds P, c_Types_holds P, c_isTypeSeen P I hm hs_, e1, c_broken]
            rw [if_pos ha, if_pos hb, if_pos h1, if_pos h2]
          · simp only [k146, s146_0, s146_1, s146_2, s146_5, s146_8, s146_9, s146_10, s146_13, s146_16, s146_18, s146_19, s146_20, s146_21, s146_22, s146_25, s146_26, s146_27, s146_28, s146_31, s146_34, s146_35, s146_38, s146_39, s146_40, s146_43, s146_45, s146_46, s146_47, s146_48, s146_49, s146_50, s146_53, s146_55, s146_58, Option.bind_some, Option.toList_some, Option.toList_none, List.cons_append, List.nil_append, xm_kl_n, xm_kl_i, xm_kl_a, xm_kl_j, xl_0, xm_low1, xm_low2, xm_low3, xm_low4, xl_n0, xl_n1, xb_nar, xe_if0, xe_ifn, xm_ci1, xm_ca1, mcl_36 Q, mcl_36 P', n_isModule Q I R, n_isType Q I R, er, m_seesType P' I R hs_ hm hF, mf_36_25 P', pk_mul, nI_add, maz_57 P' (show 40 * m + s < 480 by omega), pv63_57, hus, m_broken]
            rw [if_pos ha, if_pos hb, if_pos h1, if_pos h2]
        · obtain ⟨hp1, ea, P1, hs1⟩ := c_Services_use P (show m < 12 by omega) (nI s)
          have Q1 : Pm o hp1.1 V hp1 := P1.m (fun _ _ => rfl)
          obtain ⟨F', hp', er, P', hs, hF⟩ := m_read I R hm False Q1.s63
          rw [xb_f (c := False) id] at er
          have Q2 := P'.w 57 (by decide) (by decide) (upd (V 57) (40 * m + s) (nI 1))
          refine ⟨nI 1, hp1, _, ?_, ?_, S.w P1 hs1 Q2 hs ?_ ?_ ?_ ?_⟩
          · simp only [k168, s168_0, s168_1, s168_4, s168_5, s168_8, s168_11, s168_12, s168_15, s168_16, s168_19, s168_22, s168_24, s168_25, s168_26, s168_27, s168_28, s168_31, s168_34, s168_35, s168_38, s168_39, s168_40, s168_43, s168_44, s168_45, s168_48, s168_51, s168_53, s168_56, s168_57, s168_58, s168_61, s168_62, s168_63, s168_66, s168_67, Option.bind_some, Option.toList_some, Option.toList_none, List.cons_append, List.nil_append, xm_kl_n, xm_kl_i, xm_kl_a, xm_kl_j, xl_0, xm_low1, xm_low2, xm_low3, xm_low4, xl_n0, xl_n1, xb_nar, xe_if0, xe_ifn, xm_ci1, xm_ca1, pf_0_0 P, pf_0_2 P, pf_0_5 P, pcl_0 P, pcl_1 P, pcl_11 P, pcl_29 P, c_Modules_holds P, c_Types_holds P, c_isTypeSeen P I hm hs_, e1, ea]
            rw [if_pos ha, if_pos hb, if_pos h1, if_neg h2]
          · simp only [k146, s146_0, s146_1, s146_2, s146_5, s146_8, s146_9, s146_10, s146_13, s146_16, s146_18, s146_19, s146_20, s146_21, s146_22, s146_25, s146_26, s146_27, s146_28, s146_31, s146_34, s146_35, s146_38, s146_39, s146_40, s146_43, s146_45, s146_46, s146_47, s146_48, s146_49, s146_50, s146_53, s146_55, s146_58, s146_59, s146_60, s146_63, s146_65, s146_66, s146_67, s146_68, s146_69, s146_70, s146_71, s146_72, Option.bind_some, Option.toList_some, Option.toList_none, List.cons_append, List.nil_append, xm_kl_n, xm_kl_i, xm_kl_a, xm_kl_j, xl_0, xm_low1, xm_low2, xm_low3, xm_low4, xl_n0, xl_n1, xb_nar, xe_if0, xe_ifn, xm_ci1, xm_ca1, mcl_36 Q1, mcl_36 P', m_isModule Q1 I R, m_isType Q1 I R, er, m_seesType P' I R hs_ hm hF, mf_36_25 P', pk_mul, nI_add, maz_57 P' (show 40 * m + s < 480 by omega), pv63_57, hus, mwz_57 P' (show 40 * m + s < 480 by omega), vp_nar1]
            rw [if_pos ha, if_pos hb, if_pos h1, if_neg h2]
          · exact I
          · refine ⟨R.nM, R.nP, R.nT, R.nB, R.nU, R.nS, R.nL, R.r38, R.r39, R.r42, R.r43, R.r44, R.r45, R.r46, R.r47, R.r48, R.r49, R.r50, R.r51, R.r52, R.r53, R.r54, R.r55, R.r56, R.r59, R.r60, R.r61, R.rq, R.e2, R.e3, R.e4, R.e5, R.ex, R.op, ?_, R.lh, R.lz, R.pm, R.z3, R.up, R.ut, R.ub, R.kd, R.fl, R.us0, R.iu⟩
            intro m' t g1 g2
            show upd (V 57) (40 * m + s) (nI 1) (40 * m' + t) = xb (tj (vp_updL J m (J m ||| ((1 : Int64) <<< ((nI s).toInt64 &&& 63))) m') t)
            by_cases hmm : m' = m
            · subst hmm
              rw [show vp_updL J m' (J m' ||| ((1 : Int64) <<< ((nI s).toInt64 &&& 63))) m' = J m' ||| ((1 : Int64) <<< ((nI s).toInt64 &&& 63)) from if_pos rfl]
              by_cases hts : t = s
              · subst hts
                rw [pk_us, xb_t ((tj_or g2).mpr (Or.inr ((tj_bit g2 g2).mpr rfl)))]
              · rw [pk_un (by omega), R.us m' t g1 g2]
                exact xb_cg ⟨fun z => (tj_or g2).mpr (Or.inl z), fun z => ((tj_or g2).mp z).elim id (fun w => absurd ((tj_bit (by omega) g2).mp w).symm hts)⟩
            · rw [show vp_updL J m (J m ||| ((1 : Int64) <<< ((nI s).toInt64 &&& 63))) m' = J m' from if_neg hmm, pk_un (by omega)]
              exact R.us m' t g1 g2
          · exact S.L0
          · rfl
      · obtain ⟨F', hp', er, P', hs, hF⟩ := m_read I R hm False Q
        rw [xb_f (c := False) id] at er
        refine ⟨(-10) - nI 1, hp, hp', ?_, ?_, S.q P' hs⟩
        · simp only [k168, s168_0, s168_1, s168_4, s168_5, s168_8, s168_11, s168_12, s168_15, s168_16, s168_19, s168_22, s168_24, s168_25, s168_26, s168_27, s168_28, s168_31, s168_34, s168_35, s168_38, Option.bind_some, Option.toList_some, Option.toList_none, List.cons_append, List.nil_append, xm_kl_n, xm_kl_i, xm_kl_a, xm_kl_j, xl_0, xm_low1, xm_low2, xm_low3, xm_low4, xl_n0, xl_n1, xb_nar, xe_if0, xe_ifn, xm_ci1, xm_ca1, pf_0_0 P, pf_0_2 P, pcl_0 P, pcl_1 P, pcl_11 P, c_Modules_holds P, c_Types_holds P, c_isTypeSeen P I hm hs_, c_broken]
          rw [if_pos ha, if_pos hb, if_neg h1]
        · simp only [k146, s146_0, s146_1, s146_2, s146_5, s146_8, s146_9, s146_10, s146_13, s146_16, s146_18, s146_19, s146_20, s146_21, s146_22, s146_25, s146_26, s146_27, s146_28, s146_31, s146_34, s146_35, s146_38, Option.bind_some, Option.toList_some, Option.toList_none, List.cons_append, List.nil_append, xm_kl_n, xm_kl_i, xm_kl_a, xm_kl_j, xl_0, xm_low1, xm_low2, xm_low3, xm_low4, xl_n0, xl_n1, xb_nar, xe_if0, xe_ifn, xm_ci1, xm_ca1, mcl_36 Q, mcl_36 P', n_isModule Q I R, n_isType Q I R, er, m_seesType P' I R hs_ hm hF, m_broken]
          rw [if_pos ha, if_pos hb, if_neg h1]
    · refine ⟨-2, hp, hp, ?_, ?_, S.s⟩
      · simp only [k168, s168_0, s168_1, s168_4, s168_5, s168_8, s168_11, s168_12, s168_15, s168_16, s168_19, s168_22, s168_24, Option.bind_some, Option.toList_some, Option.toList_none, List.cons_append, List.nil_append, xm_kl_n, xm_kl_i, xm_kl_a, xm_kl_j, xl_0, xm_low1, xm_low2, xm_low3, xm_low4, xl_n0, xl_n1, xb_nar, xe_if0, xe_ifn, xm_ci1, xm_ca1, pf_0_0 P, pf_0_2 P, pcl_1 P, pcl_11 P, c_Modules_holds P, c_Types_holds P]
        rw [if_pos ha, if_neg hb]
      · simp only [k146, s146_0, s146_1, s146_2, s146_5, s146_8, s146_9, s146_10, s146_13, s146_16, s146_18, Option.bind_some, Option.toList_some, Option.toList_none, List.cons_append, List.nil_append, xm_kl_n, xm_kl_i, xm_kl_a, xm_kl_j, xl_0, xm_low1, xm_low2, xm_low3, xm_low4, xl_n0, xl_n1, xb_nar, xe_if0, xe_ifn, xm_ci1, xm_ca1, mcl_36 Q, n_isModule Q I R, n_isType Q I R]
        rw [if_pos ha, if_neg hb]
  · refine ⟨-2, hp, hp, ?_, ?_, S.s⟩
    · simp only [k168, s168_0, s168_1, s168_4, s168_5, s168_8, s168_11, s168_12, s168_15, s168_16, s168_19, s168_22, s168_24, Option.bind_some, Option.toList_some, Option.toList_none, List.cons_append, List.nil_append, xm_kl_n, xm_kl_i, xm_kl_a, xm_kl_j, xl_0, xm_low1, xm_low2, xm_low3, xm_low4, xl_n0, xl_n1, xb_nar, xe_if0, xe_ifn, xm_ci1, xm_ca1, pf_0_0 P, pf_0_2 P, pcl_1 P, pcl_11 P, c_Modules_holds P, c_Types_holds P]
      rw [if_neg ha]
    · simp only [k146, s146_0, s146_1, s146_2, s146_5, s146_8, s146_9, s146_10, s146_13, s146_16, s146_18, Option.bind_some, Option.toList_some, Option.toList_none, List.cons_append, List.nil_append, xm_kl_n, xm_kl_i, xm_kl_a, xm_kl_j, xl_0, xm_low1, xm_low2, xm_low3, xm_low4, xl_n0, xl_n1, xb_nar, xe_if0, xe_ifn, xm_ci1, xm_ca1, mcl_36 Q, n_isModule Q I R, n_isType Q I R]
      rw [if_neg ha]
end TELLS
