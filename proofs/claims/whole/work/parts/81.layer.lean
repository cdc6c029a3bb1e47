/-! layer -/
section LAYER
variable {o n : Nat} {V : pc_V} {J : Nat → Int64} {p1 p2 cap : Nat} {hp hp' : xm_H} {F : Nat → Int32} {Ou : Nat → Option xm_E}
theorem Rel.c62 (R : Rel V J) {G : Nat → Int32} (h : ∀ i, i < 12 * zL V → G i = V 62 i) : Rel (pv_row V 62 G) J := by
  refine ⟨R.nM, R.nP, R.nT, R.nB, R.nU, R.nS, R.nL, R.r38, R.r39, R.r42, R.r43, R.r44, R.r45, R.r46, R.r47, R.r48, R.r49, R.r50, R.r51, R.r52, R.r53, R.r54, R.r55, R.r56, R.r59, R.r60, R.r61, R.rq, R.e2, R.e3, R.e4, R.e5, R.ex, R.op, R.us, ?_, R.lz, R.pm, R.z3, R.up, R.ut, R.ub, R.kd, R.fl, R.us0, R.iu⟩
  intro l m hl hm
  have hl' : l < zL V := hl
  show G (12 * l + m) = xb (tb (V 35 l) m)
  rw [h _ (by omega)]
  exact R.lh l m hl hm
theorem CInv.c62 (I : CInv V cap) (G : Nat → Int32) : CInv (pv_row V 62 G) cap := I
theorem pv_swap (V : pc_V) (F G H : Nat → Int32) : pv_row (pv_row (pv_row V 62 G) 63 F) 62 H = pv_row (pv_row V 62 H) 63 F := by
  funext k
  unfold pv_row
  by_cases h1 : k = 62
  · subst h1; rfl
  · by_cases h2 : k = 63
    · subst h2; rfl
    · simp [h1, h2]
theorem pv_self (V : pc_V) (F : Nat → Int32) : pv_row (pv_row V 62 (V 62)) 63 F = pv_row V 63 F := by
  funext k
  unfold pv_row
  by_cases h1 : k = 62
  · subst h1; rfl
  · simp [h1]
theorem spF_62 (V : pc_V) (G : Nat → Int32) (m rd : Int32) : ∀ d p a b, spF (pv_row V 62 G) m rd p d a b = spF V m rd p d a b := by
  intro d
  induction d with
  | zero => intro p a b; rfl
  | succ d ih =>
    intro p a b
    by_cases h : xsb V p m rd
    · rw [show spF V m rd p (d + 1) a b = spF V m rd (p + 1) d (a ||| (nI 1 <<< (V 8 p &&& 31))) (b ||| (a &&& (nI 1 <<< (V 8 p &&& 31)))) from if_pos h, ← ih]
      exact if_pos h
    · rw [show spF V m rd p (d + 1) a b = spF V m rd (p + 1) d a b from if_neg h, ← ih]
      exact if_neg h
theorem spl_62 (V : pc_V) (G : Nat → Int32) (m : Nat) : spl (pv_row V 62 G) m = spl V m := by
  have h : spF (pv_row V 62 G) (nI m) (xrd V m False) 0 (zP V) (nI 0) (nI 0) = spF V (nI m) (xrd V m False) 0 (zP V) (nI 0) (nI 0) := spF_62 V G _ _ _ _ _ _
  show xfo (fun x => ¬ spF (pv_row V 62 G) (nI m) (xrd V m False) 0 (zP V) (nI 0) (nI 0) &&& (nI 1 <<< (nI x &&& 31)) = 0) 0 31 = _
  rw [h]
  rfl
/-- row 62 while the modules of a new layer come in -/
def GF (V : pc_V) (ow : Nat → Prop) (k : Nat) (G : Nat → Int32) : Prop := (∀ i, i < 12 * zL V → G i = V 62 i) ∧ (∀ i, i < 12 → G (12 * zL V + i) = xb (i < k ∧ ow i)) ∧ (∀ i, 12 * zL V + 12 ≤ i → G i = V 62 i)
theorem GF.step {ow : Nat → Prop} {k : Nat} {G : Nat → Int32} (h : GF V ow k G) (hk : k < 12) : GF V ow (k + 1) (upd G (12 * zL V + k) (xb (ow k))) := by
  refine ⟨fun i hi => ?_, fun i hi => ?_, fun i hi => ?_⟩
  · rw [pk_un (by omega)]; exact h.1 i hi
  · by_cases hik : i = k
    · subst hik; rw [pk_us]; exact xb_cg ⟨fun z => ⟨by omega, z⟩, fun z => z.2⟩
    · rw [pk_un (by omega), h.2.1 i hi]; exact xb_cg ⟨fun z => ⟨by omega, z.2⟩, fun z => ⟨by omega, z.2⟩⟩
  · rw [pk_un (by omega)]; exact h.2.2 i hi
/-- what a layer of parent q and this root has itself -/
def xow (V : pc_V) (J : Nat → Int64) (r : Nat) (c : Prop) (q : Option Nat) (i : Nat) : Prop := Rch (xge V J c) (fun j => j = r) i ∧ xhm (V 35) (flpr V) (nI i) 4 q = -1
theorem m_layerFront (I : CInv V cap) (R : Rel V J) (L0 : Rl0 V) (hS : zS V ≤ 520) {r : Nat} (hr : r < zM V) (c : Prop) {q : Option Nat} (hq : ∀ t, q = some t → t < zL V) (hL4 : zL V < 4) (Q : Pm o Ou V hp) : ∃ F' G hp' x6, xm_call 167 [.ref (o + 36), .int (oI q), .int (nI r), .int (xb c)] hp = xm_out 167 (182, [some (.ref (o + 36)), some (.int (oI q)), some (.int (nI r)), some (.int (xb c)), some (.int (nI (nct (xow V J r c q) 0 (zM V)))), some (.int (xb (∃ i, i < zM V ∧ xow V J r c q i ∧ ¬ spl V i = none))), x6], [], hp') ∧ Pm o Ou (pv_row (pv_row V 62 G) 63 F') hp' ∧ hp'.2 = hp.2 ∧ GF V (xow V J r c q) (zM V) G := by
  have hM := I.M
  have hL := I.L
  have hb : 0 ≤ nI r ∧ nI r < V 1 0 := ⟨Int32.not_lt.mp (nI_pos (by omega)), by rw [hM.1]; exact nI_lt hr (by omega)⟩
  obtain ⟨F1, hp1, eg, P1, s1, hF1⟩ := m_graphOf I R hS hr c Q.s63
  have front : xm_call 167 [.ref (o + 36), .int (oI q), .int (nI r), .int (xb c)] hp = xm_out 167 (47, [some (.ref (o + 36)), some (.int (oI q)), some (.int (nI r)), some (.int (xb c)), some (.int (nI 0)), some (.int (nI 0)), none], [], hp1) := by
    have h24 : xm_call 167 [.ref (o + 36), .int (oI q), .int (nI r), .int (xb c)] hp = xm_out 167 (24, [some (.ref (o + 36)), some (.int (oI q)), some (.int (nI r)), some (.int (xb c)), none, none, none], [], hp) := by
      simp only [k167, s167_0, s167_1, s167_2, s167_5, s167_6, s167_7, s167_10, s167_13, s167_14, s167_15, s167_18, Option.bind_some, Option.toList_some, Option.toList_none, List.cons_append, List.nil_append, xm_kl_n, xm_kl_i, xm_kl_a, xm_kl_j, xl_0, xm_low1, xm_low2, xm_low3, xm_low4, xl_n0, xl_n1, xb_nar, xe_if0, xe_ifn, xm_ci1, xm_ca1, mcl_36 Q, m_isLayer Q I R, m_isModule Q I R]
      cases q with
      | none => rw [if_pos (show oI none = -1 from rfl), if_pos hb]
      | some t =>
        have ht := hq t rfl
        rw [oI_s, if_neg (nI_m1 (by omega)), if_pos (show 0 ≤ nI t ∧ nI t < V 33 0 from ⟨Int32.not_lt.mp (nI_pos (by omega)), by rw [hL.1]; exact nI_lt ht (by omega)⟩), if_pos hb]
    rw [h24]
    simp only [s167_24, s167_25, s167_28, s167_29, s167_32, s167_34, s167_35, s167_36, s167_37, s167_38, s167_41, s167_42, s167_44, s167_45, Option.bind_some, Option.toList_some, Option.toList_none, List.cons_append, List.nil_append, xm_kl_n, xm_kl_i, xm_kl_a, xm_kl_j, xl_0, xm_low1, xm_low2, xm_low3, xm_low4, xl_n0, xl_n1, xb_nar, xe_if0, xe_ifn, xm_ci1, xm_ca1, mcl_36 Q, mf_36_30 Q, R.nL, hL.1, eg]
    rw [if_pos (fun z => by rw [nI_eq (by omega) (by omega)] at z; omega)]
  -- the first walk
  have walk1 : ∀ d k w G hp x6, k + d = zM V → w ≤ k → Pm o Ou (pv_row (pv_row V 62 G) 63 F1) hp → GF V (xow V J r c q) k G → ∃ G' hp' x5 x6', xm_out 167 (47, [some (.ref (o + 36)), some (.int (oI q)), some (.int (nI r)), some (.int (xb c)), some (.int (nI w)), some (.int (nI k)), x6], [], hp) = xm_out 167 (122, [some (.ref (o + 36)), some (.int (oI q)), some (.int (nI r)), some (.int (xb c)), some (.int (nI (w + nct (xow V J r c q) k d))), some (.int x5), x6'], [], hp') ∧ Pm o Ou (pv_row (pv_row V 62 G') 63 F1) hp' ∧ hp'.2 = hp.2 ∧ GF V (xow V J r c q) (zM V) G' := by
    intro d
    induction d with
    | zero =>
      intro k w G hp x6 hk hw P hG
      have hkz : k = zM V := by omega
      subst hkz
      refine ⟨G, hp, nI (zM V), x6, ?_, P, rfl, hG⟩
      have n36 : (pv_row (pv_row V 62 G) 63 F1) 36 0 = nI (zM V) := R.nM.trans hM.1
      simp only [s167_47, s167_49, s167_50, s167_53, Option.bind_some, Option.toList_some, Option.toList_none, List.cons_append, List.nil_append, xm_kl_n, xm_kl_i, xm_kl_a, xm_kl_j, xl_0, xm_low1, xm_low2, xm_low3, xm_low4, xl_n0, xl_n1, xb_nar, xe_if0, xe_ifn, xm_ci1, xm_ca1, mf_36_0 P, n36]
      rw [if_pos (nI_le (by omega) (by omega))]
      rfl
    | succ d ih =>
      intro k w G hp x6 hk hw P hG
      have hk12 : k < 12 := by omega
      have I' := I.c62 G
      have R' : Rel (pv_row V 62 G) J := R.c62 hG.1
      have el : xm_call 56 [.ref (o + 36), .int (oI q), .int (nI k)] hp = some (some (.int (xhm (V 35) (flpr V) (nI k) 4 q)), hp) := m_loaderOf P I' R' hk12 q hq
      have P2 := P.w 62 (by decide) (by decide) (upd G (12 * zL V + k) (xb (xow V J r c q k)))
      rw [pv_swap] at P2
      have hG2 := hG.step hk12
      obtain ⟨G', hp', x5, x6', e, P', s', hG'⟩ := ih (k + 1) (w + @ite _ (xow V J r c q k) (Classical.propDecidable _) 1 0) _ _ (some (.int (xb (xow V J r c q k)))) (by omega) (by split <;> omega) P2 hG2
      refine ⟨G', hp', x5, x6', ?_, P', s', hG'⟩
      have n36 : (pv_row (pv_row V 62 G) 63 F1) 36 0 = nI (zM V) := R.nM.trans hM.1
      have n30 : (pv_row (pv_row V 62 G) 63 F1) 36 30 = nI (zL V) := R.nL.trans hL.1
      have n63 : (pv_row (pv_row V 62 G) 63 F1) 63 = F1 := rfl
      have n62 : (pv_row (pv_row V 62 G) 63 F1) 62 = G := rfl
      have e0 : xm_out 167 (47, [some (.ref (o + 36)), some (.int (oI q)), some (.int (nI r)), some (.int (xb c)), some (.int (nI w)), some (.int (nI k)), x6], [], hp) = xm_out 167 (83, [some (.ref (o + 36)), some (.int (oI q)), some (.int (nI r)), some (.int (xb c)), some (.int (nI w)), some (.int (nI k)), some (.int (xb (xow V J r c q k)))], [], hp) := by
        simp only [s167_47, s167_49, s167_50, s167_53, s167_56, s167_57, s167_60, s167_62, s167_63, s167_66, s167_67, s167_68, s167_70, s167_73, s167_76, s167_77, s167_80, s167_81, Option.bind_some, Option.toList_some, Option.toList_none, List.cons_append, List.nil_append, xm_kl_n, xm_kl_i, xm_kl_a, xm_kl_j, xl_0, xm_low1, xm_low2, xm_low3, xm_low4, xl_n0, xl_n1, xb_nar, xe_if0, xe_ifn, xm_ci1, xm_ca1, mcl_36 P, mf_36_0 P, n36, mf_36_33 P, maz_63 P hk12, n63, hF1 k hk12, el]
        rw [if_neg (nI_ge (by omega) (by omega))]
        by_cases h1 : Rch (xge V J c) (fun j => j = r) k
        · rw [if_pos h1]
          rcases xhm_or I (nI k) 4 q hq with g1 | ⟨l', hl', g1⟩
          · rw [g1, if_neg (show ¬ (0 : Int32) ≤ -1 by decide), xb_t (c := xow V J r c q k) ⟨h1, g1⟩]
          · rw [g1, if_pos (Int32.not_lt.mp (nI_pos (by omega))), xb_f (c := xow V J r c q k) (fun z => by have := z.2; rw [g1] at this; exact nI_m1 (by omega) this)]
        · rw [if_neg h1, xb_f (c := xow V J r c q k) (fun z => h1 z.1)]
      rw [e0]
      conv => lhs; simp only [s167_83, s167_84, s167_87, s167_89, s167_90, s167_93, s167_94, s167_96, s167_97, s167_99, s167_100, s167_102, s167_105, s167_107, s167_108, s167_109, s167_112, s167_114, s167_116, Option.bind_some, Option.toList_some, Option.toList_none, List.cons_append, List.nil_append, xm_kl_n, xm_kl_i, xm_kl_a, xm_kl_j, xl_0, xm_low1, xm_low2, xm_low3, xm_low4, xl_n0, xl_n1, xb_nar, xe_if0, xe_ifn, xm_ci1, xm_ca1, mf_36_32 P, mf_36_30 P, n30, pk_mul, nI_add, mwz_62 P (show 12 * zL V + k < 48 by omega), n62, xb_vn]
      conv => lhs; simp only [s167_119]
      by_cases h : xow V J r c q k
      · rw [if_pos h] at e ⊢
        rw [e, nct_t h, show w + 1 + nct (xow V J r c q) (k + 1) d = w + (1 + nct (xow V J r c q) (k + 1) d) by omega]
      · rw [if_neg h] at e ⊢
        rw [show w + 0 = w from rfl] at e
        rw [e, nct_f h]
  have G0 : GF V (xow V J r c q) 0 (V 62) := ⟨fun _ _ => rfl, fun i hi => by rw [L0 (zL V) i (Nat.le_refl _) hL4 hi, xb_f (fun z => by omega)], fun _ _ => rfl⟩
  have P1' : Pm o Ou (pv_row (pv_row V 62 (V 62)) 63 F1) hp1 := by rw [pv_self]; exact P1
  obtain ⟨G, hp2, x5, x6, e2, P2, s2, hG⟩ := walk1 (zM V) 0 0 (V 62) hp1 none (by omega) (Nat.le_refl _) P1' G0
  rw [Nat.zero_add] at e2
  have hnz : nct (xow V J r c q) 0 (zM V) ≤ zM V := nct_le _ _
  -- the second walk
  have I' := I.c62 G
  have R' : Rel (pv_row V 62 G) J := R.c62 hG.1
  have walk2 : ∀ d k e F hp, k + d = zM V → Pm o Ou (pv_row (pv_row V 62 G) 63 F) hp → (e ↔ ∃ i, i < k ∧ xow V J r c q i ∧ ¬ spl V i = none) → ∃ F' hp' x6', xm_out 167 (128, [some (.ref (o + 36)), some (.int (oI q)), some (.int (nI r)), some (.int (xb c)), some (.int (nI (nct (xow V J r c q) 0 (zM V)))), some (.int (xb e)), some (.int (nI k))], [], hp) = xm_out 167 (182, [some (.ref (o + 36)), some (.int (oI q)), some (.int (nI r)), some (.int (xb c)), some (.int (nI (nct (xow V J r c q) 0 (zM V)))), some (.int (xb (∃ i, i < zM V ∧ xow V J r c q i ∧ ¬ spl V i = none))), x6'], [], hp') ∧ Pm o Ou (pv_row (pv_row V 62 G) 63 F') hp' ∧ hp'.2 = hp.2 := by
    intro d
    induction d with
    | zero =>
      intro k e F hp hk P he
      have hkz : k = zM V := by omega
      subst hkz
      refine ⟨F, hp, some (.int (nI (zM V))), ?_, P, rfl⟩
      have n36 : (pv_row (pv_row V 62 G) 63 F) 36 0 = nI (zM V) := R.nM.trans hM.1
      simp only [s167_128, s167_130, s167_131, s167_134, Option.bind_some, Option.toList_some, Option.toList_none, List.cons_append, List.nil_append, xm_kl_n, xm_kl_i, xm_kl_a, xm_kl_j, xl_0, xm_low1, xm_low2, xm_low3, xm_low4, xl_n0, xl_n1, xb_nar, xe_if0, xe_ifn, xm_ci1, xm_ca1, mf_36_0 P, n36]
      rw [if_pos (nI_le (by omega) (by omega)), xb_cg he]
    | succ d ih =>
      intro k e F hp hk P he
      have hk12 : k < 12 := by omega
      have n36 : (pv_row (pv_row V 62 G) 63 F) 36 0 = nI (zM V) := R.nM.trans hM.1
      have n30 : (pv_row (pv_row V 62 G) 63 F) 36 30 = nI (zL V) := R.nL.trans hL.1
      have n62 : (pv_row (pv_row V 62 G) 63 F) 62 = G := rfl
      have hgk : G (12 * zL V + k) = xb (xow V J r c q k) := (hG.2.1 k hk12).trans (xb_cg ⟨fun z => z.2, fun z => ⟨by omega, z⟩⟩)
      have estep : ∀ e', (e' ↔ (e ∨ (xow V J r c q k ∧ ¬ spl V k = none))) → (e' ↔ ∃ i, i < k + 1 ∧ xow V J r c q i ∧ ¬ spl V i = none) := by
        intro e' h
        rw [h, he]
        constructor
        · rintro (⟨p, h1, h2⟩ | h)
          · exact ⟨p, by omega, h2⟩
          · exact ⟨k, by omega, h⟩
        · rintro ⟨p, h1, h2⟩
          by_cases hpk : p = k
          · subst hpk; exact Or.inr h2
          · exact Or.inl ⟨p, by omega, h2⟩
      have one : ∃ F1 hp1 e', (e' ↔ (e ∨ (xow V J r c q k ∧ ¬ spl V k = none))) ∧ xm_out 167 (128, [some (.ref (o + 36)), some (.int (oI q)), some (.int (nI r)), some (.int (xb c)), some (.int (nI (nct (xow V J r c q) 0 (zM V)))), some (.int (xb e)), some (.int (nI k))], [], hp) = xm_out 167 (128, [some (.ref (o + 36)), some (.int (oI q)), some (.int (nI r)), some (.int (xb c)), some (.int (nI (nct (xow V J r c q) 0 (zM V)))), some (.int (xb e')), some (.int (nI (k + 1)))], [], hp1) ∧ Pm o Ou (pv_row (pv_row V 62 G) 63 F1) hp1 ∧ hp1.2 = hp.2 := by
        by_cases h0 : e
        · refine ⟨F, hp, True, ⟨fun _ => Or.inl h0, fun _ => trivial⟩, ?_, P, rfl⟩
          conv => lhs; simp only [s167_128, s167_130, s167_131, s167_134, s167_137, s167_139, s167_169, s167_170, s167_173, s167_174, s167_176, Option.bind_some, Option.toList_some, Option.toList_none, List.cons_append, List.nil_append, xm_kl_n, xm_kl_i, xm_kl_a, xm_kl_j, xl_0, xm_low1, xm_low2, xm_low3, xm_low4, xl_n0, xl_n1, xb_nar, xe_if0, xe_ifn, xm_ci1, xm_ca1, mf_36_0 P, n36, nI_add]
          rw [if_neg (nI_ge (by omega) (by omega)), if_pos h0]
          conv => lhs; simp only [s167_179]
          rw [xb_t trivial]
        · by_cases h1 : xow V J r c q k
          · obtain ⟨F1, hp1, es, P1, s1⟩ := m_splitOf I' R' (show k < zM V by omega) P
            have es' : xm_call 145 [.ref (o + 36), .int (nI k)] hp = some (some (.int (oI (spl V k))), hp1) := by rw [← spl_62 V G k]; exact es
            refine ⟨F1, hp1, ¬ spl V k = none, ⟨fun z => Or.inr ⟨h1, z⟩, fun z => z.elim (fun w => absurd w h0) (fun w => w.2)⟩, ?_, P1, s1⟩
            conv => lhs; simp only [s167_128, s167_130, s167_131, s167_134, s167_137, s167_139, s167_142, s167_143, s167_146, s167_148, s167_149, s167_152, s167_153, s167_155, s167_156, s167_157, s167_160, s167_161, s167_163, s167_166, s167_169, s167_170, s167_173, s167_174, s167_176, Option.bind_some, Option.toList_some, Option.toList_none, List.cons_append, List.nil_append, xm_kl_n, xm_kl_i, xm_kl_a, xm_kl_j, xl_0, xm_low1, xm_low2, xm_low3, xm_low4, xl_n0, xl_n1, xb_nar, xe_if0, xe_ifn, xm_ci1, xm_ca1, mcl_36 P, mf_36_0 P, n36, mf_36_32 P, mf_36_30 P, n30, pk_mul, nI_add, maz_62 P (show 12 * zL V + k < 48 by omega), n62, hgk, es']
            rw [if_neg (nI_ge (by omega) (by omega)), if_neg h0, if_pos h1]
            conv => lhs; simp only [s167_179]
            cases hsp : spl V k with
            | none =>
              rw [oI_n, if_pos (show (-1 : Int32) < 0 by decide), xb_f (c := ¬ (none : Option Nat) = none) (fun z => z rfl)]
            | some t =>
              have htl := xfo_lt hsp
              rw [oI_s, if_neg (nI_pos (by omega)), xb_t (c := ¬ some t = none) (fun z => by cases z)]
          · refine ⟨F, hp, False, ⟨fun z => z.elim, fun z => z.elim h0 (fun w => h1 w.1)⟩, ?_, P, rfl⟩
            conv => lhs; simp only [s167_128, s167_130, s167_131, s167_134, s167_137, s167_139, s167_142, s167_143, s167_146, s167_148, s167_149, s167_152, s167_153, s167_155, s167_156, s167_157, s167_173, s167_174, s167_176, Option.bind_some, Option.toList_some, Option.toList_none, List.cons_append, List.nil_append, xm_kl_n, xm_kl_i, xm_kl_a, xm_kl_j, xl_0, xm_low1, xm_low2, xm_low3, xm_low4, xl_n0, xl_n1, xb_nar, xe_if0, xe_ifn, xm_ci1, xm_ca1, mcl_36 P, mf_36_0 P, n36, mf_36_32 P, mf_36_30 P, n30, pk_mul, nI_add, maz_62 P (show 12 * zL V + k < 48 by omega), n62, hgk]
            rw [if_neg (nI_ge (by omega) (by omega)), if_neg h0, if_neg h1]
            conv => lhs; simp only [s167_179]
            rw [xb_f id]
      obtain ⟨F1, hp1, e', he', e1, P1, s1⟩ := one
      obtain ⟨F2, hp2, x6', e2, P2, s2⟩ := ih (k + 1) e' F1 hp1 (by omega) P1 (estep e' he')
      exact ⟨F2, hp2, x6', e1.trans e2, P2, s2.trans s1⟩
  obtain ⟨F3, hp3, x6', e3, P3, s3⟩ := walk2 (zM V) 0 False F1 hp2 (by omega) P2 ⟨fun z => z.elim, fun ⟨i, h, _⟩ => by omega⟩
  rw [xb_f (c := False) id] at e3
  refine ⟨F3, G, hp3, x6', ?_, P3, s3.trans (s2.trans s1), hG⟩
  rw [front, e2]
  simp only [s167_122, s167_123, s167_125, s167_126, Option.bind_some, Option.toList_some, Option.toList_none, List.cons_append, List.nil_append, xm_kl_n, xm_kl_i, xm_kl_a, xm_kl_j, xl_0, xm_low1, xm_low2, xm_low3, xm_low4, xl_n0, xl_n1, xb_nar, xe_if0, xe_ifn, xm_ci1, xm_ca1]
  exact e3
theorem m_layerBack (I : CInv V cap) (R : Rel V J) {r w : Nat} (c sp : Prop) {q : Option Nat} (hL4 : zL V < 4) (hw : w < 2 ^ 31) (hbad : sp ∨ w = 0) {G : Nat → Int32} {x6 : Option Value} {ow : Nat → Prop} (hG : GF V ow (zM V) G) (P : Pm o Ou (pv_row (pv_row V 62 G) 63 F) hp) : ∃ G' hp', xm_out 167 (182, [some (.ref (o + 36)), some (.int (oI q)), some (.int (nI r)), some (.int (xb c)), some (.int (nI w)), some (.int (xb sp)), x6], [], hp) = some (some (.int ((-10) - (@ite _ sp (Classical.propDecidable _) (nI 1) (nI 2)))), hp') ∧ Pm o Ou (pv_row (pv_row V 62 G') 63 F) hp' ∧ hp'.2 = hp.2 ∧ GF V (fun _ => False) 0 G' := by
  have hL := I.L
  have loop : ∀ d k G hp, k + d = 12 → Pm o Ou (pv_row (pv_row V 62 G) 63 F) hp → (∀ i, i < 12 * zL V → G i = V 62 i) → (∀ i, 12 * zL V + 12 ≤ i → G i = V 62 i) → (∀ i, i < k → G (12 * zL V + i) = nI 0) → ∃ G' hp', xm_out 167 (195, [some (.ref (o + 36)), some (.int (oI q)), some (.int (nI r)), some (.int (xb c)), some (.int (nI w)), some (.int (xb sp)), some (.int (nI k))], [], hp) = some (some (.int ((-10) - (@ite _ sp (Classical.propDecidable _) (nI 1) (nI 2)))), hp') ∧ Pm o Ou (pv_row (pv_row V 62 G') 63 F) hp' ∧ hp'.2 = hp.2 ∧ GF V (fun _ => False) 0 G' := by
    intro d
    induction d with
    | zero =>
      intro k G hp hk P h1 h2 h3
      refine ⟨G, hp, ?_, P, rfl, h1, fun i hi => by rw [h3 i (by omega), xb_f (fun z => z.2)], h2⟩
      simp only [s167_195, s167_197, s167_199, s167_224, s167_226, s167_229, s167_230, s167_233, s167_234, s167_237, Option.bind_some, Option.toList_some, Option.toList_none, List.cons_append, List.nil_append, xm_kl_n, xm_kl_i, xm_kl_a, xm_kl_j, xl_0, xm_low1, xm_low2, xm_low3, xm_low4, xl_n0, xl_n1, xb_nar, xe_if0, xe_ifn, xm_ci1, xm_ca1, m_broken]
      rw [if_pos (nI_le (by omega) (by omega))]
      by_cases hs : sp
      · rw [if_pos hs, if_pos hs]
      · rw [if_neg hs, if_neg hs]
    | succ d ih =>
      intro k G hp hk P h1 h2 h3
      have n30 : (pv_row (pv_row V 62 G) 63 F) 36 30 = nI (zL V) := R.nL.trans hL.1
      have n62 : (pv_row (pv_row V 62 G) 63 F) 62 = G := rfl
      have P2 := P.w 62 (by decide) (by decide) (upd G (12 * zL V + k) (nI 0))
      rw [pv_swap] at P2
      obtain ⟨G', hp', e, P', s', hG'⟩ := ih (k + 1) _ _ (by omega) P2 (fun i hi => by rw [pk_un (by omega)]; exact h1 i hi) (fun i hi => by rw [pk_un (by omega)]; exact h2 i hi) (fun i hi => by
        by_cases hik : i = k
        · subst hik; exact pk_us
        · rw [pk_un (by omega)]; exact h3 i (by omega))
      refine ⟨G', hp', ?_, P', s', hG'⟩
      conv => lhs; simp only [s167_195, s167_197, s167_199, s167_202, s167_203, s167_206, s167_208, s167_209, s167_212, s167_213, s167_215, s167_216, s167_217, s167_218, Option.bind_some, Option.toList_some, Option.toList_none, List.cons_append, List.nil_append, xm_kl_n, xm_kl_i, xm_kl_a, xm_kl_j, xl_0, xm_low1, xm_low2, xm_low3, xm_low4, xl_n0, xl_n1, xb_nar, xe_if0, xe_ifn, xm_ci1, xm_ca1, mf_36_32 P, mf_36_30 P, n30, pk_mul, nI_add, mwz_62 P (show 12 * zL V + k < 48 by omega), n62, vp_nar0]
      rw [if_neg (nI_ge (by omega) (by omega))]
      conv => lhs; simp only [s167_221]
      exact e
  obtain ⟨G', hp', e, P', s', hG'⟩ := loop 12 0 G hp (by omega) P hG.1 hG.2.2 (fun i hi => by omega)
  refine ⟨G', hp', ?_, P', s', hG'⟩
  have e192 : xm_out 167 (182, [some (.ref (o + 36)), some (.int (oI q)), some (.int (nI r)), some (.int (xb c)), some (.int (nI w)), some (.int (xb sp)), x6], [], hp) = xm_out 167 (195, [some (.ref (o + 36)), some (.int (oI q)), some (.int (nI r)), some (.int (xb c)), some (.int (nI w)), some (.int (xb sp)), some (.int (nI 0))], [], hp) := by
    simp only [s167_182, s167_184, s167_187, s167_189, s167_192, s167_193, Option.bind_some, Option.toList_some, Option.toList_none, List.cons_append, List.nil_append, xm_kl_n, xm_kl_i, xm_kl_a, xm_kl_j, xl_0, xm_low1, xm_low2, xm_low3, xm_low4, xl_n0, xl_n1, xb_nar, xe_if0, xe_ifn, xm_ci1, xm_ca1]
    by_cases hs : sp
    · rw [if_pos hs]
    · rw [if_neg hs, if_neg (fun z => z (by rw [hbad.elim (fun z => absurd z hs) id]; rfl))]
  rw [e192]
  exact e
theorem sim_layer (S : Stb o n V J p1 p2 cap hp) (hn : n < 512) (a b : Int32) (c : Prop) : Sim o n 171 167 [.int a, .int b, .int (xb c)] hp := by
  have P := S.P
  have I := S.I
  have R := S.R
  have hM := I.M
  have hL := I.L
  have hz := S.z
  have Q : Pm o hp.1 V hp := S.P.m (fun _ _ => rfl)
  by_cases hg : (a = -1 ∨ (0 ≤ a ∧ a < V 33 0)) ∧ (0 ≤ b ∧ b < V 1 0)
  · obtain ⟨ha, hb⟩ := hg
    have hqe : ∃ q, a = oI q ∧ ∀ s, q = some s → s < zL V := by
      rcases ha with h | h
      · exact ⟨none, h, fun s e => by cases e⟩
      · obtain ⟨s, hs, e⟩ := rng h hL.1 (by omega)
        exact ⟨some s, e, fun t e => by cases e; exact hs⟩
    obtain ⟨q, rfl, hq⟩ := hqe
    obtain ⟨r, hr, rfl⟩ := rng hb hM.1 (by omega)
    have cfront : xm_call 171 [.ref o, .int (oI q), .int (nI r), .int (xb c)] hp = xm_out 171 (30, [some (.ref o), some (.int (oI q)), some (.int (nI r)), some (.int (xb c)), none], [], hp) := by
      simp only [k171, s171_0, s171_1, s171_2, s171_5, s171_6, s171_9, s171_10, s171_13, s171_16, s171_17, s171_20, s171_21, s171_24, Option.bind_some, Option.toList_some, Option.toList_none, List.cons_append, List.nil_append, xm_kl_n, xm_kl_i, xm_kl_a, xm_kl_j, xl_0, xm_low1, xm_low2, xm_low3, xm_low4, xl_n0, xl_n1, xb_nar, xe_if0, xe_ifn, xm_ci1, xm_ca1, pf_0_0 P, pf_0_6 P, pcl_1 P, pcl_33 P, c_Modules_holds P, c_Layers_holds P]
      by_cases h1 : oI q = -1
      · rw [if_pos h1, if_pos hb]
      · rw [if_neg h1, if_pos (ha.elim (fun z => absurd z h1) id), if_pos hb]
    by_cases hfull : zL V = 4
    · refine ⟨-4, hp, hp, ?_, ?_, S.s⟩
      · show xm_call 171 [.ref o, .int (oI q), .int (nI r), .int (xb c)] hp = _
        rw [cfront]
        simp only [s171_30, s171_31, s171_34, s171_37, s171_40, s171_42, Option.bind_some, Option.toList_some, Option.toList_none, List.cons_append, List.nil_append, xm_kl_n, xm_kl_i, xm_kl_a, xm_kl_j, xl_0, xm_low1, xm_low2, xm_low3, xm_low4, xl_n0, xl_n1, xb_nar, xe_if0, xe_ifn, xm_ci1, xm_ca1, pf_0_6 P, pcl_33 P, c_Layers_isFull P, hL.1]
        rw [if_pos (nI_le (by omega) (by omega))]
      · simp only [k167, s167_0, s167_1, s167_2, s167_5, s167_6, s167_7, s167_10, s167_13, s167_14, s167_15, s167_18, s167_21, s167_23, s167_24, s167_25, s167_28, s167_29, s167_32, s167_34, Option.bind_some, Option.toList_some, Option.toList_none, List.cons_append, List.nil_append, xm_kl_n, xm_kl_i, xm_kl_a, xm_kl_j, xl_0, xm_low1, xm_low2, xm_low3, xm_low4, xl_n0, xl_n1, xb_nar, xe_if0, xe_ifn, xm_ci1, xm_ca1, mcl_36 Q, m_isLayer Q I R, m_isModule Q I R, mf_36_30 Q, R.nL, hL.1]
        by_cases h1 : oI q = -1
        · rw [if_pos h1, if_pos hb, if_neg (fun z => z (by rw [hfull]))]
        · rw [if_neg h1, if_pos (by rw [← hL.1]; exact ha.elim (fun z => absurd z h1) id), if_pos hb, if_neg (fun z => z (by rw [hfull]))]
    · have hL4 : zL V < 4 := by omega
      generalize how : grh V J r c &&& (xkn (V 35) (flpr V) 4 (nI 0) q ^^^ (-1)) = ow
      have hbits : ∀ i, i < 32 → (tb ow i ↔ xow V J r c q i) := by
        intro i hi
        rw [← how, tb_and hi, tb_not hi, grh_spec I R hr c hi, kn_spec I hi q hq]
        exact ⟨fun z => ⟨z.1, Classical.byContradiction z.2⟩, fun z => ⟨z.1, fun w => w z.2⟩⟩
      have hlt : ∀ i, i < 32 → tb ow i → i < zM V := by
        intro i hi h
        rw [← how, tb_and hi] at h
        exact grh_lt I R hr c hi h.1
      have ek := c_Layers_knownTo P I.L.2 I.lpr' q hq
      have cfront2 : xm_out 171 (30, [some (.ref o), some (.int (oI q)), some (.int (nI r)), some (.int (xb c)), none], [], hp) = xm_out 171 (62, [some (.ref o), some (.int (oI q)), some (.int (nI r)), some (.int (xb c)), some (.int ow)], [], hp) := by
        simp only [s171_30, s171_31, s171_34, s171_37, s171_40, s171_42, s171_43, s171_44, s171_45, s171_46, s171_49, s171_50, s171_53, s171_54, s171_57, s171_58, s171_59, s171_60, Option.bind_some, Option.toList_some, Option.toList_none, List.cons_append, List.nil_append, xm_kl_n, xm_kl_i, xm_kl_a, xm_kl_j, xl_0, xm_low1, xm_low2, xm_low3, xm_low4, xl_n0, xl_n1, xb_nar, xe_if0, xe_ifn, xm_ci1, xm_ca1, pf_0_6 P, pcl_0 P, pcl_33 P, c_Layers_isFull P, hL.1, c_graphOf P I, ek]
        rw [if_neg (nI_ge (by omega) (by omega)), how]
      have hspl : (xan (fun m => ¬ ow &&& (nI 1 <<< (nI m &&& 31)) = 0 ∧ ¬ spl V m = none) 0 (zM V) = true) ↔ (∃ i, i < zM V ∧ xow V J r c q i ∧ ¬ spl V i = none) := by
        rw [xan_spec]
        constructor
        · rintro ⟨i, _, h1, h2, h3⟩; exact ⟨i, by omega, (hbits i (by omega)).mp h2, h3⟩
        · rintro ⟨i, h1, h2, h3⟩; exact ⟨i, by omega, by omega, (hbits i (by omega)).mpr h2, h3⟩
      have hcnt : nct (xow V J r c q) 0 (zM V) = 0 ↔ ow = 0 := by
        constructor
        · intro h
          rw [tb_zero]
          intro k hk hb'
          have hkz := hlt k hk hb'
          have hsplit := nct_add (c := xow V J r c q) k 0 ((zM V - k - 1) + 1)
          rw [show k + (zM V - k - 1 + 1) = zM V by omega, Nat.zero_add, nct_t ((hbits k hk).mp hb')] at hsplit
          omega
        · intro h
          refine nct_no _ _ (fun i _ hi hx => ?_)
          have := (hbits i (by omega)).mpr hx
          rw [h] at this
          exact tb_0 (by omega) this
      have hnle : nct (xow V J r c q) 0 (zM V) ≤ zM V := nct_le _ _
      by_cases h1 : ∃ i, i < zM V ∧ xow V J r c q i ∧ ¬ spl V i = none
      · obtain ⟨F', G, hp', x6, em, P', hs', hG⟩ := m_layerFront I R S.L0 (by omega) hr c hq hL4 Q
        obtain ⟨G2, hp2, em2, P2, hs2, hG2⟩ := m_layerBack I R (r := r) (q := q) c (∃ i, i < zM V ∧ xow V J r c q i ∧ ¬ spl V i = none) hL4 (show nct (xow V J r c q) 0 (zM V) < 2 ^ 31 by omega) (Or.inl h1) (x6 := x6) hG P'
        refine ⟨(-10) - nI 1, hp, hp2, ?_, ?_, S.w P rfl P2 (hs2.trans hs') I ?_ ?_ rfl⟩
        · show xm_call 171 [.ref o, .int (oI q), .int (nI r), .int (xb c)] hp = _
          rw [cfront, cfront2]
          simp only [s171_62, s171_63, s171_65, s171_68, s171_71, s171_72, s171_75, Option.bind_some, Option.toList_some, Option.toList_none, List.cons_append, List.nil_append, xm_kl_n, xm_kl_i, xm_kl_a, xm_kl_j, xl_0, xm_low1, xm_low2, xm_low3, xm_low4, xl_n0, xl_n1, xb_nar, xe_if0, xe_ifn, xm_ci1, xm_ca1, pcl_0 P, c_anySplit P I, c_broken]
          rw [if_pos (hspl.mpr h1)]
        · show xm_call 167 [.ref (o + 36), .int (oI q), .int (nI r), .int (xb c)] hp = _
          rw [em, em2, if_pos h1]
        · exact R.c62 hG2.1
        · intro l m hl hl4 hm
          show G2 (12 * l + m) = nI 0
          have hl' : zL V ≤ l := hl
          by_cases hll : l = zL V
          · rw [hll, hG2.2.1 m hm, xb_f (fun z => z.2)]
          · rw [hG2.2.2 _ (by omega)]; exact S.L0 l m hl hl4 hm
      · have c76 : xm_out 171 (62, [some (.ref o), some (.int (oI q)), some (.int (nI r)), some (.int (xb c)), some (.int ow)], [], hp) = xm_out 171 (76, [some (.ref o), some (.int (oI q)), some (.int (nI r)), some (.int (xb c)), some (.int ow)], [], hp) := by
          simp only [s171_62, s171_63, s171_65, s171_68, Option.bind_some, Option.toList_some, Option.toList_none, List.cons_append, List.nil_append, xm_kl_n, xm_kl_i, xm_kl_a, xm_kl_j, xl_0, xm_low1, xm_low2, xm_low3, xm_low4, xl_n0, xl_n1, xb_nar, xe_if0, xe_ifn, xm_ci1, xm_ca1, pcl_0 P, c_anySplit P I]
          rw [if_neg (fun z => h1 (hspl.mp z))]
        by_cases h2 : ow = 0
        · obtain ⟨F', G, hp', x6, em, P', hs', hG⟩ := m_layerFront I R S.L0 (by omega) hr c hq hL4 Q
          obtain ⟨G2, hp2, em2, P2, hs2, hG2⟩ := m_layerBack I R (r := r) (q := q) c (∃ i, i < zM V ∧ xow V J r c q i ∧ ¬ spl V i = none) hL4 (show nct (xow V J r c q) 0 (zM V) < 2 ^ 31 by omega) (Or.inr (hcnt.mpr h2)) (x6 := x6) hG P'
          refine ⟨(-10) - nI 2, hp, hp2, ?_, ?_, S.w P rfl P2 (hs2.trans hs') I ?_ ?_ rfl⟩
          · show xm_call 171 [.ref o, .int (oI q), .int (nI r), .int (xb c)] hp = _
            rw [cfront, cfront2, c76]
            simp only [s171_76, s171_78, s171_81, s171_82, s171_85, s171_98, Option.bind_some, Option.toList_some, Option.toList_none, List.cons_append, List.nil_append, xm_kl_n, xm_kl_i, xm_kl_a, xm_kl_j, xl_0, xm_low1, xm_low2, xm_low3, xm_low4, xl_n0, xl_n1, xb_nar, xe_if0, xe_ifn, xm_ci1, xm_ca1, c_broken]
            rw [if_neg (fun z => z h2)]
          · show xm_call 167 [.ref (o + 36), .int (oI q), .int (nI r), .int (xb c)] hp = _
            rw [em, em2, if_neg h1]
          · exact R.c62 hG2.1
          · intro l m hl hl4 hm
            show G2 (12 * l + m) = nI 0
            have hl' : zL V ≤ l := hl
            by_cases hll : l = zL V
            · rw [hll, hG2.2.1 m hm, xb_f (fun z => z.2)]
            · rw [hG2.2.2 _ (by omega)]; exact S.L0 l m hl hl4 hm
        · obtain ⟨hp1, ea, P1, hs1⟩ := c_Layers_add P hL.1 hL4 (oI q) ow
          have Q1 : Pm o hp1.1 V hp1 := P1.m (pvh (by decide) (pvh (by decide) (pvh (by decide) (fun _ _ => rfl))))
          obtain ⟨F', G, hp', x6, em, P', hs', hG⟩ := m_layerFront I R S.L0 (by omega) hr c hq hL4 Q1
          have Q2 := P'.w 61 (by decide) (by decide) (upd (V 61) (zL V) (oI q))
          have Q3 := Q2.w 36 (by decide) (by decide) (upd (V 36) 30 (nI (zL V + 1)))
          generalize hW : pv_row (pv_row (pv_row (pv_row V 62 G) 63 F') 61 (upd (V 61) (zL V) (oI q))) 36 (upd (V 36) 30 (nI (zL V + 1))) = W at Q3
          generalize hV1 : pv_row (pv_row (pv_row V 34 (upd (V 34) (zL V) (oI q))) 35 (upd (V 35) (zL V) ow)) 33 (upd (V 33) 0 (nI (zL V + 1))) = V1 at P1
          have hzz : nt (nI (zL V + 1)) = zL V + 1 := nt_nI (by omega)
          refine ⟨nI (zL V), hp1, _, ?_, ?_, S.w P1 hs1 Q3 hs' ?_ ?_ ?_ ?_⟩
          · show xm_call 171 [.ref o, .int (oI q), .int (nI r), .int (xb c)] hp = _
            rw [cfront, cfront2, c76]
            simp only [s171_76, s171_78, s171_81, s171_82, s171_85, s171_88, s171_89, s171_92, s171_93, s171_95, s171_98, Option.bind_some, Option.toList_some, Option.toList_none, List.cons_append, List.nil_append, xm_kl_n, xm_kl_i, xm_kl_a, xm_kl_j, xl_0, xm_low1, xm_low2, xm_low3, xm_low4, xl_n0, xl_n1, xb_nar, xe_if0, xe_ifn, xm_ci1, xm_ca1, pf_0_6 P, pcl_33 P, ea]
            rw [if_pos h2]
          · show xm_call 167 [.ref (o + 36), .int (oI q), .int (nI r), .int (xb c)] hp1 = _
            rw [em]
            have n1 : (pv_row (pv_row V 62 G) 63 F') 36 30 = nI (zL V) := R.nL.trans hL.1
            have n2 : (pv_row (pv_row (pv_row V 62 G) 63 F') 61 (upd (V 61) (zL V) (oI q))) 36 30 = nI (zL V) := R.nL.trans hL.1
            have n3 : W 36 30 = nI (zL V + 1) := by subst hW; rfl
            have r1 : (pv_row (pv_row V 62 G) 63 F') 61 = V 61 := rfl
            have r2 : (pv_row (pv_row (pv_row V 62 G) 63 F') 61 (upd (V 61) (zL V) (oI q))) 36 = V 36 := rfl
            have hne : ¬ nI (nct (xow V J r c q) 0 (zM V)) = 0 := nI_ne0 (Nat.pos_of_ne_zero (fun z => h2 (hcnt.mp z))) (by omega)
            simp only [s167_182, s167_184, s167_187, s167_189, s167_238, s167_239, s167_242, s167_243, s167_246, s167_247, s167_248, s167_249, s167_250, s167_253, s167_254, s167_255, s167_258, s167_259, s167_262, s167_263, s167_264, Option.bind_some, Option.toList_some, Option.toList_none, List.cons_append, List.nil_append, xm_kl_n, xm_kl_i, xm_kl_a, xm_kl_j, xl_0, xm_low1, xm_low2, xm_low3, xm_low4, xl_n0, xl_n1, xb_nar, xe_if0, xe_ifn, xm_ci1, xm_ca1, nI_add, mf_36_31 P', mf_36_30 P', n1, mwi_61 P' hL4, mf_36_30 Q2, n2, mwf_36_30 Q2, r1, r2, mf_36_30 Q3, n3, pk_sub (show 1 ≤ zL V + 1 by omega), Nat.add_sub_cancel]
            rw [if_neg h1, if_pos hne]
          · subst hW hV1
            refine ⟨I.M, I.P, I.T, I.B, I.U, I.S, ?_, I.own, I.pnm, I.tpk, I.tnm, I.par, I.bty, I.bop, I.bgv, I.upk, I.usz, I.iwh, I.ssv, I.sty, ?_⟩
            · show nI (zL V + 1) = nI (nt (nI (zL V + 1))) ∧ nt (nI (zL V + 1)) ≤ 4
              rw [hzz]; exact ⟨rfl, by omega⟩
            · show ∀ p, p < nt (nI (zL V + 1)) → _
              rw [hzz]
              exact row_newO (C := fun p s => s < p) I.lpr (fun s hs => ⟨by have := hq s hs; omega, hq s hs⟩)
          · subst hW hV1
            refine ⟨R.nM, R.nP, R.nT, R.nB, R.nU, R.nS, ?_, R.r38, R.r39, R.r42, R.r43, R.r44, R.r45, R.r46, R.r47, R.r48, R.r49, R.r50, R.r51, R.r52, R.r53, R.r54, R.r55, R.r56, R.r59, R.r60, ?_, R.rq, R.e2, R.e3, R.e4, R.e5, R.ex, R.op, R.us, ?_, ?_, R.pm, R.z3, R.up, R.ut, R.ub, R.kd, R.fl, R.us0, R.iu⟩
            · rfl
            · show upd (V 61) (zL V) (oI q) = upd (V 34) (zL V) (oI q)
              rw [R.r61]
            · show ∀ l m, l < nt (nI (zL V + 1)) → m < 12 → G (12 * l + m) = xb (tb (upd (V 35) (zL V) ow l) m)
              rw [hzz]
              intro l m hl hm
              by_cases hll : l = zL V
              · rw [hll, pk_us, hG.2.1 m hm]
                exact xb_cg ⟨fun z => (hbits m (by omega)).mpr z.2, fun z => ⟨hlt m (by omega) z, (hbits m (by omega)).mp z⟩⟩
              · rw [pk_un hll, hG.1 _ (by omega)]
                exact R.lh l m (by omega) hm
            · show ∀ l i, l < nt (nI (zL V + 1)) → i < 32 → tb (upd (V 35) (zL V) ow l) i → i < 12
              rw [hzz]
              intro l i hl hi
              by_cases hll : l = zL V
              · rw [hll, pk_us]; intro h; have := hlt i hi h; omega
              · rw [pk_un hll]; exact R.lz l i (by omega) hi
          · subst hW hV1
            show ∀ l m, nt (nI (zL V + 1)) ≤ l → l < 4 → m < 12 → G (12 * l + m) = nI 0
            rw [hzz]
            intro l m hl hl4 hm
            rw [hG.2.2 _ (by omega)]
            exact S.L0 l m (by omega) hl4 hm
          · subst hW hV1
            rfl
  · refine ⟨-2, hp, hp, ?_, ?_, S.s⟩
    · simp only [k171, s171_0, s171_1, s171_2, s171_5, s171_6, s171_9, s171_10, s171_13, s171_16, s171_17, s171_20, s171_21, s171_24, s171_27, s171_29, Option.bind_some, Option.toList_some, Option.toList_none, List.cons_append, List.nil_append, xm_kl_n, xm_kl_i, xm_kl_a, xm_kl_j, xl_0, xm_low1, xm_low2, xm_low3, xm_low4, xl_n0, xl_n1, xb_nar, xe_if0, xe_ifn, xm_ci1, xm_ca1, pf_0_0 P, pf_0_6 P, pcl_1 P, pcl_33 P, c_Modules_holds P, c_Layers_holds P]
      by_cases h1 : a = -1
      · rw [if_pos h1, if_neg (fun z => hg ⟨Or.inl h1, z⟩)]
      · rw [if_neg h1]
        by_cases h2 : 0 ≤ a ∧ a < V 33 0
        · rw [if_pos h2, if_neg (fun z => hg ⟨Or.inr h2, z⟩)]
        · rw [if_neg h2]
    · simp only [k167, s167_0, s167_1, s167_2, s167_5, s167_6, s167_7, s167_10, s167_13, s167_14, s167_15, s167_18, s167_21, s167_23, Option.bind_some, Option.toList_some, Option.toList_none, List.cons_append, List.nil_append, xm_kl_n, xm_kl_i, xm_kl_a, xm_kl_j, xl_0, xm_low1, xm_low2, xm_low3, xm_low4, xl_n0, xl_n1, xb_nar, xe_if0, xe_ifn, xm_ci1, xm_ca1, mcl_36 Q, m_isLayer Q I R, m_isModule Q I R]
      by_cases h1 : a = -1
      · rw [if_pos h1, if_neg (fun z => hg ⟨Or.inl h1, z⟩)]
      · rw [if_neg h1]
        by_cases h2 : 0 ≤ a ∧ a < V 33 0
        · rw [if_pos h2, if_neg (fun z => hg ⟨Or.inr h2, z⟩)]
        · rw [if_neg h2]
end LAYER
