/-! class and reference graph the same -/
theorem lg0 {x : Int64} : lg_cmp x 0 = 0 ↔ x = 0 := by
  unfold lg_cmp
  constructor
  · intro h
    split at h
    · exact absurd h (by decide)
    · split at h
      · assumption
      · exact absurd h (by decide)
  · rintro rfl
    decide
theorem tj_one : ∀ t, t < 40 → ((1 : Int64) <<< ((nI t).toInt64 &&& 63)).toBitVec = 1#64 <<< t := by decide +kernel
theorem tj_iff {s : Int64} {k : Nat} (hk : k < 40) : tj s k ↔ s.toBitVec.getLsbD k = true := by
  unfold tj
  rw [lg0]
  have h1 : (s &&& ((1 : Int64) <<< ((nI k).toInt64 &&& 63)) = 0) ↔ (s.toBitVec &&& (1#64 <<< k) = 0#64) := by
    constructor
    · intro h
      have := congrArg Int64.toBitVec h
      rw [Int64.toBitVec_and, tj_one k hk] at this
      exact this
    · intro h
      apply Int64.toBitVec_inj.mp
      rw [Int64.toBitVec_and, tj_one k hk, h]
      rfl
  rw [h1]
  constructor
  · intro h
    cases hb : s.toBitVec.getLsbD k with
    | true => rfl
    | false =>
      exfalso
      apply h
      apply BitVec.eq_of_getLsbD_eq
      intro i hi
      rw [BitVec.getLsbD_and, BitVec.getLsbD_zero]
      by_cases hik : i = k
      · subst hik; rw [hb]; rfl
      · have : (1#64 <<< k).getLsbD i = false := by
          rw [BitVec.getLsbD_shiftLeft]
          by_cases hlt : i < k
          · simp [hlt]
          · have h0 : i - k ≠ 0 := by omega
            simp [BitVec.getLsbD_one, h0]
        rw [this, Bool.and_false]
  · intro hb h
    have := congrArg (fun b => BitVec.getLsbD b k) h
    simp only [BitVec.getLsbD_and, BitVec.getLsbD_zero, hb, Bool.true_and] at this
    rw [BitVec.getLsbD_shiftLeft] at this
    simp [BitVec.getLsbD_one] at this
    omega
theorem tj_or {a b : Int64} {k : Nat} (hk : k < 40) : tj (a ||| b) k ↔ tj a k ∨ tj b k := by
  rw [tj_iff hk, tj_iff hk, tj_iff hk, Int64.toBitVec_or, BitVec.getLsbD_or, Bool.or_eq_true]
theorem tj_0 {k : Nat} (hk : k < 40) : ¬ tj 0 k := by
  rw [tj_iff hk]
  show ¬ (0#64).getLsbD k = true
  simp
theorem tj_bit {j k : Nat} (hj : j < 40) (hk : k < 40) : tj ((1 : Int64) <<< ((nI j).toInt64 &&& 63)) k ↔ j = k := by
  rw [tj_iff hk, tj_one j hj, BitVec.getLsbD_shiftLeft]
  by_cases h : j = k
  · subst h; simp [BitVec.getLsbD_one]; omega
  · by_cases hlt : k < j
    · simp [hlt, h]
    · have h0 : k - j ≠ 0 := by omega
      simp [BitVec.getLsbD_one, h0, h]
section GRAPHS
variable {o : Nat} {V : pc_V} {J : Nat → Int64} {Ou : Nat → Option xm_E} {cap : Nat}
theorem xus_spec (J : Nat → Int64) (s : Int32) {t : Nat} (ht : t < 40) : ∀ d k a, k + d ≤ 32 → (tj (xus J s k d a) t ↔ tj a t ∨ ∃ m, k ≤ m ∧ m < k + d ∧ tb s m ∧ tj (J m) t) := by
  intro d
  induction d with
  | zero => intro k a hk; exact ⟨Or.inl, fun z => z.elim id (fun ⟨m, h1, h2, _⟩ => by omega)⟩
  | succ d ih =>
    intro k a hk
    show tj (xus J s (k + 1) d _) t ↔ _
    rw [ih (k + 1) _ (by omega), tj_or ht]
    have hx : tj (if s &&& (nI 1 <<< (nI k &&& 31)) = 0 then 0 else J k) t ↔ (tb s k ∧ tj (J k) t) := by
      by_cases h : s &&& (nI 1 <<< (nI k &&& 31)) = 0
      · rw [if_pos h]; exact ⟨fun q => absurd q (tj_0 ht), fun q => absurd h q.1⟩
      · rw [if_neg h]; exact ⟨fun q => ⟨h, q⟩, fun q => q.2⟩
    rw [hx]
    constructor
    · rintro ((h | h) | ⟨m, h1, h2, h3⟩)
      · exact Or.inl h
      · exact Or.inr ⟨k, Nat.le_refl _, by omega, h⟩
      · exact Or.inr ⟨m, by omega, by omega, h3⟩
    · rintro (h | ⟨m, h1, h2, h3⟩)
      · exact Or.inl (Or.inl h)
      · by_cases hmk : m = k
        · subst hmk; exact Or.inl (Or.inr h3)
        · exact Or.inr ⟨m, by omega, by omega, h3⟩
theorem prF_spec (I : CInv V cap) (us : Int64) {i : Nat} (hi : i < 32) : ∀ d k a, k + d ≤ zS V → (tb (prF V us k d a) i ↔ tb a i ∨ ∃ q, k ≤ q ∧ q < k + d ∧ tj us (fssv V q) ∧ fown V (ftpk V (fsty V q)) = i) := by
  intro d
  induction d with
  | zero => intro k a hk; exact ⟨Or.inl, fun z => z.elim id (fun ⟨m, h1, h2, _⟩ => by omega)⟩
  | succ d ih =>
    intro k a hk
    have hM := I.M.2
    have hs := I.ssv k (by omega)
    have ht := I.sty k (by omega)
    have hp := I.tpk _ ht.2
    have ho := I.own _ hp.2
    show tb (prF V us (k + 1) d _) i ↔ _
    rw [ih (k + 1) _ (by omega)]
    have hx : tb (@ite _ (lg_cmp (us &&& ((1 : Int64) <<< ((V 31 k).toInt64 &&& 63))) 0 = 0) (Classical.propDecidable _) a (a ||| (nI 1 <<< (V 7 (ftpk V (fsty V k)) &&& 31)))) i ↔ (tb a i ∨ (tj us (fssv V k) ∧ fown V (ftpk V (fsty V k)) = i)) := by
      rw [hs.1, ho.1]
      by_cases h : lg_cmp (us &&& ((1 : Int64) <<< ((nI (fssv V k)).toInt64 &&& 63))) 0 = 0
      · rw [if_pos h]; exact ⟨Or.inl, fun q => q.elim id (fun w => absurd h w.1)⟩
      · rw [if_neg h, tb_or hi, tb_bit (by omega) hi]
        exact ⟨fun q => q.elim Or.inl (fun w => Or.inr ⟨h, w⟩), fun q => q.elim Or.inl (fun w => Or.inr w.2)⟩
    rw [hx]
    constructor
    · rintro ((h | h) | ⟨m, h1, h2, h3⟩)
      · exact Or.inl h
      · exact Or.inr ⟨k, Nat.le_refl _, by omega, h⟩
      · exact Or.inr ⟨m, by omega, by omega, h3⟩
    · rintro (h | ⟨m, h1, h2, h3⟩)
      · exact Or.inl (Or.inl h)
      · by_cases hmk : m = k
        · subst hmk; exact Or.inl (Or.inr h3)
        · exact Or.inr ⟨m, by omega, by omega, h3⟩
theorem prv_spec (I : CInv V cap) {s : Int32} (hs : ∀ j, j < 32 → tb s j → j < zM V) {i : Nat} (hi : i < 32) : tb (prv V J s) i ↔ ∃ j, j < 32 ∧ tb s j ∧ xbd V J j i := by
  have hM := I.M.2
  have hT := I.T.2
  unfold prv
  rw [prF_spec I _ hi (zS V) 0 (nI 0) (by omega)]
  constructor
  · rintro (h | ⟨q, _, h2, h3, h4⟩)
    · exact absurd h (tb_0 hi)
    · have hsv := I.ssv q (by omega)
      have hst := I.sty q (by omega)
      have htp := I.tpk _ hst.2
      have ho := I.own _ htp.2
      rw [xus_spec J s (by omega) 12 0 0 (by omega)] at h3
      rcases h3 with h3 | ⟨m, _, m2, m3, m4⟩
      · exact absurd h3 (tj_0 (by omega))
      · refine ⟨m, by omega, m3, hs m (by omega) m3, by omega, fssv V q, hsv.2, m4, q, by omega, by rw [ho.1, h4], hsv.1⟩
  · rintro ⟨j, hj, h1, h2, h3, t, h4, h5, q, h6, h7, h8⟩
    have hsv := I.ssv q h6
    have hst := I.sty q h6
    have htp := I.tpk _ hst.2
    have ho := I.own _ htp.2
    have e1 : fssv V q = t := by
      have := hsv.1.symm.trans h8
      rw [nI_eq (by omega) (by omega)] at this
      exact this
    have e2 : fown V (ftpk V (fsty V q)) = i := by
      have := ho.1.symm.trans h7
      rw [nI_eq (by omega) (by omega)] at this
      exact this
    refine Or.inr ⟨q, Nat.zero_le _, by omega, ?_, e2⟩
    rw [e1, xus_spec J s (by omega) 12 0 0 (by omega)]
    exact Or.inr ⟨j, Nat.zero_le _, by omega, h1, h5⟩
theorem e4_iff (I : CInv V cap) (R : Rel V J) {j k : Nat} : (j < zM V ∧ tb (V 4 j) k ∧ k < 32) ↔ xeg V False True (-1) j k := by
  have hM := I.M.2
  unfold xeg xed
  constructor
  · rintro ⟨h1, h2, h3⟩
    have h := (R.e4 j k (by omega) h3).mp h2
    have hr := (R.rq j k (by omega) h.1).2.2 (by omega)
    exact ⟨h1, hr.2, nI_m1 (by omega), by omega, fun z => z.elim, fun _ => h.2⟩
  · rintro ⟨h1, h2, _, h3, _, h4⟩
    exact ⟨h1, (R.e4 j k (by omega) (by omega)).mpr ⟨by omega, h4 trivial⟩, by omega⟩
theorem clr4 (I : CInv V cap) (R : Rel V J) {s : Int32} (hs : ∀ j, j < 32 → tb s j → j < zM V) {i : Nat} (hi : i < 32) : tb (clr (V 4) (zM V) 12 s) i ↔ Rch (xeg V False True (-1)) (fun j => j < 32 ∧ tb s j) i := by
  have hM := I.M.2
  rw [clr_spec (V 4) (zM V) (by omega) (fun j k hj hk h => ((e4_iff I R).mp ⟨hj, h, hk⟩).2.1) 12 s hs (by omega) i hi]
  exact Rch.cg (fun _ => Iff.rfl) (fun _ _ => e4_iff I R) i
theorem rch_lt {E : Nat → Nat → Prop} {C : Nat → Prop} {n i : Nat} (h1 : ∀ j, C j → j < n) (h2 : ∀ j k, E j k → k < n) (h : Rch E C i) : i < n := h (fun j => j < n) h1 (fun j k _ e => h2 j k e)
theorem grf_spec (I : CInv V cap) (R : Rel V J) : ∀ r s, (∀ j, j < 32 → tb s j → j < zM V) → zM V ≤ cnt s (zM V) + r → ∀ i, i < 32 → (tb (grf V J r s) i ↔ Rch (xge V J True) (fun j => j < 32 ∧ tb s j) i) := by
  have hM := I.M.2
  have hge : ∀ j k, xge V J True j k → k < zM V := fun j k h => h.elim (fun w => w.2.1) (fun w => w.2.2.1)
  -- one round
  have hsub : ∀ s, (∀ j, j < 32 → tb s j → j < zM V) → (∀ j, j < 32 → tb (s ||| prv V J s) j → j < zM V) := by
    intro s hs j hj h
    rcases (tb_or hj).mp h with h | h
    · exact hs j hj h
    · obtain ⟨_, _, _, hx⟩ := (prv_spec I hs hj).mp h
      exact hx.2.1
  have hin : ∀ s, (∀ j, j < 32 → tb s j → j < zM V) → ∀ i, i < 32 → tb (clr (V 4) (zM V) 12 (s ||| prv V J s)) i → Rch (xge V J True) (fun j => j < 32 ∧ tb s j) i := by
    intro s hs i hi h
    rw [clr4 I R (hsub s hs) hi] at h
    refine h.mono (fun j q => ?_) (fun j k q => Or.inl q)
    rcases (tb_or q.1).mp q.2 with w | w
    · exact .of ⟨q.1, w⟩
    · obtain ⟨j', a, b, c⟩ := (prv_spec I hs q.1).mp w
      exact (Rch.of (E := xge V J True) (C := fun j => j < 32 ∧ tb s j) ⟨a, b⟩).step (Or.inr ⟨trivial, c⟩)
  have hup : ∀ s, (∀ j, j < 32 → tb s j → j < zM V) → ∀ i, i < 32 → tb s i → tb (clr (V 4) (zM V) 12 (s ||| prv V J s)) i := by
    intro s hs i hi h
    rw [clr4 I R (hsub s hs) hi]
    exact .of ⟨hi, (tb_or hi).mpr (Or.inl h)⟩
  -- a set that a round leaves alone
  have fin : ∀ s, (∀ j, j < 32 → tb s j → j < zM V) → (∀ i, i < 32 → tb (clr (V 4) (zM V) 12 (s ||| prv V J s)) i → tb s i) → ∀ i, i < 32 → (tb s i ↔ Rch (xge V J True) (fun j => j < 32 ∧ tb s j) i) := by
    intro s hs hcl i hi
    constructor
    · intro h; exact .of ⟨hi, h⟩
    · intro h
      refine (h (fun j => j < 32 ∧ tb s j) (fun j q => q) (fun j k q e => ?_)).2
      have hk := hge j k e
      refine ⟨by omega, hcl k (by omega) ?_⟩
      rw [clr4 I R (hsub s hs) (by omega)]
      rcases e with e | ⟨_, e⟩
      · exact (Rch.of (E := xeg V False True (-1)) (C := fun j => j < 32 ∧ tb (s ||| prv V J s) j) ⟨q.1, (tb_or q.1).mpr (Or.inl q.2)⟩).step e
      · exact .of ⟨by omega, (tb_or (by omega)).mpr (Or.inr ((prv_spec I hs (by omega)).mpr ⟨j, q.1, q.2, e⟩))⟩
  intro r
  induction r with
  | zero =>
    intro s hs hc i hi
    refine fin s hs (fun j hj q => ?_) i hi
    by_cases hsj : tb s j
    · exact hsj
    · exfalso
      have hjz := rch_lt (fun j q => hs j q.1 q.2) hge (hin s hs j hj q)
      have h1 := cnt_lt (hup s hs) q hsj (zM V) (by omega) hjz
      have h2 := cnt_le (clr (V 4) (zM V) 12 (s ||| prv V J s)) (zM V)
      omega
  | succ r ih =>
    intro s hs hc i hi
    by_cases he : clr (V 4) (zM V) 12 (s ||| prv V J s) = s
    · rw [show grf V J (r + 1) s = clr (V 4) (zM V) 12 (s ||| prv V J s) from if_pos he, he]
      exact fin s hs (fun j hj q => by rw [he] at q; exact q) i hi
    · rw [show grf V J (r + 1) s = grf V J r (clr (V 4) (zM V) 12 (s ||| prv V J s)) from if_neg he]
      have hx : ∃ j, j < 32 ∧ tb (clr (V 4) (zM V) 12 (s ||| prv V J s)) j ∧ ¬ tb s j := by
        apply Classical.byContradiction
        intro hno
        apply he
        apply tb_ext
        intro k hk
        exact ⟨fun q => Classical.byContradiction fun w => hno ⟨k, hk, q, w⟩, fun q => hup s hs k hk q⟩
      obtain ⟨j, hj, q1, q2⟩ := hx
      have hz : ∀ j, j < 32 → tb (clr (V 4) (zM V) 12 (s ||| prv V J s)) j → j < zM V := fun j hj q => rch_lt (fun j q => hs j q.1 q.2) hge (hin s hs j hj q)
      have h1 := cnt_lt (hup s hs) q1 q2 (zM V) (by omega) (hz j hj q1)
      rw [ih _ hz (by omega) i hi]
      constructor
      · intro h; exact h.mono (fun k q => hin s hs k q.1 q.2) (fun _ _ q => q)
      · intro h; exact h.mono (fun k q => .of ⟨q.1, hup s hs k q.1 q.2⟩) (fun _ _ q => q)
/-- the graph of a root -/
theorem grh_spec (I : CInv V cap) (R : Rel V J) {root : Nat} (hr : root < zM V) (bound : Prop) {i : Nat} (hi : i < 32) : tb (grh V J root bound) i ↔ Rch (xge V J bound) (fun j => j = root) i := by
  have hM := I.M.2
  have hb : ∀ j, j < 32 → tb (nI 1 <<< (nI root &&& 31)) j → j < zM V := fun j hj h => by rw [tb_bit (by omega) hj] at h; omega
  have hge : ∀ j k, xeg V False True (-1) j k → k < zM V := fun j k h => h.2.1
  unfold grh
  by_cases h : bound
  · rw [if_pos h]
    have hz : ∀ j, j < 32 → tb (clr (V 4) (zM V) 12 (nI 1 <<< (nI root &&& 31))) j → j < zM V := fun j hj q => rch_lt (fun j q => hb j q.1 q.2) hge ((clr4 I R hb hj).mp q)
    rw [grf_spec I R 12 _ hz (by omega) i hi]
    constructor
    · intro q
      refine q.mono (fun j w => ?_) (fun j k w => w.elim Or.inl (fun z => Or.inr ⟨h, z.2⟩))
      refine ((clr4 I R hb w.1).mp w.2).mono (fun j z => ?_) (fun _ _ z => Or.inl z)
      rw [tb_bit (by omega) z.1] at z
      exact .of z.2.symm
    · intro q
      refine q.mono (fun j w => ?_) (fun j k w => w.elim Or.inl (fun z => Or.inr ⟨trivial, z.2⟩))
      subst w
      exact .of ⟨by omega, (clr4 I R hb (by omega)).mpr (.of ⟨by omega, (tb_bit (by omega) (by omega)).mpr rfl⟩)⟩
  · rw [if_neg h, clr4 I R hb hi]
    refine Rch.cg (fun j => ?_) (fun j k => ?_) i
    · constructor
      · rintro ⟨w1, w2⟩; rw [tb_bit (by omega) w1] at w2; exact w2.symm
      · rintro rfl; exact ⟨by omega, (tb_bit (by omega) (by omega)).mpr rfl⟩
    · exact ⟨Or.inl, fun w => w.elim id (fun z => absurd z.1 h)⟩
theorem grh_lt (I : CInv V cap) (R : Rel V J) {root : Nat} (hr : root < zM V) (bound : Prop) {i : Nat} (hi : i < 32) (h : tb (grh V J root bound) i) : i < zM V :=
  rch_lt (fun j q => by omega) (fun j k e => e.elim (fun w => w.2.1) (fun w => w.2.2.1)) ((grh_spec I R hr bound hi).mp h)
end GRAPHS
