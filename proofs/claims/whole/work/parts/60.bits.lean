/-! bits of a set, and what is reached -/
/-- bit k -/
def tb (s : Int32) (k : Nat) : Prop := ¬ s &&& (nI 1 <<< (nI k &&& 31)) = 0
theorem tb_one : ∀ k, k < 32 → (nI 1 <<< (nI k &&& 31)).toBitVec = 1#32 <<< k := by decide +kernel
theorem tb_iff {s : Int32} {k : Nat} (hk : k < 32) : tb s k ↔ s.toBitVec.getLsbD k = true := by
  unfold tb
  have h1 : (s &&& (nI 1 <<< (nI k &&& 31)) = 0) ↔ (s.toBitVec &&& (1#32 <<< k) = 0#32) := by
    constructor
    · intro h
      have := congrArg Int32.toBitVec h
      rw [Int32.toBitVec_and, tb_one k hk] at this
      exact this
    · intro h
      apply Int32.toBitVec_inj.mp
      rw [Int32.toBitVec_and, tb_one k hk, h]
      rfl
  rw [h1]
  constructor
  · intro h
    cases hb : s.toBitVec.getLsbD k with
    | true => rfl
    | false =>
      exfalso
      apply h
      apply BitVec.eq_of_getLsbD_eq
      intro i hi
      rw [BitVec.getLsbD_and, BitVec.getLsbD_zero]
      by_cases hik : i = k
      · subst hik; rw [hb]; rfl
      · have : (1#32 <<< k).getLsbD i = false := by
          rw [BitVec.getLsbD_shiftLeft]
          by_cases hlt : i < k
          · simp [hlt]
          · have h0 : i - k ≠ 0 := by omega
            simp [BitVec.getLsbD_one, h0]
        rw [this, Bool.and_false]
  · intro hb h
    have := congrArg (fun b => BitVec.getLsbD b k) h
    simp only [BitVec.getLsbD_and, BitVec.getLsbD_zero, hb, Bool.true_and] at this
    rw [BitVec.getLsbD_shiftLeft] at this
    simp [BitVec.getLsbD_one, hk] at this
theorem tb_or {a b : Int32} {k : Nat} (hk : k < 32) : tb (a ||| b) k ↔ tb a k ∨ tb b k := by
  rw [tb_iff hk, tb_iff hk, tb_iff hk, Int32.toBitVec_or, BitVec.getLsbD_or, Bool.or_eq_true]
theorem tb_and {a b : Int32} {k : Nat} (hk : k < 32) : tb (a &&& b) k ↔ tb a k ∧ tb b k := by
  rw [tb_iff hk, tb_iff hk, tb_iff hk, Int32.toBitVec_and, BitVec.getLsbD_and, Bool.and_eq_true]
theorem tb_bit {j k : Nat} (hj : j < 32) (hk : k < 32) : tb (nI 1 <<< (nI j &&& 31)) k ↔ j = k := by
  rw [tb_iff hk, tb_one j hj, BitVec.getLsbD_shiftLeft]
  by_cases h : j = k
  · subst h; simp [hk, BitVec.getLsbD_one]
  · by_cases hlt : k < j
    · simp [hlt, h]
    · have h0 : k - j ≠ 0 := by omega
      simp [BitVec.getLsbD_one, h0, h]
theorem tb_0 {k : Nat} (hk : k < 32) : ¬ tb (nI 0) k := by
  rw [tb_iff hk]
  show ¬ (0#32).getLsbD k = true
  simp
theorem tb_not {a : Int32} {k : Nat} (hk : k < 32) : tb (a ^^^ (-1)) k ↔ ¬ tb a k := by
  rw [tb_iff hk, tb_iff hk, Int32.toBitVec_xor, BitVec.getLsbD_xor]
  have : (-1 : Int32).toBitVec.getLsbD k = true := by
    have h : (-1 : Int32).toBitVec = BitVec.allOnes 32 := by decide +kernel
    rw [h, BitVec.getLsbD_allOnes]
    simp [hk]
  rw [this]
  cases a.toBitVec.getLsbD k <;> simp
theorem tb_ext {a b : Int32} (h : ∀ k, k < 32 → (tb a k ↔ tb b k)) : a = b := by
  apply Int32.toBitVec_inj.mp
  apply BitVec.eq_of_getLsbD_eq
  intro i hi
  have := h i hi
  rw [tb_iff hi, tb_iff hi] at this
  cases h1 : a.toBitVec.getLsbD i <;> cases h2 : b.toBitVec.getLsbD i <;> simp_all
theorem tb_zero {a : Int32} : a = 0 ↔ ∀ k, k < 32 → ¬ tb a k := by
  constructor
  · rintro rfl k hk; exact tb_0 hk
  · intro h; exact tb_ext fun k hk => ⟨fun q => absurd q (h k hk), fun q => absurd q (tb_0 hk)⟩
theorem tb_4096 : ∀ k, k < 32 → (tb (nI 4096) k ↔ k = 12) := by
  intro k hk
  rw [show nI 4096 = nI 1 <<< (nI 12 &&& 31) by decide +kernel, tb_bit (by decide) hk]
  exact ⟨fun h => h.symm, fun h => h.symm⟩
/-- the least set that holds C and is closed under E -/
def Rch (E : Nat → Nat → Prop) (C : Nat → Prop) (i : Nat) : Prop := ∀ D : Nat → Prop, (∀ j, C j → D j) → (∀ j k, D j → E j k → D k) → D i
theorem Rch.of {E : Nat → Nat → Prop} {C : Nat → Prop} {i : Nat} (h : C i) : Rch E C i := fun D h1 _ => h1 i h
theorem Rch.step {E : Nat → Nat → Prop} {C : Nat → Prop} {i j : Nat} (h : Rch E C i) (e : E i j) : Rch E C j := fun D h1 h2 => h2 i j (h D h1 h2) e
theorem Rch.eq {E : Nat → Nat → Prop} {C D : Nat → Prop} (h1 : ∀ j, C j → D j) (h2 : ∀ j k, D j → E j k → D k) (h3 : ∀ j, D j → Rch E C j) (i : Nat) : D i ↔ Rch E C i := ⟨h3 i, fun h => h D h1 h2⟩
theorem Rch.mono {E F : Nat → Nat → Prop} {C D : Nat → Prop} (h1 : ∀ j, C j → Rch F D j) (h2 : ∀ j k, E j k → F j k) {i : Nat} (h : Rch E C i) : Rch F D i := h _ h1 (fun j k a b => a.step (h2 j k b))
theorem Rch.cg {E F : Nat → Nat → Prop} {C D : Nat → Prop} (h1 : ∀ j, C j ↔ D j) (h2 : ∀ j k, E j k ↔ F j k) (i : Nat) : Rch E C i ↔ Rch F D i := ⟨fun h => h.mono (fun j q => .of ((h1 j).mp q)) (fun j k q => (h2 j k).mp q), fun h => h.mono (fun j q => .of ((h1 j).mpr q)) (fun j k q => (h2 j k).mpr q)⟩
/-- the closure in bits: one round keeps what is there, adds only what is reached, and adds something if it isn't closed -/
theorem cl1_sub (E : Nat → Int32) : ∀ d k s i, i < 32 → tb s i → tb (cl1 E k d s) i := by
  intro d
  induction d with
  | zero => intro k s i hi h; exact h
  | succ d ih => intro k s i hi h; exact ih (k + 1) _ i hi ((tb_or hi).mpr (Or.inl h))
theorem cl1_in (E : Nat → Int32) (R : Nat → Prop) (hR : ∀ j k, j < 32 → k < 32 → R j → tb (E j) k → R k) : ∀ d k s, k + d ≤ 32 → (∀ i, i < 32 → tb s i → R i) → ∀ i, i < 32 → tb (cl1 E k d s) i → R i := by
  intro d
  induction d with
  | zero => intro k s hk hs i hi h; exact hs i hi h
  | succ d ih =>
    intro k s hk hs i hi h
    refine ih (k + 1) _ (by omega) (fun i hi q => ?_) i hi h
    rcases (tb_or hi).mp q with q | q
    · exact hs i hi q
    · by_cases hz : s &&& (nI 1 <<< (nI k &&& 31)) = 0
      · rw [if_pos hz] at q; exact absurd q (tb_0 hi)
      · rw [if_neg hz] at q; exact hR k i (by omega) hi (hs k (by omega) hz) q
theorem cl1_cl (E : Nat → Int32) : ∀ d k s, k + d ≤ 32 → ∀ j, k ≤ j → j < k + d → tb s j → ∀ i, i < 32 → tb (E j) i → tb (cl1 E k d s) i := by
  intro d
  induction d with
  | zero => intro k s hk j h1 h2; omega
  | succ d ih =>
    intro k s hk j h1 h2 hj i hi he
    by_cases hjk : j = k
    · subst hjk
      refine cl1_sub E d (j + 1) _ i hi ((tb_or hi).mpr (Or.inr ?_))
      rw [if_neg hj]; exact he
    · exact ih (k + 1) _ (by omega) j (by omega) (by omega) ((tb_or (by omega)).mpr (Or.inl hj)) i hi he
/-- how many of the first n bits stand -/
noncomputable def cnt (s : Int32) : Nat → Nat
  | 0 => 0
  | n + 1 => cnt s n + @ite _ (tb s n) (Classical.propDecidable _) 1 0
theorem cnt_le (s : Int32) : ∀ n, cnt s n ≤ n := by
  intro n
  induction n with
  | zero => exact Nat.le_refl _
  | succ n ih =>
    show cnt s n + _ ≤ _
    by_cases h : tb s n
    · rw [if_pos h]; omega
    · rw [if_neg h]; omega
theorem cnt_mono {s t : Int32} (h : ∀ i, i < 32 → tb s i → tb t i) : ∀ n, n ≤ 32 → cnt s n ≤ cnt t n := by
  intro n
  induction n with
  | zero => intro _; exact Nat.le_refl _
  | succ n ih =>
    intro hn
    have := ih (by omega)
    show cnt s n + _ ≤ cnt t n + _
    by_cases h1 : tb s n
    · rw [if_pos h1, if_pos (h n (by omega) h1)]; omega
    · rw [if_neg h1]; omega
theorem cnt_lt {s t : Int32} (h : ∀ i, i < 32 → tb s i → tb t i) {j : Nat} (hj : tb t j) (hs : ¬ tb s j) : ∀ n, n ≤ 32 → j < n → cnt s n < cnt t n := by
  intro n
  induction n with
  | zero => intro _ h; omega
  | succ n ih =>
    intro hn hjn
    show cnt s n + _ < cnt t n + _
    by_cases hjn' : j = n
    · subst hjn'
      rw [if_pos hj, if_neg hs]
      have := cnt_mono h j (by omega)
      omega
    · have := ih (by omega) (by omega)
      by_cases h1 : tb s n
      · rw [if_pos h1, if_pos (h n (by omega) h1)]; omega
      · rw [if_neg h1]; omega
/-- the closure in bits is what is reached: enough rounds -/
theorem clr_spec (E : Nat → Int32) (n : Nat) (hn : n ≤ 32) (hE : ∀ j i, j < n → i < 32 → tb (E j) i → i < n) : ∀ r s, (∀ i, i < 32 → tb s i → i < n) → n ≤ cnt s n + r → ∀ i, i < 32 → (tb (clr E n r s) i ↔ Rch (fun j k => j < n ∧ tb (E j) k ∧ k < 32) (fun j => j < 32 ∧ tb s j) i) := by
  have fin : ∀ s, (∀ i, i < 32 → tb s i → i < n) → (∀ i, i < 32 → tb (cl1 E 0 n s) i → tb s i) → ∀ i, i < 32 → (tb s i ↔ Rch (fun j k => j < n ∧ tb (E j) k ∧ k < 32) (fun j => j < 32 ∧ tb s j) i) := by
    intro s hs hcl i hi
    constructor
    · intro h; exact .of ⟨hi, h⟩
    · intro h
      refine (h (fun j => j < 32 ∧ tb s j) (fun j q => q) (fun j k q e => ⟨e.2.2, hcl k e.2.2 ?_⟩)).2
      exact cl1_cl E n 0 s (by omega) j (Nat.zero_le _) (by omega) q.2 k e.2.2 e.2.1
  intro r
  induction r with
  | zero =>
    intro s hs hc i hi
    refine fin s hs (fun j hj q => ?_) i hi
    by_cases hsj : tb s j
    · exact hsj
    · exfalso
      have hcl1 : ∀ i, i < 32 → tb (cl1 E 0 n s) i → i < n := cl1_in E (fun i => i < n) (fun a b ha hb h1 h2 => hE a b h1 hb h2) n 0 s (by omega) hs
      have h1 := cnt_lt (cl1_sub E n 0 s) q hsj n (by omega) (hcl1 j hj q)
      have h2 := cnt_le (cl1 E 0 n s) n
      omega
  | succ r ih =>
    intro s hs hc i hi
    have hcl1 : ∀ i, i < 32 → tb (cl1 E 0 n s) i → i < n := cl1_in E (fun i => i < n) (fun a b ha hb h1 h2 => hE a b h1 hb h2) n 0 s (by omega) hs
    by_cases he : cl1 E 0 n s = s
    · rw [show clr E n (r + 1) s = cl1 E 0 n s from if_pos he, he]
      exact fin s hs (fun j hj q => by rw [he] at q; exact q) i hi
    · rw [show clr E n (r + 1) s = clr E n r (cl1 E 0 n s) from if_neg he]
      have hx : ∃ j, j < 32 ∧ tb (cl1 E 0 n s) j ∧ ¬ tb s j := by
        apply Classical.byContradiction
        intro hno
        apply he
        apply tb_ext
        intro k hk
        refine ⟨fun q => Classical.byContradiction fun w => hno ⟨k, hk, q, w⟩, fun q => cl1_sub E n 0 s k hk q⟩
      obtain ⟨j, hj, q1, q2⟩ := hx
      have h1 := cnt_lt (cl1_sub E n 0 s) q1 q2 n (by omega) (hcl1 j hj q1)
      rw [ih (cl1 E 0 n s) hcl1 (by omega) i hi]
      constructor
      · intro h
        refine h.mono (fun k q => ?_) (fun _ _ q => q)
        exact cl1_in E (fun k => Rch (fun j k => j < n ∧ tb (E j) k ∧ k < 32) (fun j => j < 32 ∧ tb s j) k ∧ k < n) (fun a b ha hb w1 w2 => ⟨w1.1.step ⟨w1.2, w2, hb⟩, hE a b w1.2 hb w2⟩) n 0 s (by omega) (fun i hi q => ⟨.of ⟨hi, q⟩, hs i hi q⟩) k q.1 q.2 |>.1
      · intro h
        exact h.mono (fun k q => .of ⟨q.1, cl1_sub E n 0 s k q.1 q.2⟩) (fun _ _ q => q)
