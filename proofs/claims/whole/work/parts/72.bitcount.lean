/-! the other questions -/
theorem in_n {v : Int32} {n : Nat} (hn : n + 1 < 2 ^ 31) : (nI 0 ≤ v ∧ v ≤ nI n) ↔ (0 ≤ v ∧ v < nI (n + 1)) := by
  have h := in_iff (v := v) (n := n + 1) hn
  rw [pk_sub (by omega), Nat.add_sub_cancel] at h
  exact h
theorem sw_of {x : Int32} {h : Nat} (hx : ¬ (x.toInt < 0 ∨ (h : Int) < x.toInt)) : ∃ j, j ≤ h ∧ j < 2 ^ 31 ∧ x = nI j := by
  have h0 : ¬ x < 0 := by
    intro q
    rw [Int32.lt_iff_toInt_lt] at q
    exact hx (Or.inl q)
  obtain ⟨j, hj, rfl⟩ := nI_of h0
  have := nI_toInt hj
  exact ⟨j, by omega, hj, rfl⟩
/-- bits of a set, counted -/
def pcnt (s : Int32) : Nat → Nat → Nat
  | _, 0 => 0
  | k, d + 1 => (if s &&& (nI 1 <<< (nI k &&& 31)) = 0 then 0 else 1) + pcnt s (k + 1) d
theorem pcnt_nct (s : Int32) : ∀ d k, nct (fun i => tb s i) k d = pcnt s k d := by
  intro d
  induction d with
  | zero => intro k; rfl
  | succ d ih =>
    intro k
    show _ = (if s &&& (nI 1 <<< (nI k &&& 31)) = 0 then 0 else 1) + pcnt s (k + 1) d
    by_cases h : s &&& (nI 1 <<< (nI k &&& 31)) = 0
    · rw [nct_f (c := fun i => tb s i) (fun z => z h), if_pos h, Nat.zero_add, ih]
    · rw [nct_t (c := fun i => tb s i) h, if_neg h, ih]
def bck (a : Nat) : Bool := (List.range 64).all fun b => decide (bcn (nI (64 * a + b)) = nI (pcnt (nI (64 * a + b)) 0 12))
set_option maxRecDepth 100000 in
theorem bck_all : (List.range 64).all bck = true := by decide +kernel
theorem bcn_of {x : Nat} (hx : x < 4096) : bcn (nI x) = nI (pcnt (nI x) 0 12) := by
  have h1 := List.all_eq_true.mp bck_all (x / 64) (List.mem_range.mpr (by omega))
  have h2 := List.all_eq_true.mp h1 (x % 64) (List.mem_range.mpr (by omega))
  have h3 := of_decide_eq_true h2
  rwa [show 64 * (x / 64) + x % 64 = x by omega] at h3
theorem nct_cg {c c' : Nat → Prop} : ∀ d k, (∀ i, k ≤ i → i < k + d → (c i ↔ c' i)) → nct c k d = nct c' k d := by
  intro d
  induction d with
  | zero => intro k h; rfl
  | succ d ih =>
    intro k h
    have hk := h k (Nat.le_refl _) (by omega)
    by_cases hc : c k
    · rw [nct_t hc, nct_t (hk.mp hc), ih (k + 1) (fun i h1 h2 => h i (by omega) (by omega))]
    · rw [nct_f hc, nct_f (fun q => hc (hk.mpr q)), ih (k + 1) (fun i h1 h2 => h i (by omega) (by omega))]
theorem nct_no {c : Nat → Prop} : ∀ d k, (∀ i, k ≤ i → i < k + d → ¬ c i) → nct c k d = 0 := by
  intro d
  induction d with
  | zero => intro k h; rfl
  | succ d ih => intro k h; rw [nct_f (h k (Nat.le_refl _) (by omega)), ih (k + 1) (fun i h1 h2 => h i (by omega) (by omega))]
theorem nct_add {c : Nat → Prop} : ∀ d k e, nct c k (d + e) = nct c k d + nct c (k + d) e := by
  intro d
  induction d with
  | zero => intro k e; rw [Nat.zero_add]; show _ = 0 + _; rw [Nat.zero_add]; rfl
  | succ d ih =>
    intro k e
    rw [show d + 1 + e = (d + e) + 1 by omega, show k + (d + 1) = k + 1 + d by omega]
    by_cases h : c k
    · rw [nct_t h, nct_t h, ih]; exact (Nat.add_assoc _ _ _).symm
    · rw [nct_f h, nct_f h, ih]
theorem bcn_nct {s : Int32} {n : Nat} (hn : n ≤ 12) (hs : ∀ i, i < 32 → tb s i → i < n) : bcn s = nI (nct (fun i => tb s i) 0 n) := by
  have hx : s.toBitVec.toNat < 4096 := by
    refine Nat.lt_pow_two_of_testBit (n := 12) _ (fun i hi => ?_)
    cases ht : s.toBitVec.toNat.testBit i with
    | false => rfl
    | true =>
      exfalso
      have hb : s.toBitVec.getLsbD i = true := ht
      have h32 : i < 32 := BitVec.lt_of_getLsbD hb
      have := hs i h32 ((tb_iff h32).mpr hb)
      omega
  have he : nI s.toBitVec.toNat = s := by
    apply Int32.toBitVec_inj.mp
    show BitVec.ofNat 32 s.toBitVec.toNat = s.toBitVec
    simp
  have h1 := bcn_of hx
  rw [he] at h1
  rw [h1, ← pcnt_nct, show (12 : Nat) = n + (12 - n) by omega, nct_add, nct_no (c := fun i => tb s i) (12 - n) (0 + n) (fun i h1 h2 h3 => by have := hs i (by omega) h3; omega), Nat.add_zero]
