/-! class and reference, row against row -/
def frq (V : pc_V) (m p : Nat) : Nat := nt (V 37 (12 * m + p))
/-- bit t of a long -/
def tj (j : Int64) (t : Nat) : Prop := ¬ lg_cmp (j &&& ((1 : Int64) <<< ((nI t).toInt64 &&& 63))) 0 = 0
def Rel (V : pc_V) (J : Nat → Int64) : Prop :=
  (V 36 0 = V 1 0) ∧
  (V 36 2 = V 6 0) ∧
  (V 36 7 = V 11 0) ∧
  (V 36 13 = V 17 0) ∧
  (V 36 19 = V 23 0) ∧
  (V 36 26 = V 29 0) ∧
  (V 36 30 = V 33 0) ∧
  (V 38 = V 7) ∧
  (V 39 = V 8) ∧
  (V 42 = V 12) ∧
  (V 43 = V 13) ∧
  (V 44 = V 14) ∧
  (V 45 = V 15) ∧
  (V 46 = V 16) ∧
  (V 47 = V 18) ∧
  (V 48 = V 19) ∧
  (V 49 = V 20) ∧
  (V 50 = V 21) ∧
  (V 51 = V 22) ∧
  (V 52 = V 24) ∧
  (V 53 = V 25) ∧
  (V 54 = V 26) ∧
  (V 55 = V 27) ∧
  (V 56 = V 28) ∧
  (V 59 = V 31) ∧
  (V 60 = V 32) ∧
  (V 61 = V 34) ∧
  (∀ m p, m < 12 → p < 12 → V 37 (12 * m + p) = nI (frq V m p) ∧ frq V m p ≤ 4 ∧ (¬ frq V m p = 0 → m < zM V ∧ p < zM V)) ∧
  (∀ m i, m < 12 → i < 32 → (tb (V 2 m) i ↔ i < 12 ∧ ¬ frq V m i = 0)) ∧
  (∀ m i, m < 12 → i < 32 → (tb (V 3 m) i ↔ i < 12 ∧ (frq V m i = 2 ∨ frq V m i = 4))) ∧
  (∀ m i, m < 12 → i < 32 → (tb (V 4 m) i ↔ i < 12 ∧ (frq V m i = 1 ∨ frq V m i = 2))) ∧
  (∀ m i, m < 12 → i < 32 → (tb (V 5 m) i ↔ i < 12 ∧ frq V m i = 2)) ∧
  (∀ p t, p < 30 → t ≤ 12 → V 40 (13 * p + t) = xb (tb (V 9 p) t)) ∧
  (∀ p t, p < 30 → t ≤ 12 → V 41 (13 * p + t) = xb (tb (V 10 p) t)) ∧
  (∀ m t, m < 12 → t < 40 → V 57 (40 * m + t) = xb (tj (J m) t)) ∧
  (∀ l m, l < zL V → m < 12 → V 62 (12 * l + m) = xb (tb (V 35 l) m)) ∧
  (∀ l i, l < zL V → i < 32 → tb (V 35 l) i → i < 12) ∧
  (∀ k, k < zS V → V 58 k = V 7 (ftpk V (fsty V k))) ∧
  (∀ k, zS V ≤ k → V 31 k = 0 ∧ V 32 k = 0) ∧
  (∀ p q, p < zP V → q < zP V → V 7 p = V 7 q → V 8 p = V 8 q → p = q) ∧
  (∀ t u, t < zT V → u < zT V → V 12 t = V 12 u → V 13 t = V 13 u → t = u) ∧
  (∀ a b, a < zB V → b < zB V → V 18 a = V 18 b → V 19 a = V 19 b → V 20 a = V 20 b → a = b) ∧
  (∀ u k, u < zU V → k < fusz V u → (V 26 (u * 10 + k) = nI 0 ∨ V 26 (u * 10 + k) = nI 1 ∨ V 26 (u * 10 + k) = nI 2 ∨ V 26 (u * 10 + k) = nI 3) ∧ (¬ V 26 (u * 10 + k) = nI 2 → V 28 (u * 10 + k) = nI 0)) ∧
  (∀ t, t < zT V → V 15 t = nI 0 ∨ V 15 t = nI 1 ∨ V 15 t = nI 2 ∨ V 15 t = nI 3) ∧
  (∀ u, zU V ≤ u → u < 12 → V 25 u = nI 0) ∧
  (∀ u k l, u < zU V → k < fusz V u → l < fusz V u → V 26 (u * 10 + k) = nI 0 → V 26 (u * 10 + l) = nI 0 → V 13 (fiwh V u k) = V 13 (fiwh V u l) → fiwh V u k = fiwh V u l)
theorem Rel.nM {V : pc_V} {J : Nat → Int64} (h : Rel V J) : V 36 0 = V 1 0 := h.1
theorem Rel.nP {V : pc_V} {J : Nat → Int64} (h : Rel V J) : V 36 2 = V 6 0 := h.2.1
theorem Rel.nT {V : pc_V} {J : Nat → Int64} (h : Rel V J) : V 36 7 = V 11 0 := h.2.2.1
theorem Rel.nB {V : pc_V} {J : Nat → Int64} (h : Rel V J) : V 36 13 = V 17 0 := h.2.2.2.1
theorem Rel.nU {V : pc_V} {J : Nat → Int64} (h : Rel V J) : V 36 19 = V 23 0 := h.2.2.2.2.1
theorem Rel.nS {V : pc_V} {J : Nat → Int64} (h : Rel V J) : V 36 26 = V 29 0 := h.2.2.2.2.2.1
theorem Rel.nL {V : pc_V} {J : Nat → Int64} (h : Rel V J) : V 36 30 = V 33 0 := h.2.2.2.2.2.2.1
theorem Rel.r38 {V : pc_V} {J : Nat → Int64} (h : Rel V J) : V 38 = V 7 := h.2.2.2.2.2.2.2.1
theorem Rel.r39 {V : pc_V} {J : Nat → Int64} (h : Rel V J) : V 39 = V 8 := h.2.2.2.2.2.2.2.2.1
theorem Rel.r42 {V : pc_V} {J : Nat → Int64} (h : Rel V J) : V 42 = V 12 := h.2.2.2.2.2.2.2.2.2.1
theorem Rel.r43 {V : pc_V} {J : Nat → Int64} (h : Rel V J) : V 43 = V 13 := h.2.2.2.2.2.2.2.2.2.2.1
theorem Rel.r44 {V : pc_V} {J : Nat → Int64} (h : Rel V J) : V 44 = V 14 := h.2.2.2.2.2.2.2.2.2.2.2.1
theorem Rel.r45 {V : pc_V} {J : Nat → Int64} (h : Rel V J) : V 45 = V 15 := h.2.2.2.2.2.2.2.2.2.2.2.2.1
theorem Rel.r46 {V : pc_V} {J : Nat → Int64} (h : Rel V J) : V 46 = V 16 := h.2.2.2.2.2.2.2.2.2.2.2.2.2.1
theorem Rel.r47 {V : pc_V} {J : Nat → Int64} (h : Rel V J) : V 47 = V 18 := h.2.2.2.2.2.2.2.2.2.2.2.2.2.2.1
theorem Rel.r48 {V : pc_V} {J : Nat → Int64} (h : Rel V J) : V 48 = V 19 := h.2.2.2.2.2.2.2.2.2.2.2.2.2.2.2.1
theorem Rel.r49 {V : pc_V} {J : Nat → Int64} (h : Rel V J) : V 49 = V 20 := h.2.2.2.2.2.2.2.2.2.2.2.2.2.2.2.2.1
theorem Rel.r50 {V : pc_V} {J : Nat → Int64} (h : Rel V J) : V 50 = V 21 := h.2.2.2.2.2.2.2.2.2.2.2.2.2.2.2.2.2.1
theorem Rel.r51 {V : pc_V} {J : Nat → Int64} (h : Rel V J) : V 51 = V 22 := h.2.2.2.2.2.2.2.2.2.2.2.2.2.2.2.2.2.2.1
theorem Rel.r52 {V : pc_V} {J : Nat → Int64} (h : Rel V J) : V 52 = V 24 := h.2.2.2.2.2.2.2.2.2.2.2.2.2.2.2.2.2.2.2.1
theorem Rel.r53 {V : pc_V} {J : Nat → Int64} (h : Rel V J) : V 53 = V 25 := h.2.2.2.2.2.2.2.2.2.2.2.2.2.2.2.2.2.2.2.2.1
theorem Rel.r54 {V : pc_V} {J : Nat → Int64} (h : Rel V J) : V 54 = V 26 := h.2.2.2.2.2.2.2.2.2.2.2.2.2.2.2.2.2.2.2.2.2.1
theorem Rel.r55 {V : pc_V} {J : Nat → Int64} (h : Rel V J) : V 55 = V 27 := h.2.2.2.2.2.2.2.2.2.2.2.2.2.2.2.2.2.2.2.2.2.2.1
theorem Rel.r56 {V : pc_V} {J : Nat → Int64} (h : Rel V J) : V 56 = V 28 := h.2.2.2.2.2.2.2.2.2.2.2.2.2.2.2.2.2.2.2.2.2.2.2.1
theorem Rel.r59 {V : pc_V} {J : Nat → Int64} (h : Rel V J) : V 59 = V 31 := h.2.2.2.2.2.2.2.2.2.2.2.2.2.2.2.2.2.2.2.2.2.2.2.2.1
theorem Rel.r60 {V : pc_V} {J : Nat → Int64} (h : Rel V J) : V 60 = V 32 := h.2.2.2.2.2.2.2.2.2.2.2.2.2.2.2.2.2.2.2.2.2.2.2.2.2.1
theorem Rel.r61 {V : pc_V} {J : Nat → Int64} (h : Rel V J) : V 61 = V 34 := h.2.2.2.2.2.2.2.2.2.2.2.2.2.2.2.2.2.2.2.2.2.2.2.2.2.2.1
theorem Rel.rq {V : pc_V} {J : Nat → Int64} (h : Rel V J) : ∀ m p, m < 12 → p < 12 → V 37 (12 * m + p) = nI (frq V m p) ∧ frq V m p ≤ 4 ∧ (¬ frq V m p = 0 → m < zM V ∧ p < zM V) := h.2.2.2.2.2.2.2.2.2.2.2.2.2.2.2.2.2.2.2.2.2.2.2.2.2.2.2.1
theorem Rel.e2 {V : pc_V} {J : Nat → Int64} (h : Rel V J) : ∀ m i, m < 12 → i < 32 → (tb (V 2 m) i ↔ i < 12 ∧ ¬ frq V m i = 0) := h.2.2.2.2.2.2.2.2.2.2.2.2.2.2.2.2.2.2.2.2.2.2.2.2.2.2.2.2.1
theorem Rel.e3 {V : pc_V} {J : Nat → Int64} (h : Rel V J) : ∀ m i, m < 12 → i < 32 → (tb (V 3 m) i ↔ i < 12 ∧ (frq V m i = 2 ∨ frq V m i = 4)) := h.2.2.2.2.2.2.2.2.2.2.2.2.2.2.2.2.2.2.2.2.2.2.2.2.2.2.2.2.2.1
theorem Rel.e4 {V : pc_V} {J : Nat → Int64} (h : Rel V J) : ∀ m i, m < 12 → i < 32 → (tb (V 4 m) i ↔ i < 12 ∧ (frq V m i = 1 ∨ frq V m i = 2)) := h.2.2.2.2.2.2.2.2.2.2.2.2.2.2.2.2.2.2.2.2.2.2.2.2.2.2.2.2.2.2.1
theorem Rel.e5 {V : pc_V} {J : Nat → Int64} (h : Rel V J) : ∀ m i, m < 12 → i < 32 → (tb (V 5 m) i ↔ i < 12 ∧ frq V m i = 2) := h.2.2.2.2.2.2.2.2.2.2.2.2.2.2.2.2.2.2.2.2.2.2.2.2.2.2.2.2.2.2.2.1
theorem Rel.ex {V : pc_V} {J : Nat → Int64} (h : Rel V J) : ∀ p t, p < 30 → t ≤ 12 → V 40 (13 * p + t) = xb (tb (V 9 p) t) := h.2.2.2.2.2.2.2.2.2.2.2.2.2.2.2.2.2.2.2.2.2.2.2.2.2.2.2.2.2.2.2.2.1
theorem Rel.op {V : pc_V} {J : Nat → Int64} (h : Rel V J) : ∀ p t, p < 30 → t ≤ 12 → V 41 (13 * p + t) = xb (tb (V 10 p) t) := h.2.2.2.2.2.2.2.2.2.2.2.2.2.2.2.2.2.2.2.2.2.2.2.2.2.2.2.2.2.2.2.2.2.1
theorem Rel.us {V : pc_V} {J : Nat → Int64} (h : Rel V J) : ∀ m t, m < 12 → t < 40 → V 57 (40 * m + t) = xb (tj (J m) t) := h.2.2.2.2.2.2.2.2.2.2.2.2.2.2.2.2.2.2.2.2.2.2.2.2.2.2.2.2.2.2.2.2.2.2.1
theorem Rel.lh {V : pc_V} {J : Nat → Int64} (h : Rel V J) : ∀ l m, l < zL V → m < 12 → V 62 (12 * l + m) = xb (tb (V 35 l) m) := h.2.2.2.2.2.2.2.2.2.2.2.2.2.2.2.2.2.2.2.2.2.2.2.2.2.2.2.2.2.2.2.2.2.2.2.1
theorem Rel.lz {V : pc_V} {J : Nat → Int64} (h : Rel V J) : ∀ l i, l < zL V → i < 32 → tb (V 35 l) i → i < 12 := h.2.2.2.2.2.2.2.2.2.2.2.2.2.2.2.2.2.2.2.2.2.2.2.2.2.2.2.2.2.2.2.2.2.2.2.2.1
theorem Rel.pm {V : pc_V} {J : Nat → Int64} (h : Rel V J) : ∀ k, k < zS V → V 58 k = V 7 (ftpk V (fsty V k)) := h.2.2.2.2.2.2.2.2.2.2.2.2.2.2.2.2.2.2.2.2.2.2.2.2.2.2.2.2.2.2.2.2.2.2.2.2.2.1
theorem Rel.z3 {V : pc_V} {J : Nat → Int64} (h : Rel V J) : ∀ k, zS V ≤ k → V 31 k = 0 ∧ V 32 k = 0 := h.2.2.2.2.2.2.2.2.2.2.2.2.2.2.2.2.2.2.2.2.2.2.2.2.2.2.2.2.2.2.2.2.2.2.2.2.2.2.1
theorem Rel.up {V : pc_V} {J : Nat → Int64} (h : Rel V J) : ∀ p q, p < zP V → q < zP V → V 7 p = V 7 q → V 8 p = V 8 q → p = q := h.2.2.2.2.2.2.2.2.2.2.2.2.2.2.2.2.2.2.2.2.2.2.2.2.2.2.2.2.2.2.2.2.2.2.2.2.2.2.2.1
theorem Rel.ut {V : pc_V} {J : Nat → Int64} (h : Rel V J) : ∀ t u, t < zT V → u < zT V → V 12 t = V 12 u → V 13 t = V 13 u → t = u := h.2.2.2.2.2.2.2.2.2.2.2.2.2.2.2.2.2.2.2.2.2.2.2.2.2.2.2.2.2.2.2.2.2.2.2.2.2.2.2.2.1
theorem Rel.ub {V : pc_V} {J : Nat → Int64} (h : Rel V J) : ∀ a b, a < zB V → b < zB V → V 18 a = V 18 b → V 19 a = V 19 b → V 20 a = V 20 b → a = b := h.2.2.2.2.2.2.2.2.2.2.2.2.2.2.2.2.2.2.2.2.2.2.2.2.2.2.2.2.2.2.2.2.2.2.2.2.2.2.2.2.2.1
theorem Rel.kd {V : pc_V} {J : Nat → Int64} (h : Rel V J) : ∀ u k, u < zU V → k < fusz V u → (V 26 (u * 10 + k) = nI 0 ∨ V 26 (u * 10 + k) = nI 1 ∨ V 26 (u * 10 + k) = nI 2 ∨ V 26 (u * 10 + k) = nI 3) ∧ (¬ V 26 (u * 10 + k) = nI 2 → V 28 (u * 10 + k) = nI 0) := h.2.2.2.2.2.2.2.2.2.2.2.2.2.2.2.2.2.2.2.2.2.2.2.2.2.2.2.2.2.2.2.2.2.2.2.2.2.2.2.2.2.2.1
theorem Rel.fl {V : pc_V} {J : Nat → Int64} (h : Rel V J) : ∀ t, t < zT V → V 15 t = nI 0 ∨ V 15 t = nI 1 ∨ V 15 t = nI 2 ∨ V 15 t = nI 3 := h.2.2.2.2.2.2.2.2.2.2.2.2.2.2.2.2.2.2.2.2.2.2.2.2.2.2.2.2.2.2.2.2.2.2.2.2.2.2.2.2.2.2.2.1
theorem Rel.us0 {V : pc_V} {J : Nat → Int64} (h : Rel V J) : ∀ u, zU V ≤ u → u < 12 → V 25 u = nI 0 := h.2.2.2.2.2.2.2.2.2.2.2.2.2.2.2.2.2.2.2.2.2.2.2.2.2.2.2.2.2.2.2.2.2.2.2.2.2.2.2.2.2.2.2.2.1
theorem Rel.iu {V : pc_V} {J : Nat → Int64} (h : Rel V J) : ∀ u k l, u < zU V → k < fusz V u → l < fusz V u → V 26 (u * 10 + k) = nI 0 → V 26 (u * 10 + l) = nI 0 → V 13 (fiwh V u k) = V 13 (fiwh V u l) → fiwh V u k = fiwh V u l := h.2.2.2.2.2.2.2.2.2.2.2.2.2.2.2.2.2.2.2.2.2.2.2.2.2.2.2.2.2.2.2.2.2.2.2.2.2.2.2.2.2.2.2.2.2
