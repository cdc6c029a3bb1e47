/-! what always holds of the class's rows -/
def nt (x : Int32) : Nat := x.toNatClampNeg
def rO (x : Int32) : Option Nat := if x = -1 then none else some x.toNatClampNeg
theorem nt_nI {n : Nat} (h : n < 2 ^ 31) : nt (nI n) = n := nI_clamp h
theorem rO_oI {q : Option Nat} (h : ∀ t, q = some t → t < 2 ^ 31) : rO (oI q) = q := by
  cases q with
  | none => rfl
  | some t =>
    unfold rO
    rw [oI_s, if_neg (nI_m1 (h t rfl)), nI_clamp (h t rfl)]
def zM (V : pc_V) : Nat := nt (V 1 0)
def zP (V : pc_V) : Nat := nt (V 6 0)
def zT (V : pc_V) : Nat := nt (V 11 0)
def zB (V : pc_V) : Nat := nt (V 17 0)
def zU (V : pc_V) : Nat := nt (V 23 0)
def zS (V : pc_V) : Nat := nt (V 29 0)
def zL (V : pc_V) : Nat := nt (V 33 0)
def fown (V : pc_V) (i : Nat) : Nat := nt (V 7 i)
def fpnm (V : pc_V) (i : Nat) : Nat := nt (V 8 i)
def ftpk (V : pc_V) (i : Nat) : Nat := nt (V 12 i)
def ftnm (V : pc_V) (i : Nat) : Nat := nt (V 13 i)
def fbty (V : pc_V) (i : Nat) : Nat := nt (V 18 i)
def fupk (V : pc_V) (i : Nat) : Nat := nt (V 24 i)
def fusz (V : pc_V) (i : Nat) : Nat := nt (V 25 i)
def fssv (V : pc_V) (i : Nat) : Nat := nt (V 31 i)
def fsty (V : pc_V) (i : Nat) : Nat := nt (V 32 i)
def fpar (V : pc_V) (i : Nat) : Option Nat := rO (V 16 i)
def fbgv (V : pc_V) (i : Nat) : Option Nat := rO (V 22 i)
def flpr (V : pc_V) (i : Nat) : Option Nat := rO (V 34 i)
def fiwh (V : pc_V) (u k : Nat) : Nat := nt (V 27 (u * 10 + k))
def CInv (V : pc_V) (cap : Nat) : Prop :=
  (V 1 0 = nI (zM V) ∧ zM V ≤ 12) ∧
  (V 6 0 = nI (zP V) ∧ zP V ≤ 30) ∧
  (V 11 0 = nI (zT V) ∧ zT V ≤ 40) ∧
  (V 17 0 = nI (zB V) ∧ zB V ≤ 60) ∧
  (V 23 0 = nI (zU V) ∧ zU V ≤ 12) ∧
  (V 29 0 = nI (zS V) ∧ zS V ≤ cap ∧ cap ≤ 4096) ∧
  (V 33 0 = nI (zL V) ∧ zL V ≤ 4) ∧
  (∀ p, p < zP V → V 7 p = nI (fown V p) ∧ fown V p < zM V) ∧
  (∀ p, p < zP V → V 8 p = nI (fpnm V p) ∧ fpnm V p ≤ 30) ∧
  (∀ t, t < zT V → V 12 t = nI (ftpk V t) ∧ ftpk V t < zP V) ∧
  (∀ t, t < zT V → V 13 t = nI (ftnm V t) ∧ ftnm V t ≤ 30) ∧
  (∀ t, t < zT V → V 16 t = oI (fpar V t) ∧ ∀ s, fpar V t = some s → s < t) ∧
  (∀ b, b < zB V → V 18 b = nI (fbty V b) ∧ fbty V b < zT V) ∧
  (∀ b, b < zB V → V 21 b = xb (V 21 b = nI 1)) ∧
  (∀ b, b < zB V → V 22 b = oI (fbgv V b) ∧ ∀ s, fbgv V b = some s → s < zT V) ∧
  (∀ u, u < zU V → V 24 u = nI (fupk V u) ∧ fupk V u < zP V) ∧
  (∀ u, u < zU V → V 25 u = nI (fusz V u) ∧ fusz V u ≤ 10) ∧
  (∀ u k, u < zU V → k < fusz V u → V 27 (u * 10 + k) = nI (fiwh V u k) ∧ (¬ V 26 (u * 10 + k) = nI 1 → fiwh V u k < zT V)) ∧
  (∀ k, k < zS V → V 31 k = nI (fssv V k) ∧ fssv V k < zT V) ∧
  (∀ k, k < zS V → V 32 k = nI (fsty V k) ∧ fsty V k < zT V) ∧
  (∀ l, l < zL V → V 34 l = oI (flpr V l) ∧ ∀ s, flpr V l = some s → s < l)
theorem CInv.M {V : pc_V} {cap : Nat} (h : CInv V cap) : V 1 0 = nI (zM V) ∧ zM V ≤ 12 := h.1
theorem CInv.P {V : pc_V} {cap : Nat} (h : CInv V cap) : V 6 0 = nI (zP V) ∧ zP V ≤ 30 := h.2.1
theorem CInv.T {V : pc_V} {cap : Nat} (h : CInv V cap) : V 11 0 = nI (zT V) ∧ zT V ≤ 40 := h.2.2.1
theorem CInv.B {V : pc_V} {cap : Nat} (h : CInv V cap) : V 17 0 = nI (zB V) ∧ zB V ≤ 60 := h.2.2.2.1
theorem CInv.U {V : pc_V} {cap : Nat} (h : CInv V cap) : V 23 0 = nI (zU V) ∧ zU V ≤ 12 := h.2.2.2.2.1
theorem CInv.S {V : pc_V} {cap : Nat} (h : CInv V cap) : V 29 0 = nI (zS V) ∧ zS V ≤ cap ∧ cap ≤ 4096 := h.2.2.2.2.2.1
theorem CInv.L {V : pc_V} {cap : Nat} (h : CInv V cap) : V 33 0 = nI (zL V) ∧ zL V ≤ 4 := h.2.2.2.2.2.2.1
theorem CInv.own {V : pc_V} {cap : Nat} (h : CInv V cap) : ∀ p, p < zP V → V 7 p = nI (fown V p) ∧ fown V p < zM V := h.2.2.2.2.2.2.2.1
theorem CInv.pnm {V : pc_V} {cap : Nat} (h : CInv V cap) : ∀ p, p < zP V → V 8 p = nI (fpnm V p) ∧ fpnm V p ≤ 30 := h.2.2.2.2.2.2.2.2.1
theorem CInv.tpk {V : pc_V} {cap : Nat} (h : CInv V cap) : ∀ t, t < zT V → V 12 t = nI (ftpk V t) ∧ ftpk V t < zP V := h.2.2.2.2.2.2.2.2.2.1
theorem CInv.tnm {V : pc_V} {cap : Nat} (h : CInv V cap) : ∀ t, t < zT V → V 13 t = nI (ftnm V t) ∧ ftnm V t ≤ 30 := h.2.2.2.2.2.2.2.2.2.2.1
theorem CInv.par {V : pc_V} {cap : Nat} (h : CInv V cap) : ∀ t, t < zT V → V 16 t = oI (fpar V t) ∧ ∀ s, fpar V t = some s → s < t := h.2.2.2.2.2.2.2.2.2.2.2.1
theorem CInv.bty {V : pc_V} {cap : Nat} (h : CInv V cap) : ∀ b, b < zB V → V 18 b = nI (fbty V b) ∧ fbty V b < zT V := h.2.2.2.2.2.2.2.2.2.2.2.2.1
theorem CInv.bop {V : pc_V} {cap : Nat} (h : CInv V cap) : ∀ b, b < zB V → V 21 b = xb (V 21 b = nI 1) := h.2.2.2.2.2.2.2.2.2.2.2.2.2.1
theorem CInv.bgv {V : pc_V} {cap : Nat} (h : CInv V cap) : ∀ b, b < zB V → V 22 b = oI (fbgv V b) ∧ ∀ s, fbgv V b = some s → s < zT V := h.2.2.2.2.2.2.2.2.2.2.2.2.2.2.1
theorem CInv.upk {V : pc_V} {cap : Nat} (h : CInv V cap) : ∀ u, u < zU V → V 24 u = nI (fupk V u) ∧ fupk V u < zP V := h.2.2.2.2.2.2.2.2.2.2.2.2.2.2.2.1
theorem CInv.usz {V : pc_V} {cap : Nat} (h : CInv V cap) : ∀ u, u < zU V → V 25 u = nI (fusz V u) ∧ fusz V u ≤ 10 := h.2.2.2.2.2.2.2.2.2.2.2.2.2.2.2.2.1
theorem CInv.iwh {V : pc_V} {cap : Nat} (h : CInv V cap) : ∀ u k, u < zU V → k < fusz V u → V 27 (u * 10 + k) = nI (fiwh V u k) ∧ (¬ V 26 (u * 10 + k) = nI 1 → fiwh V u k < zT V) := h.2.2.2.2.2.2.2.2.2.2.2.2.2.2.2.2.2.1
theorem CInv.ssv {V : pc_V} {cap : Nat} (h : CInv V cap) : ∀ k, k < zS V → V 31 k = nI (fssv V k) ∧ fssv V k < zT V := h.2.2.2.2.2.2.2.2.2.2.2.2.2.2.2.2.2.2.1
theorem CInv.sty {V : pc_V} {cap : Nat} (h : CInv V cap) : ∀ k, k < zS V → V 32 k = nI (fsty V k) ∧ fsty V k < zT V := h.2.2.2.2.2.2.2.2.2.2.2.2.2.2.2.2.2.2.2.1
theorem CInv.lpr {V : pc_V} {cap : Nat} (h : CInv V cap) : ∀ l, l < zL V → V 34 l = oI (flpr V l) ∧ ∀ s, flpr V l = some s → s < l := h.2.2.2.2.2.2.2.2.2.2.2.2.2.2.2.2.2.2.2.2
