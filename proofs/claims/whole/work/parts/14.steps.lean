section XT
variable {l : Launch} {D : va_G} {aT : FieldType → ClassId} {B : Nat} {scr : Cell}
/-- where a method's frame stands: machine, code, class, words, room -/
def xs_C (M : xm_M) (p : Program) (s : State) (m : MethodId) (args : Array Value) (meth : Method) (c : Code) (R : Room) : Prop :=
  p.tables.exec = Jvm.exec ∧ c.code = M.2.1 ∧ c.maxLocals = M.2.2.1 ∧ xp_on[M.2.2.2.2.1]? = some M.1.cls ∧ s.vm.findClass M.1.cls = some m.cls ∧ (∀ w ∈ xp_tb, w.before args s = true) ∧ (M.2.2.2.2.2.2.2 = true → meth.name = "<init>") ∧ M.2.2.2.2.2.1 ≤ R.frames ∧ M.2.2.2.2.2.2.1 ≤ R.locals
/-- from this state to that one: the counters grow, and the machine goes there -/
def xs_N (l : Launch) (D : va_G) (aT : FieldType → ClassId) (B : Nat) (scr : Cell) (M : xm_M) (pc : Nat) (lo : xm_L) (sk : List Value) (hp : xm_H) (pc' : Nat) (lo' : xm_L) (sk' : List Value) (hp' : xm_H) : Prop :=
  hp.2.1 ≤ hp'.2.1 ∧ hp.2.2 ≤ hp'.2.2 ∧ ∀ (p : Program) (e : Env) (R : Room) (s : State) (m : MethodId) (args : Array Value) (below : List Frame) (meth : Method) (c : Code) (H : Heap) (locs : List Loc) (cells slots : Nat) (ls : Array Slot) (Q : State → Prop) (cells' slots' : Nat),
    xs_C M p s m args meth c R → xs_K D aT scr s → xs_L ls M.2.2.1 lo → xs_R D aT B scr hp H → (∀ q ∈ locs, B ≤ q.base) → cells' + hp.2.1 = cells + hp'.2.1 → slots' + hp.2.2 = slots + hp'.2.2 → cells' ≤ R.cells → slots' ≤ R.slots →
    (∀ (H' : Heap) (locs' : List Loc) (ls' : Array Slot), xs_L ls' M.2.2.1 lo' → xs_R D aT B scr hp' H' → (∀ q ∈ locs', B ≤ q.base) → W p l e R s m args below meth c H' locs' cells' slots' Q (F0 m pc' ls' sk')) →
    W p l e R s m args below meth c H locs cells slots Q (F0 m pc ls sk)
theorem xs_N0 {M : xm_M} {pc : Nat} {lo : xm_L} {sk : List Value} {hp : xm_H} {pc' : Nat} {sk' : List Value}
    (h : ∀ (p : Program) (e : Env) (R : Room) (s : State) (m : MethodId) (args : Array Value) (below : List Frame) (meth : Method) (c : Code) (H : Heap) (locs : List Loc) (cells slots : Nat) (ls : Array Slot) (Q : State → Prop), xs_C M p s m args meth c R → xs_K D aT scr s → xs_L ls M.2.2.1 lo → xs_R D aT B scr hp H → cells ≤ R.cells ∧ slots ≤ R.slots →
      W p l e R s m args below meth c H locs cells slots Q (F0 m pc' ls sk') → W p l e R s m args below meth c H locs cells slots Q (F0 m pc ls sk)) : xs_N l D aT B scr M pc lo sk hp pc' lo sk' hp := by
  refine ⟨Nat.le_refl _, Nat.le_refl _, ?_⟩
  intro p e R s m args below meth c H locs cells slots ls Q cells' slots' C K L r hq hc hs h1 h2 kk
  obtain rfl := Nat.add_right_cancel hc
  obtain rfl := Nat.add_right_cancel hs
  exact h p e R s m args below meth c H locs _ _ ls Q C K L r ⟨h1, h2⟩ (kk H locs ls L r hq)
theorem xs_N1 {M : xm_M} {pc : Nat} {lo lo' : xm_L} {sk : List Value} {hp : xm_H} {pc' : Nat} {sk' : List Value}
    (h : ∀ (p : Program) (e : Env) (R : Room) (s : State) (m : MethodId) (args : Array Value) (below : List Frame) (meth : Method) (c : Code) (H : Heap) (locs : List Loc) (cells slots : Nat) (ls : Array Slot) (Q : State → Prop), xs_C M p s m args meth c R → xs_L ls M.2.2.1 lo →
      (∀ ls' : Array Slot, xs_L ls' M.2.2.1 lo' → W p l e R s m args below meth c H locs cells slots Q (F0 m pc' ls' sk')) → W p l e R s m args below meth c H locs cells slots Q (F0 m pc ls sk)) : xs_N l D aT B scr M pc lo sk hp pc' lo' sk' hp := by
  refine ⟨Nat.le_refl _, Nat.le_refl _, ?_⟩
  intro p e R s m args below meth c H locs cells slots ls Q cells' slots' C K L r hq hc hs h1 h2 kk
  obtain rfl := Nat.add_right_cancel hc
  obtain rfl := Nat.add_right_cancel hs
  exact h p e R s m args below meth c H locs _ _ ls Q C L (fun ls' L' => kk H locs ls' L' r hq)
/-- an entry changes -/
theorem xs_NU {M : xm_M} {pc : Nat} {lo : xm_L} {sk : List Value} {hp : xm_H} {pc' : Nat} {sk' : List Value} {a : Nat} {x : xm_E}
    (h : ∀ (p : Program) (e : Env) (R : Room) (s : State) (m : MethodId) (args : Array Value) (below : List Frame) (meth : Method) (c : Code) (H : Heap) (locs : List Loc) (cells slots : Nat) (ls : Array Slot) (Q : State → Prop), xs_C M p s m args meth c R → xs_K D aT scr s → xs_L ls M.2.2.1 lo → xs_R D aT B scr hp H → cells ≤ R.cells ∧ slots ≤ R.slots →
      (∀ (H' : Heap) (L : List Loc), xs_E D aT B scr H' a x → H'.size = H.size → (∀ q, q ≠ a → H'[q]? = H[q]?) → (∀ q ∈ L, B ≤ q.base) → W p l e R s m args below meth c H' (locs ++ L) cells slots Q (F0 m pc' ls sk')) → W p l e R s m args below meth c H locs cells slots Q (F0 m pc ls sk)) : xs_N l D aT B scr M pc lo sk hp pc' lo sk' (xm_up hp a x) := by
  refine ⟨Nat.le_refl _, Nat.le_refl _, ?_⟩
  intro p e R s m args below meth c H locs cells slots ls Q cells' slots' C K L r hq hc hs h1 h2 kk
  have hc' : cells' = cells := Nat.add_right_cancel (m := hp.2.1) hc
  have hs' : slots' = slots := Nat.add_right_cancel (m := hp.2.2) hs
  subst hc' hs'
  refine h p e R s m args below meth c H locs _ _ ls Q C K L r ⟨h1, h2⟩ (fun H' L' he z oq hL' => kk H' _ ls L (r.up he z oq) (fun q hq' => ?_))
  rcases List.mem_append.mp hq' with h' | h'
  · exact hq q h'
  · exact hL' q h'
/-- an entry comes -/
theorem xs_NA {M : xm_M} {pc : Nat} {lo : xm_L} {sk : List Value} {hp : xm_H} {pc' : Nat} {sk' : List Value} {x : xm_E} {n : Nat}
    (h : ∀ (p : Program) (e : Env) (R : Room) (s : State) (m : MethodId) (args : Array Value) (below : List Frame) (meth : Method) (c : Code) (H : Heap) (locs : List Loc) (cells slots : Nat) (ls : Array Slot) (Q : State → Prop), xs_C M p s m args meth c R → xs_K D aT scr s → xs_L ls M.2.2.1 lo → xs_R D aT B scr hp H → cells + 1 ≤ R.cells → slots + n ≤ R.slots →
      (∀ (H' : Heap), xs_E D aT B scr H' H.size x → H'.size = H.size + 1 → (∀ q, q < H.size → H'[q]? = H[q]?) → W p l e R s m args below meth c H' locs (cells + 1) (slots + n) Q (F0 m pc' ls sk')) → W p l e R s m args below meth c H locs cells slots Q (F0 m pc ls sk)) : xs_N l D aT B scr M pc lo sk hp pc' lo sk' (xm_add hp x n) := by
  refine ⟨Nat.le_succ _, Nat.le_add_right _ _, ?_⟩
  intro p e R s m args below meth c H locs cells slots ls Q cells' slots' C K L r hq hc hs h1 h2 kk
  have hc' : cells' = cells + 1 := by
    have : cells' + hp.2.1 = cells + (hp.2.1 + 1) := hc
    omega
  have hs' : slots' = slots + n := by
    have : slots' + hp.2.2 = slots + (hp.2.2 + n) := hs
    omega
  subst hc' hs'
  exact h p e R s m args below meth c H locs _ _ ls Q C K L r h1 h2 (fun H' he z oq => kk H' _ ls L (r.add he z oq) hq)
theorem xm_ok_spec {n k : Nat} {x y : xm_S} (h : xm_ok n k x = some (.inl y)) : n = k ∧ x = y := by
  unfold xm_ok at h
  split at h
  · rename_i hn
    exact ⟨hn, by injection h with h; injection h⟩
  · cases h
theorem xm_isI_spec {v : Value} (h : xm_isI v = true) : ∃ x, v = .int x := by
  cases v <;> first | exact ⟨_, rfl⟩ | cases h
theorem xm_isJ_spec {v : Value} (h : xm_isJ v = true) : ∃ x, v = .long x := by
  cases v <;> first | exact ⟨_, rfl⟩ | cases h
theorem xm_isA_spec {v : Value} (h : xm_isA v = true) : v = .null ∨ ∃ x, v = .ref x := by
  cases v <;> first | exact Or.inl rfl | exact Or.inr ⟨_, rfl⟩ | cases h
theorem xm_ld_spec {n k i pc : Nat} {ty : Value → Bool} {lo : xm_L} {sk : List Value} {hp : xm_H} {y : xm_S} (h : xm_ld n k ty i pc lo sk hp = some (.inl y)) : n = k ∧ ∃ v, lo[i]? = some (some v) ∧ ty v = true ∧ (pc + k, lo, v :: sk, hp) = y := by
  unfold xm_ld at h
  split at h
  · rename_i v hv
    split at h
    · rename_i ht
      obtain ⟨h1, h2⟩ := xm_ok_spec h
      exact ⟨h1, v, hv, ht, h2⟩
    · cases h
  · cases h
theorem xm_sto_spec {n k i pc : Nat} {ty : Value → Bool} {lo : xm_L} {sk : List Value} {hp : xm_H} {y : xm_S} (h : xm_sto n k ty i pc lo sk hp = some (.inl y)) : n = k ∧ ∃ v sk', sk = v :: sk' ∧ ty v = true ∧ i < lo.length ∧ (pc + k, xm_st1 lo i v, sk', hp) = y := by
  unfold xm_sto at h
  split at h
  · rename_i v sk'
    split at h
    · rename_i ht
      rw [Bool.and_eq_true, decide_eq_true_eq] at ht
      obtain ⟨h1, h2⟩ := xm_ok_spec h
      exact ⟨h1, v, sk', rfl, ht.1, ht.2, h2⟩
    · cases h
  · cases h
theorem xm_stJ_spec {n k i pc : Nat} {lo : xm_L} {sk : List Value} {hp : xm_H} {y : xm_S} (h : xm_stJ n k i pc lo sk hp = some (.inl y)) : n = k ∧ ∃ v sk', sk = .long v :: sk' ∧ i + 1 < lo.length ∧ (pc + k, xm_st2 lo i (.long v), sk', hp) = y := by
  unfold xm_stJ at h
  split at h
  · rename_i v sk'
    split at h
    · rename_i ht
      obtain ⟨h1, h2⟩ := xm_ok_spec h
      exact ⟨h1, v, sk', rfl, ht, h2⟩
    · cases h
  · cases h
theorem xm_i2_spec {n pc : Nat} {f : Int32 → Int32 → Int32} {lo : xm_L} {sk : List Value} {hp : xm_H} {z : xm_S} (h : xm_i2 n f pc lo sk hp = some (.inl z)) : n = 1 ∧ ∃ x y sk', sk = .int y :: .int x :: sk' ∧ (pc + 1, lo, .int (f x y) :: sk', hp) = z := by
  unfold xm_i2 at h
  split at h
  · obtain ⟨h1, h2⟩ := xm_ok_spec h
    exact ⟨h1, _, _, _, rfl, h2⟩
  · cases h
theorem xm_d2_spec {n pc : Nat} {f : Int32 → Int32 → Int32} {lo : xm_L} {sk : List Value} {hp : xm_H} {z : xm_S} (h : xm_d2 n f pc lo sk hp = some (.inl z)) : n = 1 ∧ ∃ x y sk', sk = .int y :: .int x :: sk' ∧ ¬ y = 0 ∧ (pc + 1, lo, .int (f x y) :: sk', hp) = z := by
  unfold xm_d2 at h
  split at h
  · split at h
    · cases h
    · rename_i hy
      obtain ⟨h1, h2⟩ := xm_ok_spec h
      exact ⟨h1, _, _, _, rfl, hy, h2⟩
  · cases h
theorem xm_i1_spec {n pc : Nat} {f : Int32 → Int32} {lo : xm_L} {sk : List Value} {hp : xm_H} {z : xm_S} (h : xm_i1 n f pc lo sk hp = some (.inl z)) : n = 1 ∧ ∃ x sk', sk = .int x :: sk' ∧ (pc + 1, lo, .int (f x) :: sk', hp) = z := by
  unfold xm_i1 at h
  split at h
  · obtain ⟨h1, h2⟩ := xm_ok_spec h
    exact ⟨h1, _, _, rfl, h2⟩
  · cases h
theorem xm_j2_spec {n pc : Nat} {f : Int64 → Int64 → Int64} {lo : xm_L} {sk : List Value} {hp : xm_H} {z : xm_S} (h : xm_j2 n f pc lo sk hp = some (.inl z)) : n = 1 ∧ ∃ x y sk', sk = .long y :: .long x :: sk' ∧ (pc + 1, lo, .long (f x y) :: sk', hp) = z := by
  unfold xm_j2 at h
  split at h
  · obtain ⟨h1, h2⟩ := xm_ok_spec h
    exact ⟨h1, _, _, _, rfl, h2⟩
  · cases h
theorem xm_jsh_spec {n pc : Nat} {f : Int64 → Int32 → Int64} {lo : xm_L} {sk : List Value} {hp : xm_H} {z : xm_S} (h : xm_jsh n f pc lo sk hp = some (.inl z)) : n = 1 ∧ ∃ x y sk', sk = .int y :: .long x :: sk' ∧ (pc + 1, lo, .long (f x y) :: sk', hp) = z := by
  unfold xm_jsh at h
  split at h
  · obtain ⟨h1, h2⟩ := xm_ok_spec h
    exact ⟨h1, _, _, _, rfl, h2⟩
  · cases h
theorem xm_jmp_spec {n pc : Nat} {o : Int} {c : Bool} {lo : xm_L} {sk : List Value} {hp : xm_H} {z : xm_S} (h : xm_jmp n pc o c lo sk hp = some (.inl z)) : n = 3 ∧ ∃ t : Nat, (pc : Int) + o = (t : Int) ∧ ((c = true ∧ (t, lo, sk, hp) = z) ∨ (c = false ∧ (pc + 3, lo, sk, hp) = z)) := by
  unfold xm_jmp at h
  split at h
  · rename_i hn
    refine ⟨hn.1, xm_tgt pc o, by unfold xm_tgt; omega, ?_⟩
    split at h
    · rename_i hc
      refine Or.inl ⟨hc, ?_⟩
      injection h with h; injection h
    · rename_i hc
      refine Or.inr ⟨by simpa using hc, ?_⟩
      injection h with h; injection h
  · cases h
theorem xm_out_of_spec {i : Int32} {N : Nat} (h : ¬ xm_out_of i N = true) : vp_in i N := by
  intro q
  apply h
  unfold xm_out_of
  rw [Bool.or_eq_true, decide_eq_true_eq, decide_eq_true_eq]
  exact q
theorem xs_P1 {e : va_E} {a : Nat} {H : Heap} (h : va_at D xp_cl (a, e) H) : va_P D xp_cl [(a, e)] H := by
  intro k q hk
  match k, hk with
  | 0, hk => cases hk; exact h
  | k + 1, hk => simp at hk
end XT
