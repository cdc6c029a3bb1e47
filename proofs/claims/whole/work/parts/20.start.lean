/-- the heap at the law's entry: the script alone -/
def xw_hp0 (b L : Nat) (xs : Nat → Int32) (B : Nat) : xm_H := (fun q => if q = b then some (.inr (.inr (L, xs))) else none, B, 0)
def xk_in (ci : Nat) : Bool := match xp_cl[ci]?, xp_ip[ci]? with
  | some (C, _, N), some (p1, _) => xk_w p1 (.instantiable C N)
  | _, _ => false
set_option maxRecDepth 100000 in
theorem xk_in_all : (List.range xp_cl.length).all xk_in = true := by decide +kernel
theorem xp_inst {ci N : Nat} {C : String} {T : u_T} (h : xp_cl[ci]? = some (C, T, N)) : Cond.instantiable C N ∈ xp_tb := by
  have h1 := List.all_eq_true.mp xk_in_all ci (List.mem_range.mpr (List.getElem?_eq_some_iff.mp h).1)
  unfold xk_in at h1
  rw [h] at h1
  split at h1
  · rename_i C' T' N' p1 p2 hx hp
    cases hx
    exact xk_w_mem h1
  · cases h1
theorem xw_dec {pc : Nat} {i : Instr} {n : Nat} (h : decode xM192.2.1 pc = .ok (i, n)) : decode code pc = .ok (i, n) := h
theorem xw_start (main : ∀ (b L B : Nat) (xs : Nat → Int32), b < B → L ≤ 3072 → ∃ hp', xm_call 192 [.ref b] (xw_hp0 b L xs B) = some (some (.int 1), hp') ∧ hp'.2.1 ≤ B + 600000 ∧ hp'.2.2 ≤ 7302250)
    {p : Program} {e : Env} {s : State} {m : MethodId} {below : List Frame} {meth : Method} {c : Code} (l : Launch) {b L : Nat} {xs : Nat → Int32} (hL : L ≤ 3072) {Z : State → Prop}
    (hx : p.tables.exec = Jvm.exec) (hb : c.code = code) (hml : c.maxLocals = 4) (hown : s.vm.findClass RL = some m.cls) (hts : ∀ w ∈ lw_tbl, w.before #[Value.ref b] s = true) (hX : va_X b L xs s s.heap) (hbl : b < s.heap.size)
    (ret : ∀ (pc : Nat) (ls : Array Slot) (H : Heap), decode code pc = .ok (.ireturn, 1) → W p l e room_1 s m #[Value.ref b] below meth c H [] 600000 7302250 Z (F0 m pc ls [.int 1])) :
    W p l e room_1 s m #[Value.ref b] below meth c s.heap [] 0 0 Z (entryFrame m ([Value.ref b] : List Value).toArray 4) := by
  obtain ⟨scr, s1, s2, s3, s4, s5⟩ := hX
  have hts' : ∀ w ∈ xp_tb, w.before #[Value.ref b] s = true := fun w hw => hts w (List.mem_filter.mp hw).1
  have hkn : ∀ ci : Nat, ∃ q : ClassId × (Nat → Nat), ∀ (C : String) (T : u_T) (N : Nat), xp_cl[ci]? = some (C, T, N) → u_Kn s C T N q.1 q.2 := by
    intro ci
    cases hc : xp_cl[ci]? with
    | none => exact ⟨(0, fun _ => 0), fun C T N h => by cases h⟩
    | some q =>
      obtain ⟨C, T, N⟩ := q
      obtain ⟨cC, iS, hk⟩ := u_known hts' (xp_cl_in hc) (hts' _ (xp_inst hc))
      exact ⟨(cC, iS), fun C' T' N' h => by cases h; exact hk⟩
  have har : ∀ ty : FieldType, ∃ cA : ClassId, ty = .int ∨ ty = .boolean ∨ ty = .long → ArrOfT s cA ty ∧ s.vm.findClass ("[" ++ ty.toString) = some cA := by
    intro ty
    by_cases hty : ty = .int ∨ ty = .boolean ∨ ty = .long
    · have hw : (Cond.arrayClass ty).before #[Value.ref b] s = true := by
        rcases hty with rfl | rfl | rfl
        · exact hts' _ (xk_w_mem xk_arr_int)
        · exact hts' _ (xk_w_mem xk_arr_boolean)
        · exact hts' _ (xk_w_mem xk_arr_long)
      obtain ⟨cA, kA, comp, hfind, hk, hkind⟩ := Cond.arrayClass_spec hw
      exact ⟨cA, fun _ => ⟨fun n z => ⟨fun k h => (by cases h), kA, hk, comp, hkind⟩, hfind⟩⟩
    · exact ⟨0, fun h => absurd h hty⟩
  have K : xs_K (fun ci => (Classical.choose (hkn ci)).1, fun ci => (Classical.choose (hkn ci)).2) (fun ty => Classical.choose (har ty)) scr s := by
    refine ⟨⟨fun ci q hq => ?_, fun k q h => by simp at h⟩, fun ty hty => Classical.choose_spec (har ty) hty, s2, fun w hw => xp_ne_of w hw (hts w (List.mem_filter.mp hw).1)⟩
    obtain ⟨C, T, N⟩ := q
    exact Classical.choose_spec (hkn ci) C T N hq
  generalize ((fun ci => (Classical.choose (hkn ci)).1, fun ci => (Classical.choose (hkn ci)).2) : va_G) = D at K
  generalize (fun ty => Classical.choose (har ty)) = aT at K
  have R0 : xs_R D aT s.heap.size scr (xw_hp0 b L xs s.heap.size) s.heap := by
    refine ⟨rfl, Nat.le_refl _, fun a x ha => ?_⟩
    have ha : (if a = b then some (.inr (.inr (L, xs))) else none : Option xm_E) = some x := ha
    split at ha
    · rename_i hab
      cases ha
      subst hab
      exact ⟨hbl, s1, s3, s4, s5⟩
    · cases ha
  obtain ⟨hp', hcall, hc, hsl⟩ := main b L s.heap.size xs hbl hL
  have hcall : xm_out 192 (0, xm_ent 4 [.ref b], [], xw_hp0 b L xs s.heap.size) = some (some (.int 1), hp') := hcall
  obtain ⟨n, hn⟩ := xm_out_iff.mp hcall
  rw [lg_entry_eq]
  obtain ⟨m1, m2, hS⟩ := xs_sound (l := l) (D := D) (aT := aT) (B := s.heap.size) (scr := scr) n 192 xM192 0 _ [] _ _ hp' rfl hn
  have C : xs_C xM192 p s m #[Value.ref b] meth c room_1 := ⟨hx, hb, hml, rfl, hown, hts', (fun h => by cases h), Nat.le_of_ble_eq_true rfl, Nat.le_of_ble_eq_true rfl⟩
  have q1 : (xw_hp0 b L xs s.heap.size).2.1 = s.heap.size := rfl
  have q2 : (xw_hp0 b L xs s.heap.size).2.2 = 0 := rfl
  refine hS p e room_1 s m #[Value.ref b] below meth c s.heap [] 0 0 _ Z (hp'.2.1 - s.heap.size) hp'.2.2 C K (xs_entry [.ref b] (Nat.le_of_ble_eq_true rfl)) R0 (fun q h => by cases h) (by omega) (by omega) (by show _ ≤ 600000; omega) (by show _ ≤ 7302250; omega) ?_
  intro pc' i sk' ls' H' locs' hd hret hR' hq'
  refine va_forget hq' ?_
  refine W.widen (k := 600000) (n := 7302250) (by omega) (by omega) ?_
  have hd := xw_dec hd
  have hret : xm_ret (some .boolean) i sk' = some (some (.int 1)) := hret
  unfold xm_ret at hret
  (repeat' split at hret) <;> first | (cases hret; exact ret pc' ls' H' hd) | (cases hret; done) | (rename_i heq; cases heq; done) | skip
