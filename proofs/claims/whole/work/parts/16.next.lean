section XCP
variable {p : Program} {l : Launch} {e : Env} {R : Room} {s : State} {m : MethodId} {args : Array Value} {below : List Frame} {meth : Method} {c : Code} {H : Heap} {locs : List Loc} {cells slots : Nat} {Q : State → Prop}
variable {pc : Nat} {ls : Array Slot} {rest : List Value}
/-- System.arraycopy of ints, what it leaves alone said cell by cell (va_copyi turned so) -/
theorem xs_copyW {cc : ByteArray} (hexec : p.tables.exec = Jvm.exec) (hb : c.code = cc) (hml : c.maxLocals = ls.size) {own : String} {index : Nat} (hown : s.vm.findClass own = some m.cls) (hlink : (Cond.methodLink own index arraycopyName).before args s = true) (hnat : (Cond.native arraycopyName).before args s = true) (hstat : (Cond.static arraycopyName).before args s = true) (hini : (Cond.initialized "java/lang/System").before args s = true)
    {c0 : ClassId} (hA : ArrOfT s c0 .int) {a a0 n0 n1 : Nat} {f g : Nat → Int32} (hc0 : H[a0]? = some (vp_cell c0 (n0, .inl f))) (hc1 : H[a]? = some (vp_cell c0 (n1, .inl g)))
    {sp dp n : Int32} (h1 : ¬ sp < 0) (h2 : ¬ dp < 0) (h3 : ¬ n < 0) (h4 : sp.toNatClampNeg + n.toNatClampNeg ≤ n0) (h5 : dp.toNatClampNeg + n.toNatClampNeg ≤ n1)
    (hframes : 1 ≤ R.frames) (hlocals : (rest.map fun v => v.category).sum + 18 ≤ R.locals) (hdg : decode cc pc = .ok (.invokestatic index, 3))
    (kk : ∀ (H1 : Heap) (L : List Loc), H1[a]? = some (vp_cell c0 (n1, .inl (va_cpy f g sp.toNatClampNeg dp.toNatClampNeg n.toNatClampNeg))) → H1.size = H.size → (∀ q, q ≠ a → H1[q]? = H[q]?) → (∀ q ∈ L, q.base = a) → W p l e R s m args below meth c H1 (locs ++ L) cells slots Q (F0 m (pc + 3) ls rest)) : W p l e R s m args below meth c H locs cells slots Q (F0 m pc ls (.int n :: .int dp :: .ref a :: .int sp :: .ref a0 :: rest)) := by
  have nn : ∀ z : Int32, ¬ z < 0 → z.toInt = (z.toNatClampNeg : Int) := by
    intro z hz
    have hz0 : (0 : Int) ≤ z.toInt := by
      have := Int32.not_lt.mp hz
      simpa using Int32.le_iff_toInt_le.mp this
    show z.toInt = ((z.toInt.toNat : Nat) : Int)
    omega
  have hnw : nativeFrameWords "java/lang/System" "arraycopy" 5 = 7 := by decide +kernel
  intro T hT X
  obtain ⟨-, k0, hk0, cm0, hkk0⟩ := hA n0 (fun j => .int (f j))
  obtain ⟨-, k1, hk1, cm1, hkk1⟩ := hA n1 (fun j => .int (g j))
  obtain ⟨vm', X', step⟩ := X.arraycopy hexec hown hlink hnat hstat hini (src := a0) (dst := a) (cs := vp_cell c0 (n0, .inl f)) (cd := vp_cell c0 (n1, .inl g)) (srcPos := sp) (destPos := dp) (n := n) (by rw [hT]; exact hc0) (by rw [hT]; exact hc1)
    (fun _ h => by cases h) (fun _ h => by cases h) (fun h => by cases h) (fun h => by cases h) hk0 hk1 hkk0 hkk1 (by simp [refKind]) h1 h2 h3
    (by rw [nn sp h1, nn n h3]; show ¬ _ > ((arrV c0 n0 (fun j => .int (f j))).slots.size : Int); rw [arrV_size]; omega)
    (by rw [nn dp h2, nn n h3]; show ¬ _ > ((arrV c0 n1 (fun j => .int (g j))).slots.size : Int); rw [arrV_size]; omega)
    (fun vm₁ _ i hi => by
      have e : (vp_cell c0 (n0, .inl f)).slots.getD (sp.toNatClampNeg + i) .null = .int (f (sp.toNatClampNeg + i)) := by
        show (arrV c0 n0 (fun j => .int (f j))).slots.getD _ _ = _
        rw [Array.getD_eq_getD_getElem?, arrV_read _ _ (by omega)]
        rfl
      refine ⟨?_, ?_⟩
      · rw [e]
        rfl
      · rw [e]
        exact trivial)
    (g := F0 m pc ls (.int n :: .int dp :: .ref a :: .int sp :: .ref a0 :: rest)) rfl (by rw [hml]) (rest := rest) rfl (by rw [hb]; exact hdg) hframes (by show 2 * 0 + _ + (nativeFrameWords "java/lang/System" "arraycopy" 5 + 11) ≤ _; rw [hnw]; omega)
  have e1 : copied (vp_cell c0 (n0, .inl f)) (vp_cell c0 (n1, .inl g)) sp dp n = vp_cell c0 (n1, .inl (va_cpy f g sp.toNatClampNeg dp.toNatClampNeg n.toNatClampNeg)) := va_copied (fun z => .int z) c0 c0 f g h4
  rw [e1] at X' step
  have hl : a < H.size := (Array.getElem?_eq_some_iff.mp hc1).1
  have hheap : ((T.setVm vm').setCell a (vp_cell c0 (n1, .inl (va_cpy f g sp.toNatClampNeg dp.toNatClampNeg n.toNatClampNeg)))).heap = H.setIfInBounds a (vp_cell c0 (n1, .inl (va_cpy f g sp.toNatClampNeg dp.toNatClampNeg n.toNatClampNeg))) := by rw [← hT]; rfl
  obtain ⟨t, a1, b1⟩ := kk _ _ (show (H.setIfInBounds a _)[a]? = some _ by simp [Array.getElem?_setIfInBounds, hl]) (by simp) (fun q hq => by simp [Array.getElem?_setIfInBounds, Ne.symm hq]) (fun q hq => by
      obtain ⟨z, -, hz⟩ := List.mem_map.mp hq
      rw [← hz]) _ hheap X'
  exact ⟨t, step t a1, b1⟩
end XCP
section XV
variable {l : Launch} {D : va_G} {aT : FieldType → ClassId} {B : Nat} {scr : Cell}
theorem xs_ints {U : State} (K : xs_K D aT scr U) {ty : FieldType} (h : ty = .int ∨ ty = .boolean ∨ ty = .long) : va_K D xp_cl [(aT ty, ty)] U := by
  refine ⟨K.1.1, fun k q hk => ?_⟩
  match k, hk with
  | 0, hk =>
    cases hk
    refine ⟨(K.2.1 ty h).1, ?_⟩
    rcases h with rfl | rfl | rfl <;> exact (K.2.1 _ (by simp)).2
  | k + 1, hk => simp at hk
theorem xs_iald {M : xm_M} {n pc : Nat} {lo : xm_L} {sk : List Value} {hp : xm_H} {z : xm_S} (hd : decode M.2.1 pc = .ok (.iaload, n)) (hx : xm_iald n pc lo sk hp = some (.inl z)) : xs_N l D aT B scr M pc lo sk hp z.1 z.2.1 z.2.2.1 z.2.2.2 := by
  unfold xm_iald at hx
  split at hx
  · rename_i i a sk
    split at hx
    · rename_i N f he
      split at hx
      · cases hx
      · rename_i hi
        obtain ⟨rfl, rfl⟩ := xm_ok_spec hx
        refine xs_N0 fun p e R s m args below meth c H locs cells slots ls Q C K L r hcs kk => ?_
        exact va_iald C.1 C.2.1 (xs_ints K (Or.inl rfl)) (xs_P1 (e := .inl (aT .int, N, .inl f)) (r.2.2 _ _ he).2.2) 0 0 rfl rfl (xm_out_of_spec hi) hd kk
    · rename_i N f he
      split at hx
      · cases hx
      · rename_i hi
        obtain ⟨rfl, rfl⟩ := xm_ok_spec hx
        refine xs_N0 fun p e R s m args below meth c H locs cells slots ls Q C K L r hcs kk => ?_
        obtain ⟨-, h1, h3, h4, h5⟩ := r.2.2 _ _ he
        have hin := xm_out_of_spec hi
        have hlt : i.toNatClampNeg < N := Nat.not_le.mp fun q => hin (Or.inr q)
        exact W.iald (v := .int (f i.toNatClampNeg)) C.1 C.2.1 h1 K.2.2.1 h3 (by rw [h4]; exact hin) (h5 _ hlt) rfl rfl hd kk
    · cases hx
  · cases hx
theorem xs_zald {M : xm_M} {n pc : Nat} {lo : xm_L} {sk : List Value} {hp : xm_H} {z : xm_S} (hd : decode M.2.1 pc = .ok (.baload, n)) (hx : xm_zald n pc lo sk hp = some (.inl z)) : xs_N l D aT B scr M pc lo sk hp z.1 z.2.1 z.2.2.1 z.2.2.2 := by
  unfold xm_zald at hx
  split at hx
  · rename_i i a sk
    split at hx
    · rename_i N f he
      split at hx
      · cases hx
      · rename_i hi
        obtain ⟨rfl, rfl⟩ := xm_ok_spec hx
        refine xs_N0 fun p e R s m args below meth c H locs cells slots ls Q C K L r hcs kk => ?_
        exact va_zald C.1 C.2.1 (xs_ints K (Or.inr (Or.inl rfl))) (xs_P1 (e := .inl (aT .boolean, N, .inl f)) (r.2.2 _ _ he).2.2) 0 0 rfl rfl (xm_out_of_spec hi) hd kk
    · cases hx
  · cases hx
theorem xs_lald {M : xm_M} {n pc : Nat} {lo : xm_L} {sk : List Value} {hp : xm_H} {z : xm_S} (hd : decode M.2.1 pc = .ok (.laload, n)) (hx : xm_lald n pc lo sk hp = some (.inl z)) : xs_N l D aT B scr M pc lo sk hp z.1 z.2.1 z.2.2.1 z.2.2.2 := by
  unfold xm_lald at hx
  split at hx
  · rename_i i a sk
    split at hx
    · rename_i N f he
      split at hx
      · cases hx
      · rename_i hi
        obtain ⟨rfl, rfl⟩ := xm_ok_spec hx
        refine xs_N0 fun p e R s m args below meth c H locs cells slots ls Q C K L r hcs kk => ?_
        exact va_lald C.1 C.2.1 (xs_ints K (Or.inr (Or.inr rfl))) (xs_P1 (e := .inl (aT .long, N, .inr (.inl f))) (r.2.2 _ _ he).2.2) 0 0 rfl rfl (xm_out_of_spec hi) hd kk
    · cases hx
  · cases hx
theorem xs_iast {M : xm_M} {n pc : Nat} {lo : xm_L} {sk : List Value} {hp : xm_H} {z : xm_S} (hd : decode M.2.1 pc = .ok (.iastore, n)) (hx : xm_iast n pc lo sk hp = some (.inl z)) : xs_N l D aT B scr M pc lo sk hp z.1 z.2.1 z.2.2.1 z.2.2.2 := by
  unfold xm_iast at hx
  split at hx
  · rename_i x i a sk
    split at hx
    · rename_i N f he
      split at hx
      · cases hx
      · rename_i hi
        obtain ⟨rfl, rfl⟩ := xm_ok_spec hx
        refine xs_NU fun p e R s m args below meth c H locs cells slots ls Q C K L r hcs kk => ?_
        obtain ⟨hB, hty, hcell⟩ := r.2.2 _ _ he
        have hin := xm_out_of_spec hi
        refine W.iast C.1 C.2.1 hcell ((K.2.1 .int (Or.inl rfl)).1 N (fun j => .int (f j))) (fun q => by cases q) (by show ¬ (i < 0 ∨ (arrV _ _ _).slots.size ≤ _); rw [arrV_size]; exact hin) rfl rfl hd fun H1 e1 z1 oq => ?_
        refine kk H1 _ ⟨hB, Or.inl rfl, ?_⟩ z1 oq (fun q hq => by rw [List.mem_singleton.mp hq]; exact hB)
        show H1[a]? = some (vp_cell _ _)
        rw [e1]
        rw [vp_cell_i, vp_cell_i, arrV_store]
        congr 2
        funext q
        by_cases hq : q = i.toNatClampNeg
        · subst hq
          simp [updV, upd]
          try rfl
        · simp [updV, upd, hq]
    · cases hx
  · cases hx
theorem xs_zast {M : xm_M} {n pc : Nat} {lo : xm_L} {sk : List Value} {hp : xm_H} {z : xm_S} (hd : decode M.2.1 pc = .ok (.bastore, n)) (hx : xm_zast n pc lo sk hp = some (.inl z)) : xs_N l D aT B scr M pc lo sk hp z.1 z.2.1 z.2.2.1 z.2.2.2 := by
  unfold xm_zast at hx
  split at hx
  · rename_i x i a sk
    split at hx
    · rename_i N f he
      split at hx
      · cases hx
      · rename_i hi
        obtain ⟨rfl, rfl⟩ := xm_ok_spec hx
        refine xs_NU fun p e R s m args below meth c H locs cells slots ls Q C K L r hcs kk => ?_
        obtain ⟨hB, hty, hcell⟩ := r.2.2 _ _ he
        have hin := xm_out_of_spec hi
        refine W.zast C.1 C.2.1 hcell ((K.2.1 .boolean (Or.inr (Or.inl rfl))).1 N (fun j => .int (f j))) (fun q => by cases q) (by show ¬ (i < 0 ∨ (arrV _ _ _).slots.size ≤ _); rw [arrV_size]; exact hin) rfl rfl hd fun H1 e1 z1 oq => ?_
        refine kk H1 _ ⟨hB, Or.inr (Or.inl rfl), ?_⟩ z1 oq (fun q hq => by rw [List.mem_singleton.mp hq]; exact hB)
        show H1[a]? = some (vp_cell _ _)
        rw [e1]
        rw [vp_cell_i, vp_cell_i, arrV_store]
        congr 2
        funext q
        by_cases hq : q = i.toNatClampNeg
        · subst hq
          simp [updV, upd, vp_nar]
          try rfl
        · simp [updV, upd, vp_nar, hq]
    · cases hx
  · cases hx
theorem xs_last {M : xm_M} {n pc : Nat} {lo : xm_L} {sk : List Value} {hp : xm_H} {z : xm_S} (hd : decode M.2.1 pc = .ok (.lastore, n)) (hx : xm_last n pc lo sk hp = some (.inl z)) : xs_N l D aT B scr M pc lo sk hp z.1 z.2.1 z.2.2.1 z.2.2.2 := by
  unfold xm_last at hx
  split at hx
  · rename_i x i a sk
    split at hx
    · rename_i N f he
      split at hx
      · cases hx
      · rename_i hi
        obtain ⟨rfl, rfl⟩ := xm_ok_spec hx
        refine xs_NU fun p e R s m args below meth c H locs cells slots ls Q C K L r hcs kk => ?_
        obtain ⟨hB, hty, hcell⟩ := r.2.2 _ _ he
        have hin := xm_out_of_spec hi
        refine W.last C.1 C.2.1 hcell ((K.2.1 .long (Or.inr (Or.inr rfl))).1 N (fun j => .long (f j))) (fun q => by cases q) (by show ¬ (i < 0 ∨ (arrV _ _ _).slots.size ≤ _); rw [arrV_size]; exact hin) rfl rfl hd fun H1 e1 z1 oq => ?_
        refine kk H1 _ ⟨hB, Or.inr (Or.inr rfl), ?_⟩ z1 oq (fun q hq => by rw [List.mem_singleton.mp hq]; exact hB)
        show H1[a]? = some (vp_cell _ _)
        rw [e1]
        rw [vp_cell_l, vp_cell_l, arrV_store]
        congr 2
        funext q
        by_cases hq : q = i.toNatClampNeg
        · subst hq
          simp [updV, vp_updL]
          try rfl
        · simp [updV, vp_updL, hq]
    · cases hx
  · cases hx
theorem xs_alen {M : xm_M} {n pc : Nat} {lo : xm_L} {sk : List Value} {hp : xm_H} {z : xm_S} (hd : decode M.2.1 pc = .ok (.arraylength, n)) (hx : xm_alen n pc lo sk hp = some (.inl z)) : xs_N l D aT B scr M pc lo sk hp z.1 z.2.1 z.2.2.1 z.2.2.2 := by
  unfold xm_alen at hx
  split at hx
  · rename_i a sk
    split at hx
    · rename_i ty N g he
      obtain ⟨rfl, rfl⟩ := xm_ok_spec hx
      refine xs_N0 fun p e R s m args below meth c H locs cells slots ls Q C K L r hcs kk => ?_
      obtain ⟨hB, hty, hcell⟩ := r.2.2 _ _ he
      exact va_alen C.1 C.2.1 (xs_ints K hty) (xs_P1 (e := .inl (aT ty, N, g)) hcell) 0 0 rfl rfl rfl hd kk
    · rename_i N f he
      obtain ⟨rfl, rfl⟩ := xm_ok_spec hx
      refine xs_N0 fun p e R s m args below meth c H locs cells slots ls Q C K L r hcs kk => ?_
      obtain ⟨-, h1, h3, h4, h5⟩ := r.2.2 _ _ he
      exact W.alen (n := Int32.ofNat N) C.1 C.2.1 h1 K.2.2.1 (by rw [h4] <;> rfl) rfl rfl hd kk
    · cases hx
  · cases hx
theorem xm_low_spec {sk : List Value} (h : xm_low sk = true) : (sk.map fun v => v.category).sum ≤ 8 := by
  unfold xm_low at h
  exact decide_eq_true_eq.mp h
theorem xp_mem_of {L : List (Nat × Nat)} {P : List (Nat × Nat × Nat)} {f : Nat × Nat × Nat → Bool} (hL : P.map (fun q => (q.1, q.2.1)) = L) (hf : P.all f = true) {oc idx : Nat} (h : decide ((oc, idx) ∈ L) = true) : ∃ p, f (oc, idx, p) = true := by
  have h1 := decide_eq_true_eq.mp h
  rw [← hL] at h1
  obtain ⟨q, hq, he⟩ := List.mem_map.mp h1
  obtain ⟨a, b, c⟩ := q
  cases he
  exact ⟨c, List.all_eq_true.mp hf _ hq⟩
theorem xs_min {M : xm_M} {n pc idx : Nat} {lo : xm_L} {sk : List Value} {hp : xm_H} {z : xm_S} (hd : decode M.2.1 pc = .ok (.invokestatic idx, n)) (hm : xp_mm M.2.2.2.2.1 idx = true) (hx : xm_min n pc M lo sk hp = some (.inl z)) : xs_N l D aT B scr M pc lo sk hp z.1 z.2.1 z.2.2.1 z.2.2.2 := by
  unfold xm_min at hx
  split at hx
  · rename_i y x rest
    split at hx
    · rename_i hc
      simp only [Bool.and_eq_true, decide_eq_true_eq] at hc
      obtain ⟨rfl, rfl⟩ := xm_ok_spec hx
      refine xs_N0 fun p e R s m args below meth c H locs cells slots ls Q C K L r hcs kk => ?_
      obtain ⟨c1, c2, c3, c4, c5, c6, c7, c8, c9⟩ := C
      obtain ⟨q, hq⟩ := xp_mem_of xk_mm_L xk_mm_all hm
      unfold xk_mm at hq
      rw [c4] at hq
      have hlow := xm_low_spec hc.1
      exact va_mmin c1 c2 (c3.trans L.1.symm) c5 (c6 _ (xk_w_mem hq)) (c6 _ (xk_w_mem xk_mm_1)) (c6 _ (xk_w_mem xk_mm_2)) (c6 _ (List.mem_filter.mpr ⟨List.mem_of_getElem? xk_mm_3, rfl⟩)) (Nat.le_trans hc.2.1 c8) (by omega) hcs.1 hcs.2 hd kk
    · cases hx
  · cases hx
theorem xs_oi {M : xm_M} {n pc idx a : Nat} {lo : xm_L} {rest : List Value} {hp : xm_H} {z : xm_S} (hd : decode M.2.1 pc = .ok (.invokespecial idx, n)) (hm : xp_oi M.2.2.2.2.1 idx = true) (hc : (xm_low rest && (decide (1 ≤ M.2.2.2.2.2.1) && decide (20 ≤ M.2.2.2.2.2.2.1))) = true) (hx : xm_ok n 3 (pc + 3, lo, rest, hp) = some (.inl z)) : xs_N l D aT B scr M pc lo (.ref a :: rest) hp z.1 z.2.1 z.2.2.1 z.2.2.2 := by
  simp only [Bool.and_eq_true, decide_eq_true_eq] at hc
  obtain ⟨rfl, rfl⟩ := xm_ok_spec hx
  refine xs_N0 fun p e R s m args below meth c H locs cells slots ls Q C K L r hcs kk => ?_
  obtain ⟨c1, c2, c3, c4, c5, c6, c7, c8, c9⟩ := C
  obtain ⟨q, hq⟩ := xp_mem_of xk_oi_L xk_oi_all hm
  unfold xk_oi at hq
  rw [c4] at hq
  have hlow := xm_low_spec hc.1
  exact W.objInit c1 c2 c5 (c6 _ (xk_w_mem hq)) (c6 _ (xk_w_mem xk_oi_1)) (c6 _ (List.mem_filter.mpr ⟨List.mem_of_getElem? xk_oi_2, rfl⟩)) rfl (L.1.trans c3.symm) rfl hd (Nat.le_trans hc.2.1 c8) (by show 2 * 0 + _ + 12 ≤ _; omega) kk
theorem xs_copy {M : xm_M} {n pc idx : Nat} {lo : xm_L} {sk : List Value} {hp : xm_H} {z : xm_S} (hd : decode M.2.1 pc = .ok (.invokestatic idx, n)) (hm : xp_ac M.2.2.2.2.1 idx = true) (hx : xm_copy n pc M lo sk hp = some (.inl z)) : xs_N l D aT B scr M pc lo sk hp z.1 z.2.1 z.2.2.1 z.2.2.2 := by
  unfold xm_copy at hx
  split at hx
  · rename_i w dp a sp a0 rest
    split at hx
    · rename_i n0 f n1 g he0 he1
      split at hx
      · rename_i hc
        obtain ⟨hne, h1, h2, h3, h4, h5, hlow, hf1, hf2⟩ := hc
        obtain ⟨rfl, rfl⟩ := xm_ok_spec hx
        refine xs_NU fun p e R s m args below meth c H locs cells slots ls Q C K L r hcs kk => ?_
        obtain ⟨c1, c2, c3, c4, c5, c6, c7, c8, c9⟩ := C
        obtain ⟨q, hq⟩ := xp_mem_of xk_ac_L xk_ac_all hm
        unfold xk_ac at hq
        rw [c4] at hq
        have hlow := xm_low_spec hlow
        obtain ⟨hB0, -, hc0⟩ := r.2.2 _ _ he0
        obtain ⟨hB1, -, hc1⟩ := r.2.2 _ _ he1
        refine xs_copyW c1 c2 (c3.trans L.1.symm) c5 (c6 _ (xk_w_mem hq)) (c6 _ (xk_w_mem xk_ac_1)) (c6 _ (xk_w_mem xk_ac_2)) (c6 _ (xk_w_mem xk_ac_3)) (K.2.1 .int (Or.inl rfl)).1 hc0 hc1 h1 h2 h3 h4 h5 (Nat.le_trans hf1 c8) (by omega) hd (fun H1 L1 e1 z1 oq hL => ?_)
        exact kk H1 L1 ⟨hB1, Or.inl rfl, e1⟩ z1 oq (fun q hq => by rw [hL q hq]; exact hB1)
      · cases hx
    · cases hx
  · cases hx
theorem xm_calS_no {n pc idx : Nat} {M : xm_M} {lo : xm_L} {sk : List Value} {hp : xm_H} {z : xm_S} : ¬ xm_calS n pc M idx lo sk hp = some (.inl z) := by
  intro h
  unfold xm_calS at h
  split at h
  · split at h
    · split at h <;> cases h
    · cases h
  · cases h
theorem xm_calV_no {n pc idx : Nat} {M : xm_M} {lo : xm_L} {sk : List Value} {hp : xm_H} {z : xm_S} : ¬ xm_calV n pc M idx lo sk hp = some (.inl z) := by
  intro h
  unfold xm_calV at h
  split at h
  · split at h
    · split at h
      · split at h <;> cases h
      · cases h
    · cases h
  · cases h
theorem xm_calP_no {n pc idx : Nat} {M : xm_M} {lo : xm_L} {sk : List Value} {hp : xm_H} {z : xm_S} : ¬ (match xp_mp M.2.2.2.2.1 idx with
  | some (j, k) => match xp_mi j, sk.drop k with
    | some N, .ref b :: rest => if n = 3 ∧ k ≤ sk.length ∧ xm_low rest = true ∧ xm_fit M N = true then some (.inr (.inr ((j, .ref b :: (sk.take k).reverse), (pc + 3, lo, rest, hp)))) else none
    | _, _ => none
  | none => none) = (some (.inl z) : Option xm_T) := by
  intro h
  split at h
  · split at h
    · split at h <;> cases h
    · cases h
  · cases h
theorem xm_end_no {n : Nat} {rt : Option FieldType} {i : Instr} {sk : List Value} {hp : xm_H} {z : xm_S} : ¬ xm_end n rt i sk hp = some (.inl z) := by
  intro h
  unfold xm_end at h
  split at h
  · split at h <;> cases h
  · cases h
set_option maxHeartbeats 4000000 in
/-- every instruction of the small machine that goes on, the machine does -/
theorem xs_next {M : xm_M} {n pc : Nat} {i : Instr} {lo : xm_L} {sk : List Value} {hp : xm_H} {z : xm_S} (hd : decode M.2.1 pc = .ok (i, n)) (hx : xm_ex M pc lo sk hp n i = some (.inl z)) : xs_N l D aT B scr M pc lo sk hp z.1 z.2.1 z.2.2.1 z.2.2.2 := by
  cases i with
  | iconst k =>
    obtain ⟨rfl, rfl⟩ := xm_ok_spec hx
    exact xs_N0 fun p e R s m args below meth c H locs cells slots ls Q C K L r hcs kk => lv_iconst C.1 C.2.1 hd rfl kk
  | bipush k =>
    obtain ⟨rfl, rfl⟩ := xm_ok_spec hx
    exact xs_N0 fun p e R s m args below meth c H locs cells slots ls Q C K L r hcs kk => lv_bipush C.1 C.2.1 hd rfl kk
  | sipush k =>
    obtain ⟨rfl, rfl⟩ := xm_ok_spec hx
    exact xs_N0 fun p e R s m args below meth c H locs cells slots ls Q C K L r hcs kk => lv_sipush C.1 C.2.1 hd rfl kk
  | lconst k =>
    obtain ⟨rfl, rfl⟩ := xm_ok_spec hx
    exact xs_N0 fun p e R s m args below meth c H locs cells slots ls Q C K L r hcs kk => lv_lconst C.1 C.2.1 hd rfl kk
  | aconst_null =>
    obtain ⟨rfl, rfl⟩ := xm_ok_spec hx
    exact xs_N0 fun p e R s m args below meth c H locs cells slots ls Q C K L r hcs kk => lv_null C.1 C.2.1 hd kk
  | ldc_w k =>
    have hx : (match xp_cn M.2.2.2.2.1 k with | some v => xm_ok n 3 (pc + 3, lo, .int v :: sk, hp) | none => none) = some (.inl z) := hx
    split at hx
    · rename_i v hv
      obtain ⟨rfl, rfl⟩ := xm_ok_spec hx
      refine xs_N0 fun p e R s m args below meth c H locs cells slots ls Q C K L r hcs kk => ?_
      obtain ⟨q, hq⟩ := xk_all_of xk_cn_all hv
      unfold xk_cn at hq
      rw [C.2.2.2.1] at hq
      exact lv_ldcw C.1 C.2.1 C.2.2.2.2.1 (C.2.2.2.2.2.1 _ (xk_w_mem hq)) hd kk
    · cases hx
  | iload k =>
    obtain ⟨rfl, v, hv, ht, rfl⟩ := xm_ld_spec hx
    obtain ⟨x, rfl⟩ := xm_isI_spec ht
    exact xs_N0 fun p e R s m args below meth c H locs cells slots ls Q C K L r hcs kk => lv_iload C.1 C.2.1 hd (L.2.2.2 _ _ hv) kk
  | iload_n k =>
    obtain ⟨rfl, v, hv, ht, rfl⟩ := xm_ld_spec hx
    obtain ⟨x, rfl⟩ := xm_isI_spec ht
    exact xs_N0 fun p e R s m args below meth c H locs cells slots ls Q C K L r hcs kk => lv_iload_n C.1 C.2.1 hd rfl (L.2.2.2 _ _ hv) kk
  | lload k =>
    obtain ⟨rfl, v, hv, ht, rfl⟩ := xm_ld_spec hx
    obtain ⟨x, rfl⟩ := xm_isJ_spec ht
    exact xs_N0 fun p e R s m args below meth c H locs cells slots ls Q C K L r hcs kk => lv_lload C.1 C.2.1 hd (L.2.2.2 _ _ hv) kk
  | lload_n k =>
    obtain ⟨rfl, v, hv, ht, rfl⟩ := xm_ld_spec hx
    obtain ⟨x, rfl⟩ := xm_isJ_spec ht
    exact xs_N0 fun p e R s m args below meth c H locs cells slots ls Q C K L r hcs kk => lv_lload_n C.1 C.2.1 hd rfl (L.2.2.2 _ _ hv) kk
  | aload k =>
    obtain ⟨rfl, v, hv, ht, rfl⟩ := xm_ld_spec hx
    rcases xm_isA_spec ht with rfl | ⟨x, rfl⟩
    · exact xs_N0 fun p e R s m args below meth c H locs cells slots ls Q C K L r hcs kk => lv_aloadN C.1 C.2.1 hd (L.2.2.2 _ _ hv) kk
    · exact xs_N0 fun p e R s m args below meth c H locs cells slots ls Q C K L r hcs kk => lv_aload C.1 C.2.1 hd (L.2.2.2 _ _ hv) kk
  | aload_n k =>
    obtain ⟨rfl, v, hv, ht, rfl⟩ := xm_ld_spec hx
    rcases xm_isA_spec ht with rfl | ⟨x, rfl⟩
    · exact xs_N0 fun p e R s m args below meth c H locs cells slots ls Q C K L r hcs kk => lv_aload_nN C.1 C.2.1 hd rfl (L.2.2.2 _ _ hv) kk
    · exact xs_N0 fun p e R s m args below meth c H locs cells slots ls Q C K L r hcs kk => lv_aload_n C.1 C.2.1 hd rfl (L.2.2.2 _ _ hv) kk
  | istore k =>
    obtain ⟨rfl, v, sk', rfl, ht, hn, rfl⟩ := xm_sto_spec hx
    obtain ⟨x, rfl⟩ := xm_isI_spec ht
    exact xs_N1 fun p e R s m args below meth c H locs cells slots ls Q C L kk => lv_istore C.1 C.2.1 hd L.has (L.2.2.1 ▸ hn) rfl (fun ls' h' => kk ls' (xs_st1 L h'))
  | istore_n k =>
    obtain ⟨rfl, v, sk', rfl, ht, hn, rfl⟩ := xm_sto_spec hx
    obtain ⟨x, rfl⟩ := xm_isI_spec ht
    exact xs_N1 fun p e R s m args below meth c H locs cells slots ls Q C L kk => lv_istore_n C.1 C.2.1 hd rfl L.has (L.2.2.1 ▸ hn) rfl (fun ls' h' => kk ls' (xs_st1 L h'))
  | astore k =>
    obtain ⟨rfl, v, sk', rfl, ht, hn, rfl⟩ := xm_sto_spec hx
    rcases xm_isA_spec ht with rfl | ⟨x, rfl⟩
    · exact xs_N1 fun p e R s m args below meth c H locs cells slots ls Q C L kk => lv_astoreN C.1 C.2.1 hd L.has (L.2.2.1 ▸ hn) rfl (fun ls' h' => kk ls' (xs_st1 L h'))
    · exact xs_N1 fun p e R s m args below meth c H locs cells slots ls Q C L kk => lv_astore C.1 C.2.1 hd L.has (L.2.2.1 ▸ hn) rfl (fun ls' h' => kk ls' (xs_st1 L h'))
  | astore_n k =>
    obtain ⟨rfl, v, sk', rfl, ht, hn, rfl⟩ := xm_sto_spec hx
    rcases xm_isA_spec ht with rfl | ⟨x, rfl⟩
    · exact xs_N1 fun p e R s m args below meth c H locs cells slots ls Q C L kk => lv_astore_nN C.1 C.2.1 hd rfl L.has (L.2.2.1 ▸ hn) rfl (fun ls' h' => kk ls' (xs_st1 L h'))
    · exact xs_N1 fun p e R s m args below meth c H locs cells slots ls Q C L kk => lv_astore_n C.1 C.2.1 hd rfl L.has (L.2.2.1 ▸ hn) rfl (fun ls' h' => kk ls' (xs_st1 L h'))
  | lstore k =>
    obtain ⟨rfl, v, sk', rfl, hn, rfl⟩ := xm_stJ_spec hx
    exact xs_N1 fun p e R s m args below meth c H locs cells slots ls Q C L kk => lv_lstore C.1 C.2.1 hd L.has (L.2.2.1 ▸ hn) rfl (fun ls' h' => kk ls' (xs_st2 L h'))
  | lstore_n k =>
    obtain ⟨rfl, v, sk', rfl, hn, rfl⟩ := xm_stJ_spec hx
    exact xs_N1 fun p e R s m args below meth c H locs cells slots ls Q C L kk => lv_lstore_n C.1 C.2.1 hd rfl L.has (L.2.2.1 ▸ hn) rfl (fun ls' h' => kk ls' (xs_st2 L h'))
  | iinc k dd =>
    have hx : xm_inc n pc k dd lo sk hp = some (.inl z) := hx
    unfold xm_inc at hx
    split at hx
    · rename_i x hv
      obtain ⟨rfl, rfl⟩ := xm_ok_spec hx
      refine xs_N1 fun p e R s m args below meth c H locs cells slots ls Q C L kk => ?_
      obtain ⟨kq, hkq⟩ := List.getElem?_of_mem (xs_as_mem.mpr hv)
      exact lv_iinc C.1 C.2.1 hd L.has hkq rfl (L.2.2.1 ▸ (List.getElem?_eq_some_iff.mp hv).1) rfl (fun ls' h' => kk ls' (xs_st1 L h'))
    · cases hx
  | iadd =>
    obtain ⟨rfl, x, y, sk', rfl, rfl⟩ := xm_i2_spec hx
    exact xs_N0 fun p e R s m args below meth c H locs cells slots ls Q C K L r hcs kk => lv_iadd C.1 C.2.1 hd kk
  | isub =>
    obtain ⟨rfl, x, y, sk', rfl, rfl⟩ := xm_i2_spec hx
    exact xs_N0 fun p e R s m args below meth c H locs cells slots ls Q C K L r hcs kk => lv_isub C.1 C.2.1 hd kk
  | imul =>
    obtain ⟨rfl, x, y, sk', rfl, rfl⟩ := xm_i2_spec hx
    exact xs_N0 fun p e R s m args below meth c H locs cells slots ls Q C K L r hcs kk => lv_imul C.1 C.2.1 hd kk
  | iand =>
    obtain ⟨rfl, x, y, sk', rfl, rfl⟩ := xm_i2_spec hx
    exact xs_N0 fun p e R s m args below meth c H locs cells slots ls Q C K L r hcs kk => lv_iand C.1 C.2.1 hd kk
  | ior =>
    obtain ⟨rfl, x, y, sk', rfl, rfl⟩ := xm_i2_spec hx
    exact xs_N0 fun p e R s m args below meth c H locs cells slots ls Q C K L r hcs kk => lv_ior C.1 C.2.1 hd kk
  | ixor =>
    obtain ⟨rfl, x, y, sk', rfl, rfl⟩ := xm_i2_spec hx
    exact xs_N0 fun p e R s m args below meth c H locs cells slots ls Q C K L r hcs kk => lv_ixor C.1 C.2.1 hd kk
  | ishl =>
    obtain ⟨rfl, x, y, sk', rfl, rfl⟩ := xm_i2_spec hx
    exact xs_N0 fun p e R s m args below meth c H locs cells slots ls Q C K L r hcs kk => lv_ishl C.1 C.2.1 hd kk
  | ishr =>
    obtain ⟨rfl, x, y, sk', rfl, rfl⟩ := xm_i2_spec hx
    exact xs_N0 fun p e R s m args below meth c H locs cells slots ls Q C K L r hcs kk => lv_ishr C.1 C.2.1 hd kk
  | iushr =>
    obtain ⟨rfl, x, y, sk', rfl, rfl⟩ := xm_i2_spec hx
    exact xs_N0 fun p e R s m args below meth c H locs cells slots ls Q C K L r hcs kk => lv_iushr C.1 C.2.1 hd rfl kk
  | ineg =>
    obtain ⟨rfl, x, sk', rfl, rfl⟩ := xm_i1_spec hx
    exact xs_N0 fun p e R s m args below meth c H locs cells slots ls Q C K L r hcs kk => lv_ineg C.1 C.2.1 hd kk
  | idiv =>
    obtain ⟨rfl, x, y, sk', rfl, hy, rfl⟩ := xm_d2_spec hx
    exact xs_N0 fun p e R s m args below meth c H locs cells slots ls Q C K L r hcs kk => lv_idiv C.1 C.2.1 hd hy kk
  | irem =>
    obtain ⟨rfl, x, y, sk', rfl, hy, rfl⟩ := xm_d2_spec hx
    exact xs_N0 fun p e R s m args below meth c H locs cells slots ls Q C K L r hcs kk => lv_irem C.1 C.2.1 hd hy kk
  | ladd =>
    obtain ⟨rfl, x, y, sk', rfl, rfl⟩ := xm_j2_spec hx
    exact xs_N0 fun p e R s m args below meth c H locs cells slots ls Q C K L r hcs kk => lv_ladd C.1 C.2.1 hd kk
  | lsub =>
    obtain ⟨rfl, x, y, sk', rfl, rfl⟩ := xm_j2_spec hx
    exact xs_N0 fun p e R s m args below meth c H locs cells slots ls Q C K L r hcs kk => lv_lsub C.1 C.2.1 hd kk
  | land =>
    obtain ⟨rfl, x, y, sk', rfl, rfl⟩ := xm_j2_spec hx
    exact xs_N0 fun p e R s m args below meth c H locs cells slots ls Q C K L r hcs kk => lv_land C.1 C.2.1 hd kk
  | lor =>
    obtain ⟨rfl, x, y, sk', rfl, rfl⟩ := xm_j2_spec hx
    exact xs_N0 fun p e R s m args below meth c H locs cells slots ls Q C K L r hcs kk => lv_lor C.1 C.2.1 hd kk
  | lxor =>
    obtain ⟨rfl, x, y, sk', rfl, rfl⟩ := xm_j2_spec hx
    exact xs_N0 fun p e R s m args below meth c H locs cells slots ls Q C K L r hcs kk => lv_lxor C.1 C.2.1 hd kk
  | lshl =>
    obtain ⟨rfl, x, y, sk', rfl, rfl⟩ := xm_jsh_spec hx
    exact xs_N0 fun p e R s m args below meth c H locs cells slots ls Q C K L r hcs kk => lv_lshl C.1 C.2.1 hd rfl kk
  | lshr =>
    obtain ⟨rfl, x, y, sk', rfl, rfl⟩ := xm_jsh_spec hx
    exact xs_N0 fun p e R s m args below meth c H locs cells slots ls Q C K L r hcs kk => lv_lshr C.1 C.2.1 hd rfl kk
  | lcmp =>
    have hx : (match sk with | .long y :: .long x :: sk => xm_ok n 1 (pc + 1, lo, .int (lg_cmp x y) :: sk, hp) | _ => none) = some (.inl z) := hx
    split at hx
    · obtain ⟨rfl, rfl⟩ := xm_ok_spec hx
      exact xs_N0 fun p e R s m args below meth c H locs cells slots ls Q C K L r hcs kk => W.lcmp C.1 C.2.1 hd kk
    · cases hx
  | i2l =>
    have hx : (match sk with | .int x :: sk => xm_ok n 1 (pc + 1, lo, .long x.toInt64 :: sk, hp) | _ => none) = some (.inl z) := hx
    split at hx
    · obtain ⟨rfl, rfl⟩ := xm_ok_spec hx
      exact xs_N0 fun p e R s m args below meth c H locs cells slots ls Q C K L r hcs kk => lv_i2l C.1 C.2.1 hd rfl kk
    · cases hx
  | l2i =>
    have hx : (match sk with | .long x :: sk => xm_ok n 1 (pc + 1, lo, .int x.toInt32 :: sk, hp) | _ => none) = some (.inl z) := hx
    split at hx
    · obtain ⟨rfl, rfl⟩ := xm_ok_spec hx
      exact xs_N0 fun p e R s m args below meth c H locs cells slots ls Q C K L r hcs kk => lv_l2i C.1 C.2.1 hd rfl kk
    · cases hx
  | dup =>
    have hx : xm_dup n pc lo sk hp = some (.inl z) := hx
    unfold xm_dup at hx
    split at hx
    · split at hx
      · rename_i hc
        obtain ⟨rfl, rfl⟩ := xm_ok_spec hx
        exact xs_N0 fun p e R s m args below meth c H locs cells slots ls Q C K L r hcs kk => lv_dup C.1 C.2.1 hd (decide_eq_true_eq.mp hc) kk
      · cases hx
    · cases hx
  | pop =>
    have hx : xm_pop n pc lo sk hp = some (.inl z) := hx
    unfold xm_pop at hx
    split at hx
    · split at hx
      · rename_i hc
        obtain ⟨rfl, rfl⟩ := xm_ok_spec hx
        exact xs_N0 fun p e R s m args below meth c H locs cells slots ls Q C K L r hcs kk => lv_pop C.1 C.2.1 hd (decide_eq_true_eq.mp hc) kk
      · cases hx
    · cases hx
  | dup_x1 =>
    have hx : xm_dx1 n pc lo sk hp = some (.inl z) := hx
    unfold xm_dx1 at hx
    split at hx
    · split at hx
      · rename_i hc
        obtain ⟨rfl, rfl⟩ := xm_ok_spec hx
        exact xs_N0 fun p e R s m args below meth c H locs cells slots ls Q C K L r hcs kk => lv_dup_x1 C.1 C.2.1 hd (decide_eq_true_eq.mp (Bool.and_eq_true _ _ ▸ hc).1) (decide_eq_true_eq.mp (Bool.and_eq_true _ _ ▸ hc).2) kk
      · cases hx
    · cases hx
  | dup2 =>
    have hx : xm_d22 n pc lo sk hp = some (.inl z) := hx
    unfold xm_d22 at hx
    split at hx
    · split at hx
      · rename_i hc
        obtain ⟨rfl, rfl⟩ := xm_ok_spec hx
        exact xs_N0 fun p e R s m args below meth c H locs cells slots ls Q C K L r hcs kk => lv_dup2_11 C.1 C.2.1 hd (decide_eq_true_eq.mp (Bool.and_eq_true _ _ ▸ hc).1) (decide_eq_true_eq.mp (Bool.and_eq_true _ _ ▸ hc).2) kk
      · cases hx
    · cases hx
  | dup_x2 =>
    have hx : xm_dx2 n pc lo sk hp = some (.inl z) := hx
    unfold xm_dx2 at hx
    split at hx
    · split at hx
      · rename_i hc
        simp only [Bool.and_eq_true] at hc
        obtain ⟨rfl, rfl⟩ := xm_ok_spec hx
        exact xs_N0 fun p e R s m args below meth c H locs cells slots ls Q C K L r hcs kk => lv_dup_x2 C.1 C.2.1 hd (decide_eq_true_eq.mp hc.1.1) (decide_eq_true_eq.mp hc.1.2) (decide_eq_true_eq.mp hc.2) kk
      · cases hx
    · cases hx
  | goto o =>
    obtain ⟨rfl, t, ht, ⟨-, rfl⟩ | ⟨hc, -⟩⟩ := xm_jmp_spec hx
    · exact xs_N0 fun p e R s m args below meth c H locs cells slots ls Q C K L r hcs kk => lv_goto C.1 C.2.1 hd ht kk
    · cases hc
  | if_icmp cc o =>
    have hx : xm_icmp n pc cc o lo sk hp = some (.inl z) := hx
    unfold xm_icmp at hx
    split at hx
    · obtain ⟨rfl, t, ht, hh⟩ := xm_jmp_spec hx
      cases cc with
      | eq =>
        rcases hh with ⟨hc, rfl⟩ | ⟨hc, rfl⟩
        · simp [xm_ci] at hc
          exact xs_N0 fun p e R s m args below meth c H locs cells slots ls Q C K L r hcs kk => lv_icmp_eq C.1 C.2.1 hd ht (fun _ => kk) (fun q => absurd q (by simp [hc]))
        · simp [xm_ci] at hc
          exact xs_N0 fun p e R s m args below meth c H locs cells slots ls Q C K L r hcs kk => lv_icmp_eq C.1 C.2.1 hd ht (fun q => absurd q (by simp [hc])) (fun _ => kk)
      | ne =>
        rcases hh with ⟨hc, rfl⟩ | ⟨hc, rfl⟩
        · simp [xm_ci] at hc
          exact xs_N0 fun p e R s m args below meth c H locs cells slots ls Q C K L r hcs kk => lv_icmp_ne C.1 C.2.1 hd ht (fun _ => kk) (fun q => absurd q (by simp [hc]))
        · simp [xm_ci] at hc
          exact xs_N0 fun p e R s m args below meth c H locs cells slots ls Q C K L r hcs kk => lv_icmp_ne C.1 C.2.1 hd ht (fun q => absurd q (by simp [hc])) (fun _ => kk)
      | lt =>
        rcases hh with ⟨hc, rfl⟩ | ⟨hc, rfl⟩
        · simp [xm_ci] at hc
          exact xs_N0 fun p e R s m args below meth c H locs cells slots ls Q C K L r hcs kk => lv_icmp_lt C.1 C.2.1 hd ht (fun _ => kk) (fun q => absurd q (by simp [hc]))
        · simp [xm_ci] at hc
          exact xs_N0 fun p e R s m args below meth c H locs cells slots ls Q C K L r hcs kk => lv_icmp_lt C.1 C.2.1 hd ht (fun q => absurd q (by simp [hc])) (fun _ => kk)
      | ge =>
        rcases hh with ⟨hc, rfl⟩ | ⟨hc, rfl⟩
        · simp [xm_ci] at hc
          exact xs_N0 fun p e R s m args below meth c H locs cells slots ls Q C K L r hcs kk => lv_icmp_ge C.1 C.2.1 hd ht (fun _ => kk) (fun q => absurd q (by simp [hc]))
        · simp [xm_ci] at hc
          exact xs_N0 fun p e R s m args below meth c H locs cells slots ls Q C K L r hcs kk => lv_icmp_ge C.1 C.2.1 hd ht (fun q => absurd q (by simp [hc])) (fun _ => kk)
      | gt =>
        rcases hh with ⟨hc, rfl⟩ | ⟨hc, rfl⟩
        · simp [xm_ci] at hc
          exact xs_N0 fun p e R s m args below meth c H locs cells slots ls Q C K L r hcs kk => lv_icmp_gt C.1 C.2.1 hd ht (fun _ => kk) (fun q => absurd q (by simp [hc]))
        · simp [xm_ci] at hc
          exact xs_N0 fun p e R s m args below meth c H locs cells slots ls Q C K L r hcs kk => lv_icmp_gt C.1 C.2.1 hd ht (fun q => absurd q (by simp [hc])) (fun _ => kk)
      | le =>
        rcases hh with ⟨hc, rfl⟩ | ⟨hc, rfl⟩
        · simp [xm_ci] at hc
          exact xs_N0 fun p e R s m args below meth c H locs cells slots ls Q C K L r hcs kk => lv_icmp_le C.1 C.2.1 hd ht (fun _ => kk) (fun q => absurd q (by simp [hc]))
        · simp [xm_ci] at hc
          exact xs_N0 fun p e R s m args below meth c H locs cells slots ls Q C K L r hcs kk => lv_icmp_le C.1 C.2.1 hd ht (fun q => absurd q (by simp [hc])) (fun _ => kk)
    · cases hx
  | ifCond cc o =>
    have hx : xm_if n pc cc o lo sk hp = some (.inl z) := hx
    unfold xm_if at hx
    split at hx
    · obtain ⟨rfl, t, ht, hh⟩ := xm_jmp_spec hx
      cases cc with
      | eq =>
        rcases hh with ⟨hc, rfl⟩ | ⟨hc, rfl⟩
        · simp [xm_ci] at hc
          exact xs_N0 fun p e R s m args below meth c H locs cells slots ls Q C K L r hcs kk => lv_if_eq C.1 C.2.1 hd ht (fun _ => kk) (fun q => absurd q (by simp [hc]))
        · simp [xm_ci] at hc
          exact xs_N0 fun p e R s m args below meth c H locs cells slots ls Q C K L r hcs kk => lv_if_eq C.1 C.2.1 hd ht (fun q => absurd q (by simp [hc])) (fun _ => kk)
      | ne =>
        rcases hh with ⟨hc, rfl⟩ | ⟨hc, rfl⟩
        · simp [xm_ci] at hc
          exact xs_N0 fun p e R s m args below meth c H locs cells slots ls Q C K L r hcs kk => lv_if_ne C.1 C.2.1 hd ht (fun _ => kk) (fun q => absurd q (by simp [hc]))
        · simp [xm_ci] at hc
          exact xs_N0 fun p e R s m args below meth c H locs cells slots ls Q C K L r hcs kk => lv_if_ne C.1 C.2.1 hd ht (fun q => absurd q (by simp [hc])) (fun _ => kk)
      | lt =>
        rcases hh with ⟨hc, rfl⟩ | ⟨hc, rfl⟩
        · simp [xm_ci] at hc
          exact xs_N0 fun p e R s m args below meth c H locs cells slots ls Q C K L r hcs kk => lv_if_lt C.1 C.2.1 hd ht (fun _ => kk) (fun q => absurd q (by simp [hc]))
        · simp [xm_ci] at hc
          exact xs_N0 fun p e R s m args below meth c H locs cells slots ls Q C K L r hcs kk => lv_if_lt C.1 C.2.1 hd ht (fun q => absurd q (by simp [hc])) (fun _ => kk)
      | ge =>
        rcases hh with ⟨hc, rfl⟩ | ⟨hc, rfl⟩
        · simp [xm_ci] at hc
          exact xs_N0 fun p e R s m args below meth c H locs cells slots ls Q C K L r hcs kk => lv_if_ge C.1 C.2.1 hd ht (fun _ => kk) (fun q => absurd q (by simp [hc]))
        · simp [xm_ci] at hc
          exact xs_N0 fun p e R s m args below meth c H locs cells slots ls Q C K L r hcs kk => lv_if_ge C.1 C.2.1 hd ht (fun q => absurd q (by simp [hc])) (fun _ => kk)
      | gt =>
        rcases hh with ⟨hc, rfl⟩ | ⟨hc, rfl⟩
        · simp [xm_ci] at hc
          exact xs_N0 fun p e R s m args below meth c H locs cells slots ls Q C K L r hcs kk => lv_if_gt C.1 C.2.1 hd ht (fun _ => kk) (fun q => absurd q (by simp [hc]))
        · simp [xm_ci] at hc
          exact xs_N0 fun p e R s m args below meth c H locs cells slots ls Q C K L r hcs kk => lv_if_gt C.1 C.2.1 hd ht (fun q => absurd q (by simp [hc])) (fun _ => kk)
      | le =>
        rcases hh with ⟨hc, rfl⟩ | ⟨hc, rfl⟩
        · simp [xm_ci] at hc
          exact xs_N0 fun p e R s m args below meth c H locs cells slots ls Q C K L r hcs kk => lv_if_le C.1 C.2.1 hd ht (fun _ => kk) (fun q => absurd q (by simp [hc]))
        · simp [xm_ci] at hc
          exact xs_N0 fun p e R s m args below meth c H locs cells slots ls Q C K L r hcs kk => lv_if_le C.1 C.2.1 hd ht (fun q => absurd q (by simp [hc])) (fun _ => kk)
    · cases hx
  | tableswitch dd lw hg os =>
    have hx : xm_tsw pc dd lw hg os lo sk hp = some (.inl z) := hx
    unfold xm_tsw at hx
    split at hx
    · rename_i x sk
      split at hx
      · rename_i t ht
        cases hx
        unfold xm_sw at ht
        split at ht
        · rename_i hout
          split at ht
          · rename_i h0
            cases ht
            exact xs_N0 fun p e R s m args below meth c H locs cells slots ls Q C K L r hcs kk => lv_tableOut C.1 C.2.1 hd hout (by unfold xm_tgt; omega) kk
          · cases ht
        · rename_i hin
          split at ht
          · rename_i oo ho
            split at ht
            · rename_i h0
              cases ht
              exact xs_N0 fun p e R s m args below meth c H locs cells slots ls Q C K L r hcs kk => lv_tableIn C.1 C.2.1 hd (fun q => hin (Or.inl q)) (fun q => hin (Or.inr q)) ho (by unfold xm_tgt; omega) kk
            · cases ht
          · cases ht
      · cases hx
    · cases hx
  | iaload =>
    exact xs_iald hd hx
  | baload =>
    exact xs_zald hd hx
  | laload =>
    exact xs_lald hd hx
  | iastore =>
    exact xs_iast hd hx
  | bastore =>
    exact xs_zast hd hx
  | lastore =>
    exact xs_last hd hx
  | arraylength =>
    exact xs_alen hd hx
  | newarray t =>
    exact xs_newa hd hx
  | getfield k =>
    exact xs_get hd hx
  | putfield k =>
    exact xs_put hd hx
  | new k =>
    exact xs_new hd hx
  | invokestatic k =>
    have hx : (if xp_ac M.2.2.2.2.1 k then xm_copy n pc M lo sk hp else if xp_mm M.2.2.2.2.1 k then xm_min n pc M lo sk hp else xm_calS n pc M k lo sk hp) = some (.inl z) := hx
    split at hx
    · rename_i h1
      exact xs_copy hd h1 hx
    · split at hx
      · rename_i h1
        exact xs_min hd h1 hx
      · exact absurd hx xm_calS_no
  | invokevirtual k =>
    exact absurd hx xm_calV_no
  | invokespecial k =>
    have hx : xm_calP n pc M k lo sk hp = some (.inl z) := hx
    unfold xm_calP at hx
    split at hx
    · rename_i h1
      split at hx
      · split at hx
        · rename_i hc
          exact xs_oi hd h1 hc hx
        · cases hx
      · cases hx
    · exact absurd hx xm_calP_no
  | ireturn =>
    exact absurd hx xm_end_no
  | lreturn =>
    exact absurd hx xm_end_no
  | areturn =>
    exact absurd hx xm_end_no
  | return_ =>
    exact absurd hx xm_end_no
  | _ => exact absurd hx (fun h => by cases h)
end XV
