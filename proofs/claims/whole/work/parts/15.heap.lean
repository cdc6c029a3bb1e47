section XU
variable {l : Launch} {D : va_G} {aT : FieldType → ClassId} {B : Nat} {scr : Cell}
theorem xp_on_cl {ci N : Nat} {C : String} {T : u_T} (h : xp_cl[ci]? = some (C, T, N)) : xp_on[ci]? = some C := by
  match ci, h with
  | 0, h => cases h; rfl
  | 1, h => cases h; rfl
  | 2, h => cases h; rfl
  | 3, h => cases h; rfl
  | 4, h => cases h; rfl
  | 5, h => cases h; rfl
  | 6, h => cases h; rfl
  | 7, h => cases h; rfl
  | 8, h => cases h; rfl
  | n + 9, h => cases h
theorem xp_fl_spec {oc idx ci k : Nat} {fin : Bool} {ty : FieldType} {own : String} (h : xp_fl oc idx = some (ci, k, fin, ty)) (ho : xp_on[oc]? = some own) : ∃ (C : String) (T : u_T) (N : Nat), xp_cl[ci]? = some (C, T, N) ∧ k < N ∧ (T k).2.2.2 = fin ∧ parseFieldDescriptor (T k).2.2.1 = some ty ∧ (T k).1 = C ∧ Cond.fieldLink own idx C (T k).2.1 (T k).2.2.1 ∈ xp_tb := by
  obtain ⟨p, hp⟩ := xk_all_of xk_fl_all h
  unfold xk_fl at hp
  rw [ho] at hp
  split at hp
  · rename_i own' C T N h1 h2
    cases h1
    simp only [Bool.and_eq_true, decide_eq_true_eq] at hp
    exact ⟨C, T, N, h2, hp.1, hp.2.1, hp.2.2.1, hp.2.2.2.1, xk_w_mem hp.2.2.2.2⟩
  · cases hp
theorem xs_get {M : xm_M} {n pc idx : Nat} {lo : xm_L} {sk : List Value} {hp : xm_H} {z : xm_S} (hd : decode M.2.1 pc = .ok (.getfield idx, n)) (hx : xm_get n pc M.2.2.2.2.1 idx lo sk hp = some (.inl z)) : xs_N l D aT B scr M pc lo sk hp z.1 z.2.1 z.2.2.1 z.2.2.2 := by
  unfold xm_get at hx
  split at hx
  · rename_i a sk
    split at hx
    · rename_i ci k fin ty cj fs hf ho
      split at hx
      · rename_i hc
        subst hc
        split at hx
        · rename_i v hv
          obtain ⟨rfl, rfl⟩ := xm_ok_spec hx
          refine xs_N0 fun p e R s m args below meth c H locs cells slots ls Q C K L r hcs kk => ?_
          obtain ⟨c1, c2, c3, c4, c5, c6, c7, c8, c9⟩ := C
          obtain ⟨Cn, T, N, g1, g2, g3, g4, g5, g6⟩ := xp_fl_spec hf c4
          have he : hp.1 a = some (.inr (.inl (cj, fs))) := by
            unfold xm_obj at ho
            split at ho
            · rename_i x hx'; cases ho; exact hx'
            · cases ho
          exact va_get (own := M.1.cls) (ref := Cn) c1 c2 c6 (xp_cl_in g1) c5 K.1 (xs_P1 (r.2.2 _ _ he).2) 0 rfl g1 k g2 (c6 _ g6) (fun x hx => by rw [g5] at hx; exact hx) hv hd kk
        · cases hx
      · cases hx
    · cases hx
  · cases hx
theorem xs_put {M : xm_M} {n pc idx : Nat} {lo : xm_L} {sk : List Value} {hp : xm_H} {z : xm_S} (hd : decode M.2.1 pc = .ok (.putfield idx, n)) (hx : xm_put n pc M.2.2.2.2.1 idx M.2.2.2.2.2.2.2 lo sk hp = some (.inl z)) : xs_N l D aT B scr M pc lo sk hp z.1 z.2.1 z.2.2.1 z.2.2.2 := by
  unfold xm_put at hx
  split at hx
  · rename_i v a sk
    split at hx
    · rename_i ci k fin ty cj fs hf ho
      split at hx
      · rename_i hc
        obtain ⟨rfl, hk, hfin, hnar, hfit⟩ := hc
        obtain ⟨rfl, rfl⟩ := xm_ok_spec hx
        have he : hp.1 a = some (.inr (.inl (cj, fs))) := by
          unfold xm_obj at ho
          split at ho
          · rename_i x hx'; cases ho; exact hx'
          · cases ho
        refine xs_NU fun p e R s m args below meth c H locs cells slots ls Q C K L r hcs kk => ?_
        obtain ⟨c1, c2, c3, c4, c5, c6, c7, c8, c9⟩ := C
        obtain ⟨Cn, T, N, g1, g2, g3, g4, g5, g6⟩ := xp_fl_spec hf c4
        obtain ⟨ty0, t1, t2⟩ := xp_cl_ty g1
        have hin := xp_cl_in g1
        have hBa : B ≤ a := (r.2.2 _ _ he).1
        have hap := va_apart (own := M.1.cls) c6 hin ty0 t1 t2 K.1 g1
        obtain ⟨r0, h1, cell, q1, q2, q3, q4⟩ := (r.2.2 _ _ he).2
        have hr : r0 = (Cn, T, N) := Option.some.inj (h1.symm.trans g1)
        subst hr
        obtain ⟨hS, hfc, kC, hkC, hkind⟩ := K.1.1 cj _ g1
        obtain ⟨cf, kf, fi, f, hi, hsl⟩ := hS k g2
        have hi' : s.fieldFound? Cn (T k).2.1 (T k).2.2.1 = some (cf, kf, fi, f) := by rw [g5] at hi; exact hi
        have hlay := c6 _ (hin _ (u_in_lay g2))
        have hst := (u_facts hfc hkC (u_lays c6 hin g2) hi).1
        have fin1 : ∀ H' : Heap, H'[a]? = some (cell.setSlot ((D.2 cj) k) v) → H'.size = H.size → (∀ q, q ≠ a → H'[q]? = H[q]?) → W p l e R s m args below meth c H' (locs ++ [⟨a, (D.2 cj) k⟩]) cells slots Q (F0 m (pc + 3) ls sk) := by
          intro H' e1 e2 e3
          refine kk H' [⟨a, (D.2 cj) k⟩] ⟨hBa, _, g1, t_OB.to (V := updV (vp_V fs) k v) ⟨_, e1, q2, q3, t_set q4 hap g2 v⟩ (fun j _ => vp_updV_set hk v j)⟩ e2 e3 (fun q hq => ?_)
          rw [List.mem_singleton.mp hq]; exact hBa
        by_cases hff : fin = false
        · unfold u_lay at hlay
          rw [if_neg (by rw [g3, hff]; decide)] at hlay
          have h6 := u_store hfc hkC hkind hlay hi g4 hnar hfit
          refine W.putK (ref := Cn) c1 c2 (f := f) ⟨c5, c6 _ g6, ⟨_, _, _, hi'⟩, hst⟩ (by rw [q2]; exact h6) q1 q3 (by rw [hsl]; exact k2_hasslot (q4 k g2)) rfl rfl hd fun H' e1 e2 e3 => ?_
          rw [hsl] at e1 ⊢
          exact fin1 H' e1 e2 e3
        · have hft : fin = true := by simpa using hff
          rcases hfin with hfin | ⟨hini, hoc⟩
          · exact absurd hfin hff
          unfold u_lay at hlay
          rw [if_pos (by rw [g3, hft])] at hlay
          have hCn : Cn = M.1.cls := by
            have hon : xp_on[cj]? = some M.1.cls := by rw [← hoc]; exact c4
            have := xp_on_cl g1
            exact Option.some.inj (this.symm.trans hon)
          have hcf : m.cls = cf := by
            obtain ⟨_, _, c', _, _, _, -, -, hf', -, -, -, hown2, -⟩ := Cond.laysFinal_spec hlay
            have e1 : c' = cf := by have := hi.symm.trans hf'; simp at this; exact this.1.symm
            rw [g5, hCn] at hown2
            rw [← e1]; exact Option.some.inj (c5.symm.trans hown2)
          have h6 := u_fits hfc hkC hkind (Or.inr hlay) hi g4 hnar hfit
          refine W.putFinK (ref := Cn) c1 c2 c5 (c6 _ g6) hi' hst hcf (c7 hini) (by rw [q2]; exact h6) q1 q3 (by rw [hsl]; exact k2_hasslot (q4 k g2)) rfl rfl hd fun H' e1 e2 e3 => ?_
          rw [hsl] at e1 ⊢
          exact fin1 H' e1 e2 e3
      · cases hx
    · cases hx
  · cases hx
theorem xs_new {M : xm_M} {n pc idx : Nat} {lo : xm_L} {sk : List Value} {hp : xm_H} {z : xm_S} (hd : decode M.2.1 pc = .ok (.new idx, n)) (hx : xm_new n pc M.2.2.2.2.1 idx lo sk hp = some (.inl z)) : xs_N l D aT B scr M pc lo sk hp z.1 z.2.1 z.2.2.1 z.2.2.2 := by
  unfold xm_new at hx
  split at hx
  · rename_i ci fs hf
    obtain ⟨rfl, rfl⟩ := xm_ok_spec hx
    refine xs_NA fun p e R s m args below meth c H locs cells slots ls Q C K L r hc hs kk => ?_
    obtain ⟨c1, c2, c3, c4, c5, c6, c7, c8, c9⟩ := C
    obtain ⟨pp, hpp⟩ := xk_all_of xk_nw_all hf
    unfold xk_nw at hpp
    rw [c4] at hpp
    split at hpp
    · rename_i own Cn T N p1 p2 ty h1 g1 h3 h4
      cases h1
      simp only [Bool.and_eq_true, decide_eq_true_eq] at hpp
      obtain ⟨w1, w2, w3, hlen, hall⟩ := hpp
      have hall' : ∀ k, k < N → defaultValue (ty k) = vp_V fs k ∧ parseFieldDescriptor (T k).2.2.1 = some (ty k) := by
        intro k hk
        have := List.all_eq_true.mp hall k (List.mem_range.mpr hk)
        simpa only [Bool.and_eq_true, decide_eq_true_eq] using this
      have hKn := K.1.1 ci _ g1
      rw [hlen] at hs kk
      refine W.newcK c1 c2 c5 (c6 _ (xk_w_mem w1)) (c6 _ (xk_w_mem w2)) (c6 _ (xk_w_mem w3)) rfl hd hc hs hKn.2.1 rfl fun H1 kC hkC e1 z1 o1 => ?_
      have := kk H1 ⟨r.2.1, _, g1, (u_born ty c6 (xp_cl_in g1) hKn hkC e1 (fun k hk => (hall' k hk).2)).to (fun k hk => (hall' k hk).1)⟩ z1 o1
      rw [r.1] at this
      exact this
    · cases hpp
  · cases hx
theorem xs_newa {M : xm_M} {n pc : Nat} {t : ArrayType} {lo : xm_L} {sk : List Value} {hp : xm_H} {z : xm_S} (hd : decode M.2.1 pc = .ok (.newarray t, n)) (hx : xm_newa n pc t lo sk hp = some (.inl z)) : xs_N l D aT B scr M pc lo sk hp z.1 z.2.1 z.2.2.1 z.2.2.2 := by
  unfold xm_newa at hx
  split at hx
  · rename_i k sk
    split at hx
    · cases hx
    · rename_i hk
      split at hx
      · rename_i h8
        split at hx
        · rename_i x hb
          obtain ⟨rfl, rfl⟩ := xm_ok_spec hx
          refine xs_NA fun p e R s m args below meth c H locs cells slots ls Q C K L r hc hs kk => ?_
          obtain ⟨c1, c2, c3, c4, c5, c6, c7, c8, c9⟩ := C
          have hb8 : k.toNatClampNeg * componentBytes (newarray.typeOf t) ≤ 536870912 := by
            cases t <;> first | (cases hb; done) | exact Nat.le_trans (Nat.mul_le_mul_left _ (by decide)) h8
          have hw : (Cond.arrayClass (newarray.typeOf t)).before args s = true := by
            cases t <;> first | (cases hb; done) | exact c6 _ (xk_w_mem xk_arr_int) | exact c6 _ (xk_w_mem xk_arr_boolean) | exact c6 _ (xk_w_mem xk_arr_long)
          refine va_newaK c1 c2 hw rfl hd rfl hk rfl hb8 hc hs rfl fun H1 cA e1 z1 o1 hAr hNm => ?_
          have hx1 : xs_E D aT B scr H1 H.size x := by
            cases t <;> first | (cases hb; done) | skip
            · cases hb
              have hcA : cA = aT .boolean := Option.some.inj (hNm.symm.trans (K.2.1 .boolean (Or.inr (Or.inl rfl))).2)
              subst hcA
              exact ⟨r.2.1, Or.inr (Or.inl rfl), e1⟩
            · cases hb
              have hcA : cA = aT .int := Option.some.inj (hNm.symm.trans (K.2.1 .int (Or.inl rfl)).2)
              subst hcA
              exact ⟨r.2.1, Or.inl rfl, e1⟩
            · cases hb
              have hcA : cA = aT .long := Option.some.inj (hNm.symm.trans (K.2.1 .long (Or.inr (Or.inr rfl))).2)
              subst hcA
              exact ⟨r.2.1, Or.inr (Or.inr rfl), e1⟩
          have := kk H1 hx1 z1 o1
          rw [r.1] at this
          exact this
        · cases hx
      · cases hx
  · cases hx
end XU
