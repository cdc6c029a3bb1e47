/-! THE SMALL MACHINE IS SOUND: what it answers, the machine of the Statement does -/
section XS
variable {l : Launch} {D : va_G} {aT : FieldType → ClassId} {B : Nat} {scr : Cell}
def xs_K (D : va_G) (aT : FieldType → ClassId) (scr : Cell) (U : State) : Prop :=
  va_K D xp_cl [] U ∧ (∀ ty, ty = FieldType.int ∨ ty = .boolean ∨ ty = .long → ArrOfT U (aT ty) ty ∧ U.vm.findClass ("[" ++ ty.toString) = some (aT ty)) ∧ U.isArrayOf scr .int ∧ ∀ w ∈ xp_ne, va_Nw w U
def xs_E (D : va_G) (aT : FieldType → ClassId) (B : Nat) (scr : Cell) (H : Heap) (a : Nat) (e : xm_E) : Prop := match e with
  | .inl (ty, x) => B ≤ a ∧ (ty = .int ∨ ty = .boolean ∨ ty = .long) ∧ H[a]? = some (vp_cell (aT ty) x)
  | .inr (.inl o) => B ≤ a ∧ va_at D xp_cl (a, .inr o) H
  | .inr (.inr (L, f)) => a < B ∧ H[a]? = some scr ∧ scr.vm ≠ .unknown ∧ scr.slots.size = L ∧ ∀ i, i < L → scr.slots[i]? = some (.int (f i))
def xs_R (D : va_G) (aT : FieldType → ClassId) (B : Nat) (scr : Cell) (hp : xm_H) (H : Heap) : Prop := hp.2.1 = H.size ∧ B ≤ H.size ∧ ∀ a e, hp.1 a = some e → xs_E D aT B scr H a e
theorem xs_E.kept {H H1 : Heap} {a : Nat} {e : xm_E} (h : xs_E D aT B scr H a e) (hq : H1[a]? = H[a]?) : xs_E D aT B scr H1 a e := by
  rcases e with ⟨ty, x⟩ | o | ⟨L, f⟩
  · exact ⟨h.1, h.2.1, hq.trans h.2.2⟩
  · exact ⟨h.1, h.2.kept hq⟩
  · exact ⟨h.1, hq.trans h.2.1, h.2.2⟩
theorem xs_E.lt {H : Heap} {a : Nat} {e : xm_E} (h : xs_E D aT B scr H a e) : a < H.size := by
  rcases e with ⟨ty, x⟩ | o | ⟨L, f⟩
  · exact (Array.getElem?_eq_some_iff.mp h.2.2).1
  · exact h.2.lt
  · exact (Array.getElem?_eq_some_iff.mp h.2.1).1
theorem xs_R.up {hp : xm_H} {H H1 : Heap} {a : Nat} {e : xm_E} (h : xs_R D aT B scr hp H) (he : xs_E D aT B scr H1 a e) (z : H1.size = H.size) (oq : ∀ q, q ≠ a → H1[q]? = H[q]?) : xs_R D aT B scr (xm_up hp a e) H1 := by
  refine ⟨h.1.trans z.symm, by rw [z]; exact h.2.1, fun q e' hq => ?_⟩
  by_cases hqa : q = a
  · subst hqa
    have : some e = some e' := (xm_set_self hp.1 q e).symm.trans hq
    cases this
    exact he
  · have h1 : hp.1 q = some e' := (xm_set_ne hqa).symm.trans hq
    exact (h.2.2 q e' h1).kept (oq q hqa)
theorem xs_R.add {hp : xm_H} {H H1 : Heap} {e : xm_E} {n : Nat} (h : xs_R D aT B scr hp H) (he : xs_E D aT B scr H1 H.size e) (z : H1.size = H.size + 1) (oq : ∀ q, q < H.size → H1[q]? = H[q]?) : xs_R D aT B scr (xm_add hp e n) H1 := by
  refine ⟨by show hp.2.1 + 1 = _; rw [h.1, z], by rw [z]; exact Nat.le_succ_of_le h.2.1, fun q e' hq => ?_⟩
  by_cases hqa : q = hp.2.1
  · subst hqa
    have : some e = some e' := (xm_set_self hp.1 hp.2.1 e).symm.trans hq
    cases this
    rw [h.1]; exact he
  · have h1 : hp.1 q = some e' := (xm_set_ne hqa).symm.trans hq
    exact (h.2.2 q e' h1).kept (oq q (h.2.2 q e' h1).lt)
theorem xs_K.warm {s U : State} (hW : s.WarmedH U.vm) (h : xs_K D aT scr s) : xs_K D aT scr U := by
  refine ⟨va_K.moved hW.alike h.1, fun ty hty => ⟨arrOfT_moved hW.alike (h.2.1 ty hty).1, by rw [hW.alike.findClass]; exact (h.2.1 ty hty).2⟩, State.isArrayOf_alike hW.alike h.2.2.1, fun w hw => ?_⟩
  exact xp_ne_warm w hw hW (h.2.2.2 w hw)
/-- locals -/
def xs_L (ls : Array Slot) (nL : Nat) (lo : xm_L) : Prop := ls.size = nL ∧ lv_wf ls ∧ lo.length = nL ∧ ∀ (i : Nat) (v : Value), lo[i]? = some (some v) → ls[i]? = some (Slot.val v)
def xs_as (lo : xm_L) : List (Nat × Value) := (List.range lo.length).filterMap fun i => match lo[i]? with
  | some (some v) => some (i, v)
  | _ => none
theorem xs_as_mem {lo : xm_L} {i : Nat} {v : Value} : (i, v) ∈ xs_as lo ↔ lo[i]? = some (some v) := by
  unfold xs_as
  rw [List.mem_filterMap]
  constructor
  · rintro ⟨k, -, hk⟩
    split at hk
    · rename_i w hw
      simp only [Option.some.injEq, Prod.mk.injEq] at hk
      obtain ⟨rfl, rfl⟩ := hk
      exact hw
    · cases hk
  · intro h
    refine ⟨i, List.mem_range.mpr (List.getElem?_eq_some_iff.mp h).1, ?_⟩
    rw [h]
theorem xs_L.has {ls : Array Slot} {nL : Nat} {lo : xm_L} (h : xs_L ls nL lo) : lv_has ls nL (xs_as lo) := ⟨h.1, h.2.1, fun q hq => h.2.2.2 q.1 q.2 (xs_as_mem.mp hq)⟩
theorem xm_kill_len (lo : xm_L) (i : Nat) : (xm_kill lo i).length = lo.length := by
  unfold xm_kill
  split
  · rfl
  · split
    · split <;> simp
    · rfl
theorem xm_kill_get {lo : xm_L} {i k : Nat} {v : Value} (h : (xm_kill lo i)[k]? = some (some v)) : lo[k]? = some (some v) ∧ ¬ (k + 1 = i ∧ v.category = 2) := by
  unfold xm_kill at h
  split at h
  · exact ⟨h, fun q => by omega⟩
  · rename_i j
    split at h
    · rename_i w hw
      split at h
      · rename_i hc
        by_cases hkj : k = j
        · subst hkj
          rw [List.getElem?_set_self (List.getElem?_eq_some_iff.mp hw).1] at h
          cases h
        · rw [List.getElem?_set_ne (Ne.symm hkj)] at h
          exact ⟨h, fun q => by omega⟩
      · rename_i hc
        refine ⟨h, fun q => ?_⟩
        have : k = j := by omega
        subst this
        rw [hw] at h
        cases h
        exact hc q.2
    · rename_i hno
      refine ⟨h, fun q => ?_⟩
      have : k = j := by omega
      subst this
      exact hno v h
theorem xs_st1 {ls : Array Slot} {nL : Nat} {lo : xm_L} {i : Nat} {v : Value} (h : xs_L ls nL lo) {ls' : Array Slot} (h' : lv_has ls' nL ((i, v) :: (xs_as lo).filter (fun q => !(q.1 == i) && !(q.1 + 1 == i && q.2.category == 2)))) : xs_L ls' nL (xm_st1 lo i v) := by
  refine ⟨h'.1, h'.2.1, by unfold xm_st1; rw [List.length_set, xm_kill_len]; exact h.2.2.1, fun k w hk => ?_⟩
  unfold xm_st1 at hk
  by_cases hki : k = i
  · subst hki
    have hlt := (List.getElem?_eq_some_iff.mp hk).1
    rw [List.length_set] at hlt
    rw [List.getElem?_set_self hlt] at hk
    cases hk
    exact h'.2.2 (k, v) List.mem_cons_self
  · rw [List.getElem?_set_ne (Ne.symm hki)] at hk
    obtain ⟨h1, h2⟩ := xm_kill_get hk
    refine h'.2.2 (k, w) (List.mem_cons_of_mem _ (List.mem_filter.mpr ⟨xs_as_mem.mpr h1, ?_⟩))
    simp [hki]
    exact Decidable.not_and_iff_or_not.mp h2
theorem xs_st2 {ls : Array Slot} {nL : Nat} {lo : xm_L} {i : Nat} {v : Value} (h : xs_L ls nL lo) {ls' : Array Slot} (h' : lv_has ls' nL ((i, v) :: (xs_as lo).filter (fun q => !(q.1 == i) && (!(q.1 == i + 1) && !(q.1 + 1 == i && q.2.category == 2))))) : xs_L ls' nL (xm_st2 lo i v) := by
  refine ⟨h'.1, h'.2.1, by unfold xm_st2; rw [List.length_set, List.length_set, xm_kill_len]; exact h.2.2.1, fun k w hk => ?_⟩
  unfold xm_st2 at hk
  by_cases hk1 : k = i + 1
  · subst hk1
    have hlt := (List.getElem?_eq_some_iff.mp hk).1
    rw [List.length_set] at hlt
    rw [List.getElem?_set_self hlt] at hk
    cases hk
  rw [List.getElem?_set_ne (Ne.symm hk1)] at hk
  by_cases hki : k = i
  · subst hki
    have hlt := (List.getElem?_eq_some_iff.mp hk).1
    rw [List.length_set] at hlt
    rw [List.getElem?_set_self hlt] at hk
    cases hk
    exact h'.2.2 (k, v) List.mem_cons_self
  · rw [List.getElem?_set_ne (Ne.symm hki)] at hk
    obtain ⟨h1, h2⟩ := xm_kill_get hk
    refine h'.2.2 (k, w) (List.mem_cons_of_mem _ (List.mem_filter.mpr ⟨xs_as_mem.mpr h1, ?_⟩))
    simp [hki, hk1]
    exact Decidable.not_and_iff_or_not.mp h2
theorem xm_lay_get : ∀ (vs : List Value) (o i : Nat) (v : Value), (xm_lay vs)[i]? = some (some v) → (o + i, v) ∈ lv_args o vs
  | [], _, _, _, h => by simp [xm_lay] at h
  | u :: vs, o, i, v, h => by
    unfold xm_lay at h
    unfold lv_args
    split at h
    · rename_i hc
      rw [if_pos hc]
      match i, h with
      | 0, h => simp at h; subst h; exact List.mem_cons_self
      | 1, h => simp at h
      | i + 2, h =>
        rw [List.getElem?_cons_succ, List.getElem?_cons_succ] at h
        have := xm_lay_get vs (o + 2) i v h
        exact List.mem_cons_of_mem _ (by rw [show o + (i + 2) = o + 2 + i by omega]; exact this)
    · rename_i hc
      rw [if_neg hc]
      match i, h with
      | 0, h => simp at h; subst h; exact List.mem_cons_self
      | i + 1, h =>
        rw [List.getElem?_cons_succ] at h
        have := xm_lay_get vs (o + 1) i v h
        exact List.mem_cons_of_mem _ (by rw [show o + (i + 1) = o + 1 + i by omega]; exact this)
theorem xm_lay_len : ∀ vs : List Value, (xm_lay vs).length = (lg_sl vs).length
  | [] => rfl
  | u :: vs => by
    have ih := xm_lay_len vs
    unfold xm_lay
    show _ = (List.flatMap _ (u :: vs)).length
    rw [List.flatMap_cons, List.length_append]
    split
    · show (xm_lay vs).length + 1 + 1 = 2 + (lg_sl vs).length
      rw [ih]; omega
    · show (xm_lay vs).length + 1 = 1 + (lg_sl vs).length
      rw [ih]; omega
theorem xs_entry (vs : List Value) {n : Nat} (h : (xm_lay vs).length ≤ n) : xs_L ((lg_sl vs ++ List.replicate (n - (lg_sl vs).length) Slot.unset).toArray) n (xm_ent n vs) := by
  have h0 : (lg_sl vs).length ≤ n := by rw [← xm_lay_len]; exact h
  obtain ⟨h1, h2, h3⟩ := lv_entry vs h0
  refine ⟨h1, h2, by unfold xm_ent; rw [List.length_append, List.length_replicate]; omega, fun i v hi => ?_⟩
  unfold xm_ent at hi
  by_cases hl : i < (xm_lay vs).length
  · rw [List.getElem?_append_left hl] at hi
    have := xm_lay_get vs 0 i v hi
    rw [Nat.zero_add] at this
    exact h3 _ this
  · rw [List.getElem?_append_right (by omega)] at hi
    rw [List.getElem?_replicate] at hi
    split at hi <;> cases hi
end XS
