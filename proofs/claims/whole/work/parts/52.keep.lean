/-! the script stays: no instruction writes an entry of its kind -/
def kps (hp hp' : xm_H) : Prop := hp.2.1 ≤ hp'.2.1 ∧ ∀ b x, b < hp.2.1 → hp.1 b = some (.inr (.inr x)) → hp'.1 b = some (.inr (.inr x))
theorem kps.refl (hp : xm_H) : kps hp hp := ⟨Nat.le_refl _, fun _ _ _ h => h⟩
theorem kps.trans {a b c : xm_H} (h1 : kps a b) (h2 : kps b c) : kps a c := ⟨Nat.le_trans h1.1 h2.1, fun q x hq h => h2.2 q x (Nat.lt_of_lt_of_le hq h1.1) (h1.2 q x hq h)⟩
theorem kps_inl {hp : xm_H} {a : Nat} {y : FieldType × vp_A} {e : xm_E} (h : hp.1 a = some (.inl y)) : kps hp (xm_up hp a e) := by
  refine ⟨Nat.le_refl _, fun b x hb hx => ?_⟩
  have hba : b ≠ a := fun q => by subst q; rw [h] at hx; cases hx
  exact (xm_set_ne hba).trans hx
theorem kps_obj {hp : xm_H} {a : Nat} {y : Nat × List Value} {e : xm_E} (h : xm_obj hp a = some y) : kps hp (xm_up hp a e) := by
  refine ⟨Nat.le_refl _, fun b x hb hx => ?_⟩
  have hba : b ≠ a := fun q => by subst q; unfold xm_obj at h; rw [hx] at h; cases h
  exact (xm_set_ne hba).trans hx
theorem kps_add (hp : xm_H) (e : xm_E) (n : Nat) : kps hp (xm_add hp e n) := by
  refine ⟨Nat.le_succ _, fun b x hb hx => ?_⟩
  have hba : b ≠ hp.2.1 := Nat.ne_of_lt hb
  exact (xm_set_ne hba).trans hx
def hpOf : xm_T → xm_H
  | .inl y => y.2.2.2
  | .inr (.inl r) => r.2
  | .inr (.inr (_, y)) => y.2.2.2
theorem kps_ok {n k : Nat} {x : xm_S} {T : xm_T} {hp : xm_H} (h : xm_ok n k x = some T) (g : kps hp x.2.2.2) : kps hp (hpOf T) := by
  unfold xm_ok at h
  split at h
  · cases h; exact g
  · cases h
theorem kps_jmp {n pc : Nat} {off : Int} {c : Bool} {lo : xm_L} {sk : List Value} {hp : xm_H} {T : xm_T} (h : xm_jmp n pc off c lo sk hp = some T) : kps hp (hpOf T) := by
  unfold xm_jmp at h
  split at h
  · split at h <;> cases h <;> exact kps.refl _
  · cases h
set_option maxHeartbeats 2000000 in
theorem kps_ex {M : xm_M} {pc : Nat} {lo : xm_L} {sk : List Value} {hp : xm_H} {n : Nat} {i : Instr} {T : xm_T} (h : xm_ex M pc lo sk hp n i = some T) : kps hp (hpOf T) := by
  cases i <;> simp only [xm_ex, xm_ld, xm_sto, xm_stJ, xm_i2, xm_i1, xm_d2, xm_j2, xm_jsh, xm_iald, xm_zald, xm_lald, xm_iast, xm_zast, xm_last, xm_alen, xm_newa, xm_get, xm_put, xm_new, xm_calS, xm_calV, xm_calP, xm_copy, xm_min, xm_end, xm_icmp, xm_if, xm_tsw, xm_inc, xm_dup, xm_dx1, xm_dx2, xm_d22, xm_pop] at h
  all_goals (repeat' (first | (cases h; done) | split at h))
  all_goals (first | exact kps_ok h (kps.refl _) | exact kps_jmp h | (cases h; exact kps.refl _) | exact kps_ok h (kps_inl (by assumption)) | exact kps_ok h (kps_obj (by assumption)) | exact kps_ok h (kps_add _ _ _))
theorem kps_step {j : Nat} {x : xm_S} {T : xm_T} (h : xm_step j x = some T) : kps x.2.2.2 (hpOf T) := by
  unfold xm_step at h
  split at h
  · split at h
    · exact kps_ex h
    · cases h
  · cases h
theorem kps_run : ∀ n j x r, xm_run n j x = some r → kps x.2.2.2 r.2 := by
  intro n
  induction n with
  | zero => intro j x r h; cases h
  | succ n ih =>
    intro j x r h
    rw [xm_run] at h
    split at h
    · rename_i y hy
      exact (kps_step hy).trans (ih j y r h)
    · rename_i r' hy
      cases h
      exact kps_step hy
    · rename_i j' as y hy
      have hk := kps_step hy
      split at h
      · rename_i z hz
        split at h
        · rename_i r' hr
          have h1 := ih j' z r' hr
          have hzh : z.2.2.2 = y.2.2.2 := by
            unfold xm_start at hz
            split at hz
            · split at hz
              · cases hz; rfl
              · cases hz
            · cases hz
          rw [hzh] at h1
          exact (hk.trans h1).trans (ih j _ r h)
        · cases h
      · cases h
    · cases h
theorem kps_call {j : Nat} {as : List Value} {hp : xm_H} {r : xm_R} (h : xm_call j as hp = some r) : kps hp r.2 := by
  unfold xm_call at h
  split at h
  · rename_i z hz
    obtain ⟨n, hn⟩ := xm_out_iff.mp h
    have h1 := kps_run n j z r hn
    have hzh : z.2.2.2 = hp := by
      unfold xm_start at hz
      split at hz
      · split at hz
        · cases hz; rfl
        · cases hz
      · cases hz
    rw [hzh] at h1
    exact h1
  · cases h
