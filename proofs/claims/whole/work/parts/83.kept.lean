/-! objects keep their class; the script's reads; the first state -/
def kpc (hp hp' : xm_H) : Prop := hp.2.1 ≤ hp'.2.1 ∧ ∀ a c, a < hp.2.1 → xm_cls hp a = some c → xm_cls hp' a = some c
theorem kpc.refl (hp : xm_H) : kpc hp hp := ⟨Nat.le_refl _, fun _ _ _ h => h⟩
theorem kpc.trans {a b c : xm_H} (h1 : kpc a b) (h2 : kpc b c) : kpc a c := ⟨Nat.le_trans h1.1 h2.1, fun q x hq h => h2.2 q x (Nat.lt_of_lt_of_le hq h1.1) (h1.2 q x hq h)⟩
theorem xm_cls_cg {hp hp' : xm_H} {a : Nat} (h : hp'.1 a = hp.1 a) : xm_cls hp' a = xm_cls hp a := by unfold xm_cls; rw [h]
theorem kpc_inl {hp : xm_H} {a : Nat} {y : FieldType × vp_A} {e : xm_E} (h : hp.1 a = some (.inl y)) : kpc hp (xm_up hp a e) := by
  refine ⟨Nat.le_refl _, fun b c hb hx => ?_⟩
  have hba : b ≠ a := fun q => by subst q; unfold xm_cls at hx; rw [h] at hx; cases hx
  exact (xm_cls_cg (xm_set_ne hba)).trans hx
theorem kpc_obj {hp : xm_H} {a cj ci : Nat} {fs gs : List Value} {X : Prop} (h : xm_obj hp a = some (cj, fs)) (h2 : cj = ci ∧ X) : kpc hp (xm_up hp a (.inr (.inl (ci, gs)))) := by
  refine ⟨Nat.le_refl _, fun b c hb hx => ?_⟩
  by_cases hba : b = a
  · subst hba
    have hc : xm_cls hp b = some cj := by
      unfold xm_obj at h
      unfold xm_cls
      split at h
      · rename_i y hy
        rw [hy]
        injection h with h
        rw [h]
      · cases h
    rw [hc] at hx
    injection hx with hx
    rw [← hx, h2.1]
    unfold xm_cls xm_up
    dsimp only
    rw [xm_set_self]
  · exact (xm_cls_cg (xm_set_ne hba)).trans hx
theorem kpc_add (hp : xm_H) (e : xm_E) (n : Nat) : kpc hp (xm_add hp e n) := by
  refine ⟨Nat.le_succ _, fun b c hb hx => ?_⟩
  have hba : b ≠ hp.2.1 := Nat.ne_of_lt hb
  exact (xm_cls_cg (xm_set_ne hba)).trans hx
theorem kpc_ok {n k : Nat} {x : xm_S} {T : xm_T} {hp : xm_H} (h : xm_ok n k x = some T) (g : kpc hp x.2.2.2) : kpc hp (hpOf T) := by
  unfold xm_ok at h
  split at h
  · cases h; exact g
  · cases h
theorem kpc_jmp {n pc : Nat} {off : Int} {c : Bool} {lo : xm_L} {sk : List Value} {hp : xm_H} {T : xm_T} (h : xm_jmp n pc off c lo sk hp = some T) : kpc hp (hpOf T) := by
  unfold xm_jmp at h
  split at h
  · split at h <;> cases h <;> exact kpc.refl _
  · cases h
set_option maxHeartbeats 2000000 in
theorem kpc_ex {M : xm_M} {pc : Nat} {lo : xm_L} {sk : List Value} {hp : xm_H} {n : Nat} {i : Instr} {T : xm_T} (h : xm_ex M pc lo sk hp n i = some T) : kpc hp (hpOf T) := by
  cases i <;> simp only [xm_ex, xm_ld, xm_sto, xm_stJ, xm_i2, xm_i1, xm_d2, xm_j2, xm_jsh, xm_iald, xm_zald, xm_lald, xm_iast, xm_zast, xm_last, xm_alen, xm_newa, xm_get, xm_put, xm_new, xm_calS, xm_calV, xm_calP, xm_copy, xm_min, xm_end, xm_icmp, xm_if, xm_tsw, xm_inc, xm_dup, xm_dx1, xm_dx2, xm_d22, xm_pop] at h
  all_goals (repeat' (first | (cases h; done) | split at h))
  all_goals (first | exact kpc_ok h (kpc.refl _) | exact kpc_jmp h | (cases h; exact kpc.refl _) | exact kpc_ok h (kpc_inl (by assumption)) | exact kpc_ok h (kpc_obj (by assumption) (by assumption)) | exact kpc_ok h (kpc_add _ _ _))
theorem kpc_step {j : Nat} {x : xm_S} {T : xm_T} (h : xm_step j x = some T) : kpc x.2.2.2 (hpOf T) := by
  unfold xm_step at h
  split at h
  · split at h
    · exact kpc_ex h
    · cases h
  · cases h
theorem kpc_run : ∀ n j x r, xm_run n j x = some r → kpc x.2.2.2 r.2 := by
  intro n
  induction n with
  | zero => intro j x r h; cases h
  | succ n ih =>
    intro j x r h
    rw [xm_run] at h
    split at h
    · rename_i y hy
      exact (kpc_step hy).trans (ih j y r h)
    · rename_i r' hy
      cases h
      exact kpc_step hy
    · rename_i j' as y hy
      have hk := kpc_step hy
      split at h
      · rename_i z hz
        split at h
        · rename_i r' hr
          have h1 := ih j' z r' hr
          have hzh : z.2.2.2 = y.2.2.2 := by
            unfold xm_start at hz
            split at hz
            · split at hz
              · cases hz; rfl
              · cases hz
            · cases hz
          rw [hzh] at h1
          exact (hk.trans h1).trans (ih j _ r h)
        · cases h
      · cases h
    · cases h
theorem kpc_call {j : Nat} {as : List Value} {hp : xm_H} {r : xm_R} (h : xm_call j as hp = some r) : kpc hp r.2 := by
  unfold xm_call at h
  split at h
  · rename_i z hz
    obtain ⟨n, hn⟩ := xm_out_iff.mp h
    have h1 := kpc_run n j z r hn
    have hzh : z.2.2.2 = hp := by
      unfold xm_start at hz
      split at hz
      · split at hz
        · cases hz; rfl
        · cases hz
      · cases hz
    rw [hzh] at h1
    exact h1
  · cases h
theorem sai {hp : xm_H} {b j L : Nat} {xs : Nat → Int32} (h : hp.1 b = some (.inr (.inr (L, xs)))) (hj : j < L) (hL : L ≤ 3072) : xm_ai hp b (nI j) = some (xs j) := by
  unfold xm_ai
  rw [h]
  simp only [xm_oo hj (show L < 2 ^ 31 by omega), nI_clamp (show j < 2 ^ 31 by omega)]
  rfl
theorem sln {hp : xm_H} {b L : Nat} {xs : Nat → Int32} (h : hp.1 b = some (.inr (.inr (L, xs)))) : xm_ln hp b = some (nI L) := by
  unfold xm_ln
  rw [h]
  rfl
theorem law_k1 {o b L p1 p2 cap j : Nat} {V : pc_V} {J : Nat → Int64} {xs : Nat → Int32} {hp : xm_H} {as : List Value} {r : xm_R} (P : Pic o V J p1 p2 cap hp) (hbo : b < hp.2.1) (hscr : hp.1 b = some (.inr (.inr (L, xs)))) (e : xm_call j as hp = some r) : r.2.1 b = some (.inr (.inr (L, xs))) ∧ b < r.2.2.1 ∧ xm_cls r.2 (o + 36) = some 8 := by
  have k := kps_call e
  have k' := kpc_call e
  exact ⟨k.2 b _ hbo hscr, Nat.lt_of_lt_of_le hbo k.1, k'.2 (o + 36) 8 (by have := P.2.2.2.2.1.2.2; omega) (pcl_36 P)⟩
theorem law_k2 {b L j : Nat} {xs : Nat → Int32} {hp : xm_H} {as : List Value} {r : xm_R} (hbo : b < hp.2.1) (hscr : hp.1 b = some (.inr (.inr (L, xs)))) (e : xm_call j as hp = some r) : r.2.1 b = some (.inr (.inr (L, xs))) ∧ b < r.2.2.1 := by
  have k := kps_call e
  exact ⟨k.2 b _ hbo hscr, Nat.lt_of_lt_of_le hbo k.1⟩
/-! the first state -/
def V0 : pc_V := fun _ _ => 0
def J0 : Nat → Int64 := fun _ => 0
theorem ce64_at (o : Nat) {k : Nat} (hk : k < 64) (h1 : k ≠ 31) (h2 : k ≠ 32) : (ce64 o)[k]? = some (pc_e o J0 (o + 31) (o + 32) k (V0 k)) := by
  have h : ce64 o = (List.range 64).map (fun k => if k = 31 then eI 16 else if k = 32 then eI 16 else pc_e o J0 (o + 31) (o + 32) k (V0 k)) := rfl
  rw [h, List.getElem?_map, List.getElem?_range hk]
  show some (if k = 31 then eI 16 else if k = 32 then eI 16 else pc_e o J0 (o + 31) (o + 32) k (V0 k)) = _
  rw [if_neg h1, if_neg h2]
theorem pic0 {b o : Nat} {sc : xm_E} (hb : b < o) : Pic o V0 J0 (o + 31) (o + 32) 16 (hl b sc o (ce64 o) sl64) := by
  refine ⟨fun k hk h1 h2 => ?_, ?_, ?_, by omega, ⟨?_, ?_, ?_⟩, Or.inl rfl, Or.inl rfl⟩
  · rw [hl_at hb]; exact ce64_at o hk h1 h2
  · rw [hl_at hb]; rfl
  · rw [hl_at hb]; rfl
  · show o + 31 < o + 64; omega
  · show o + 32 < o + 64; omega
  · show o + 64 ≤ o + 64; omega
theorem nt0 : nt 0 = 0 := by decide
theorem cinv0 : CInv V0 16 := by
  have no : ∀ {C : Prop} (p : Nat), p < nt 0 → C := fun p h => by rw [nt0] at h; omega
  refine ⟨⟨rfl, ?_⟩, ⟨rfl, ?_⟩, ⟨rfl, ?_⟩, ⟨rfl, ?_⟩, ⟨rfl, ?_⟩, ⟨rfl, ?_, ?_⟩, ⟨rfl, ?_⟩, fun p h => no p h, fun p h => no p h, fun p h => no p h, fun p h => no p h, fun p h => no p h, fun p h => no p h, fun p h => no p h, fun p h => no p h, fun p h => no p h, fun p h => no p h, fun p _ h => no p h, fun p h => no p h, fun p h => no p h, fun p h => no p h⟩
  all_goals first | omega | (show nt 0 ≤ _; rw [nt0]; omega)
theorem rel0 : Rel V0 J0 := by
  have no : ∀ {C : Prop} (p : Nat), p < nt 0 → C := fun p h => by rw [nt0] at h; omega
  have hf : ∀ m p, frq V0 m p = 0 := fun _ _ => nt0
  refine ⟨rfl, rfl, rfl, rfl, rfl, rfl, rfl, rfl, rfl, rfl, rfl, rfl, rfl, rfl, rfl, rfl, rfl, rfl, rfl, rfl, rfl, rfl, rfl, rfl, rfl, rfl, rfl, ?_, ?_, ?_, ?_, ?_, ?_, ?_, ?_, ?_, ?_, ?_, ?_, ?_, ?_, ?_, ?_, ?_, ?_, ?_⟩
  · intro m p _ _; rw [hf m p]; exact ⟨rfl, by omega, fun z => absurd rfl z⟩
  · intro m i _ hi; exact ⟨fun z => absurd z (tb_0 hi), fun z => absurd (hf m i) z.2⟩
  · intro m i _ hi; exact ⟨fun z => absurd z (tb_0 hi), fun z => by have := hf m i; omega⟩
  · intro m i _ hi; exact ⟨fun z => absurd z (tb_0 hi), fun z => by have := hf m i; omega⟩
  · intro m i _ hi; exact ⟨fun z => absurd z (tb_0 hi), fun z => by have := hf m i; omega⟩
  · intro p t _ h; exact (xb_f (c := tb (V0 9 p) t) (tb_0 (show t < 32 by omega))).symm
  · intro p t _ h; exact (xb_f (c := tb (V0 10 p) t) (tb_0 (show t < 32 by omega))).symm
  · intro m t _ h; exact (xb_f (c := tj (J0 m) t) (tj_0 h)).symm
  · intro l m h; exact no l h
  · intro l i h; exact no l h
  · intro k h; exact no k h
  · intro k _; exact ⟨rfl, rfl⟩
  · intro p q h; exact no p h
  · intro p q h; exact no p h
  · intro p q h; exact no p h
  · intro u k h; exact no u h
  · intro t h; exact no t h
  · intro u _ _; rfl
  · intro u k l h; exact no u h
theorem sta0 {b o : Nat} {sc : xm_E} (hb : b < o) : Sta o 0 (hl b sc o (ce64 o) sl64) := by
  have hz : zS V0 = 0 := nt0
  refine ⟨V0, J0, o + 31, o + 32, 16, pic0 hb, cinv0, rel0, fun l m _ _ _ => rfl, by rw [hz]; omega, ⟨by omega, by rw [hz]; omega⟩, ?_, ?_⟩
  · show o + 64 ≤ o + 64 + 2 * 0; omega
  · show sl64 ≤ 10000 + 4160 * 0; decide
