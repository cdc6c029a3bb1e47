/-! THE SMALL MACHINE. The same instructions over a heap of entries: a state is (pc, locals, stack, heap), a run is a function of fuel, 'xm_out' its answer.
The tables that it reads (xp_mi, xp_fl, xp_ml, xp_nw, xp_cn, xp_cj, xp_oi, xp_ac) stand in the names' part; that the machine of the Statement does the same is part 11. -/
abbrev xm_E : Type := (FieldType × vp_A) ⊕ ((Nat × List Value) ⊕ (Nat × (Nat → Int32)))
abbrev xm_H : Type := (Nat → Option xm_E) × Nat × Nat
abbrev xm_L : Type := List (Option Value)
abbrev xm_S : Type := Nat × xm_L × List Value × xm_H
abbrev xm_R : Type := Option Value × xm_H
abbrev xm_T : Type := xm_S ⊕ (xm_R ⊕ ((Nat × List Value) × xm_S))
def xm_set (g : Nat → Option xm_E) (a : Nat) (e : xm_E) : Nat → Option xm_E := fun q => if q = a then some e else g q
theorem xm_set_self (g : Nat → Option xm_E) (a : Nat) (e : xm_E) : xm_set g a e a = some e := if_pos rfl
theorem xm_set_ne {g : Nat → Option xm_E} {a : Nat} {e : xm_E} {q : Nat} (h : q ≠ a) : xm_set g a e q = g q := if_neg h
/-- a heap with one entry changed -/
def xm_up (hp : xm_H) (a : Nat) (e : xm_E) : xm_H := (xm_set hp.1 a e, hp.2)
/-- a heap with one entry more, of so many slots -/
def xm_add (hp : xm_H) (e : xm_E) (n : Nat) : xm_H := (xm_set hp.1 hp.2.1 e, hp.2.1 + 1, hp.2.2 + n)
def xm_arr (hp : xm_H) (a : Nat) : Option (FieldType × vp_A) := match hp.1 a with
  | some (.inl x) => some x
  | _ => none
def xm_obj (hp : xm_H) (a : Nat) : Option (Nat × List Value) := match hp.1 a with
  | some (.inr (.inl x)) => some x
  | _ => none
def xm_ok (n k : Nat) (x : xm_S) : Option xm_T := if n = k then some (.inl x) else none
def xm_tgt (pc : Nat) (off : Int) : Nat := ((pc : Int) + off).toNat
def xm_jmp (n : Nat) (pc : Nat) (off : Int) (c : Bool) (lo : xm_L) (sk : List Value) (hp : xm_H) : Option xm_T :=
  if n = 3 ∧ 0 ≤ (pc : Int) + off then (if c then some (.inl (xm_tgt pc off, lo, sk, hp)) else some (.inl (pc + 3, lo, sk, hp))) else none
/-- locals -/
def xm_kill (lo : xm_L) (i : Nat) : xm_L := match i with
  | 0 => lo
  | j + 1 => match lo[j]? with
    | some (some v) => if v.category = 2 then lo.set j none else lo
    | _ => lo
def xm_st1 (lo : xm_L) (i : Nat) (v : Value) : xm_L := (xm_kill lo i).set i (some v)
def xm_st2 (lo : xm_L) (i : Nat) (v : Value) : xm_L := ((xm_kill lo i).set i (some v)).set (i + 1) none
def xm_lay : List Value → xm_L
  | [] => []
  | v :: vs => if v.category = 2 then some v :: none :: xm_lay vs else some v :: xm_lay vs
def xm_ent (maxL : Nat) (as : List Value) : xm_L := xm_lay as ++ List.replicate (maxL - (xm_lay as).length) none
def xm_ld (n k : Nat) (ty : Value → Bool) (i : Nat) (pc : Nat) (lo : xm_L) (sk : List Value) (hp : xm_H) : Option xm_T := match lo[i]? with
  | some (some v) => if ty v then xm_ok n k (pc + k, lo, v :: sk, hp) else none
  | _ => none
def xm_isI : Value → Bool
  | .int _ => true
  | _ => false
def xm_isJ : Value → Bool
  | .long _ => true
  | _ => false
def xm_isA : Value → Bool
  | .ref _ => true
  | .null => true
  | _ => false
def xm_sto (n k : Nat) (ty : Value → Bool) (i : Nat) (pc : Nat) (lo : xm_L) (sk : List Value) (hp : xm_H) : Option xm_T := match sk with
  | v :: sk => if ty v && decide (i < lo.length) then xm_ok n k (pc + k, xm_st1 lo i v, sk, hp) else none
  | _ => none
def xm_stJ (n k : Nat) (i : Nat) (pc : Nat) (lo : xm_L) (sk : List Value) (hp : xm_H) : Option xm_T := match sk with
  | .long v :: sk => if i + 1 < lo.length then xm_ok n k (pc + k, xm_st2 lo i (.long v), sk, hp) else none
  | _ => none
def xm_i2 (n : Nat) (f : Int32 → Int32 → Int32) (pc : Nat) (lo : xm_L) (sk : List Value) (hp : xm_H) : Option xm_T := match sk with
  | .int y :: .int x :: sk => xm_ok n 1 (pc + 1, lo, .int (f x y) :: sk, hp)
  | _ => none
def xm_i1 (n : Nat) (f : Int32 → Int32) (pc : Nat) (lo : xm_L) (sk : List Value) (hp : xm_H) : Option xm_T := match sk with
  | .int x :: sk => xm_ok n 1 (pc + 1, lo, .int (f x) :: sk, hp)
  | _ => none
def xm_d2 (n : Nat) (f : Int32 → Int32 → Int32) (pc : Nat) (lo : xm_L) (sk : List Value) (hp : xm_H) : Option xm_T := match sk with
  | .int y :: .int x :: sk => if y = 0 then none else xm_ok n 1 (pc + 1, lo, .int (f x y) :: sk, hp)
  | _ => none
def xm_j2 (n : Nat) (f : Int64 → Int64 → Int64) (pc : Nat) (lo : xm_L) (sk : List Value) (hp : xm_H) : Option xm_T := match sk with
  | .long y :: .long x :: sk => xm_ok n 1 (pc + 1, lo, .long (f x y) :: sk, hp)
  | _ => none
def xm_jsh (n : Nat) (f : Int64 → Int32 → Int64) (pc : Nat) (lo : xm_L) (sk : List Value) (hp : xm_H) : Option xm_T := match sk with
  | .int y :: .long x :: sk => xm_ok n 1 (pc + 1, lo, .long (f x y) :: sk, hp)
  | _ => none
/-- arrays -/
def xm_out_of (i : Int32) (N : Nat) : Bool := decide (i < 0) || decide (N ≤ i.toNatClampNeg)
def xm_iald (n pc : Nat) (lo : xm_L) (sk : List Value) (hp : xm_H) : Option xm_T := match sk with
  | .int i :: .ref a :: sk => match hp.1 a with
    | some (.inl (.int, N, .inl f)) => if xm_out_of i N then none else xm_ok n 1 (pc + 1, lo, .int (f i.toNatClampNeg) :: sk, hp)
    | some (.inr (.inr (N, f))) => if xm_out_of i N then none else xm_ok n 1 (pc + 1, lo, .int (f i.toNatClampNeg) :: sk, hp)
    | _ => none
  | _ => none
def xm_zald (n pc : Nat) (lo : xm_L) (sk : List Value) (hp : xm_H) : Option xm_T := match sk with
  | .int i :: .ref a :: sk => match hp.1 a with
    | some (.inl (.boolean, N, .inl f)) => if xm_out_of i N then none else xm_ok n 1 (pc + 1, lo, .int (f i.toNatClampNeg) :: sk, hp)
    | _ => none
  | _ => none
def xm_lald (n pc : Nat) (lo : xm_L) (sk : List Value) (hp : xm_H) : Option xm_T := match sk with
  | .int i :: .ref a :: sk => match hp.1 a with
    | some (.inl (.long, N, .inr (.inl f))) => if xm_out_of i N then none else xm_ok n 1 (pc + 1, lo, .long (f i.toNatClampNeg) :: sk, hp)
    | _ => none
  | _ => none
def xm_iast (n pc : Nat) (lo : xm_L) (sk : List Value) (hp : xm_H) : Option xm_T := match sk with
  | .int x :: .int i :: .ref a :: sk => match hp.1 a with
    | some (.inl (.int, N, .inl f)) => if xm_out_of i N then none else xm_ok n 1 (pc + 1, lo, sk, xm_up hp a (.inl (.int, N, .inl (upd f i.toNatClampNeg x))))
    | _ => none
  | _ => none
def xm_zast (n pc : Nat) (lo : xm_L) (sk : List Value) (hp : xm_H) : Option xm_T := match sk with
  | .int x :: .int i :: .ref a :: sk => match hp.1 a with
    | some (.inl (.boolean, N, .inl f)) => if xm_out_of i N then none else xm_ok n 1 (pc + 1, lo, sk, xm_up hp a (.inl (.boolean, N, .inl (upd f i.toNatClampNeg (vp_nar .boolean x)))))
    | _ => none
  | _ => none
def xm_last (n pc : Nat) (lo : xm_L) (sk : List Value) (hp : xm_H) : Option xm_T := match sk with
  | .long x :: .int i :: .ref a :: sk => match hp.1 a with
    | some (.inl (.long, N, .inr (.inl f))) => if xm_out_of i N then none else xm_ok n 1 (pc + 1, lo, sk, xm_up hp a (.inl (.long, N, .inr (.inl (vp_updL f i.toNatClampNeg x)))))
    | _ => none
  | _ => none
def xm_alen (n pc : Nat) (lo : xm_L) (sk : List Value) (hp : xm_H) : Option xm_T := match sk with
  | .ref a :: sk => match hp.1 a with
    | some (.inl (_, N, _)) => xm_ok n 1 (pc + 1, lo, .int (Int32.ofNat N) :: sk, hp)
    | some (.inr (.inr (N, _))) => xm_ok n 1 (pc + 1, lo, .int (Int32.ofNat N) :: sk, hp)
    | _ => none
  | _ => none
def xm_blank (t : ArrayType) (N : Nat) : Option xm_E := match t with
  | .int => some (.inl (.int, N, .inl (fun _ => 0)))
  | .boolean => some (.inl (.boolean, N, .inl (fun _ => 0)))
  | .long => some (.inl (.long, N, .inr (.inl (fun _ => 0))))
  | _ => none
def xm_newa (n pc : Nat) (t : ArrayType) (lo : xm_L) (sk : List Value) (hp : xm_H) : Option xm_T := match sk with
  | .int k :: sk => if k < 0 then none else if k.toNatClampNeg * 8 ≤ 536870912 then (match xm_blank t k.toNatClampNeg with
    | some e => xm_ok n 2 (pc + 2, lo, .ref hp.2.1 :: sk, xm_add hp e k.toNatClampNeg)
    | none => none) else none
  | _ => none
/-- fields, objects -/
def xm_get (n pc oc idx : Nat) (lo : xm_L) (sk : List Value) (hp : xm_H) : Option xm_T := match sk with
  | .ref a :: sk => match xp_fl oc idx, xm_obj hp a with
    | some (ci, k, _, _), some (cj, fs) => if cj = ci then (match fs[k]? with
      | some v => xm_ok n 3 (pc + 3, lo, v :: sk, hp)
      | none => none) else none
    | _, _ => none
  | _ => none
def xm_put (n pc oc idx : Nat) (ini : Bool) (lo : xm_L) (sk : List Value) (hp : xm_H) : Option xm_T := match sk with
  | v :: .ref a :: sk => match xp_fl oc idx, xm_obj hp a with
    | some (ci, k, fin, ty), some (cj, fs) => if cj = ci ∧ k < fs.length ∧ (fin = false ∨ (ini = true ∧ oc = ci)) ∧ narrow ty v = v ∧ fits ty v = true then xm_ok n 3 (pc + 3, lo, sk, xm_up hp a (.inr (.inl (ci, fs.set k v)))) else none
    | _, _ => none
  | _ => none
def xm_new (n pc oc idx : Nat) (lo : xm_L) (sk : List Value) (hp : xm_H) : Option xm_T := match xp_nw oc idx with
  | some (ci, fs) => xm_ok n 3 (pc + 3, lo, .ref hp.2.1 :: sk, xm_add hp (.inr (.inl (ci, fs))) fs.length)
  | none => none
/-- calls -/
def xm_low (sk : List Value) : Bool := decide ((sk.map fun v => v.category).sum ≤ 8)
def xm_fit (M N : xm_M) : Bool := decide (N.2.2.2.2.2.1 + 1 ≤ M.2.2.2.2.2.1) && decide (8 + (N.2.2.1 + 11) + N.2.2.2.2.2.2.1 ≤ M.2.2.2.2.2.2.1)
def xm_calS (n pc : Nat) (M : xm_M) (idx : Nat) (lo : xm_L) (sk : List Value) (hp : xm_H) : Option xm_T := match xp_ms M.2.2.2.2.1 idx with
  | some (j, k) => match xp_mi j with
    | some N => if n = 3 ∧ k ≤ sk.length ∧ xm_low (sk.drop k) = true ∧ xm_fit M N = true then some (.inr (.inr ((j, (sk.take k).reverse), (pc + 3, lo, sk.drop k, hp)))) else none
    | none => none
  | none => none
def xm_calV (n pc : Nat) (M : xm_M) (idx : Nat) (lo : xm_L) (sk : List Value) (hp : xm_H) : Option xm_T := match xp_mv M.2.2.2.2.1 idx with
  | some (j, k) => match xp_mi j, sk.drop k with
    | some N, .ref b :: rest => match xm_obj hp b with
      | some (ci, _) => if n = 3 ∧ k ≤ sk.length ∧ xm_low rest = true ∧ xm_fit M N = true ∧ ci = N.2.2.2.2.1 then some (.inr (.inr ((j, .ref b :: (sk.take k).reverse), (pc + 3, lo, rest, hp)))) else none
      | none => none
    | _, _ => none
  | none => none
def xm_calP (n pc : Nat) (M : xm_M) (idx : Nat) (lo : xm_L) (sk : List Value) (hp : xm_H) : Option xm_T := if xp_oi M.2.2.2.2.1 idx then (match sk with
    | .ref _ :: rest => if xm_low rest && (decide (1 ≤ M.2.2.2.2.2.1) && decide (20 ≤ M.2.2.2.2.2.2.1)) then xm_ok n 3 (pc + 3, lo, rest, hp) else none
    | _ => none) else match xp_mp M.2.2.2.2.1 idx with
  | some (j, k) => match xp_mi j, sk.drop k with
    | some N, .ref b :: rest => if n = 3 ∧ k ≤ sk.length ∧ xm_low rest = true ∧ xm_fit M N = true then some (.inr (.inr ((j, .ref b :: (sk.take k).reverse), (pc + 3, lo, rest, hp)))) else none
    | _, _ => none
  | none => none
def xm_copy (n pc : Nat) (M : xm_M) (lo : xm_L) (sk : List Value) (hp : xm_H) : Option xm_T := match sk with
  | .int z :: .int dp :: .ref a :: .int sp :: .ref a0 :: rest => match hp.1 a0, hp.1 a with
    | some (.inl (.int, n0, .inl f)), some (.inl (.int, n1, .inl g)) => if a0 ≠ a ∧ ¬ sp < 0 ∧ ¬ dp < 0 ∧ ¬ z < 0 ∧ sp.toNatClampNeg + z.toNatClampNeg ≤ n0 ∧ dp.toNatClampNeg + z.toNatClampNeg ≤ n1 ∧ xm_low rest = true ∧ 1 ≤ M.2.2.2.2.2.1 ∧ 26 ≤ M.2.2.2.2.2.2.1 then xm_ok n 3 (pc + 3, lo, rest, xm_up hp a (.inl (.int, n1, .inl (va_cpy f g sp.toNatClampNeg dp.toNatClampNeg z.toNatClampNeg)))) else none
    | _, _ => none
  | _ => none
def xm_min (n pc : Nat) (M : xm_M) (lo : xm_L) (sk : List Value) (hp : xm_H) : Option xm_T := match sk with
  | .int y :: .int x :: rest => if xm_low rest && (decide (1 ≤ M.2.2.2.2.2.1) && decide (21 ≤ M.2.2.2.2.2.2.1)) then xm_ok n 3 (pc + 3, lo, .int (if y < x then y else x) :: rest, hp) else none
  | _ => none
def xm_ret (rt : Option FieldType) (i : Instr) (sk : List Value) : Option (Option Value) := match i with
  | .ireturn => match sk, rt with
    | [.int v], some .int => some (some (.int v))
    | [.int v], some .boolean => if narrow .boolean (.int v) = .int v then some (some (.int v)) else none
    | _, _ => none
  | .lreturn => match sk, rt with
    | [.long v], some .long => some (some (.long v))
    | _, _ => none
  | .areturn => match sk, rt with
    | [.ref a], some (.object _) => some (some (.ref a))
    | [.ref a], some (.array _) => some (some (.ref a))
    | [.null], some (.object _) => some (some .null)
    | [.null], some (.array _) => some (some .null)
    | _, _ => none
  | .return_ => match sk, rt with
    | [], none => some none
    | _, _ => none
  | _ => none
def xm_end (n : Nat) (rt : Option FieldType) (i : Instr) (sk : List Value) (hp : xm_H) : Option xm_T := match xm_ret rt i sk with
  | some r => if n = 1 then some (.inr (.inl (r, hp))) else none
  | none => none
/-- branches -/
def xm_ci (c : ClassFile.Cond) (x y : Int32) : Bool := match c with
  | .eq => decide (x = y)
  | .ne => !decide (x = y)
  | .lt => decide (x < y)
  | .ge => decide (y ≤ x)
  | .gt => decide (y < x)
  | .le => decide (x ≤ y)
def xm_icmp (n pc : Nat) (c : ClassFile.Cond) (off : Int) (lo : xm_L) (sk : List Value) (hp : xm_H) : Option xm_T := match sk with
  | .int y :: .int x :: sk => xm_jmp n pc off (xm_ci c x y) lo sk hp
  | _ => none
def xm_if (n pc : Nat) (c : ClassFile.Cond) (off : Int) (lo : xm_L) (sk : List Value) (hp : xm_H) : Option xm_T := match sk with
  | .int x :: sk => xm_jmp n pc off (xm_ci c x 0) lo sk hp
  | _ => none
def xm_sw (pc : Nat) (x : Int32) (d l h : Int) (os : Array Int) : Option Nat := if x.toInt < l ∨ h < x.toInt then (if 0 ≤ (pc : Int) + d then some (xm_tgt pc d) else none) else match os[(x.toInt - l).toNat]? with
  | some o => if 0 ≤ (pc : Int) + o then some (xm_tgt pc o) else none
  | none => none
def xm_tsw (pc : Nat) (d l h : Int) (os : Array Int) (lo : xm_L) (sk : List Value) (hp : xm_H) : Option xm_T := match sk with
  | .int x :: sk => match xm_sw pc x d l h os with
    | some t => some (.inl (t, lo, sk, hp))
    | none => none
  | _ => none
def xm_inc (n pc i : Nat) (k : Int) (lo : xm_L) (sk : List Value) (hp : xm_H) : Option xm_T := match lo[i]? with
  | some (some (.int x)) => xm_ok n 3 (pc + 3, xm_st1 lo i (.int (x + Int32.ofInt k)), sk, hp)
  | _ => none
def xm_c1 (v : Value) : Bool := decide (v.category = 1)
def xm_c2 (v : Value) : Bool := decide (v.category = 2)
def xm_dup (n pc : Nat) (lo : xm_L) (sk : List Value) (hp : xm_H) : Option xm_T := match sk with
  | v :: sk => if xm_c1 v then xm_ok n 1 (pc + 1, lo, v :: v :: sk, hp) else none
  | _ => none
def xm_dx1 (n pc : Nat) (lo : xm_L) (sk : List Value) (hp : xm_H) : Option xm_T := match sk with
  | v :: w :: sk => if xm_c1 v && xm_c1 w then xm_ok n 1 (pc + 1, lo, v :: w :: v :: sk, hp) else none
  | _ => none
def xm_dx2 (n pc : Nat) (lo : xm_L) (sk : List Value) (hp : xm_H) : Option xm_T := match sk with
  | v :: w :: u :: sk => if xm_c1 v && xm_c1 w && xm_c1 u then xm_ok n 1 (pc + 1, lo, v :: w :: u :: v :: sk, hp) else none
  | _ => none
def xm_d22 (n pc : Nat) (lo : xm_L) (sk : List Value) (hp : xm_H) : Option xm_T := match sk with
  | v :: w :: sk => if xm_c1 v && xm_c1 w then xm_ok n 1 (pc + 1, lo, v :: w :: v :: w :: sk, hp) else none
  | _ => none
def xm_pop (n pc : Nat) (lo : xm_L) (sk : List Value) (hp : xm_H) : Option xm_T := match sk with
  | v :: sk => if xm_c1 v then xm_ok n 1 (pc + 1, lo, sk, hp) else none
  | _ => none
/-- one instruction -/
def xm_ex (M : xm_M) (pc : Nat) (lo : xm_L) (sk : List Value) (hp : xm_H) (n : Nat) (i : Instr) : Option xm_T := match i with
  | .iconst k => xm_ok n 1 (pc + 1, lo, .int (Int32.ofInt k) :: sk, hp)
  | .bipush k => xm_ok n 2 (pc + 2, lo, .int (Int8.ofInt k).toInt32 :: sk, hp)
  | .sipush k => xm_ok n 3 (pc + 3, lo, .int (Int16.ofInt k).toInt32 :: sk, hp)
  | .lconst k => xm_ok n 1 (pc + 1, lo, .long (Int64.ofNat (k : Nat)) :: sk, hp)
  | .aconst_null => xm_ok n 1 (pc + 1, lo, .null :: sk, hp)
  | .ldc_w k => match xp_cn M.2.2.2.2.1 k with
    | some v => xm_ok n 3 (pc + 3, lo, .int v :: sk, hp)
    | none => none
  | .iload k => xm_ld n 2 xm_isI k pc lo sk hp
  | .iload_n k => xm_ld n 1 xm_isI k pc lo sk hp
  | .lload k => xm_ld n 2 xm_isJ k pc lo sk hp
  | .lload_n k => xm_ld n 1 xm_isJ k pc lo sk hp
  | .aload k => xm_ld n 2 xm_isA k pc lo sk hp
  | .aload_n k => xm_ld n 1 xm_isA k pc lo sk hp
  | .istore k => xm_sto n 2 xm_isI k pc lo sk hp
  | .istore_n k => xm_sto n 1 xm_isI k pc lo sk hp
  | .astore k => xm_sto n 2 xm_isA k pc lo sk hp
  | .astore_n k => xm_sto n 1 xm_isA k pc lo sk hp
  | .lstore k => xm_stJ n 2 k pc lo sk hp
  | .lstore_n k => xm_stJ n 1 k pc lo sk hp
  | .iinc k d => xm_inc n pc k d lo sk hp
  | .iadd => xm_i2 n (fun x y => x + y) pc lo sk hp
  | .isub => xm_i2 n (fun x y => x - y) pc lo sk hp
  | .imul => xm_i2 n (fun x y => x * y) pc lo sk hp
  | .iand => xm_i2 n (fun x y => x &&& y) pc lo sk hp
  | .ior => xm_i2 n (fun x y => x ||| y) pc lo sk hp
  | .ixor => xm_i2 n (fun x y => x ^^^ y) pc lo sk hp
  | .ishl => xm_i2 n (fun x y => x <<< (y &&& 31)) pc lo sk hp
  | .ishr => xm_i2 n (fun x y => x >>> (y &&& 31)) pc lo sk hp
  | .iushr => xm_i2 n (fun x y => (x.toUInt32 >>> (y.toUInt32 &&& Int32.toUInt32 31)).toInt32) pc lo sk hp
  | .ineg => xm_i1 n (fun x => -x) pc lo sk hp
  | .idiv => xm_d2 n (fun x y => x / y) pc lo sk hp
  | .irem => xm_d2 n (fun x y => x - x / y * y) pc lo sk hp
  | .ladd => xm_j2 n (fun x y => x + y) pc lo sk hp
  | .lsub => xm_j2 n (fun x y => x - y) pc lo sk hp
  | .land => xm_j2 n (fun x y => x &&& y) pc lo sk hp
  | .lor => xm_j2 n (fun x y => x ||| y) pc lo sk hp
  | .lxor => xm_j2 n (fun x y => x ^^^ y) pc lo sk hp
  | .lshl => xm_jsh n (fun x y => x <<< (y.toInt64 &&& 63)) pc lo sk hp
  | .lshr => xm_jsh n (fun x y => x >>> (y.toInt64 &&& 63)) pc lo sk hp
  | .lcmp => match sk with
    | .long y :: .long x :: sk => xm_ok n 1 (pc + 1, lo, .int (lg_cmp x y) :: sk, hp)
    | _ => none
  | .i2l => match sk with
    | .int x :: sk => xm_ok n 1 (pc + 1, lo, .long x.toInt64 :: sk, hp)
    | _ => none
  | .l2i => match sk with
    | .long x :: sk => xm_ok n 1 (pc + 1, lo, .int x.toInt32 :: sk, hp)
    | _ => none
  | .dup => xm_dup n pc lo sk hp
  | .dup_x1 => xm_dx1 n pc lo sk hp
  | .dup_x2 => xm_dx2 n pc lo sk hp
  | .dup2 => xm_d22 n pc lo sk hp
  | .pop => xm_pop n pc lo sk hp
  | .goto o => xm_jmp n pc o true lo sk hp
  | .if_icmp c o => xm_icmp n pc c o lo sk hp
  | .ifCond c o => xm_if n pc c o lo sk hp
  | .tableswitch d l h os => xm_tsw pc d l h os lo sk hp
  | .iaload => xm_iald n pc lo sk hp
  | .baload => xm_zald n pc lo sk hp
  | .laload => xm_lald n pc lo sk hp
  | .iastore => xm_iast n pc lo sk hp
  | .bastore => xm_zast n pc lo sk hp
  | .lastore => xm_last n pc lo sk hp
  | .arraylength => xm_alen n pc lo sk hp
  | .newarray t => xm_newa n pc t lo sk hp
  | .getfield k => xm_get n pc M.2.2.2.2.1 k lo sk hp
  | .putfield k => xm_put n pc M.2.2.2.2.1 k M.2.2.2.2.2.2.2 lo sk hp
  | .new k => xm_new n pc M.2.2.2.2.1 k lo sk hp
  | .invokestatic k => if xp_ac M.2.2.2.2.1 k then xm_copy n pc M lo sk hp else if xp_mm M.2.2.2.2.1 k then xm_min n pc M lo sk hp else xm_calS n pc M k lo sk hp
  | .invokevirtual k => xm_calV n pc M k lo sk hp
  | .invokespecial k => xm_calP n pc M k lo sk hp
  | .ireturn => xm_end n M.2.2.2.1 .ireturn sk hp
  | .lreturn => xm_end n M.2.2.2.1 .lreturn sk hp
  | .areturn => xm_end n M.2.2.2.1 .areturn sk hp
  | .return_ => xm_end n M.2.2.2.1 .return_ sk hp
  | _ => none
def xm_step (j : Nat) (x : xm_S) : Option xm_T := match xp_mi j with
  | some M => match decode M.2.1 x.1 with
    | .ok (i, n) => xm_ex M x.1 x.2.1 x.2.2.1 x.2.2.2 n i
    | _ => none
  | none => none
def xm_start (j : Nat) (as : List Value) (hp : xm_H) : Option xm_S := match xp_mi j with
  | some M => if (xm_lay as).length ≤ M.2.2.1 then some (0, xm_ent M.2.2.1 as, [], hp) else none
  | none => none
def xm_run : Nat → Nat → xm_S → Option xm_R
  | 0, _, _ => none
  | n + 1, j, x => match xm_step j x with
    | some (.inl y) => xm_run n j y
    | some (.inr (.inl r)) => some r
    | some (.inr (.inr ((j', as), y))) => match xm_start j' as y.2.2.2 with
      | some z => match xm_run n j' z with
        | some r => xm_run n j (y.1, y.2.1, r.1.toList ++ y.2.2.1, r.2)
        | none => none
      | none => none
    | none => none
theorem xm_run_up : ∀ (n j : Nat) (x : xm_S) (r : xm_R), xm_run n j x = some r → xm_run (n + 1) j x = some r
  | 0, _, _, _, h => by simp [xm_run] at h
  | n + 1, j, x, r, h => by
    rw [xm_run] at h ⊢
    split at h
    · rename_i y hy
      try rw [hy]
      exact xm_run_up n j y r h
    · rename_i r' hy
      try rw [hy]
      exact h
    · rename_i j' as y hy
      try rw [hy]
      split at h
      · rename_i z hz
        try rw [hz]
        split at h
        · rename_i r' hr
          simp only [xm_run_up n j' z r' hr]
          exact xm_run_up n j _ r h
        · cases h
      · cases h
    · cases h
theorem xm_run_le {n m j : Nat} {x : xm_S} {r : xm_R} (hl : n ≤ m) (h : xm_run n j x = some r) : xm_run m j x = some r := by
  induction hl with
  | refl => exact h
  | step _ ih => exact xm_run_up _ _ _ _ ih
theorem xm_run_det {n m j : Nat} {x : xm_S} {r r' : xm_R} (h : xm_run n j x = some r) (h' : xm_run m j x = some r') : r = r' := by
  have a := xm_run_le (Nat.le_max_left n m) h
  have b := xm_run_le (Nat.le_max_right n m) h'
  exact Option.some.inj (a.symm.trans b)
/-- the answer of a run, however long -/
noncomputable def xm_out (j : Nat) (x : xm_S) : Option xm_R := @dite _ (∃ n r, xm_run n j x = some r) (Classical.propDecidable _) (fun h => some (Classical.choose (Classical.choose_spec h))) (fun _ => none)
theorem xm_out_iff {j : Nat} {x : xm_S} {r : xm_R} : xm_out j x = some r ↔ ∃ n, xm_run n j x = some r := by
  unfold xm_out
  constructor
  · intro h
    split at h
    · rename_i hh
      exact ⟨_, (Option.some.inj h) ▸ Classical.choose_spec (Classical.choose_spec hh)⟩
    · cases h
  · rintro ⟨n, hn⟩
    have hh : ∃ n r, xm_run n j x = some r := ⟨n, r, hn⟩
    rw [dif_pos hh]
    exact congrArg some (xm_run_det (Classical.choose_spec (Classical.choose_spec hh)) hn)
theorem xm_ext {a b : Option xm_R} (h : ∀ r, a = some r ↔ b = some r) : a = b := by
  cases a with
  | some r => exact ((h r).mp rfl).symm
  | none => cases b with
    | some r => exact (h r).mpr rfl
    | none => rfl
theorem xo_next {j : Nat} {x y : xm_S} (h : xm_step j x = some (.inl y)) : xm_out j x = xm_out j y := by
  refine xm_ext fun r => ?_
  rw [xm_out_iff, xm_out_iff]
  constructor
  · rintro ⟨n, hn⟩
    cases n with
    | zero => simp [xm_run] at hn
    | succ n => rw [xm_run, h] at hn; exact ⟨n, hn⟩
  · rintro ⟨n, hn⟩
    exact ⟨n + 1, by rw [xm_run, h]; exact hn⟩
theorem xo_done {j : Nat} {x : xm_S} {r : xm_R} (h : xm_step j x = some (.inr (.inl r))) : xm_out j x = some r :=
  xm_out_iff.mpr ⟨1, by rw [xm_run, h]⟩
/-- a method's answer, at these arguments, over this heap -/
noncomputable def xm_call (j : Nat) (as : List Value) (hp : xm_H) : Option xm_R := match xm_start j as hp with
  | some z => xm_out j z
  | none => none
theorem xo_call {j j' : Nat} {as : List Value} {x y : xm_S} {r : xm_R} (h : xm_step j x = some (.inr (.inr ((j', as), y)))) (hc : xm_call j' as y.2.2.2 = some r) :
    xm_out j x = xm_out j (y.1, y.2.1, r.1.toList ++ y.2.2.1, r.2) := by
  unfold xm_call at hc
  split at hc
  · rename_i z hz
    obtain ⟨k, hk⟩ := xm_out_iff.mp hc
    refine xm_ext fun q => ?_
    rw [xm_out_iff, xm_out_iff]
    constructor
    · rintro ⟨n, hn⟩
      cases n with
      | zero => simp [xm_run] at hn
      | succ n =>
        rw [xm_run, h] at hn
        simp only [hz] at hn
        split at hn
        · rename_i r' hr
          cases xm_run_det hr hk
          exact ⟨n, hn⟩
        · cases hn
    · rintro ⟨n, hn⟩
      refine ⟨Nat.max n k + 1, ?_⟩
      rw [xm_run, h]
      simp only [hz, xm_run_le (Nat.le_max_right n k) hk]
      exact xm_run_le (Nat.le_max_left n k) hn
  · cases hc
