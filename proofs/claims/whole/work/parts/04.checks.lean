/-! the tables are as the Statement's words say: decided by the kernel, by places -/
def xk_w (p : Nat) (w : Cond) : Bool := decide (lw_tbl[p]? = some w) && goodWord w
def xp_tb : List Cond := lw_tbl.filter goodWord
theorem xk_w_mem {p : Nat} {w : Cond} (h : xk_w p w = true) : w ∈ xp_tb := by
  unfold xk_w at h
  rw [Bool.and_eq_true, decide_eq_true_eq] at h
  exact List.mem_filter.mpr ⟨List.mem_of_getElem? h.1, h.2⟩
def xp_isN : Cond → Bool
  | .methodLinkNest .. => true
  | _ => false
def xp_ne : List Cond := lw_tbl.filter xp_isN
theorem xp_ne_warm (w : Cond) (hw : w ∈ xp_ne) {s U : State} (hW : s.WarmedH U.vm) (h : va_Nw w s) : va_Nw w U := by
  have h2 := (List.mem_filter.mp hw).2
  cases w <;> first | (simp [xp_isN] at h2; done) | exact va_Nw.warmM hW h
theorem xp_ne_of (w : Cond) (hw : w ∈ xp_ne) {A : Array Value} {U : State} (h : w.before A U = true) : va_Nw w U := by
  have h2 := (List.mem_filter.mp hw).2
  cases w <;> first | (simp [xp_isN] at h2; done) | exact va_Nw.of rfl h
/-- a table's rows, each checked with its class -/
def xk_all {α : Type} (T : List (List (Nat × α × Nat))) (f : Nat → Nat → α → Nat → Bool) : Bool := (List.range T.length).all fun oc => match T[oc]? with
  | some l => l.all fun q => f oc q.1 q.2.1 q.2.2
  | none => true
theorem xk_all_at {α : Type} {T : List (List (Nat × α × Nat))} {f : Nat → Nat → α → Nat → Bool} (h : xk_all T f = true) {oc idx : Nat} {l : List (Nat × α × Nat)} {v : α × Nat} (hT : T[oc]? = some l) (hv : xp_at l idx = some v) : f oc idx v.1 v.2 = true := by
  unfold xk_all at h
  have h1 := List.all_eq_true.mp h oc (List.mem_range.mpr (List.getElem?_eq_some_iff.mp hT).1)
  rw [hT] at h1
  exact List.all_eq_true.mp h1 _ (xp_at_mem hv)
theorem xk_all_of {α : Type} {T : List (List (Nat × α × Nat))} {f : Nat → Nat → α → Nat → Bool} (h : xk_all T f = true) {oc idx : Nat} {v : α} (hv : xp_get T oc idx = some v) : ∃ p, f oc idx v p = true := by
  unfold xp_get at hv
  split at hv
  · rename_i l hl
    split at hv
    · rename_i w hw
      cases hv
      exact ⟨w.2, xk_all_at h hl hw⟩
    · cases hv
  · cases hv
def xp_mk : List (Nat × Nat × Nat × Nat) := [(1, 65, 702, 703), (1, 65, 706, 707), (1, 62, 331, 332), (1, 62, 327, 328), (1, 62, 602, 603), (1, 62, 437, 438), (1, 62, 445, 446), (1, 59, 270, 271), (1, 59, 357, 358), (1, 60, 293, 294), (1, 60, 289, 290), (1, 60, 376, 377), (1, 60, 517, 518), (0, 60, 373, 0), (1, 64, 421, 422), (1, 64, 425, 426), (1, 64, 465, 466), (1, 64, 667, 668), (1, 64, 671, 672), (1, 61, 319, 320), (1, 61, 315, 316), (1, 61, 365, 366), (1, 61, 396, 397), (1, 61, 566, 567), (1, 61, 457, 458), (1, 61, 598, 599), (1, 61, 400, 401), (1, 61, 461, 462), (1, 61, 449, 450), (1, 63, 525, 526), (1, 63, 554, 555), (1, 63, 574, 575), (1, 63, 542, 543), (1, 63, 578, 579), (1, 63, 582, 583), (1, 63, 612, 613), (1, 58, 737, 738), (0, 58, 282, 0), (0, 58, 347, 0), (0, 58, 350, 0), (0, 58, 494, 0), (0, 66, 862, 0), (0, 66, 912, 0), (1, 66, 850, 851), (1, 66, 869, 28), (1, 66, 885, 31), (1, 66, 893, 32), (1, 66, 944, 40), (1, 66, 948, 41), (1, 66, 976, 44), (1, 66, 901, 33), (1, 66, 909, 35), (1, 66, 940, 39), (1, 66, 996, 48), (1, 66, 992, 47), (1, 66, 1024, 51), (1, 66, 1056, 56), (1, 66, 1067, 1068), (0, 70, 675, 0), (2, 65, 229, 0), (1, 65, 697, 698), (1, 65, 714, 715), (1, 65, 723, 724), (2, 62, 155, 0), (2, 59, 82, 0), (1, 59, 278, 279), (1, 59, 353, 354), (1, 59, 344, 1), (2, 60, 106, 0), (1, 60, 301, 302), (1, 60, 369, 370), (1, 60, 380, 381), (1, 60, 417, 418), (1, 60, 505, 506), (2, 64, 208, 0), (1, 64, 662, 663), (2, 61, 129, 0), (1, 61, 310, 311), (2, 63, 182, 0), (1, 63, 533, 534), (1, 63, 616, 617), (1, 63, 606, 607), (1, 58, 266, 267), (0, 58, 285, 0), (1, 58, 393, 3), (1, 58, 551, 11), (1, 58, 595, 17), (1, 58, 571, 14), (1, 58, 442, 6), (1, 58, 454, 7), (2, 66, 743, 0), (1, 66, 859, 27), (1, 66, 877, 29), (1, 66, 881, 30), (1, 66, 1016, 49), (0, 66, 865, 0), (1, 66, 905, 34), (1, 66, 936, 38), (1, 66, 988, 46), (1, 66, 1028, 52), (1, 66, 1052, 55), (0, 67, 473, 0), (1, 59, 339, 340), (1, 59, 408, 409), (1, 59, 654, 655), (1, 60, 412, 413), (1, 64, 469, 470), (2, 58, 74, 0), (1, 58, 274, 275), (1, 58, 361, 362), (1, 58, 501, 502), (1, 58, 521, 522), (1, 58, 719, 720), (1, 58, 307, 0), (1, 58, 539, 9), (1, 58, 563, 13), (1, 58, 591, 16), (1, 58, 630, 19), (1, 58, 659, 23), (1, 58, 690, 24), (1, 66, 854, 855), (1, 66, 872, 873), (1, 66, 888, 889), (1, 66, 924, 36), (1, 66, 896, 897), (1, 66, 915, 916), (1, 66, 932, 37), (1, 66, 951, 952), (1, 66, 984, 45), (1, 66, 1007, 1008), (1, 66, 1044, 54), (1, 66, 1059, 1060), (1, 58, 297, 298), (1, 58, 323, 324), (1, 58, 335, 336), (1, 58, 489, 490), (1, 58, 405, 4), (1, 58, 514, 8), (1, 58, 559, 12), (1, 58, 587, 15), (1, 58, 642, 21), (1, 58, 651, 22), (1, 58, 733, 26), (1, 66, 919, 920), (1, 66, 927, 928), (1, 66, 960, 42), (1, 66, 963, 964), (1, 66, 972, 43), (1, 66, 979, 980), (1, 66, 999, 1000), (1, 66, 1003, 1004), (1, 66, 1020, 50), (1, 66, 1036, 53), (1, 66, 1039, 1040), (1, 66, 1063, 1064), (1, 58, 509, 510), (1, 58, 646, 647), (1, 58, 681, 682), (1, 58, 685, 686), (1, 58, 728, 729), (1, 58, 389, 2), (1, 58, 711, 25), (1, 58, 638, 20), (1, 66, 955, 956), (1, 66, 967, 968), (1, 66, 1011, 1012), (1, 66, 1031, 1032), (1, 66, 1047, 1048), (1, 58, 384, 385), (1, 58, 497, 498), (1, 58, 633, 634), (1, 58, 693, 694), (1, 58, 547, 10), (1, 58, 626, 18), (1, 58, 434, 5), (1, 58, 429, 430), (1, 58, 529, 530), (1, 58, 621, 622)]
def xk_mi (j : Nat) : Bool := match xp_mi j, xp_mk[j]? with
  | some M, some (kd, p1, p2, p3) => plainName M.1.cls && (decide (M.1.cls ≠ "java/lang/invoke/MethodHandle") && (decide (M.1.cls ≠ "java/lang/invoke/VarHandle") && (decide (xp_on[M.2.2.2.2.1]? = some M.1.cls) && (xk_w p1 (.initialized M.1.cls) && (if kd = 0 then xk_w p2 (.static M.1) && !M.2.2.2.2.2.2.2 else if kd = 1 then xk_w p2 (.instanceMethod M.1) && (xk_w p3 (.selects M.1.cls M.1 M.1) && (!M.2.2.2.2.2.2.2 && decide ((xp_cl[M.2.2.2.2.1]?).map (fun c => c.1) = some M.1.cls))) else xk_w p2 (.instanceMethod M.1) && (decide (M.1.name = "<init>") && decide (M.2.2.2.1 = none)))))))
  | _, _ => false
set_option maxRecDepth 100000 in
theorem xk_mi_0 : (List.range' 0 60).all xk_mi = true := by decide +kernel
set_option maxRecDepth 100000 in
theorem xk_mi_1 : (List.range' 60 60).all xk_mi = true := by decide +kernel
set_option maxRecDepth 100000 in
theorem xk_mi_2 : (List.range' 120 58).all xk_mi = true := by decide +kernel
theorem xk_mi_all (j : Nat) (h : j < 178) : xk_mi j = true := by
  by_cases h0 : j < 60
  · exact List.all_eq_true.mp xk_mi_0 j (List.mem_range'_1.mpr (by omega))
  by_cases h1 : j < 120
  · exact List.all_eq_true.mp xk_mi_1 j (List.mem_range'_1.mpr (by omega))
  by_cases h2 : j < 178
  · exact List.all_eq_true.mp xk_mi_2 j (List.mem_range'_1.mpr (by omega))
  omega
set_option maxRecDepth 100000 in
theorem xk_code0 : xp_mi0.map (fun M => some (Cond.code M.1 M.2.1 M.2.2.1 M.2.2.2.1)) = [704, 708, 333, 329, 604, 439, 447, 272, 359, 295, 291, 378, 519, 374, 423, 427].map (fun i => lw_tbl[i]?) := rfl
set_option maxRecDepth 100000 in
theorem xk_code1 : xp_mi1.map (fun M => some (Cond.code M.1 M.2.1 M.2.2.1 M.2.2.2.1)) = [467, 669, 673, 321, 317, 367, 398, 568, 459, 600, 402, 463, 451, 527, 556, 576].map (fun i => lw_tbl[i]?) := rfl
set_option maxRecDepth 100000 in
theorem xk_code2 : xp_mi2.map (fun M => some (Cond.code M.1 M.2.1 M.2.2.1 M.2.2.2.1)) = [544, 580, 584, 614, 739, 283, 348, 351, 495, 863, 913, 852, 870, 886, 894, 945].map (fun i => lw_tbl[i]?) := rfl
set_option maxRecDepth 100000 in
theorem xk_code3 : xp_mi3.map (fun M => some (Cond.code M.1 M.2.1 M.2.2.1 M.2.2.2.1)) = [949, 977, 902, 910, 941, 997, 993, 1025, 1057, 1069, 676, 230, 699, 716, 725, 156].map (fun i => lw_tbl[i]?) := rfl
set_option maxRecDepth 100000 in
theorem xk_code4 : xp_mi4.map (fun M => some (Cond.code M.1 M.2.1 M.2.2.1 M.2.2.2.1)) = [83, 280, 355, 345, 107, 303, 371, 382, 419, 507, 209, 664, 130, 312, 183, 535].map (fun i => lw_tbl[i]?) := rfl
set_option maxRecDepth 100000 in
theorem xk_code5 : xp_mi5.map (fun M => some (Cond.code M.1 M.2.1 M.2.2.1 M.2.2.2.1)) = [618, 608, 268, 286, 394, 552, 596, 572, 443, 455, 744, 860, 878, 882, 1017, 866].map (fun i => lw_tbl[i]?) := rfl
set_option maxRecDepth 100000 in
theorem xk_code6 : xp_mi6.map (fun M => some (Cond.code M.1 M.2.1 M.2.2.1 M.2.2.2.1)) = [906, 937, 989, 1029, 1053, 474, 341, 410, 656, 414, 471, 75, 276, 363, 503, 523].map (fun i => lw_tbl[i]?) := rfl
set_option maxRecDepth 100000 in
theorem xk_code7 : xp_mi7.map (fun M => some (Cond.code M.1 M.2.1 M.2.2.1 M.2.2.2.1)) = [721, 308, 540, 564, 592, 631, 660, 691, 856, 874, 890, 925, 898, 917, 933, 953].map (fun i => lw_tbl[i]?) := rfl
set_option maxRecDepth 100000 in
theorem xk_code8 : xp_mi8.map (fun M => some (Cond.code M.1 M.2.1 M.2.2.1 M.2.2.2.1)) = [985, 1009, 1045, 1061, 299, 325, 337, 491, 406, 515, 560, 588, 643, 652, 734, 921].map (fun i => lw_tbl[i]?) := rfl
set_option maxRecDepth 100000 in
theorem xk_code9 : xp_mi9.map (fun M => some (Cond.code M.1 M.2.1 M.2.2.1 M.2.2.2.1)) = [929, 961, 965, 973, 981, 1001, 1005, 1021, 1037, 1041, 1065, 511, 648, 683, 687, 730].map (fun i => lw_tbl[i]?) := rfl
set_option maxRecDepth 100000 in
theorem xk_code10 : xp_mi10.map (fun M => some (Cond.code M.1 M.2.1 M.2.2.1 M.2.2.2.1)) = [390, 712, 639, 957, 969, 1013, 1033, 1049, 386, 499, 635, 695, 548, 627, 435, 431].map (fun i => lw_tbl[i]?) := rfl
set_option maxRecDepth 100000 in
theorem xk_code11 : xp_mi11.map (fun M => some (Cond.code M.1 M.2.1 M.2.2.1 M.2.2.2.1)) = [531, 623].map (fun i => lw_tbl[i]?) := rfl
theorem xk_codes (l : List xm_M) (ps : List Nat) (h : l.map (fun M => some (Cond.code M.1 M.2.1 M.2.2.1 M.2.2.2.1)) = ps.map (fun i => lw_tbl[i]?)) (k : Nat) (M : xm_M) (hk : l[k]? = some M) : Cond.code M.1 M.2.1 M.2.2.1 M.2.2.2.1 ∈ xp_tb := by
  have h1 : (l.map (fun M => some (Cond.code M.1 M.2.1 M.2.2.1 M.2.2.2.1)))[k]? = some (some (Cond.code M.1 M.2.1 M.2.2.1 M.2.2.2.1)) := by rw [List.getElem?_map, hk]; rfl
  rw [h, List.getElem?_map] at h1
  cases hp : ps[k]? with
  | none => rw [hp] at h1; cases h1
  | some i =>
    rw [hp] at h1
    exact List.mem_filter.mpr ⟨List.mem_of_getElem? (Option.some.inj h1), rfl⟩
theorem xk_code_all (j : Nat) (h : j < 178) (M : xm_M) (hM : xp_mi j = some M) : Cond.code M.1 M.2.1 M.2.2.1 M.2.2.2.1 ∈ xp_tb := by
  have hc : j / 16 < 12 := by omega
  unfold xp_mi at hM
  split at hM
  · rename_i l hl
    generalize j % 16 = k at hM
    generalize j / 16 = c at hl hc
    match c, hc, hl with
    | 0, _, hl => cases hl; exact xk_codes _ _ xk_code0 k M hM
    | 1, _, hl => cases hl; exact xk_codes _ _ xk_code1 k M hM
    | 2, _, hl => cases hl; exact xk_codes _ _ xk_code2 k M hM
    | 3, _, hl => cases hl; exact xk_codes _ _ xk_code3 k M hM
    | 4, _, hl => cases hl; exact xk_codes _ _ xk_code4 k M hM
    | 5, _, hl => cases hl; exact xk_codes _ _ xk_code5 k M hM
    | 6, _, hl => cases hl; exact xk_codes _ _ xk_code6 k M hM
    | 7, _, hl => cases hl; exact xk_codes _ _ xk_code7 k M hM
    | 8, _, hl => cases hl; exact xk_codes _ _ xk_code8 k M hM
    | 9, _, hl => cases hl; exact xk_codes _ _ xk_code9 k M hM
    | 10, _, hl => cases hl; exact xk_codes _ _ xk_code10 k M hM
    | 11, _, hl => cases hl; exact xk_codes _ _ xk_code11 k M hM
    | c + 12, hc, _ => omega
  · cases hM
def xk_fl (oc idx : Nat) (v : Nat × Nat × Bool × FieldType) (p : Nat) : Bool := match xp_on[oc]?, xp_cl[v.1]? with
  | some own, some (C, T, N) => decide (v.2.1 < N) && (decide ((T v.2.1).2.2.2 = v.2.2.1) && (decide (parseFieldDescriptor (T v.2.1).2.2.1 = some v.2.2.2) && (decide ((T v.2.1).1 = C) && xk_w p (.fieldLink own idx C (T v.2.1).2.1 (T v.2.1).2.2.1))))
  | _, _ => false
set_option maxRecDepth 100000 in
theorem xk_fl_all : xk_all xp_flT xk_fl = true := by decide +kernel
def xk_lk (oc idx j : Nat) (p : Nat) : Bool := match xp_on[oc]?, xp_mi j with
  | some own, some N => (match lw_tbl[p]? with
    | some (.methodLink a i y) => decide (a = own) && (decide (i = idx) && decide (y = N.1))
    | some (.methodLinkNest a i y _) => decide (a = own) && (decide (i = idx) && decide (y = N.1))
    | _ => false)
  | _, _ => false
def xk_m (kd oc idx : Nat) (v : Nat × Nat) (p : Nat) : Bool := xk_lk oc idx v.1 p && (decide (v.1 < 178) && (decide ((xp_mk[v.1]?).map (fun q => q.1) = some kd) && decide (((xp_mi v.1).bind (fun M => parseMethodDescriptor M.1.desc)).map (fun d => d.parameters.length) = some v.2)))
set_option maxRecDepth 100000 in
theorem xk_ms_all : xk_all xp_msT (xk_m 0) = true := by decide +kernel
set_option maxRecDepth 100000 in
theorem xk_mv_all : xk_all xp_mvT (xk_m 1) = true := by decide +kernel
set_option maxRecDepth 100000 in
theorem xk_mp_all : xk_all xp_mpT (xk_m 2) = true := by decide +kernel
def xp_ip : List (Nat × Nat) := [(227, 65), (153, 62), (80, 59), (104, 60), (206, 64), (127, 61), (180, 63), (72, 58), (741, 66)]
def xp_ty : List (Nat → FieldType) := [tyX0, tyX1, tyX2, tyX3, tyX4, tyX5, tyX6, tyX7, tyX8]
def xk_nw (oc idx : Nat) (v : Nat × List Value) (p : Nat) : Bool := match xp_on[oc]?, xp_cl[v.1]?, xp_ip[v.1]?, xp_ty[v.1]? with
  | some own, some (C, T, N), some (p1, p2), some ty => xk_w p (.classLink own idx C) && (xk_w p1 (.instantiable C N) && (xk_w p2 (.initialized C) && (decide (v.2.length = N) && (List.range N).all (fun k => decide (defaultValue (ty k) = vp_V v.2 k) && decide (parseFieldDescriptor (T k).2.2.1 = some (ty k))))))
  | _, _, _, _ => false
set_option maxRecDepth 100000 in
theorem xk_nw_all : xk_all xp_nwT xk_nw = true := by decide +kernel
def xp_lay : List (List Nat) := [[236, 238, 240], [165, 167, 169, 171, 173, 175], [91, 93, 95, 97, 99], [115, 117, 119, 121, 123], [216, 218, 220, 222], [139, 141, 143, 145, 147, 149], [192, 194, 196, 198, 200, 202], [250, 252, 254, 256, 258, 260, 262], [780, 782, 784, 786, 788, 790, 792, 794, 796, 798, 800, 802, 804, 806, 808, 810, 812, 814, 816, 818, 820, 822, 824, 826, 828, 830, 832, 834, 836, 838, 840, 842, 844, 846]]
def xk_cl (ci : Nat) : Bool := match xp_cl[ci]?, xp_lay[ci]? with
  | some (C, T, N), some ps => (List.range N).all fun k => match ps[k]? with
    | some p => xk_w p (u_lay C T k)
    | none => false
  | _, _ => false
set_option maxRecDepth 100000 in
theorem xk_cl_all : (List.range xp_cl.length).all xk_cl = true := by decide +kernel
theorem xp_cl_in {ci N : Nat} {C : String} {T : u_T} (h : xp_cl[ci]? = some (C, T, N)) : ∀ w ∈ u_ws C T N, w ∈ xp_tb := by
  intro w hw
  have h1 := List.all_eq_true.mp xk_cl_all ci (List.mem_range.mpr (List.getElem?_eq_some_iff.mp h).1)
  unfold xk_cl at h1
  rw [h] at h1
  split at h1
  · rename_i C' T' N' ps hx hps
    cases hx
    obtain ⟨k, hk, rfl⟩ := List.mem_map.mp hw
    have h2 := List.all_eq_true.mp h1 k hk
    split at h2
    · exact xk_w_mem h2
    · cases h2
  · cases h1
theorem xp_cl_ty {ci N : Nat} {C : String} {T : u_T} (h : xp_cl[ci]? = some (C, T, N)) : ∃ ty : Nat → FieldType, (∀ k, k < N → parseFieldDescriptor (T k).2.2.1 = some (ty k)) ∧ (∀ a, a < N → ∀ b, b < N → a ≠ b → (T a).2.1 ≠ (T b).2.1) := by
  match ci, h with
  | 0, h => cases h; exact ⟨tyX0, tyX0_ok, nmX0⟩
  | 1, h => cases h; exact ⟨tyX1, tyX1_ok, nmX1⟩
  | 2, h => cases h; exact ⟨tyX2, tyX2_ok, nmX2⟩
  | 3, h => cases h; exact ⟨tyX3, tyX3_ok, nmX3⟩
  | 4, h => cases h; exact ⟨tyX4, tyX4_ok, nmX4⟩
  | 5, h => cases h; exact ⟨tyX5, tyX5_ok, nmX5⟩
  | 6, h => cases h; exact ⟨tyX6, tyX6_ok, nmX6⟩
  | 7, h => cases h; exact ⟨tyX7, tyX7_ok, nmX7⟩
  | 8, h => cases h; exact ⟨tyX8, tyX8_ok, nmX8⟩
  | n + 9, h => cases h
def xk_cn (oc idx : Nat) (v : Int32) (p : Nat) : Bool := match xp_on[oc]? with
  | some own => xk_w p (.constant own idx v)
  | none => false
set_option maxRecDepth 100000 in
theorem xk_cn_all : xk_all xp_cnT xk_cn = true := by decide +kernel
def xp_oiP : List (Nat × Nat × Nat) := [(0, 3, 231), (1, 3, 157), (2, 3, 84), (3, 3, 108), (4, 3, 210), (5, 3, 131), (6, 3, 184), (7, 1, 76), (8, 1, 745)]
def xk_oi (q : Nat × Nat × Nat) : Bool := match xp_on[q.1]? with
  | some own => xk_w q.2.2 (.methodLink own q.2.1 Lib.objectInit)
  | none => false
theorem xk_oi_all : xp_oiP.all xk_oi = true := by decide +kernel
theorem xk_oi_L : xp_oiP.map (fun q => (q.1, q.2.1)) = xp_oiL := by decide +kernel
theorem xk_oi_1 : xk_w 77 (.instanceMethod Lib.objectInit) = true := by decide +kernel
theorem xk_oi_2 : lw_tbl[78]? = some (.code Lib.objectInit ⟨#[0xb1]⟩ 1 none) := by decide +kernel
def xp_acP : List (Nat × Nat × Nat) := [(11, 150, 485)]
def xk_ac (q : Nat × Nat × Nat) : Bool := match xp_on[q.1]? with
  | some own => xk_w q.2.2 (.methodLink own q.2.1 arraycopyName)
  | none => false
theorem xk_ac_all : xp_acP.all xk_ac = true := by decide +kernel
theorem xk_ac_L : xp_acP.map (fun q => (q.1, q.2.1)) = xp_acL := by decide +kernel
theorem xk_ac_1 : xk_w 487 (.native arraycopyName) = true := by decide +kernel
theorem xk_ac_2 : xk_w 486 (.static arraycopyName) = true := by decide +kernel
theorem xk_ac_3 : xk_w 69 (.initialized "java/lang/System") = true := by decide +kernel
def xp_mmP : List (Nat × Nat × Nat) := [(11, 304, 482)]
def xk_mm (q : Nat × Nat × Nat) : Bool := match xp_on[q.1]? with
  | some own => xk_w q.2.2 (.methodLink own q.2.1 Lib.Math.min.name)
  | none => false
theorem xk_mm_all : xp_mmP.all xk_mm = true := by decide +kernel
theorem xk_mm_L : xp_mmP.map (fun q => (q.1, q.2.1)) = xp_mmL := by decide +kernel
theorem xk_mm_1 : xk_w 483 (.static Lib.Math.min.name) = true := by decide +kernel
theorem xk_mm_2 : xk_w 68 (.initialized "java/lang/Math") = true := by decide +kernel
theorem xk_mm_3 : lw_tbl[484]? = some (.code Lib.Math.min.name Lib.Math.min.code 2 (some .int)) := by decide +kernel
theorem xk_arr_int : xk_w 102 (.arrayClass .int) = true := by decide +kernel
theorem xk_arr_boolean : xk_w 178 (.arrayClass .boolean) = true := by decide +kernel
theorem xk_arr_long : xk_w 225 (.arrayClass .long) = true := by decide +kernel
