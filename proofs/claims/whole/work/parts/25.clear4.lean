theorem clI_off (a n : Int) : ∀ (k : Nat) (r h : Ob), ∀ j i, (j ≠ 1 ∨ 11 ≤ i) → (clI a n k r h).2.2 j i = h j i
  | 0, r, h, j, i, _ => rfl
  | k + 1, r, h, j, i, hj => by
    unfold clI
    split
    · rfl
    · split
      · rfl
      · rename_i h1 h2
        rw [clI_off a n k _ _ j i hj]
        rcases fw_cases h a n with e | ⟨b, b1, e, -⟩
        · exact absurd e h1
        · rw [e, toNat_nat]
          unfold xset
          rw [if_neg (by omega)]
noncomputable def oldO (c h : Ob) : Ob := xcpy c 1 0 11 (fun i => h 1 (0 + i))
theorem clF_back (c r h : Ob) (a n : Int) : xcpy ((clF r h a n).2.2) 1 0 11 (fun i => oldO c h 1 (0 + i)) = h := by
  funext j i
  rw [clF_e]
  unfold xcpy
  by_cases hc : j = 1 ∧ 0 ≤ i ∧ i < 0 + 11
  · rw [if_pos hc]
    obtain ⟨rfl, -, hc2⟩ := hc
    show (if 1 = 1 ∧ 0 ≤ 0 + (i - 0) ∧ 0 + (i - 0) < 0 + 11 then h 1 (0 + (0 + (i - 0) - 0)) else c 1 (0 + (i - 0))) = h 1 i
    rw [if_pos ⟨rfl, by omega, by omega⟩, show 0 + (0 + (i - 0) - 0) = i by omega]
  · rw [if_neg hc]
    exact clI_off a n 8 r h j i (by omega)
noncomputable def cfI (h : Ob) (n : Int) : List Int → Ob → Int × Ob × Ob
  | [], r => (-1, r, h)
  | k :: t, r => if h 0 9 < k + n then (-1, r, h) else if iop h k n then (if (clF r h k n).1 then (k, (clF r h k n).2) else cfI h n t (clF r h k n).2.1) else cfI h n t r
noncomputable def cfF : Ob → Ob → Int → Int × Ob × Ob := xop (fun r h n => cfI h n (wls h (h 0 9)) r)
theorem cfF_e (r h : Ob) (n : Int) : cfF r h n = cfI h n (wls h (h 0 9)) r := by
  unfold cfF
  rw [xop_eq]
theorem dX1_clearFirst_0 : decode cX1_clearFirst 0 = .ok (.aload_n 1, 1) := by decide +kernel
theorem dX1_clearFirst_1 : decode cX1_clearFirst 1 = .ok (.getfield 22, 3) := by decide +kernel
theorem dX1_clearFirst_4 : decode cX1_clearFirst 4 = .ok (.iconst 0, 1) := by decide +kernel
theorem dX1_clearFirst_5 : decode cX1_clearFirst 5 = .ok (.aload_n 0, 1) := by decide +kernel
theorem dX1_clearFirst_6 : decode cX1_clearFirst 6 = .ok (.getfield 18, 3) := by decide +kernel
theorem dX1_clearFirst_9 : decode cX1_clearFirst 9 = .ok (.iconst 0, 1) := by decide +kernel
theorem dX1_clearFirst_10 : decode cX1_clearFirst 10 = .ok (.bipush 11, 2) := by decide +kernel
theorem dX1_clearFirst_12 : decode cX1_clearFirst 12 = .ok (.invokestatic 27, 3) := by decide +kernel
theorem dX1_clearFirst_15 : decode cX1_clearFirst 15 = .ok (.iconst 0, 1) := by decide +kernel
theorem dX1_clearFirst_16 : decode cX1_clearFirst 16 = .ok (.istore_n 3, 1) := by decide +kernel
theorem dX1_clearFirst_17 : decode cX1_clearFirst 17 = .ok (.iload_n 3, 1) := by decide +kernel
theorem dX1_clearFirst_18 : decode cX1_clearFirst 18 = .ok (.iload_n 2, 1) := by decide +kernel
theorem dX1_clearFirst_19 : decode cX1_clearFirst 19 = .ok (.iadd, 1) := by decide +kernel
theorem dX1_clearFirst_20 : decode cX1_clearFirst 20 = .ok (.aload_n 1, 1) := by decide +kernel
theorem dX1_clearFirst_21 : decode cX1_clearFirst 21 = .ok (.getfield 33, 3) := by decide +kernel
theorem dX1_clearFirst_24 : decode cX1_clearFirst 24 = .ok (.if_icmp .gt 59, 3) := by decide +kernel
theorem dX1_clearFirst_27 : decode cX1_clearFirst 27 = .ok (.aload_n 0, 1) := by decide +kernel
theorem dX1_clearFirst_28 : decode cX1_clearFirst 28 = .ok (.aload_n 1, 1) := by decide +kernel
theorem dX1_clearFirst_29 : decode cX1_clearFirst 29 = .ok (.iload_n 3, 1) := by decide +kernel
theorem dX1_clearFirst_30 : decode cX1_clearFirst 30 = .ok (.iload_n 2, 1) := by decide +kernel
theorem dX1_clearFirst_31 : decode cX1_clearFirst 31 = .ok (.invokevirtual 37, 3) := by decide +kernel
theorem dX1_clearFirst_34 : decode cX1_clearFirst 34 = .ok (.ifCond .eq 30, 3) := by decide +kernel
theorem dX1_clearFirst_37 : decode cX1_clearFirst 37 = .ok (.aload_n 0, 1) := by decide +kernel
theorem dX1_clearFirst_38 : decode cX1_clearFirst 38 = .ok (.aload_n 1, 1) := by decide +kernel
theorem dX1_clearFirst_39 : decode cX1_clearFirst 39 = .ok (.iload_n 3, 1) := by decide +kernel
theorem dX1_clearFirst_40 : decode cX1_clearFirst 40 = .ok (.iload_n 2, 1) := by decide +kernel
theorem dX1_clearFirst_41 : decode cX1_clearFirst 41 = .ok (.invokevirtual 41, 3) := by decide +kernel
theorem dX1_clearFirst_44 : decode cX1_clearFirst 44 = .ok (.ifCond .eq 5, 3) := by decide +kernel
theorem dX1_clearFirst_47 : decode cX1_clearFirst 47 = .ok (.iload_n 3, 1) := by decide +kernel
theorem dX1_clearFirst_48 : decode cX1_clearFirst 48 = .ok (.ireturn, 1) := by decide +kernel
theorem dX1_clearFirst_49 : decode cX1_clearFirst 49 = .ok (.aload_n 0, 1) := by decide +kernel
theorem dX1_clearFirst_50 : decode cX1_clearFirst 50 = .ok (.getfield 18, 3) := by decide +kernel
theorem dX1_clearFirst_53 : decode cX1_clearFirst 53 = .ok (.iconst 0, 1) := by decide +kernel
theorem dX1_clearFirst_54 : decode cX1_clearFirst 54 = .ok (.aload_n 1, 1) := by decide +kernel
theorem dX1_clearFirst_55 : decode cX1_clearFirst 55 = .ok (.getfield 22, 3) := by decide +kernel
theorem dX1_clearFirst_58 : decode cX1_clearFirst 58 = .ok (.iconst 0, 1) := by decide +kernel
theorem dX1_clearFirst_59 : decode cX1_clearFirst 59 = .ok (.bipush 11, 2) := by decide +kernel
theorem dX1_clearFirst_61 : decode cX1_clearFirst 61 = .ok (.invokestatic 27, 3) := by decide +kernel
theorem dX1_clearFirst_64 : decode cX1_clearFirst 64 = .ok (.iload_n 3, 1) := by decide +kernel
theorem dX1_clearFirst_65 : decode cX1_clearFirst 65 = .ok (.iconst 1, 1) := by decide +kernel
theorem dX1_clearFirst_66 : decode cX1_clearFirst 66 = .ok (.iadd, 1) := by decide +kernel
theorem dX1_clearFirst_67 : decode cX1_clearFirst 67 = .ok (.aload_n 1, 1) := by decide +kernel
theorem dX1_clearFirst_68 : decode cX1_clearFirst 68 = .ok (.iload_n 3, 1) := by decide +kernel
theorem dX1_clearFirst_69 : decode cX1_clearFirst 69 = .ok (.aload_n 1, 1) := by decide +kernel
theorem dX1_clearFirst_70 : decode cX1_clearFirst 70 = .ok (.getfield 33, 3) := by decide +kernel
theorem dX1_clearFirst_73 : decode cX1_clearFirst 73 = .ok (.invokevirtual 44, 3) := by decide +kernel
theorem dX1_clearFirst_76 : decode cX1_clearFirst 76 = .ok (.invokestatic 48, 3) := by decide +kernel
theorem dX1_clearFirst_79 : decode cX1_clearFirst 79 = .ok (.istore_n 3, 1) := by decide +kernel
theorem dX1_clearFirst_80 : decode cX1_clearFirst 80 = .ok (.goto (-63), 3) := by decide +kernel
theorem dX1_clearFirst_83 : decode cX1_clearFirst 83 = .ok (.iconst (-1), 1) := by decide +kernel
theorem dX1_clearFirst_84 : decode cX1_clearFirst 84 = .ok (.ireturn, 1) := by decide +kernel
abbrev mX1_clearFirst : XM := (cX1_clearFirst, 4, RX1, (some .int), shw_1_6_3, 4)
noncomputable def rg_X1_clearFirst_0 (k17 : XK) : XK :=
 o_aload 1 <|
 o_get shw_1_6_3 3 0 <|
 o_iconst 0 <|
 o_aload 0 <|
 o_get shw_1_6_3 1 1 <|
 o_iconst 0 <|
 o_iconst 11 <|
 o_acopy shw_1_6_3 <|
 o_iconst 0 <|
 o_istore 3 <|
 o_cut [] k17
def en_X1_clearFirst_0 (p2 : Int) (a : Ob × Ob × Ob) : XSt := ([some (.inr (.inl (0, 0))), some (.inr (.inl (2, 0))), some (.inl p2), none], [], [a.1, a.2.1, a.2.2])
noncomputable def rg_X1_clearFirst_17 (k64 : XK) : XK :=
 o_iload 3 <|
 o_iload 2 <|
 o_iadd <|
 o_aload 1 <|
 o_get shw_1_6_3 3 9 <|
 o_icmp_gt (o_iconst (-1) <|
 o_ireturn)
 (o_aload 0 <|
 o_aload 1 <|
 o_iload 3 <|
 o_iload 2 <|
 o_callVg 4 1 [0, 1, 2] g_X1_isOpen v_X1_isOpen <|
 o_if_eq (o_cut [] k64)
 (o_aload 0 <|
 o_aload 1 <|
 o_iload 3 <|
 o_iload 2 <|
 o_callVg 4 1 [0, 1, 2] g_X1_clear v_X1_clear <|
 o_if_eq (o_aload 0 <|
 o_get shw_1_6_3 1 1 <|
 o_iconst 0 <|
 o_aload 1 <|
 o_get shw_1_6_3 3 0 <|
 o_iconst 0 <|
 o_iconst 11 <|
 o_acopy shw_1_6_3 <|
 o_cut [] k64)
 (o_iload 3 <|
 o_ireturn)))
def en_X1_clearFirst_17 (p2 : Int) (a : Int × Ob × Ob × Ob) : XSt := ([some (.inr (.inl (0, 0))), some (.inr (.inl (2, 0))), some (.inl p2), some (.inl a.1)], [], [a.2.1, a.2.2.1, a.2.2.2])
noncomputable def rg_X1_clearFirst_64 (k17 : XK) : XK :=
 o_iload 3 <|
 o_iconst 1 <|
 o_iadd <|
 o_aload 1 <|
 o_iload 3 <|
 o_aload 1 <|
 o_get shw_1_6_3 3 9 <|
 o_callV 3 1 [2] f_X3_endAt <|
 o_max <|
 o_istore 3 <|
 o_cut [] k17
def en_X1_clearFirst_64 (p2 : Int) (a : Int × Ob × Ob × Ob) : XSt := ([some (.inr (.inl (0, 0))), some (.inr (.inl (2, 0))), some (.inl p2), some (.inl a.1)], [], [a.2.1, a.2.2.1, a.2.2.2])
noncomputable def mg_X1_clearFirst_0 (p2 : Int) (k17 : (Int × Ob × Ob × Ob) → Option Rt) (a : Ob × Ob × Ob) : Option Rt :=
 k17 (0, (xcpy a.1 1 0 11 (fun i => a.2.2 1 (0 + i))), a.2.1, a.2.2)
set_option maxRecDepth 100000 in
set_option maxHeartbeats 4000000 in
theorem rq_X1_clearFirst_0 (p2 : Int) (k17 : XK) (a : Ob × Ob × Ob) : rg_X1_clearFirst_0 k17 (en_X1_clearFirst_0 p2 a) = mg_X1_clearFirst_0 p2 (fun b => k17 (en_X1_clearFirst_17 p2 b)) a := rfl
set_option maxRecDepth 100000 in
set_option maxHeartbeats 4000000 in
theorem sg_X1_clearFirst_0 {X : XDyn} {r0 : Rt} (C : XO X mX1_clearFirst) {k17 : XK} (q17 : XS X mX1_clearFirst r0 17 k17) : XS X mX1_clearFirst r0 0 (rg_X1_clearFirst_0 k17) := by
 unfold rg_X1_clearFirst_0
 exact s_aload_n (pc := 0) C dX1_clearFirst_0 rfl <|
    s_get (pc := 1) C (ci := 3) (kf := 0) rfl inX3 (by decide) wd_100 dX1_clearFirst_1 <|
    s_iconst (pc := 4) C dX1_clearFirst_4 <|
    s_aload_n (pc := 5) C dX1_clearFirst_5 rfl <|
    s_get (pc := 6) C (ci := 1) (kf := 1) rfl inX1 (by decide) wd_302 dX1_clearFirst_6 <|
    s_iconst (pc := 9) C dX1_clearFirst_9 <|
    s_bipush (pc := 10) C dX1_clearFirst_10 (by decide) <|
    s_acopy (pc := 12) C (by decide) wd_666 wd_377 wd_376 wd_83 dX1_clearFirst_12 <|
    s_iconst (pc := 15) C dX1_clearFirst_15 <|
    s_istore_n (pc := 16) C dX1_clearFirst_16 rfl <|
    s_cut q17
noncomputable def mg_X1_clearFirst_17 (p2 : Int) (k64 : (Int × Ob × Ob × Ob) → Option Rt) (a : Int × Ob × Ob × Ob) : Option Rt :=
 if xw (a.1 + p2) > xw (a.2.2.2 0 9) then (RI (-1) [a.2.1, a.2.2.1, a.2.2.2])
 else (if pd (LW a.2.2.2 ∧ Nb a.2.2.2 a.1 ∧ 0 ≤ a.1 ∧ 0 ≤ p2 ∧ a.1 + p2 ≤ a.2.2.2 0 9) then (
 if xw (bz (iop a.2.2.2 a.1 p2)) = 0 then (k64 (a.1, a.2.1, a.2.2.1, a.2.2.2))
 else (if pd (LW a.2.2.2 ∧ 0 ≤ a.1 ∧ 0 ≤ p2 ∧ a.1 + p2 ≤ 200 ∧ (1 ≤ p2 ∨ a.1 = 0)) then (
 if xw (bz (clF a.2.2.1 a.2.2.2 a.1 p2).1) = 0 then (k64 (a.1, a.2.1, ((clF a.2.2.1 a.2.2.2 a.1 p2).2.1), (xcpy ((clF a.2.2.1 a.2.2.2 a.1 p2).2.2) 1 0 11 (fun i => a.2.1 1 (0 + i)))))
 else (RI a.1 [a.2.1, ((clF a.2.2.1 a.2.2.2 a.1 p2).2.1), ((clF a.2.2.1 a.2.2.2 a.1 p2).2.2)])) else none)) else none)
set_option maxRecDepth 100000 in
set_option maxHeartbeats 4000000 in
theorem rq_X1_clearFirst_17 (p2 : Int) (k64 : XK) (a : Int × Ob × Ob × Ob) : rg_X1_clearFirst_17 k64 (en_X1_clearFirst_17 p2 a) = mg_X1_clearFirst_17 p2 (fun b => k64 (en_X1_clearFirst_64 p2 b)) a := rfl
set_option maxRecDepth 100000 in
set_option maxHeartbeats 4000000 in
theorem sg_X1_clearFirst_17 {X : XDyn} {r0 : Rt} (C : XO X mX1_clearFirst) {k64 : XK} (q64 : XS X mX1_clearFirst r0 64 k64) : XS X mX1_clearFirst r0 17 (rg_X1_clearFirst_17 k64) := by
 unfold rg_X1_clearFirst_17
 exact s_iload_n (pc := 17) C dX1_clearFirst_17 rfl <|
    s_iload_n (pc := 18) C dX1_clearFirst_18 rfl <|
    s_iadd (pc := 19) C dX1_clearFirst_19 <|
    s_aload_n (pc := 20) C dX1_clearFirst_20 rfl <|
    s_get (pc := 21) C (ci := 3) (kf := 9) rfl inX3 (by decide) wd_126 dX1_clearFirst_21 <|
    s_icmp_gt (pc := 24) C dX1_clearFirst_24 (by decide) (s_iconst (pc := 83) C dX1_clearFirst_83 <|
    s_ireturn (pc := 84) C rfl dX1_clearFirst_84)
    (s_aload_n (pc := 27) C dX1_clearFirst_27 rfl <|
    s_aload_n (pc := 28) C dX1_clearFirst_28 rfl <|
    s_iload_n (pc := 29) C dX1_clearFirst_29 rfl <|
    s_iload_n (pc := 30) C dX1_clearFirst_30 rfl <|
    s_callVg (pc := 31) C ct_X1_isOpen (n := 4) (rk := 1) (mp := [0, 1, 2]) ⟨rfl, by decide, rfl⟩ (ci := 1) rfl rfl (by decide) (by decide) yi_X1_isOpen (by decide) wd_667 wd_669 wd_13 wd_80 wd_670 dX1_clearFirst_31 <|
    s_if_eq (pc := 34) C dX1_clearFirst_34 (by decide) (s_cut q64)
    (s_aload_n (pc := 37) C dX1_clearFirst_37 rfl <|
    s_aload_n (pc := 38) C dX1_clearFirst_38 rfl <|
    s_iload_n (pc := 39) C dX1_clearFirst_39 rfl <|
    s_iload_n (pc := 40) C dX1_clearFirst_40 rfl <|
    s_callVg (pc := 41) C ct_X1_clear (n := 4) (rk := 1) (mp := [0, 1, 2]) ⟨rfl, by decide, rfl⟩ (ci := 1) rfl rfl (by decide) (by decide) yi_X1_clear (by decide) wd_674 wd_676 wd_14 wd_80 wd_677 dX1_clearFirst_41 <|
    s_if_eq (pc := 44) C dX1_clearFirst_44 (by decide) (s_aload_n (pc := 49) C dX1_clearFirst_49 rfl <|
    s_get (pc := 50) C (ci := 1) (kf := 1) rfl inX1 (by decide) wd_302 dX1_clearFirst_50 <|
    s_iconst (pc := 53) C dX1_clearFirst_53 <|
    s_aload_n (pc := 54) C dX1_clearFirst_54 rfl <|
    s_get (pc := 55) C (ci := 3) (kf := 0) rfl inX3 (by decide) wd_100 dX1_clearFirst_55 <|
    s_iconst (pc := 58) C dX1_clearFirst_58 <|
    s_bipush (pc := 59) C dX1_clearFirst_59 (by decide) <|
    s_acopy (pc := 61) C (by decide) wd_666 wd_377 wd_376 wd_83 dX1_clearFirst_61 <|
    s_cut q64)
    (s_iload_n (pc := 47) C dX1_clearFirst_47 rfl <|
    s_ireturn (pc := 48) C rfl dX1_clearFirst_48)))
noncomputable def mg_X1_clearFirst_64 (p2 : Int) (k17 : (Int × Ob × Ob × Ob) → Option Rt) (a : Int × Ob × Ob × Ob) : Option Rt :=
 k17 ((xmax (a.1 + 1) (nxt a.2.2.2 a.1 (a.2.2.2 0 9))), a.2.1, a.2.2.1, a.2.2.2)
set_option maxRecDepth 100000 in
set_option maxHeartbeats 4000000 in
theorem rq_X1_clearFirst_64 (p2 : Int) (k17 : XK) (a : Int × Ob × Ob × Ob) : rg_X1_clearFirst_64 k17 (en_X1_clearFirst_64 p2 a) = mg_X1_clearFirst_64 p2 (fun b => k17 (en_X1_clearFirst_17 p2 b)) a := rfl
set_option maxRecDepth 100000 in
set_option maxHeartbeats 4000000 in
theorem sg_X1_clearFirst_64 {X : XDyn} {r0 : Rt} (C : XO X mX1_clearFirst) {k17 : XK} (q17 : XS X mX1_clearFirst r0 17 k17) : XS X mX1_clearFirst r0 64 (rg_X1_clearFirst_64 k17) := by
 unfold rg_X1_clearFirst_64
 exact s_iload_n (pc := 64) C dX1_clearFirst_64 rfl <|
    s_iconst (pc := 65) C dX1_clearFirst_65 <|
    s_iadd (pc := 66) C dX1_clearFirst_66 <|
    s_aload_n (pc := 67) C dX1_clearFirst_67 rfl <|
    s_iload_n (pc := 68) C dX1_clearFirst_68 rfl <|
    s_aload_n (pc := 69) C dX1_clearFirst_69 rfl <|
    s_get (pc := 70) C (ci := 3) (kf := 9) rfl inX3 (by decide) wd_126 dX1_clearFirst_70 <|
    s_callV (pc := 73) C ct_X3_endAt (n := 3) (rk := 1) (mp := [2]) ⟨rfl, by decide, rfl⟩ (ci := 3) rfl rfl (by decide) (by decide) yi_X3_endAt (by decide) wd_673 wd_398 wd_399 wd_74 wd_400 dX1_clearFirst_73 <|
    s_max (pc := 76) C (by decide) wd_608 wd_402 wd_82 wd_403 dX1_clearFirst_76 <|
    s_istore_n (pc := 79) C dX1_clearFirst_79 rfl <|
    s_goto (pc := 80) C dX1_clearFirst_80 (by decide) <|
    s_cut q17
noncomputable def rw_X1_clearFirst_64 (f : Nat) (k17 : XK) : XK := rg_X1_clearFirst_64 k17
noncomputable def md_X1_clearFirst_64 (p2 : Int) (f : Nat) (k17 : (Int × Ob × Ob × Ob) → Option Rt) : Int × Ob × Ob × Ob → Option Rt := mg_X1_clearFirst_64 p2 k17
theorem eq_X1_clearFirst_64 (p2 : Int) (f : Nat) (k17 : XK) (a : Int × Ob × Ob × Ob) : rw_X1_clearFirst_64 f k17 (en_X1_clearFirst_64 p2 a) = md_X1_clearFirst_64 p2 f (fun b => k17 (en_X1_clearFirst_17 p2 b)) a :=
 (rq_X1_clearFirst_64 p2 k17 a).trans (congrFun (congr (rfl : mg_X1_clearFirst_64 p2 = mg_X1_clearFirst_64 p2) rfl) a)
theorem sd_X1_clearFirst_64 (f : Nat) {X : XDyn} {r0 : Rt} (C : XO X mX1_clearFirst) {k17 : XK} (q17 : XS X mX1_clearFirst r0 17 k17) : XS X mX1_clearFirst r0 64 (rw_X1_clearFirst_64 f k17) := sg_X1_clearFirst_64 C q17
noncomputable def rw_X1_clearFirst_17 (f : Nat) : XK := tlp (fun k17 => rg_X1_clearFirst_17 (rw_X1_clearFirst_64 f k17)) f
noncomputable def lb_X1_clearFirst_17 (p2 : Int) (f : Nat) : ((Int × Ob × Ob × Ob) → Option Rt) → Int × Ob × Ob × Ob → Option Rt := fun k17 => mg_X1_clearFirst_17 p2 (md_X1_clearFirst_64 p2 f k17)
noncomputable def md_X1_clearFirst_17 (p2 : Int) (f : Nat) : Int × Ob × Ob × Ob → Option Rt := tlp (lb_X1_clearFirst_17 p2 f) f
theorem eq_X1_clearFirst_17 (p2 : Int) (f : Nat) (a : Int × Ob × Ob × Ob) : rw_X1_clearFirst_17 f (en_X1_clearFirst_17 p2 a) = md_X1_clearFirst_17 p2 f a :=
 tlp_enc (en_X1_clearFirst_17 p2) (fun k17 a => (rq_X1_clearFirst_17 p2 (rw_X1_clearFirst_64 f k17) a).trans (congrFun (congr (rfl : mg_X1_clearFirst_17 p2 = mg_X1_clearFirst_17 p2) (funext (eq_X1_clearFirst_64 p2 f k17))) a)) f a
theorem sd_X1_clearFirst_17 (f : Nat) {X : XDyn} {r0 : Rt} (C : XO X mX1_clearFirst) : XS X mX1_clearFirst r0 17 (rw_X1_clearFirst_17 f) := s_lp (fun k17 q17 => sg_X1_clearFirst_17 C (sd_X1_clearFirst_64 f C q17)) f
noncomputable def rw_X1_clearFirst_0 (f : Nat) : XK := rg_X1_clearFirst_0 (rw_X1_clearFirst_17 f)
noncomputable def md_X1_clearFirst_0 (p2 : Int) (f : Nat) : Ob × Ob × Ob → Option Rt := mg_X1_clearFirst_0 p2 (md_X1_clearFirst_17 p2 f)
theorem eq_X1_clearFirst_0 (p2 : Int) (f : Nat) (a : Ob × Ob × Ob) : rw_X1_clearFirst_0 f (en_X1_clearFirst_0 p2 a) = md_X1_clearFirst_0 p2 f a :=
 (rq_X1_clearFirst_0 p2 (rw_X1_clearFirst_17 f) a).trans (congrFun (congr (rfl : mg_X1_clearFirst_0 p2 = mg_X1_clearFirst_0 p2) (funext (eq_X1_clearFirst_17 p2 f))) a)
theorem sd_X1_clearFirst_0 (f : Nat) {X : XDyn} {r0 : Rt} (C : XO X mX1_clearFirst) : XS X mX1_clearFirst r0 0 (rw_X1_clearFirst_0 f) := sg_X1_clearFirst_0 C (sd_X1_clearFirst_17 f C)
theorem ctr_X1_clearFirst (f : Nat) : XCt yX1_clearFirst mX1_clearFirst (xF mX1_clearFirst (rw_X1_clearFirst_0 f)) := xMet (by decide +kernel) rfl (fun _ _ C => sd_X1_clearFirst_0 f C)
theorem eqf_X1_clearFirst (f : Nat) (p2 : Int) (h0 : Ob) (h1 : Ob) (h2 : Ob) : xF mX1_clearFirst (rw_X1_clearFirst_0 f) [.inr (.inl (0, 0)), .inr (.inl (2, 0)), .inl p2] [h0, h1, h2] = md_X1_clearFirst_0 p2 f (h0, h1, h2) := eq_X1_clearFirst_0 p2 f (h0, h1, h2)
theorem yi_X1_clearFirst : yX1_clearFirst.cls = RX1 ∧ yX1_clearFirst.cls ≠ "java/lang/invoke/MethodHandle" ∧ yX1_clearFirst.cls ≠ "java/lang/invoke/VarHandle" ∧ (parseMethodDescriptor yX1_clearFirst.desc).map (fun d => d.parameters.length) = some 2 := ⟨rfl, by decide +kernel, by decide +kernel, by decide +kernel⟩
theorem sp_X1_clearFirst (f : Nat) (hf : 1000 ≤ f) (p2 : Int) (h0 h1 h2 : Ob) (hg : pd (LW h2 ∧ 1 ≤ p2 ∧ p2 ≤ 200) = true) : md_X1_clearFirst_0 p2 f (h0, h1, h2) = RI (cfF h1 h2 p2).1 [oldO h0 h2, (cfF h1 h2 p2).2.1, (cfF h1 h2 p2).2.2] := by
  obtain ⟨hL, g1, g2⟩ := pd_of hg
  obtain ⟨z1, z2, z3, -⟩ := id hL
  rw [cfF_e, wls_e]
  show md_X1_clearFirst_17 p2 f (0, oldO h0 h2, h1, h2) = _
  have := loop_walk (B := lb_X1_clearFirst_17 p2 f) (h := h2) (e := h2 0 9) (fun k (s : Ob) => (k, oldO h0 h2, s, h2)) (fun s k => if h2 0 9 < k + p2 then .inr (RI (-1) [oldO h0 h2, s, h2]) else if iop h2 k p2 then (if (clF s h2 k p2).1 then .inr (RI k [oldO h0 h2, (clF s h2 k p2).2.1, (clF s h2 k p2).2.2]) else .inl (clF s h2 k p2).2.1) else .inl s) (fun s => RI (-1) [oldO h0 h2, s, h2]) (fun k _ => Nb h2 k) (fun k a b => ⟨(hL.nxc a b (by omega) (by omega)).1, (hL.nxc a b (by omega) (by omega)).2.1⟩)
    (fun kk k s a b hN => ⟨by
      simp only [lb_X1_clearFirst_17, mg_X1_clearFirst_17, md_X1_clearFirst_64, mg_X1_clearFirst_64, xw_id (x := k + p2) (by omega) (by omega), hL.xsz]
      by_cases hc : h2 0 9 < k + p2
      · rw [if_pos hc, if_pos hc]
      · rw [if_neg hc, if_neg hc, pd_t (show LW h2 ∧ Nb h2 k ∧ 0 ≤ k ∧ 0 ≤ p2 ∧ k + p2 ≤ h2 0 9 from ⟨hL, hN, a, by omega, by omega⟩), if_pos rfl]
        simp only [bz_0]
        cases iop h2 k p2
        · rfl
        · rw [if_neg (by simp), if_pos rfl, pd_t (show LW h2 ∧ 0 ≤ k ∧ 0 ≤ p2 ∧ k + p2 ≤ 200 ∧ (1 ≤ p2 ∨ k = 0) from ⟨hL, a, by omega, by omega, by omega⟩), if_pos rfl, clF_back]
          cases (clF s h2 k p2).1
          · rfl
          · rfl, fun s' _ => by
      have hn := hL.nxc a b (Int.le_refl _) (by omega)
      rw [hn.2.2]
      exact hL.nb_nxt a b (by omega) hN⟩)
    (fun kk s _ => by
      simp only [lb_X1_clearFirst_17, mg_X1_clearFirst_17, xw_id (x := h2 0 9 + p2) (by omega) (by omega), hL.xsz]
      rw [if_pos (by omega)]) wfu f 0 h1 (by omega) (by omega) (by rw [wfu_e]; omega) (by rw [wfu_e]; omega) hL.nb0
  refine this.trans ?_
  unfold wlsI
  generalize wlk h2 (h2 0 9) wfu 0 = l
  clear this
  revert h1
  induction l with
  | nil => intro h1; rfl
  | cons k t ih =>
    intro h1
    simp only [wrun, cfI]
    by_cases hc : h2 0 9 < k + p2
    · rw [if_pos hc, if_pos hc]
    · rw [if_neg hc, if_neg hc]
      cases iop h2 k p2
      · exact ih h1
      · rw [if_pos rfl, if_pos rfl]
        cases (clF h1 h2 k p2).1
        · exact ih _
        · rfl
noncomputable def g_X1_clearFirst : List AV → List Ob → Bool
  | [.inr (.inl (0, 0)), .inr (.inl (2, 0)), .inl p2], [h0, h1, h2] => pd (LW h2 ∧ 1 ≤ p2 ∧ p2 ≤ 200)
  | _, _ => false
noncomputable def v_X1_clearFirst : List AV → List Ob → Rt
  | [.inr (.inl (0, 0)), .inr (.inl (2, 0)), .inl p2], [h0, h1, h2] => (some (.inl ((cfF h1 h2 p2).1)), [(oldO h0 h2), ((cfF h1 h2 p2).2.1), ((cfF h1 h2 p2).2.2)])
  | _, _ => (none, [])
theorem ct_X1_clearFirst : XCt yX1_clearFirst mX1_clearFirst (fun as μ => if g_X1_clearFirst as μ then some (v_X1_clearFirst as μ) else none) := (ctr_X1_clearFirst xfu).of (fun as μ r h => by
  split at h
  · rename_i hg
    unfold g_X1_clearFirst at hg
    split at hg
    · rw [← h]
      exact (eqf_X1_clearFirst xfu _ _ _ _).trans (sp_X1_clearFirst xfu (xfu_ge (by decide)) _ _ _ _ hg)
    · cases hg
  · cases h)
