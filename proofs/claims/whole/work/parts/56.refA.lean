theorem dX8_fillsOwners_0 : decode cX8_fillsOwners 0 = .ok (.aload_n 0, 1) := by decide +kernel
theorem dX8_fillsOwners_1 : decode cX8_fillsOwners 1 = .ok (.iconst 0, 1) := by decide +kernel
theorem dX8_fillsOwners_2 : decode cX8_fillsOwners 2 = .ok (.aload_n 0, 1) := by decide +kernel
theorem dX8_fillsOwners_3 : decode cX8_fillsOwners 3 = .ok (.getfield 7, 3) := by decide +kernel
theorem dX8_fillsOwners_6 : decode cX8_fillsOwners 6 = .ok (.iconst 0, 1) := by decide +kernel
theorem dX8_fillsOwners_7 : decode cX8_fillsOwners 7 = .ok (.iaload, 1) := by decide +kernel
theorem dX8_fillsOwners_8 : decode cX8_fillsOwners 8 = .ok (.iconst 0, 1) := by decide +kernel
theorem dX8_fillsOwners_9 : decode cX8_fillsOwners 9 = .ok (.invokevirtual 89, 3) := by decide +kernel
theorem dX8_fillsOwners_12 : decode cX8_fillsOwners 12 = .ok (.iconst 0, 1) := by decide +kernel
theorem dX8_fillsOwners_13 : decode cX8_fillsOwners 13 = .ok (.istore_n 1, 1) := by decide +kernel
theorem dX8_fillsOwners_14 : decode cX8_fillsOwners 14 = .ok (.iload_n 1, 1) := by decide +kernel
theorem dX8_fillsOwners_15 : decode cX8_fillsOwners 15 = .ok (.bipush 8, 2) := by decide +kernel
theorem dX8_fillsOwners_17 : decode cX8_fillsOwners 17 = .ok (.if_icmp .ge 38, 3) := by decide +kernel
theorem dX8_fillsOwners_20 : decode cX8_fillsOwners 20 = .ok (.aload_n 0, 1) := by decide +kernel
theorem dX8_fillsOwners_21 : decode cX8_fillsOwners 21 = .ok (.iload_n 1, 1) := by decide +kernel
theorem dX8_fillsOwners_22 : decode cX8_fillsOwners 22 = .ok (.invokevirtual 83, 3) := by decide +kernel
theorem dX8_fillsOwners_25 : decode cX8_fillsOwners 25 = .ok (.ifCond .eq 24, 3) := by decide +kernel
theorem dX8_fillsOwners_28 : decode cX8_fillsOwners 28 = .ok (.aload_n 0, 1) := by decide +kernel
theorem dX8_fillsOwners_29 : decode cX8_fillsOwners 29 = .ok (.aload_n 0, 1) := by decide +kernel
theorem dX8_fillsOwners_30 : decode cX8_fillsOwners 30 = .ok (.getfield 7, 3) := by decide +kernel
theorem dX8_fillsOwners_33 : decode cX8_fillsOwners 33 = .ok (.bipush 13, 2) := by decide +kernel
theorem dX8_fillsOwners_35 : decode cX8_fillsOwners 35 = .ok (.iload_n 1, 1) := by decide +kernel
theorem dX8_fillsOwners_36 : decode cX8_fillsOwners 36 = .ok (.iadd, 1) := by decide +kernel
theorem dX8_fillsOwners_37 : decode cX8_fillsOwners 37 = .ok (.iaload, 1) := by decide +kernel
theorem dX8_fillsOwners_38 : decode cX8_fillsOwners 38 = .ok (.aload_n 0, 1) := by decide +kernel
theorem dX8_fillsOwners_39 : decode cX8_fillsOwners 39 = .ok (.iload_n 1, 1) := by decide +kernel
theorem dX8_fillsOwners_40 : decode cX8_fillsOwners 40 = .ok (.invokevirtual 93, 3) := by decide +kernel
theorem dX8_fillsOwners_43 : decode cX8_fillsOwners 43 = .ok (.iconst 1, 1) := by decide +kernel
theorem dX8_fillsOwners_44 : decode cX8_fillsOwners 44 = .ok (.iload_n 1, 1) := by decide +kernel
theorem dX8_fillsOwners_45 : decode cX8_fillsOwners 45 = .ok (.iadd, 1) := by decide +kernel
theorem dX8_fillsOwners_46 : decode cX8_fillsOwners 46 = .ok (.invokevirtual 89, 3) := by decide +kernel
theorem dX8_fillsOwners_49 : decode cX8_fillsOwners 49 = .ok (.iinc 1 1, 3) := by decide +kernel
theorem dX8_fillsOwners_52 : decode cX8_fillsOwners 52 = .ok (.goto (-38), 3) := by decide +kernel
theorem dX8_fillsOwners_55 : decode cX8_fillsOwners 55 = .ok (.iconst 0, 1) := by decide +kernel
theorem dX8_fillsOwners_56 : decode cX8_fillsOwners 56 = .ok (.istore_n 1, 1) := by decide +kernel
theorem dX8_fillsOwners_57 : decode cX8_fillsOwners 57 = .ok (.iload_n 1, 1) := by decide +kernel
theorem dX8_fillsOwners_58 : decode cX8_fillsOwners 58 = .ok (.iconst 3, 1) := by decide +kernel
theorem dX8_fillsOwners_59 : decode cX8_fillsOwners 59 = .ok (.if_icmp .ge 45, 3) := by decide +kernel
theorem dX8_fillsOwners_62 : decode cX8_fillsOwners 62 = .ok (.aload_n 0, 1) := by decide +kernel
theorem dX8_fillsOwners_63 : decode cX8_fillsOwners 63 = .ok (.iload_n 1, 1) := by decide +kernel
theorem dX8_fillsOwners_64 : decode cX8_fillsOwners 64 = .ok (.invokevirtual 97, 3) := by decide +kernel
theorem dX8_fillsOwners_67 : decode cX8_fillsOwners 67 = .ok (.ifCond .eq 31, 3) := by decide +kernel
theorem dX8_fillsOwners_70 : decode cX8_fillsOwners 70 = .ok (.aload_n 0, 1) := by decide +kernel
theorem dX8_fillsOwners_71 : decode cX8_fillsOwners 71 = .ok (.aload_n 0, 1) := by decide +kernel
theorem dX8_fillsOwners_72 : decode cX8_fillsOwners 72 = .ok (.getfield 7, 3) := by decide +kernel
theorem dX8_fillsOwners_75 : decode cX8_fillsOwners 75 = .ok (.bipush 72, 2) := by decide +kernel
theorem dX8_fillsOwners_77 : decode cX8_fillsOwners 77 = .ok (.iload_n 1, 1) := by decide +kernel
theorem dX8_fillsOwners_78 : decode cX8_fillsOwners 78 = .ok (.iadd, 1) := by decide +kernel
theorem dX8_fillsOwners_79 : decode cX8_fillsOwners 79 = .ok (.iaload, 1) := by decide +kernel
theorem dX8_fillsOwners_80 : decode cX8_fillsOwners 80 = .ok (.aload_n 0, 1) := by decide +kernel
theorem dX8_fillsOwners_81 : decode cX8_fillsOwners 81 = .ok (.getfield 7, 3) := by decide +kernel
theorem dX8_fillsOwners_84 : decode cX8_fillsOwners 84 = .ok (.bipush 69, 2) := by decide +kernel
theorem dX8_fillsOwners_86 : decode cX8_fillsOwners 86 = .ok (.iload_n 1, 1) := by decide +kernel
theorem dX8_fillsOwners_87 : decode cX8_fillsOwners 87 = .ok (.iadd, 1) := by decide +kernel
theorem dX8_fillsOwners_88 : decode cX8_fillsOwners 88 = .ok (.iaload, 1) := by decide +kernel
theorem dX8_fillsOwners_89 : decode cX8_fillsOwners 89 = .ok (.iconst 1, 1) := by decide +kernel
theorem dX8_fillsOwners_90 : decode cX8_fillsOwners 90 = .ok (.iadd, 1) := by decide +kernel
theorem dX8_fillsOwners_91 : decode cX8_fillsOwners 91 = .ok (.bipush 33, 2) := by decide +kernel
theorem dX8_fillsOwners_93 : decode cX8_fillsOwners 93 = .ok (.iload_n 1, 1) := by decide +kernel
theorem dX8_fillsOwners_94 : decode cX8_fillsOwners 94 = .ok (.iadd, 1) := by decide +kernel
theorem dX8_fillsOwners_95 : decode cX8_fillsOwners 95 = .ok (.invokevirtual 89, 3) := by decide +kernel
theorem dX8_fillsOwners_98 : decode cX8_fillsOwners 98 = .ok (.iinc 1 1, 3) := by decide +kernel
theorem dX8_fillsOwners_101 : decode cX8_fillsOwners 101 = .ok (.goto (-44), 3) := by decide +kernel
theorem dX8_fillsOwners_104 : decode cX8_fillsOwners 104 = .ok (.return_, 1) := by decide +kernel
abbrev mX8_fillsOwners : XM := (cX8_fillsOwners, 2, RX8, none, shw_8, 2)
noncomputable def rg_X8_fillsOwners_0 (k14 : XK) : XK :=
 o_aload 0 <|
 o_iconst 0 <|
 o_aload 0 <|
 o_get shw_8 8 0 <|
 o_iconst 0 <|
 o_iald shw_8 <|
 o_iconst 0 <|
 o_callVg 4 0 [0] g_X8_lays v_X8_lays <|
 o_iconst 0 <|
 o_istore 1 <|
 o_cut [] k14
def en_X8_fillsOwners_0 (a : Ob) : XSt := ([some (.inr (.inl (0, 0))), none], [], [a])
noncomputable def rg_X8_fillsOwners_14 (k57 : XK) (k49 : XK) : XK :=
 o_iload 1 <|
 o_iconst 8 <|
 o_icmp_ge (o_iconst 0 <|
 o_istore 1 <|
 o_cut [] k57)
 (o_aload 0 <|
 o_iload 1 <|
 o_callV 2 1 [0] f_X8_isFull <|
 o_if_eq (o_cut [] k49)
 (o_aload 0 <|
 o_aload 0 <|
 o_get shw_8 8 0 <|
 o_iconst 13 <|
 o_iload 1 <|
 o_iadd <|
 o_iald shw_8 <|
 o_aload 0 <|
 o_iload 1 <|
 o_callVg 2 1 [0] g_X8_lengthOf v_X8_lengthOf <|
 o_iconst 1 <|
 o_iload 1 <|
 o_iadd <|
 o_callVg 4 0 [0] g_X8_lays v_X8_lays <|
 o_cut [] k49))
def en_X8_fillsOwners_14 (a : Int × Ob) : XSt := ([some (.inr (.inl (0, 0))), some (.inl a.1)], [], [a.2])
noncomputable def rg_X8_fillsOwners_49 (k14 : XK) : XK :=
 o_iinc 1 1 <|
 o_cut [] k14
def en_X8_fillsOwners_49 (a : Int × Ob) : XSt := ([some (.inr (.inl (0, 0))), some (.inl a.1)], [], [a.2])
noncomputable def rg_X8_fillsOwners_57 (k98 : XK) : XK :=
 o_iload 1 <|
 o_iconst 3 <|
 o_icmp_ge (o_return)
 (o_aload 0 <|
 o_iload 1 <|
 o_callV 2 1 [0] f_X8_isIsland <|
 o_if_eq (o_cut [] k98)
 (o_aload 0 <|
 o_aload 0 <|
 o_get shw_8 8 0 <|
 o_iconst 72 <|
 o_iload 1 <|
 o_iadd <|
 o_iald shw_8 <|
 o_aload 0 <|
 o_get shw_8 8 0 <|
 o_iconst 69 <|
 o_iload 1 <|
 o_iadd <|
 o_iald shw_8 <|
 o_iconst 1 <|
 o_iadd <|
 o_iconst 33 <|
 o_iload 1 <|
 o_iadd <|
 o_callVg 4 0 [0] g_X8_lays v_X8_lays <|
 o_cut [] k98))
def en_X8_fillsOwners_57 (a : Int × Ob) : XSt := ([some (.inr (.inl (0, 0))), some (.inl a.1)], [], [a.2])
noncomputable def rg_X8_fillsOwners_98 (k57 : XK) : XK :=
 o_iinc 1 1 <|
 o_cut [] k57
def en_X8_fillsOwners_98 (a : Int × Ob) : XSt := ([some (.inr (.inl (0, 0))), some (.inl a.1)], [], [a.2])
noncomputable def mg_X8_fillsOwners_0 (k14 : (Int × Ob) → Option Rt) (a : Ob) : Option Rt :=
 if decide (0 ≤ xw (0 : Int) ∧ 0 ≤ xw (a 1 0) ∧ xw (0 : Int) + xw (a 1 0) ≤ 200) then (
 k14 (0, (laM a (0 : Int) (a 1 0) (0 : Int)))) else none
set_option maxRecDepth 100000 in
set_option maxHeartbeats 4000000 in
theorem rq_X8_fillsOwners_0 (k14 : XK) (a : Ob) : rg_X8_fillsOwners_0 k14 (en_X8_fillsOwners_0 a) = mg_X8_fillsOwners_0 (fun b => k14 (en_X8_fillsOwners_14 b)) a := rfl
set_option maxRecDepth 100000 in
set_option maxHeartbeats 4000000 in
theorem sg_X8_fillsOwners_0 {X : XDyn} {r0 : Rt} (C : XO X mX8_fillsOwners) {k14 : XK} (q14 : XS X mX8_fillsOwners r0 14 k14) : XS X mX8_fillsOwners r0 0 (rg_X8_fillsOwners_0 k14) := by
 unfold rg_X8_fillsOwners_0
 exact s_aload_n (pc := 0) C dX8_fillsOwners_0 rfl <|
    s_iconst (pc := 1) C dX8_fillsOwners_1 <|
    s_aload_n (pc := 2) C dX8_fillsOwners_2 rfl <|
    s_get (pc := 3) C (ci := 8) (kf := 0) rfl inX8 (by decide) wd_871 dX8_fillsOwners_3 <|
    s_iconst (pc := 6) C dX8_fillsOwners_6 <|
    s_iald (pc := 7) C dX8_fillsOwners_7 <|
    s_iconst (pc := 8) C dX8_fillsOwners_8 <|
    s_callVg (pc := 9) C ct_X8_lays (n := 4) (rk := 0) (mp := [0]) ⟨rfl, by decide, rfl⟩ (ci := 8) rfl rfl (by decide) (by decide) yi_X8_lays (by decide) wd_983 wd_985 wd_23 wd_81 wd_986 dX8_fillsOwners_9 <|
    s_iconst (pc := 12) C dX8_fillsOwners_12 <|
    s_istore_n (pc := 13) C dX8_fillsOwners_13 rfl <|
    s_cut q14
noncomputable def mg_X8_fillsOwners_14 (k57 : (Int × Ob) → Option Rt) (k49 : (Int × Ob) → Option Rt) (a : Int × Ob) : Option Rt :=
 if xw a.1 ≥ 8 then (k57 (0, a.2))
 else (if xw (bz (fulM a.2 a.1)) = 0 then (k49 (a.1, a.2))
 else (if xin (13 + a.1) 735 then (
 if hdl a.1 then (
 if decide (0 ≤ xw (a.2 1 (xw (13 + a.1)).toNat) ∧ 0 ≤ xw (lenM a.2 a.1) ∧ xw (a.2 1 (xw (13 + a.1)).toNat) + xw (lenM a.2 a.1) ≤ 200) then (
 k49 (a.1, (laM a.2 (a.2 1 (xw (13 + a.1)).toNat) (lenM a.2 a.1) (1 + a.1)))) else none) else none) else none))
set_option maxRecDepth 100000 in
set_option maxHeartbeats 4000000 in
theorem rq_X8_fillsOwners_14 (k57 : XK) (k49 : XK) (a : Int × Ob) : rg_X8_fillsOwners_14 k57 k49 (en_X8_fillsOwners_14 a) = mg_X8_fillsOwners_14 (fun b => k57 (en_X8_fillsOwners_57 b)) (fun b => k49 (en_X8_fillsOwners_49 b)) a := rfl
set_option maxRecDepth 100000 in
set_option maxHeartbeats 4000000 in
theorem sg_X8_fillsOwners_14 {X : XDyn} {r0 : Rt} (C : XO X mX8_fillsOwners) {k57 : XK} (q57 : XS X mX8_fillsOwners r0 57 k57) {k49 : XK} (q49 : XS X mX8_fillsOwners r0 49 k49) : XS X mX8_fillsOwners r0 14 (rg_X8_fillsOwners_14 k57 k49) := by
 unfold rg_X8_fillsOwners_14
 exact s_iload_n (pc := 14) C dX8_fillsOwners_14 rfl <|
    s_bipush (pc := 15) C dX8_fillsOwners_15 (by decide) <|
    s_icmp_ge (pc := 17) C dX8_fillsOwners_17 (by decide) (s_iconst (pc := 55) C dX8_fillsOwners_55 <|
    s_istore_n (pc := 56) C dX8_fillsOwners_56 rfl <|
    s_cut q57)
    (s_aload_n (pc := 20) C dX8_fillsOwners_20 rfl <|
    s_iload_n (pc := 21) C dX8_fillsOwners_21 rfl <|
    s_callV (pc := 22) C ct_X8_isFull (n := 2) (rk := 1) (mp := [0]) ⟨rfl, by decide, rfl⟩ (ci := 8) rfl rfl (by decide) (by decide) yi_X8_isFull (by decide) wd_987 wd_989 wd_24 wd_81 wd_990 dX8_fillsOwners_22 <|
    s_if_eq (pc := 25) C dX8_fillsOwners_25 (by decide) (s_cut q49)
    (s_aload_n (pc := 28) C dX8_fillsOwners_28 rfl <|
    s_aload_n (pc := 29) C dX8_fillsOwners_29 rfl <|
    s_get (pc := 30) C (ci := 8) (kf := 0) rfl inX8 (by decide) wd_871 dX8_fillsOwners_30 <|
    s_bipush (pc := 33) C dX8_fillsOwners_33 (by decide) <|
    s_iload_n (pc := 35) C dX8_fillsOwners_35 rfl <|
    s_iadd (pc := 36) C dX8_fillsOwners_36 <|
    s_iald (pc := 37) C dX8_fillsOwners_37 <|
    s_aload_n (pc := 38) C dX8_fillsOwners_38 rfl <|
    s_iload_n (pc := 39) C dX8_fillsOwners_39 rfl <|
    s_callVg (pc := 40) C ct_X8_lengthOf (n := 2) (rk := 1) (mp := [0]) ⟨rfl, by decide, rfl⟩ (ci := 8) rfl rfl (by decide) (by decide) yi_X8_lengthOf (by decide) wd_994 wd_996 wd_25 wd_81 wd_997 dX8_fillsOwners_40 <|
    s_iconst (pc := 43) C dX8_fillsOwners_43 <|
    s_iload_n (pc := 44) C dX8_fillsOwners_44 rfl <|
    s_iadd (pc := 45) C dX8_fillsOwners_45 <|
    s_callVg (pc := 46) C ct_X8_lays (n := 4) (rk := 0) (mp := [0]) ⟨rfl, by decide, rfl⟩ (ci := 8) rfl rfl (by decide) (by decide) yi_X8_lays (by decide) wd_983 wd_985 wd_23 wd_81 wd_986 dX8_fillsOwners_46 <|
    s_cut q49))
noncomputable def mg_X8_fillsOwners_49 (k14 : (Int × Ob) → Option Rt) (a : Int × Ob) : Option Rt :=
 k14 ((a.1 + 1), a.2)
set_option maxRecDepth 100000 in
set_option maxHeartbeats 4000000 in
theorem rq_X8_fillsOwners_49 (k14 : XK) (a : Int × Ob) : rg_X8_fillsOwners_49 k14 (en_X8_fillsOwners_49 a) = mg_X8_fillsOwners_49 (fun b => k14 (en_X8_fillsOwners_14 b)) a := rfl
set_option maxRecDepth 100000 in
set_option maxHeartbeats 4000000 in
theorem sg_X8_fillsOwners_49 {X : XDyn} {r0 : Rt} (C : XO X mX8_fillsOwners) {k14 : XK} (q14 : XS X mX8_fillsOwners r0 14 k14) : XS X mX8_fillsOwners r0 49 (rg_X8_fillsOwners_49 k14) := by
 unfold rg_X8_fillsOwners_49
 exact s_iinc (pc := 49) C dX8_fillsOwners_49 <|
    s_goto (pc := 52) C dX8_fillsOwners_52 (by decide) <|
    s_cut q14
noncomputable def mg_X8_fillsOwners_57 (k98 : (Int × Ob) → Option Rt) (a : Int × Ob) : Option Rt :=
 if xw a.1 ≥ 3 then (RV [a.2])
 else (if xw (bz (islM a.2 a.1)) = 0 then (k98 (a.1, a.2))
 else (if xin (72 + a.1) 735 then (
 if xin (69 + a.1) 735 then (
 if decide (0 ≤ xw (a.2 1 (xw (72 + a.1)).toNat) ∧ 0 ≤ xw ((a.2 1 (xw (69 + a.1)).toNat) + 1) ∧ xw (a.2 1 (xw (72 + a.1)).toNat) + xw ((a.2 1 (xw (69 + a.1)).toNat) + 1) ≤ 200) then (
 k98 (a.1, (laM a.2 (a.2 1 (xw (72 + a.1)).toNat) ((a.2 1 (xw (69 + a.1)).toNat) + 1) (33 + a.1)))) else none) else none) else none))
set_option maxRecDepth 100000 in
set_option maxHeartbeats 4000000 in
theorem rq_X8_fillsOwners_57 (k98 : XK) (a : Int × Ob) : rg_X8_fillsOwners_57 k98 (en_X8_fillsOwners_57 a) = mg_X8_fillsOwners_57 (fun b => k98 (en_X8_fillsOwners_98 b)) a := rfl
set_option maxRecDepth 100000 in
set_option maxHeartbeats 4000000 in
theorem sg_X8_fillsOwners_57 {X : XDyn} {r0 : Rt} (C : XO X mX8_fillsOwners) {k98 : XK} (q98 : XS X mX8_fillsOwners r0 98 k98) : XS X mX8_fillsOwners r0 57 (rg_X8_fillsOwners_57 k98) := by
 unfold rg_X8_fillsOwners_57
 exact s_iload_n (pc := 57) C dX8_fillsOwners_57 rfl <|
    s_iconst (pc := 58) C dX8_fillsOwners_58 <|
    s_icmp_ge (pc := 59) C dX8_fillsOwners_59 (by decide) (s_return (pc := 104) C rfl dX8_fillsOwners_104)
    (s_aload_n (pc := 62) C dX8_fillsOwners_62 rfl <|
    s_iload_n (pc := 63) C dX8_fillsOwners_63 rfl <|
    s_callV (pc := 64) C ct_X8_isIsland (n := 2) (rk := 1) (mp := [0]) ⟨rfl, by decide, rfl⟩ (ci := 8) rfl rfl (by decide) (by decide) yi_X8_isIsland (by decide) wd_998 wd_1000 wd_26 wd_81 wd_1001 dX8_fillsOwners_64 <|
    s_if_eq (pc := 67) C dX8_fillsOwners_67 (by decide) (s_cut q98)
    (s_aload_n (pc := 70) C dX8_fillsOwners_70 rfl <|
    s_aload_n (pc := 71) C dX8_fillsOwners_71 rfl <|
    s_get (pc := 72) C (ci := 8) (kf := 0) rfl inX8 (by decide) wd_871 dX8_fillsOwners_72 <|
    s_bipush (pc := 75) C dX8_fillsOwners_75 (by decide) <|
    s_iload_n (pc := 77) C dX8_fillsOwners_77 rfl <|
    s_iadd (pc := 78) C dX8_fillsOwners_78 <|
    s_iald (pc := 79) C dX8_fillsOwners_79 <|
    s_aload_n (pc := 80) C dX8_fillsOwners_80 rfl <|
    s_get (pc := 81) C (ci := 8) (kf := 0) rfl inX8 (by decide) wd_871 dX8_fillsOwners_81 <|
    s_bipush (pc := 84) C dX8_fillsOwners_84 (by decide) <|
    s_iload_n (pc := 86) C dX8_fillsOwners_86 rfl <|
    s_iadd (pc := 87) C dX8_fillsOwners_87 <|
    s_iald (pc := 88) C dX8_fillsOwners_88 <|
    s_iconst (pc := 89) C dX8_fillsOwners_89 <|
    s_iadd (pc := 90) C dX8_fillsOwners_90 <|
    s_bipush (pc := 91) C dX8_fillsOwners_91 (by decide) <|
    s_iload_n (pc := 93) C dX8_fillsOwners_93 rfl <|
    s_iadd (pc := 94) C dX8_fillsOwners_94 <|
    s_callVg (pc := 95) C ct_X8_lays (n := 4) (rk := 0) (mp := [0]) ⟨rfl, by decide, rfl⟩ (ci := 8) rfl rfl (by decide) (by decide) yi_X8_lays (by decide) wd_983 wd_985 wd_23 wd_81 wd_986 dX8_fillsOwners_95 <|
    s_cut q98))
noncomputable def mg_X8_fillsOwners_98 (k57 : (Int × Ob) → Option Rt) (a : Int × Ob) : Option Rt :=
 k57 ((a.1 + 1), a.2)
set_option maxRecDepth 100000 in
set_option maxHeartbeats 4000000 in
theorem rq_X8_fillsOwners_98 (k57 : XK) (a : Int × Ob) : rg_X8_fillsOwners_98 k57 (en_X8_fillsOwners_98 a) = mg_X8_fillsOwners_98 (fun b => k57 (en_X8_fillsOwners_57 b)) a := rfl
set_option maxRecDepth 100000 in
set_option maxHeartbeats 4000000 in
theorem sg_X8_fillsOwners_98 {X : XDyn} {r0 : Rt} (C : XO X mX8_fillsOwners) {k57 : XK} (q57 : XS X mX8_fillsOwners r0 57 k57) : XS X mX8_fillsOwners r0 98 (rg_X8_fillsOwners_98 k57) := by
 unfold rg_X8_fillsOwners_98
 exact s_iinc (pc := 98) C dX8_fillsOwners_98 <|
    s_goto (pc := 101) C dX8_fillsOwners_101 (by decide) <|
    s_cut q57
noncomputable def rw_X8_fillsOwners_98 (f : Nat) (k57 : XK) : XK := rg_X8_fillsOwners_98 k57
noncomputable def md_X8_fillsOwners_98 (f : Nat) (k57 : (Int × Ob) → Option Rt) : Int × Ob → Option Rt := mg_X8_fillsOwners_98 k57
theorem eq_X8_fillsOwners_98 (f : Nat) (k57 : XK) (a : Int × Ob) : rw_X8_fillsOwners_98 f k57 (en_X8_fillsOwners_98 a) = md_X8_fillsOwners_98 f (fun b => k57 (en_X8_fillsOwners_57 b)) a :=
 (rq_X8_fillsOwners_98 k57 a).trans (congrFun (congr (rfl : mg_X8_fillsOwners_98 = mg_X8_fillsOwners_98) rfl) a)
theorem sd_X8_fillsOwners_98 (f : Nat) {X : XDyn} {r0 : Rt} (C : XO X mX8_fillsOwners) {k57 : XK} (q57 : XS X mX8_fillsOwners r0 57 k57) : XS X mX8_fillsOwners r0 98 (rw_X8_fillsOwners_98 f k57) := sg_X8_fillsOwners_98 C q57
noncomputable def rw_X8_fillsOwners_57 (f : Nat) : XK := tlp (fun k57 => rg_X8_fillsOwners_57 (rw_X8_fillsOwners_98 f k57)) f
noncomputable def lb_X8_fillsOwners_57 (f : Nat) : ((Int × Ob) → Option Rt) → Int × Ob → Option Rt := fun k57 => mg_X8_fillsOwners_57 (md_X8_fillsOwners_98 f k57)
noncomputable def md_X8_fillsOwners_57 (f : Nat) : Int × Ob → Option Rt := tlp (lb_X8_fillsOwners_57 f) f
theorem eq_X8_fillsOwners_57 (f : Nat) (a : Int × Ob) : rw_X8_fillsOwners_57 f (en_X8_fillsOwners_57 a) = md_X8_fillsOwners_57 f a :=
 tlp_enc (en_X8_fillsOwners_57) (fun k57 a => (rq_X8_fillsOwners_57 (rw_X8_fillsOwners_98 f k57) a).trans (congrFun (congr (rfl : mg_X8_fillsOwners_57 = mg_X8_fillsOwners_57) (funext (eq_X8_fillsOwners_98 f k57))) a)) f a
theorem sd_X8_fillsOwners_57 (f : Nat) {X : XDyn} {r0 : Rt} (C : XO X mX8_fillsOwners) : XS X mX8_fillsOwners r0 57 (rw_X8_fillsOwners_57 f) := s_lp (fun k57 q57 => sg_X8_fillsOwners_57 C (sd_X8_fillsOwners_98 f C q57)) f
noncomputable def rw_X8_fillsOwners_49 (f : Nat) (k14 : XK) : XK := rg_X8_fillsOwners_49 k14
noncomputable def md_X8_fillsOwners_49 (f : Nat) (k14 : (Int × Ob) → Option Rt) : Int × Ob → Option Rt := mg_X8_fillsOwners_49 k14
theorem eq_X8_fillsOwners_49 (f : Nat) (k14 : XK) (a : Int × Ob) : rw_X8_fillsOwners_49 f k14 (en_X8_fillsOwners_49 a) = md_X8_fillsOwners_49 f (fun b => k14 (en_X8_fillsOwners_14 b)) a :=
 (rq_X8_fillsOwners_49 k14 a).trans (congrFun (congr (rfl : mg_X8_fillsOwners_49 = mg_X8_fillsOwners_49) rfl) a)
theorem sd_X8_fillsOwners_49 (f : Nat) {X : XDyn} {r0 : Rt} (C : XO X mX8_fillsOwners) {k14 : XK} (q14 : XS X mX8_fillsOwners r0 14 k14) : XS X mX8_fillsOwners r0 49 (rw_X8_fillsOwners_49 f k14) := sg_X8_fillsOwners_49 C q14
noncomputable def rw_X8_fillsOwners_14 (f : Nat) : XK := tlp (fun k14 => rg_X8_fillsOwners_14 (rw_X8_fillsOwners_57 f) (rw_X8_fillsOwners_49 f k14)) f
noncomputable def lb_X8_fillsOwners_14 (f : Nat) : ((Int × Ob) → Option Rt) → Int × Ob → Option Rt := fun k14 => mg_X8_fillsOwners_14 (md_X8_fillsOwners_57 f) (md_X8_fillsOwners_49 f k14)
noncomputable def md_X8_fillsOwners_14 (f : Nat) : Int × Ob → Option Rt := tlp (lb_X8_fillsOwners_14 f) f
theorem eq_X8_fillsOwners_14 (f : Nat) (a : Int × Ob) : rw_X8_fillsOwners_14 f (en_X8_fillsOwners_14 a) = md_X8_fillsOwners_14 f a :=
 tlp_enc (en_X8_fillsOwners_14) (fun k14 a => (rq_X8_fillsOwners_14 (rw_X8_fillsOwners_57 f) (rw_X8_fillsOwners_49 f k14) a).trans (congrFun (congr (congr (rfl : mg_X8_fillsOwners_14 = mg_X8_fillsOwners_14) (funext (eq_X8_fillsOwners_57 f))) (funext (eq_X8_fillsOwners_49 f k14))) a)) f a
theorem sd_X8_fillsOwners_14 (f : Nat) {X : XDyn} {r0 : Rt} (C : XO X mX8_fillsOwners) : XS X mX8_fillsOwners r0 14 (rw_X8_fillsOwners_14 f) := s_lp (fun k14 q14 => sg_X8_fillsOwners_14 C (sd_X8_fillsOwners_57 f C) (sd_X8_fillsOwners_49 f C q14)) f
noncomputable def rw_X8_fillsOwners_0 (f : Nat) : XK := rg_X8_fillsOwners_0 (rw_X8_fillsOwners_14 f)
noncomputable def md_X8_fillsOwners_0 (f : Nat) : Ob → Option Rt := mg_X8_fillsOwners_0 (md_X8_fillsOwners_14 f)
theorem eq_X8_fillsOwners_0 (f : Nat) (a : Ob) : rw_X8_fillsOwners_0 f (en_X8_fillsOwners_0 a) = md_X8_fillsOwners_0 f a :=
 (rq_X8_fillsOwners_0 (rw_X8_fillsOwners_14 f) a).trans (congrFun (congr (rfl : mg_X8_fillsOwners_0 = mg_X8_fillsOwners_0) (funext (eq_X8_fillsOwners_14 f))) a)
theorem sd_X8_fillsOwners_0 (f : Nat) {X : XDyn} {r0 : Rt} (C : XO X mX8_fillsOwners) : XS X mX8_fillsOwners r0 0 (rw_X8_fillsOwners_0 f) := sg_X8_fillsOwners_0 C (sd_X8_fillsOwners_14 f C)
theorem ctr_X8_fillsOwners (f : Nat) : XCt yX8_fillsOwners mX8_fillsOwners (xF mX8_fillsOwners (rw_X8_fillsOwners_0 f)) := xMet (by decide +kernel) rfl (fun _ _ C => sd_X8_fillsOwners_0 f C)
theorem eqf_X8_fillsOwners (f : Nat) (h0 : Ob) : xF mX8_fillsOwners (rw_X8_fillsOwners_0 f) [.inr (.inl (0, 0))] [h0] = md_X8_fillsOwners_0 f h0 := eq_X8_fillsOwners_0 f h0
theorem yi_X8_fillsOwners : yX8_fillsOwners.cls = RX8 ∧ yX8_fillsOwners.cls ≠ "java/lang/invoke/MethodHandle" ∧ yX8_fillsOwners.cls ≠ "java/lang/invoke/VarHandle" ∧ (parseMethodDescriptor yX8_fillsOwners.desc).map (fun d => d.parameters.length) = some 0 := ⟨rfl, by decide +kernel, by decide +kernel, by decide +kernel⟩
noncomputable def ov_X8_fillsOwners (h0 : Ob) : Option Rt := xop (md_X8_fillsOwners_0 xfu h0)
theorem ov_X8_fillsOwners_e (h0 : Ob) : ov_X8_fillsOwners h0 = md_X8_fillsOwners_0 xfu h0 := xop_eq _
theorem sp_X8_fillsOwners (h0 : Ob) (hg : oqV (ov_X8_fillsOwners h0) = true) : md_X8_fillsOwners_0 xfu h0 = RV [(oqO (ov_X8_fillsOwners h0) 0)] := (ov_X8_fillsOwners_e h0).symm.trans (oqV_eq hg)
noncomputable def g_X8_fillsOwners : List AV → List Ob → Bool
  | [.inr (.inl (0, 0))], [h0] => oqV (ov_X8_fillsOwners h0)
  | _, _ => false
noncomputable def v_X8_fillsOwners : List AV → List Ob → Rt
  | [.inr (.inl (0, 0))], [h0] => (none, [(oqO (ov_X8_fillsOwners h0) 0)])
  | _, _ => (none, [])
theorem ct_X8_fillsOwners : XCt yX8_fillsOwners mX8_fillsOwners (fun as μ => if g_X8_fillsOwners as μ then some (v_X8_fillsOwners as μ) else none) := (ctr_X8_fillsOwners xfu).of (fun as μ r h => by
  split at h
  · rename_i hg
    unfold g_X8_fillsOwners at hg
    split at hg
    · rw [← h]
      exact (eqf_X8_fillsOwners xfu _).trans (sp_X8_fillsOwners _ hg)
    · cases hg
  · cases h)
theorem dX8_behind_0 : decode cX8_behind 0 = .ok (.iload_n 1, 1) := by decide +kernel
theorem dX8_behind_1 : decode cX8_behind 1 = .ok (.istore_n 2, 1) := by decide +kernel
theorem dX8_behind_2 : decode cX8_behind 2 = .ok (.iload_n 2, 1) := by decide +kernel
theorem dX8_behind_3 : decode cX8_behind 3 = .ok (.aload_n 0, 1) := by decide +kernel
theorem dX8_behind_4 : decode cX8_behind 4 = .ok (.getfield 7, 3) := by decide +kernel
theorem dX8_behind_7 : decode cX8_behind 7 = .ok (.iconst 0, 1) := by decide +kernel
theorem dX8_behind_8 : decode cX8_behind 8 = .ok (.iaload, 1) := by decide +kernel
theorem dX8_behind_9 : decode cX8_behind 9 = .ok (.if_icmp .ge 24, 3) := by decide +kernel
theorem dX8_behind_12 : decode cX8_behind 12 = .ok (.aload_n 0, 1) := by decide +kernel
theorem dX8_behind_13 : decode cX8_behind 13 = .ok (.getfield 19, 3) := by decide +kernel
theorem dX8_behind_16 : decode cX8_behind 16 = .ok (.iload_n 2, 1) := by decide +kernel
theorem dX8_behind_17 : decode cX8_behind 17 = .ok (.iaload, 1) := by decide +kernel
theorem dX8_behind_18 : decode cX8_behind 18 = .ok (.aload_n 0, 1) := by decide +kernel
theorem dX8_behind_19 : decode cX8_behind 19 = .ok (.getfield 19, 3) := by decide +kernel
theorem dX8_behind_22 : decode cX8_behind 22 = .ok (.iload_n 1, 1) := by decide +kernel
theorem dX8_behind_23 : decode cX8_behind 23 = .ok (.iaload, 1) := by decide +kernel
theorem dX8_behind_24 : decode cX8_behind 24 = .ok (.if_icmp .ne 9, 3) := by decide +kernel
theorem dX8_behind_27 : decode cX8_behind 27 = .ok (.iinc 2 1, 3) := by decide +kernel
theorem dX8_behind_30 : decode cX8_behind 30 = .ok (.goto (-28), 3) := by decide +kernel
theorem dX8_behind_33 : decode cX8_behind 33 = .ok (.iload_n 2, 1) := by decide +kernel
theorem dX8_behind_34 : decode cX8_behind 34 = .ok (.ireturn, 1) := by decide +kernel
abbrev mX8_behind : XM := (cX8_behind, 3, RX8, (some .int), shw_8, 0)
noncomputable def rg_X8_behind_0 (k2 : XK) : XK :=
 o_iload 1 <|
 o_istore 2 <|
 o_cut [] k2
def en_X8_behind_0 (p1 : Int) (h0 : Ob) (a : Unit) : XSt := ([some (.inr (.inl (0, 0))), some (.inl p1), none], [], [h0])
noncomputable def rg_X8_behind_2 (k2 : XK) : XK :=
 o_iload 2 <|
 o_aload 0 <|
 o_get shw_8 8 0 <|
 o_iconst 0 <|
 o_iald shw_8 <|
 o_icmp_ge (o_iload 2 <|
 o_ireturn)
 (o_aload 0 <|
 o_get shw_8 8 5 <|
 o_iload 2 <|
 o_iald shw_8 <|
 o_aload 0 <|
 o_get shw_8 8 5 <|
 o_iload 1 <|
 o_iald shw_8 <|
 o_icmp_ne (o_iload 2 <|
 o_ireturn)
 (o_iinc 2 1 <|
 o_cut [] k2))
def en_X8_behind_2 (p1 : Int) (h0 : Ob) (a : Int) : XSt := ([some (.inr (.inl (0, 0))), some (.inl p1), some (.inl a)], [], [h0])
noncomputable def mg_X8_behind_0 (p1 : Int) (h0 : Ob) (k2 : Int → Option Rt) (a : Unit) : Option Rt :=
 k2 p1
set_option maxRecDepth 100000 in
set_option maxHeartbeats 4000000 in
theorem rq_X8_behind_0 (p1 : Int) (h0 : Ob) (k2 : XK) (a : Unit) : rg_X8_behind_0 k2 (en_X8_behind_0 p1 h0 a) = mg_X8_behind_0 p1 h0 (fun b => k2 (en_X8_behind_2 p1 h0 b)) a := rfl
set_option maxRecDepth 100000 in
set_option maxHeartbeats 4000000 in
theorem sg_X8_behind_0 {X : XDyn} {r0 : Rt} (C : XO X mX8_behind) {k2 : XK} (q2 : XS X mX8_behind r0 2 k2) : XS X mX8_behind r0 0 (rg_X8_behind_0 k2) := by
 unfold rg_X8_behind_0
 exact s_iload_n (pc := 0) C dX8_behind_0 rfl <|
    s_istore_n (pc := 1) C dX8_behind_1 rfl <|
    s_cut q2
noncomputable def mg_X8_behind_2 (p1 : Int) (h0 : Ob) (k2 : Int → Option Rt) (a : Int) : Option Rt :=
 if xw a ≥ xw (h0 1 0) then (RI a [h0])
 else (if xin a 200 then (
 if xin p1 200 then (
 if xw (h0 4 (xw a).toNat) = xw (h0 4 (xw p1).toNat) then (k2 (a + 1))
 else (RI a [h0])) else none) else none)
set_option maxRecDepth 100000 in
set_option maxHeartbeats 4000000 in
theorem rq_X8_behind_2 (p1 : Int) (h0 : Ob) (k2 : XK) (a : Int) : rg_X8_behind_2 k2 (en_X8_behind_2 p1 h0 a) = mg_X8_behind_2 p1 h0 (fun b => k2 (en_X8_behind_2 p1 h0 b)) a := rfl
set_option maxRecDepth 100000 in
set_option maxHeartbeats 4000000 in
theorem sg_X8_behind_2 {X : XDyn} {r0 : Rt} (C : XO X mX8_behind) {k2 : XK} (q2 : XS X mX8_behind r0 2 k2) : XS X mX8_behind r0 2 (rg_X8_behind_2 k2) := by
 unfold rg_X8_behind_2
 exact s_iload_n (pc := 2) C dX8_behind_2 rfl <|
    s_aload_n (pc := 3) C dX8_behind_3 rfl <|
    s_get (pc := 4) C (ci := 8) (kf := 0) rfl inX8 (by decide) wd_871 dX8_behind_4 <|
    s_iconst (pc := 7) C dX8_behind_7 <|
    s_iald (pc := 8) C dX8_behind_8 <|
    s_icmp_ge (pc := 9) C dX8_behind_9 (by decide) (s_iload_n (pc := 33) C dX8_behind_33 rfl <|
    s_ireturn (pc := 34) C rfl dX8_behind_34)
    (s_aload_n (pc := 12) C dX8_behind_12 rfl <|
    s_get (pc := 13) C (ci := 8) (kf := 5) rfl inX8 (by decide) wd_876 dX8_behind_13 <|
    s_iload_n (pc := 16) C dX8_behind_16 rfl <|
    s_iald (pc := 17) C dX8_behind_17 <|
    s_aload_n (pc := 18) C dX8_behind_18 rfl <|
    s_get (pc := 19) C (ci := 8) (kf := 5) rfl inX8 (by decide) wd_876 dX8_behind_19 <|
    s_iload_n (pc := 22) C dX8_behind_22 rfl <|
    s_iald (pc := 23) C dX8_behind_23 <|
    s_icmp_ne (pc := 24) C dX8_behind_24 (by decide) (s_iload_n (pc := 33) C dX8_behind_33 rfl <|
    s_ireturn (pc := 34) C rfl dX8_behind_34)
    (s_iinc (pc := 27) C dX8_behind_27 <|
    s_goto (pc := 30) C dX8_behind_30 (by decide) <|
    s_cut q2))
noncomputable def rw_X8_behind_2 (f : Nat) : XK := tlp (fun k2 => rg_X8_behind_2 k2) f
noncomputable def lb_X8_behind_2 (p1 : Int) (h0 : Ob) (f : Nat) : ((Int) → Option Rt) → Int → Option Rt := fun k2 => mg_X8_behind_2 p1 h0 k2
noncomputable def md_X8_behind_2 (p1 : Int) (h0 : Ob) (f : Nat) : Int → Option Rt := tlp (lb_X8_behind_2 p1 h0 f) f
theorem eq_X8_behind_2 (p1 : Int) (h0 : Ob) (f : Nat) (a : Int) : rw_X8_behind_2 f (en_X8_behind_2 p1 h0 a) = md_X8_behind_2 p1 h0 f a :=
 tlp_enc (en_X8_behind_2 p1 h0) (fun k2 a => (rq_X8_behind_2 p1 h0 k2 a).trans (congrFun (congr (rfl : mg_X8_behind_2 p1 h0 = mg_X8_behind_2 p1 h0) rfl) a)) f a
theorem sd_X8_behind_2 (f : Nat) {X : XDyn} {r0 : Rt} (C : XO X mX8_behind) : XS X mX8_behind r0 2 (rw_X8_behind_2 f) := s_lp (fun k2 q2 => sg_X8_behind_2 C q2) f
noncomputable def rw_X8_behind_0 (f : Nat) : XK := rg_X8_behind_0 (rw_X8_behind_2 f)
noncomputable def md_X8_behind_0 (p1 : Int) (h0 : Ob) (f : Nat) : Unit → Option Rt := mg_X8_behind_0 p1 h0 (md_X8_behind_2 p1 h0 f)
theorem eq_X8_behind_0 (p1 : Int) (h0 : Ob) (f : Nat) (a : Unit) : rw_X8_behind_0 f (en_X8_behind_0 p1 h0 a) = md_X8_behind_0 p1 h0 f a :=
 (rq_X8_behind_0 p1 h0 (rw_X8_behind_2 f) a).trans (congrFun (congr (rfl : mg_X8_behind_0 p1 h0 = mg_X8_behind_0 p1 h0) (funext (eq_X8_behind_2 p1 h0 f))) a)
theorem sd_X8_behind_0 (f : Nat) {X : XDyn} {r0 : Rt} (C : XO X mX8_behind) : XS X mX8_behind r0 0 (rw_X8_behind_0 f) := sg_X8_behind_0 C (sd_X8_behind_2 f C)
theorem ctr_X8_behind (f : Nat) : XCt yX8_behind mX8_behind (xF mX8_behind (rw_X8_behind_0 f)) := xMet (by decide +kernel) rfl (fun _ _ C => sd_X8_behind_0 f C)
theorem eqf_X8_behind (f : Nat) (p1 : Int) (h0 : Ob) : xF mX8_behind (rw_X8_behind_0 f) [.inr (.inl (0, 0)), .inl p1] [h0] = md_X8_behind_0 p1 h0 f () := eq_X8_behind_0 p1 h0 f ()
theorem yi_X8_behind : yX8_behind.cls = RX8 ∧ yX8_behind.cls ≠ "java/lang/invoke/MethodHandle" ∧ yX8_behind.cls ≠ "java/lang/invoke/VarHandle" ∧ (parseMethodDescriptor yX8_behind.desc).map (fun d => d.parameters.length) = some 1 := ⟨rfl, by decide +kernel, by decide +kernel, by decide +kernel⟩
noncomputable def ov_X8_behind (p1 : Int) (h0 : Ob) : Option Rt := xop (md_X8_behind_0 p1 h0 xfu ())
theorem ov_X8_behind_e (p1 : Int) (h0 : Ob) : ov_X8_behind p1 h0 = md_X8_behind_0 p1 h0 xfu () := xop_eq _
theorem sp_X8_behind (p1 : Int) (h0 : Ob) (hg : pd (ov_X8_behind p1 h0 = RI (oqR (ov_X8_behind p1 h0)) [h0]) = true) : md_X8_behind_0 p1 h0 xfu () = RI (oqR (ov_X8_behind p1 h0)) [h0] := (ov_X8_behind_e p1 h0).symm.trans (pd_of hg)
noncomputable def g_X8_behind : List AV → List Ob → Bool
  | [.inr (.inl (0, 0)), .inl p1], [h0] => pd (ov_X8_behind p1 h0 = RI (oqR (ov_X8_behind p1 h0)) [h0])
  | _, _ => false
noncomputable def v_X8_behind : List AV → List Ob → Rt
  | [.inr (.inl (0, 0)), .inl p1], [h0] => (some (.inl (oqR (ov_X8_behind p1 h0))), [h0])
  | _, _ => (none, [])
theorem ct_X8_behind : XCt yX8_behind mX8_behind (fun as μ => if g_X8_behind as μ then some (v_X8_behind as μ) else none) := (ctr_X8_behind xfu).of (fun as μ r h => by
  split at h
  · rename_i hg
    unfold g_X8_behind at hg
    split at hg
    · rw [← h]
      exact (eqf_X8_behind xfu _ _).trans (sp_X8_behind _ _ hg)
    · cases hg
  · cases h)
theorem dX8_isFixedAt_0 : decode cX8_isFixedAt 0 = .ok (.aload_n 0, 1) := by decide +kernel
theorem dX8_isFixedAt_1 : decode cX8_isFixedAt 1 = .ok (.getfield 19, 3) := by decide +kernel
theorem dX8_isFixedAt_4 : decode cX8_isFixedAt 4 = .ok (.iload_n 1, 1) := by decide +kernel
theorem dX8_isFixedAt_5 : decode cX8_isFixedAt 5 = .ok (.iaload, 1) := by decide +kernel
theorem dX8_isFixedAt_6 : decode cX8_isFixedAt 6 = .ok (.bipush 32, 2) := by decide +kernel
theorem dX8_isFixedAt_8 : decode cX8_isFixedAt 8 = .ok (.if_icmp .gt 31, 3) := by decide +kernel
theorem dX8_isFixedAt_11 : decode cX8_isFixedAt 11 = .ok (.aload_n 0, 1) := by decide +kernel
theorem dX8_isFixedAt_12 : decode cX8_isFixedAt 12 = .ok (.getfield 19, 3) := by decide +kernel
theorem dX8_isFixedAt_15 : decode cX8_isFixedAt 15 = .ok (.iload_n 1, 1) := by decide +kernel
theorem dX8_isFixedAt_16 : decode cX8_isFixedAt 16 = .ok (.iaload, 1) := by decide +kernel
theorem dX8_isFixedAt_17 : decode cX8_isFixedAt 17 = .ok (.ifCond .le 26, 3) := by decide +kernel
theorem dX8_isFixedAt_20 : decode cX8_isFixedAt 20 = .ok (.aload_n 0, 1) := by decide +kernel
theorem dX8_isFixedAt_21 : decode cX8_isFixedAt 21 = .ok (.getfield 7, 3) := by decide +kernel
theorem dX8_isFixedAt_24 : decode cX8_isFixedAt 24 = .ok (.bipush 29, 2) := by decide +kernel
theorem dX8_isFixedAt_26 : decode cX8_isFixedAt 26 = .ok (.aload_n 0, 1) := by decide +kernel
theorem dX8_isFixedAt_27 : decode cX8_isFixedAt 27 = .ok (.getfield 19, 3) := by decide +kernel
theorem dX8_isFixedAt_30 : decode cX8_isFixedAt 30 = .ok (.iload_n 1, 1) := by decide +kernel
theorem dX8_isFixedAt_31 : decode cX8_isFixedAt 31 = .ok (.iaload, 1) := by decide +kernel
theorem dX8_isFixedAt_32 : decode cX8_isFixedAt 32 = .ok (.iadd, 1) := by decide +kernel
theorem dX8_isFixedAt_33 : decode cX8_isFixedAt 33 = .ok (.iconst 1, 1) := by decide +kernel
theorem dX8_isFixedAt_34 : decode cX8_isFixedAt 34 = .ok (.isub, 1) := by decide +kernel
theorem dX8_isFixedAt_35 : decode cX8_isFixedAt 35 = .ok (.iaload, 1) := by decide +kernel
theorem dX8_isFixedAt_36 : decode cX8_isFixedAt 36 = .ok (.ifCond .le 7, 3) := by decide +kernel
theorem dX8_isFixedAt_39 : decode cX8_isFixedAt 39 = .ok (.iconst 1, 1) := by decide +kernel
theorem dX8_isFixedAt_40 : decode cX8_isFixedAt 40 = .ok (.goto 4, 3) := by decide +kernel
theorem dX8_isFixedAt_43 : decode cX8_isFixedAt 43 = .ok (.iconst 0, 1) := by decide +kernel
theorem dX8_isFixedAt_44 : decode cX8_isFixedAt 44 = .ok (.ireturn, 1) := by decide +kernel
abbrev mX8_isFixedAt : XM := (cX8_isFixedAt, 2, RX8, (some .boolean), shw_8, 0)
noncomputable def rg_X8_isFixedAt_0 : XK :=
 o_aload 0 <|
 o_get shw_8 8 5 <|
 o_iload 1 <|
 o_iald shw_8 <|
 o_iconst 32 <|
 o_icmp_gt (o_iconst 1 <|
 o_zreturn)
 (o_aload 0 <|
 o_get shw_8 8 5 <|
 o_iload 1 <|
 o_iald shw_8 <|
 o_if_le (o_iconst 0 <|
 o_zreturn)
 (o_aload 0 <|
 o_get shw_8 8 0 <|
 o_iconst 29 <|
 o_aload 0 <|
 o_get shw_8 8 5 <|
 o_iload 1 <|
 o_iald shw_8 <|
 o_iadd <|
 o_iconst 1 <|
 o_isub <|
 o_iald shw_8 <|
 o_if_le (o_iconst 0 <|
 o_zreturn)
 (o_iconst 1 <|
 o_zreturn)))
def en_X8_isFixedAt_0 (p1 : Int) (h0 : Ob) (a : Unit) : XSt := ([some (.inr (.inl (0, 0))), some (.inl p1)], [], [h0])
noncomputable def mg_X8_isFixedAt_0 (p1 : Int) (h0 : Ob) (a : Unit) : Option Rt :=
 if xin p1 200 then (
 if xw (h0 4 (xw p1).toNat) > 32 then (RI 1 [h0])
 else (if xin p1 200 then (
 if xw (h0 4 (xw p1).toNat) ≤ 0 then (RI 0 [h0])
 else (if xin p1 200 then (
 if xin ((29 + (h0 4 (xw p1).toNat)) - 1) 735 then (
 if xw (h0 1 (xw ((29 + (h0 4 (xw p1).toNat)) - 1)).toNat) ≤ 0 then (RI 0 [h0])
 else (RI 1 [h0])) else none) else none)) else none)) else none
set_option maxRecDepth 100000 in
set_option maxHeartbeats 4000000 in
theorem rq_X8_isFixedAt_0 (p1 : Int) (h0 : Ob) (a : Unit) : rg_X8_isFixedAt_0 (en_X8_isFixedAt_0 p1 h0 a) = mg_X8_isFixedAt_0 p1 h0 a := rfl
set_option maxRecDepth 100000 in
set_option maxHeartbeats 4000000 in
theorem sg_X8_isFixedAt_0 {X : XDyn} {r0 : Rt} (C : XO X mX8_isFixedAt) : XS X mX8_isFixedAt r0 0 (rg_X8_isFixedAt_0) := by
 unfold rg_X8_isFixedAt_0
 exact s_aload_n (pc := 0) C dX8_isFixedAt_0 rfl <|
    s_get (pc := 1) C (ci := 8) (kf := 5) rfl inX8 (by decide) wd_876 dX8_isFixedAt_1 <|
    s_iload_n (pc := 4) C dX8_isFixedAt_4 rfl <|
    s_iald (pc := 5) C dX8_isFixedAt_5 <|
    s_bipush (pc := 6) C dX8_isFixedAt_6 (by decide) <|
    s_icmp_gt (pc := 8) C dX8_isFixedAt_8 (by decide) (s_iconst (pc := 39) C dX8_isFixedAt_39 <|
    s_goto (pc := 40) C dX8_isFixedAt_40 (by decide) <|
    s_zreturn (pc := 44) C rfl dX8_isFixedAt_44)
    (s_aload_n (pc := 11) C dX8_isFixedAt_11 rfl <|
    s_get (pc := 12) C (ci := 8) (kf := 5) rfl inX8 (by decide) wd_876 dX8_isFixedAt_12 <|
    s_iload_n (pc := 15) C dX8_isFixedAt_15 rfl <|
    s_iald (pc := 16) C dX8_isFixedAt_16 <|
    s_if_le (pc := 17) C dX8_isFixedAt_17 (by decide) (s_iconst (pc := 43) C dX8_isFixedAt_43 <|
    s_zreturn (pc := 44) C rfl dX8_isFixedAt_44)
    (s_aload_n (pc := 20) C dX8_isFixedAt_20 rfl <|
    s_get (pc := 21) C (ci := 8) (kf := 0) rfl inX8 (by decide) wd_871 dX8_isFixedAt_21 <|
    s_bipush (pc := 24) C dX8_isFixedAt_24 (by decide) <|
    s_aload_n (pc := 26) C dX8_isFixedAt_26 rfl <|
    s_get (pc := 27) C (ci := 8) (kf := 5) rfl inX8 (by decide) wd_876 dX8_isFixedAt_27 <|
    s_iload_n (pc := 30) C dX8_isFixedAt_30 rfl <|
    s_iald (pc := 31) C dX8_isFixedAt_31 <|
    s_iadd (pc := 32) C dX8_isFixedAt_32 <|
    s_iconst (pc := 33) C dX8_isFixedAt_33 <|
    s_isub (pc := 34) C dX8_isFixedAt_34 <|
    s_iald (pc := 35) C dX8_isFixedAt_35 <|
    s_if_le (pc := 36) C dX8_isFixedAt_36 (by decide) (s_iconst (pc := 43) C dX8_isFixedAt_43 <|
    s_zreturn (pc := 44) C rfl dX8_isFixedAt_44)
    (s_iconst (pc := 39) C dX8_isFixedAt_39 <|
    s_goto (pc := 40) C dX8_isFixedAt_40 (by decide) <|
    s_zreturn (pc := 44) C rfl dX8_isFixedAt_44)))
noncomputable def rw_X8_isFixedAt_0 : XK := rg_X8_isFixedAt_0
noncomputable def md_X8_isFixedAt_0 (p1 : Int) (h0 : Ob) : Unit → Option Rt := mg_X8_isFixedAt_0 p1 h0
theorem eq_X8_isFixedAt_0 (p1 : Int) (h0 : Ob) (a : Unit) : rw_X8_isFixedAt_0 (en_X8_isFixedAt_0 p1 h0 a) = md_X8_isFixedAt_0 p1 h0 a :=
 rq_X8_isFixedAt_0 p1 h0 a
theorem sd_X8_isFixedAt_0 {X : XDyn} {r0 : Rt} (C : XO X mX8_isFixedAt) : XS X mX8_isFixedAt r0 0 (rw_X8_isFixedAt_0) := sg_X8_isFixedAt_0 C
theorem ctr_X8_isFixedAt : XCt yX8_isFixedAt mX8_isFixedAt (xF mX8_isFixedAt (rw_X8_isFixedAt_0)) := xMet (by decide +kernel) rfl (fun _ _ C => sd_X8_isFixedAt_0 C)
theorem eqf_X8_isFixedAt (p1 : Int) (h0 : Ob) : xF mX8_isFixedAt (rw_X8_isFixedAt_0) [.inr (.inl (0, 0)), .inl p1] [h0] = md_X8_isFixedAt_0 p1 h0 () := eq_X8_isFixedAt_0 p1 h0 ()
theorem yi_X8_isFixedAt : yX8_isFixedAt.cls = RX8 ∧ yX8_isFixedAt.cls ≠ "java/lang/invoke/MethodHandle" ∧ yX8_isFixedAt.cls ≠ "java/lang/invoke/VarHandle" ∧ (parseMethodDescriptor yX8_isFixedAt.desc).map (fun d => d.parameters.length) = some 1 := ⟨rfl, by decide +kernel, by decide +kernel, by decide +kernel⟩
noncomputable def ov_X8_isFixedAt (p1 : Int) (h0 : Ob) : Option Rt := xop (md_X8_isFixedAt_0 p1 h0 ())
theorem ov_X8_isFixedAt_e (p1 : Int) (h0 : Ob) : ov_X8_isFixedAt p1 h0 = md_X8_isFixedAt_0 p1 h0 () := xop_eq _
theorem sp_X8_isFixedAt (p1 : Int) (h0 : Ob) (hg : pd (ov_X8_isFixedAt p1 h0 = RI (oqR (ov_X8_isFixedAt p1 h0)) [h0]) = true) : md_X8_isFixedAt_0 p1 h0 () = RI (oqR (ov_X8_isFixedAt p1 h0)) [h0] := (ov_X8_isFixedAt_e p1 h0).symm.trans (pd_of hg)
noncomputable def g_X8_isFixedAt : List AV → List Ob → Bool
  | [.inr (.inl (0, 0)), .inl p1], [h0] => pd (ov_X8_isFixedAt p1 h0 = RI (oqR (ov_X8_isFixedAt p1 h0)) [h0])
  | _, _ => false
noncomputable def v_X8_isFixedAt : List AV → List Ob → Rt
  | [.inr (.inl (0, 0)), .inl p1], [h0] => (some (.inl (oqR (ov_X8_isFixedAt p1 h0))), [h0])
  | _, _ => (none, [])
theorem ct_X8_isFixedAt : XCt yX8_isFixedAt mX8_isFixedAt (fun as μ => if g_X8_isFixedAt as μ then some (v_X8_isFixedAt as μ) else none) := (ctr_X8_isFixedAt ).of (fun as μ r h => by
  split at h
  · rename_i hg
    unfold g_X8_isFixedAt at hg
    split at hg
    · rw [← h]
      exact (eqf_X8_isFixedAt _ _).trans (sp_X8_isFixedAt _ _ hg)
    · cases hg
  · cases h)
theorem dX8_isLooseAt_0 : decode cX8_isLooseAt 0 = .ok (.aload_n 0, 1) := by decide +kernel
theorem dX8_isLooseAt_1 : decode cX8_isLooseAt 1 = .ok (.getfield 19, 3) := by decide +kernel
theorem dX8_isLooseAt_4 : decode cX8_isLooseAt 4 = .ok (.iload_n 1, 1) := by decide +kernel
theorem dX8_isLooseAt_5 : decode cX8_isLooseAt 5 = .ok (.iaload, 1) := by decide +kernel
theorem dX8_isLooseAt_6 : decode cX8_isLooseAt 6 = .ok (.ifCond .le 15, 3) := by decide +kernel
theorem dX8_isLooseAt_9 : decode cX8_isLooseAt 9 = .ok (.aload_n 0, 1) := by decide +kernel
theorem dX8_isLooseAt_10 : decode cX8_isLooseAt 10 = .ok (.iload_n 1, 1) := by decide +kernel
theorem dX8_isLooseAt_11 : decode cX8_isLooseAt 11 = .ok (.invokevirtual 100, 3) := by decide +kernel
theorem dX8_isLooseAt_14 : decode cX8_isLooseAt 14 = .ok (.ifCond .ne 7, 3) := by decide +kernel
theorem dX8_isLooseAt_17 : decode cX8_isLooseAt 17 = .ok (.iconst 1, 1) := by decide +kernel
theorem dX8_isLooseAt_18 : decode cX8_isLooseAt 18 = .ok (.goto 4, 3) := by decide +kernel
theorem dX8_isLooseAt_21 : decode cX8_isLooseAt 21 = .ok (.iconst 0, 1) := by decide +kernel
theorem dX8_isLooseAt_22 : decode cX8_isLooseAt 22 = .ok (.ireturn, 1) := by decide +kernel
abbrev mX8_isLooseAt : XM := (cX8_isLooseAt, 2, RX8, (some .boolean), shw_8, 1)
noncomputable def rg_X8_isLooseAt_0 : XK :=
 o_aload 0 <|
 o_get shw_8 8 5 <|
 o_iload 1 <|
 o_iald shw_8 <|
 o_if_le (o_iconst 0 <|
 o_zreturn)
 (o_aload 0 <|
 o_iload 1 <|
 o_callVg 2 1 [0] g_X8_isFixedAt v_X8_isFixedAt <|
 o_if_ne (o_iconst 0 <|
 o_zreturn)
 (o_iconst 1 <|
 o_zreturn))
def en_X8_isLooseAt_0 (p1 : Int) (h0 : Ob) (a : Unit) : XSt := ([some (.inr (.inl (0, 0))), some (.inl p1)], [], [h0])
noncomputable def mg_X8_isLooseAt_0 (p1 : Int) (h0 : Ob) (a : Unit) : Option Rt :=
 if xin p1 200 then (
 if xw (h0 4 (xw p1).toNat) ≤ 0 then (RI 0 [h0])
 else (if pd (ov_X8_isFixedAt p1 h0 = RI (oqR (ov_X8_isFixedAt p1 h0)) [h0]) then (
 if xw (oqR (ov_X8_isFixedAt p1 h0)) = 0 then (RI 1 [h0])
 else (RI 0 [h0])) else none)) else none
set_option maxRecDepth 100000 in
set_option maxHeartbeats 4000000 in
theorem rq_X8_isLooseAt_0 (p1 : Int) (h0 : Ob) (a : Unit) : rg_X8_isLooseAt_0 (en_X8_isLooseAt_0 p1 h0 a) = mg_X8_isLooseAt_0 p1 h0 a := rfl
set_option maxRecDepth 100000 in
set_option maxHeartbeats 4000000 in
theorem sg_X8_isLooseAt_0 {X : XDyn} {r0 : Rt} (C : XO X mX8_isLooseAt) : XS X mX8_isLooseAt r0 0 (rg_X8_isLooseAt_0) := by
 unfold rg_X8_isLooseAt_0
 exact s_aload_n (pc := 0) C dX8_isLooseAt_0 rfl <|
    s_get (pc := 1) C (ci := 8) (kf := 5) rfl inX8 (by decide) wd_876 dX8_isLooseAt_1 <|
    s_iload_n (pc := 4) C dX8_isLooseAt_4 rfl <|
    s_iald (pc := 5) C dX8_isLooseAt_5 <|
    s_if_le (pc := 6) C dX8_isLooseAt_6 (by decide) (s_iconst (pc := 21) C dX8_isLooseAt_21 <|
    s_zreturn (pc := 22) C rfl dX8_isLooseAt_22)
    (s_aload_n (pc := 9) C dX8_isLooseAt_9 rfl <|
    s_iload_n (pc := 10) C dX8_isLooseAt_10 rfl <|
    s_callVg (pc := 11) C ct_X8_isFixedAt (n := 2) (rk := 1) (mp := [0]) ⟨rfl, by decide, rfl⟩ (ci := 8) rfl rfl (by decide) (by decide) yi_X8_isFixedAt (by decide) wd_1022 wd_1024 wd_32 wd_81 wd_1025 dX8_isLooseAt_11 <|
    s_if_ne (pc := 14) C dX8_isLooseAt_14 (by decide) (s_iconst (pc := 21) C dX8_isLooseAt_21 <|
    s_zreturn (pc := 22) C rfl dX8_isLooseAt_22)
    (s_iconst (pc := 17) C dX8_isLooseAt_17 <|
    s_goto (pc := 18) C dX8_isLooseAt_18 (by decide) <|
    s_zreturn (pc := 22) C rfl dX8_isLooseAt_22))
noncomputable def rw_X8_isLooseAt_0 : XK := rg_X8_isLooseAt_0
noncomputable def md_X8_isLooseAt_0 (p1 : Int) (h0 : Ob) : Unit → Option Rt := mg_X8_isLooseAt_0 p1 h0
theorem eq_X8_isLooseAt_0 (p1 : Int) (h0 : Ob) (a : Unit) : rw_X8_isLooseAt_0 (en_X8_isLooseAt_0 p1 h0 a) = md_X8_isLooseAt_0 p1 h0 a :=
 rq_X8_isLooseAt_0 p1 h0 a
theorem sd_X8_isLooseAt_0 {X : XDyn} {r0 : Rt} (C : XO X mX8_isLooseAt) : XS X mX8_isLooseAt r0 0 (rw_X8_isLooseAt_0) := sg_X8_isLooseAt_0 C
theorem ctr_X8_isLooseAt : XCt yX8_isLooseAt mX8_isLooseAt (xF mX8_isLooseAt (rw_X8_isLooseAt_0)) := xMet (by decide +kernel) rfl (fun _ _ C => sd_X8_isLooseAt_0 C)
theorem eqf_X8_isLooseAt (p1 : Int) (h0 : Ob) : xF mX8_isLooseAt (rw_X8_isLooseAt_0) [.inr (.inl (0, 0)), .inl p1] [h0] = md_X8_isLooseAt_0 p1 h0 () := eq_X8_isLooseAt_0 p1 h0 ()
theorem yi_X8_isLooseAt : yX8_isLooseAt.cls = RX8 ∧ yX8_isLooseAt.cls ≠ "java/lang/invoke/MethodHandle" ∧ yX8_isLooseAt.cls ≠ "java/lang/invoke/VarHandle" ∧ (parseMethodDescriptor yX8_isLooseAt.desc).map (fun d => d.parameters.length) = some 1 := ⟨rfl, by decide +kernel, by decide +kernel, by decide +kernel⟩
noncomputable def ov_X8_isLooseAt (p1 : Int) (h0 : Ob) : Option Rt := xop (md_X8_isLooseAt_0 p1 h0 ())
theorem ov_X8_isLooseAt_e (p1 : Int) (h0 : Ob) : ov_X8_isLooseAt p1 h0 = md_X8_isLooseAt_0 p1 h0 () := xop_eq _
theorem sp_X8_isLooseAt (p1 : Int) (h0 : Ob) (hg : pd (ov_X8_isLooseAt p1 h0 = RI (oqR (ov_X8_isLooseAt p1 h0)) [h0]) = true) : md_X8_isLooseAt_0 p1 h0 () = RI (oqR (ov_X8_isLooseAt p1 h0)) [h0] := (ov_X8_isLooseAt_e p1 h0).symm.trans (pd_of hg)
noncomputable def g_X8_isLooseAt : List AV → List Ob → Bool
  | [.inr (.inl (0, 0)), .inl p1], [h0] => pd (ov_X8_isLooseAt p1 h0 = RI (oqR (ov_X8_isLooseAt p1 h0)) [h0])
  | _, _ => false
noncomputable def v_X8_isLooseAt : List AV → List Ob → Rt
  | [.inr (.inl (0, 0)), .inl p1], [h0] => (some (.inl (oqR (ov_X8_isLooseAt p1 h0))), [h0])
  | _, _ => (none, [])
theorem ct_X8_isLooseAt : XCt yX8_isLooseAt mX8_isLooseAt (fun as μ => if g_X8_isLooseAt as μ then some (v_X8_isLooseAt as μ) else none) := (ctr_X8_isLooseAt ).of (fun as μ r h => by
  split at h
  · rename_i hg
    unfold g_X8_isLooseAt at hg
    split at hg
    · rw [← h]
      exact (eqf_X8_isLooseAt _ _).trans (sp_X8_isLooseAt _ _ hg)
    · cases hg
  · cases h)
theorem dX8_cellAt_0 : decode cX8_cellAt 0 = .ok (.aload_n 0, 1) := by decide +kernel
theorem dX8_cellAt_1 : decode cX8_cellAt 1 = .ok (.getfield 19, 3) := by decide +kernel
theorem dX8_cellAt_4 : decode cX8_cellAt 4 = .ok (.iload_n 1, 1) := by decide +kernel
theorem dX8_cellAt_5 : decode cX8_cellAt 5 = .ok (.iaload, 1) := by decide +kernel
theorem dX8_cellAt_6 : decode cX8_cellAt 6 = .ok (.istore_n 2, 1) := by decide +kernel
theorem dX8_cellAt_7 : decode cX8_cellAt 7 = .ok (.iload_n 2, 1) := by decide +kernel
theorem dX8_cellAt_8 : decode cX8_cellAt 8 = .ok (.bipush 32, 2) := by decide +kernel
theorem dX8_cellAt_10 : decode cX8_cellAt 10 = .ok (.if_icmp .le 77, 3) := by decide +kernel
theorem dX8_cellAt_13 : decode cX8_cellAt 13 = .ok (.iload_n 1, 1) := by decide +kernel
theorem dX8_cellAt_14 : decode cX8_cellAt 14 = .ok (.aload_n 0, 1) := by decide +kernel
theorem dX8_cellAt_15 : decode cX8_cellAt 15 = .ok (.getfield 7, 3) := by decide +kernel
theorem dX8_cellAt_18 : decode cX8_cellAt 18 = .ok (.bipush 72, 2) := by decide +kernel
theorem dX8_cellAt_20 : decode cX8_cellAt 20 = .ok (.iload_n 2, 1) := by decide +kernel
theorem dX8_cellAt_21 : decode cX8_cellAt 21 = .ok (.iadd, 1) := by decide +kernel
theorem dX8_cellAt_22 : decode cX8_cellAt 22 = .ok (.bipush 33, 2) := by decide +kernel
theorem dX8_cellAt_24 : decode cX8_cellAt 24 = .ok (.isub, 1) := by decide +kernel
theorem dX8_cellAt_25 : decode cX8_cellAt 25 = .ok (.iaload, 1) := by decide +kernel
theorem dX8_cellAt_26 : decode cX8_cellAt 26 = .ok (.if_icmp .ne 25, 3) := by decide +kernel
theorem dX8_cellAt_29 : decode cX8_cellAt 29 = .ok (.bipush 64, 2) := by decide +kernel
theorem dX8_cellAt_31 : decode cX8_cellAt 31 = .ok (.aload_n 0, 1) := by decide +kernel
theorem dX8_cellAt_32 : decode cX8_cellAt 32 = .ok (.getfield 7, 3) := by decide +kernel
theorem dX8_cellAt_35 : decode cX8_cellAt 35 = .ok (.bipush 69, 2) := by decide +kernel
theorem dX8_cellAt_37 : decode cX8_cellAt 37 = .ok (.iload_n 2, 1) := by decide +kernel
theorem dX8_cellAt_38 : decode cX8_cellAt 38 = .ok (.iadd, 1) := by decide +kernel
theorem dX8_cellAt_39 : decode cX8_cellAt 39 = .ok (.bipush 33, 2) := by decide +kernel
theorem dX8_cellAt_41 : decode cX8_cellAt 41 = .ok (.isub, 1) := by decide +kernel
theorem dX8_cellAt_42 : decode cX8_cellAt 42 = .ok (.iaload, 1) := by decide +kernel
theorem dX8_cellAt_43 : decode cX8_cellAt 43 = .ok (.iconst 1, 1) := by decide +kernel
theorem dX8_cellAt_44 : decode cX8_cellAt 44 = .ok (.iadd, 1) := by decide +kernel
theorem dX8_cellAt_45 : decode cX8_cellAt 45 = .ok (.imul, 1) := by decide +kernel
theorem dX8_cellAt_46 : decode cX8_cellAt 46 = .ok (.iload_n 2, 1) := by decide +kernel
theorem dX8_cellAt_47 : decode cX8_cellAt 47 = .ok (.iadd, 1) := by decide +kernel
theorem dX8_cellAt_48 : decode cX8_cellAt 48 = .ok (.goto 38, 3) := by decide +kernel
theorem dX8_cellAt_51 : decode cX8_cellAt 51 = .ok (.aload_n 0, 1) := by decide +kernel
theorem dX8_cellAt_52 : decode cX8_cellAt 52 = .ok (.getfield 7, 3) := by decide +kernel
theorem dX8_cellAt_55 : decode cX8_cellAt 55 = .ok (.bipush 75, 2) := by decide +kernel
theorem dX8_cellAt_57 : decode cX8_cellAt 57 = .ok (.bipush 60, 2) := by decide +kernel
theorem dX8_cellAt_59 : decode cX8_cellAt 59 = .ok (.bipush 8, 2) := by decide +kernel
theorem dX8_cellAt_61 : decode cX8_cellAt 61 = .ok (.iload_n 2, 1) := by decide +kernel
theorem dX8_cellAt_62 : decode cX8_cellAt 62 = .ok (.iadd, 1) := by decide +kernel
theorem dX8_cellAt_63 : decode cX8_cellAt 63 = .ok (.bipush 33, 2) := by decide +kernel
theorem dX8_cellAt_65 : decode cX8_cellAt 65 = .ok (.isub, 1) := by decide +kernel
theorem dX8_cellAt_66 : decode cX8_cellAt 66 = .ok (.imul, 1) := by decide +kernel
theorem dX8_cellAt_67 : decode cX8_cellAt 67 = .ok (.iadd, 1) := by decide +kernel
theorem dX8_cellAt_68 : decode cX8_cellAt 68 = .ok (.iload_n 1, 1) := by decide +kernel
theorem dX8_cellAt_69 : decode cX8_cellAt 69 = .ok (.iadd, 1) := by decide +kernel
theorem dX8_cellAt_70 : decode cX8_cellAt 70 = .ok (.aload_n 0, 1) := by decide +kernel
theorem dX8_cellAt_71 : decode cX8_cellAt 71 = .ok (.getfield 7, 3) := by decide +kernel
theorem dX8_cellAt_74 : decode cX8_cellAt 74 = .ok (.bipush 72, 2) := by decide +kernel
theorem dX8_cellAt_76 : decode cX8_cellAt 76 = .ok (.iload_n 2, 1) := by decide +kernel
theorem dX8_cellAt_77 : decode cX8_cellAt 77 = .ok (.iadd, 1) := by decide +kernel
theorem dX8_cellAt_78 : decode cX8_cellAt 78 = .ok (.bipush 33, 2) := by decide +kernel
theorem dX8_cellAt_80 : decode cX8_cellAt 80 = .ok (.isub, 1) := by decide +kernel
theorem dX8_cellAt_81 : decode cX8_cellAt 81 = .ok (.iaload, 1) := by decide +kernel
theorem dX8_cellAt_82 : decode cX8_cellAt 82 = .ok (.isub, 1) := by decide +kernel
theorem dX8_cellAt_83 : decode cX8_cellAt 83 = .ok (.iconst 1, 1) := by decide +kernel
theorem dX8_cellAt_84 : decode cX8_cellAt 84 = .ok (.isub, 1) := by decide +kernel
theorem dX8_cellAt_85 : decode cX8_cellAt 85 = .ok (.iaload, 1) := by decide +kernel
theorem dX8_cellAt_86 : decode cX8_cellAt 86 = .ok (.ireturn, 1) := by decide +kernel
theorem dX8_cellAt_87 : decode cX8_cellAt 87 = .ok (.iload_n 2, 1) := by decide +kernel
theorem dX8_cellAt_88 : decode cX8_cellAt 88 = .ok (.ifCond .le 64, 3) := by decide +kernel
theorem dX8_cellAt_91 : decode cX8_cellAt 91 = .ok (.iload_n 1, 1) := by decide +kernel
theorem dX8_cellAt_92 : decode cX8_cellAt 92 = .ok (.aload_n 0, 1) := by decide +kernel
theorem dX8_cellAt_93 : decode cX8_cellAt 93 = .ok (.getfield 7, 3) := by decide +kernel
theorem dX8_cellAt_96 : decode cX8_cellAt 96 = .ok (.bipush 13, 2) := by decide +kernel
theorem dX8_cellAt_98 : decode cX8_cellAt 98 = .ok (.iload_n 2, 1) := by decide +kernel
theorem dX8_cellAt_99 : decode cX8_cellAt 99 = .ok (.iadd, 1) := by decide +kernel
theorem dX8_cellAt_100 : decode cX8_cellAt 100 = .ok (.iconst 1, 1) := by decide +kernel
theorem dX8_cellAt_101 : decode cX8_cellAt 101 = .ok (.isub, 1) := by decide +kernel
theorem dX8_cellAt_102 : decode cX8_cellAt 102 = .ok (.iaload, 1) := by decide +kernel
theorem dX8_cellAt_103 : decode cX8_cellAt 103 = .ok (.if_icmp .ne 18, 3) := by decide +kernel
theorem dX8_cellAt_106 : decode cX8_cellAt 106 = .ok (.bipush 64, 2) := by decide +kernel
theorem dX8_cellAt_108 : decode cX8_cellAt 108 = .ok (.aload_n 0, 1) := by decide +kernel
theorem dX8_cellAt_109 : decode cX8_cellAt 109 = .ok (.iload_n 2, 1) := by decide +kernel
theorem dX8_cellAt_110 : decode cX8_cellAt 110 = .ok (.iconst 1, 1) := by decide +kernel
theorem dX8_cellAt_111 : decode cX8_cellAt 111 = .ok (.isub, 1) := by decide +kernel
theorem dX8_cellAt_112 : decode cX8_cellAt 112 = .ok (.invokevirtual 93, 3) := by decide +kernel
theorem dX8_cellAt_115 : decode cX8_cellAt 115 = .ok (.imul, 1) := by decide +kernel
theorem dX8_cellAt_116 : decode cX8_cellAt 116 = .ok (.iload_n 2, 1) := by decide +kernel
theorem dX8_cellAt_117 : decode cX8_cellAt 117 = .ok (.iadd, 1) := by decide +kernel
theorem dX8_cellAt_118 : decode cX8_cellAt 118 = .ok (.goto 33, 3) := by decide +kernel
theorem dX8_cellAt_121 : decode cX8_cellAt 121 = .ok (.aload_n 0, 1) := by decide +kernel
theorem dX8_cellAt_122 : decode cX8_cellAt 122 = .ok (.getfield 7, 3) := by decide +kernel
theorem dX8_cellAt_125 : decode cX8_cellAt 125 = .ok (.bipush 75, 2) := by decide +kernel
theorem dX8_cellAt_127 : decode cX8_cellAt 127 = .ok (.bipush 60, 2) := by decide +kernel
theorem dX8_cellAt_129 : decode cX8_cellAt 129 = .ok (.iload_n 2, 1) := by decide +kernel
theorem dX8_cellAt_130 : decode cX8_cellAt 130 = .ok (.iconst 1, 1) := by decide +kernel
theorem dX8_cellAt_131 : decode cX8_cellAt 131 = .ok (.isub, 1) := by decide +kernel
theorem dX8_cellAt_132 : decode cX8_cellAt 132 = .ok (.imul, 1) := by decide +kernel
theorem dX8_cellAt_133 : decode cX8_cellAt 133 = .ok (.iadd, 1) := by decide +kernel
theorem dX8_cellAt_134 : decode cX8_cellAt 134 = .ok (.iload_n 1, 1) := by decide +kernel
theorem dX8_cellAt_135 : decode cX8_cellAt 135 = .ok (.iadd, 1) := by decide +kernel
theorem dX8_cellAt_136 : decode cX8_cellAt 136 = .ok (.aload_n 0, 1) := by decide +kernel
theorem dX8_cellAt_137 : decode cX8_cellAt 137 = .ok (.getfield 7, 3) := by decide +kernel
theorem dX8_cellAt_140 : decode cX8_cellAt 140 = .ok (.bipush 13, 2) := by decide +kernel
theorem dX8_cellAt_142 : decode cX8_cellAt 142 = .ok (.iload_n 2, 1) := by decide +kernel
theorem dX8_cellAt_143 : decode cX8_cellAt 143 = .ok (.iadd, 1) := by decide +kernel
theorem dX8_cellAt_144 : decode cX8_cellAt 144 = .ok (.iconst 1, 1) := by decide +kernel
theorem dX8_cellAt_145 : decode cX8_cellAt 145 = .ok (.isub, 1) := by decide +kernel
theorem dX8_cellAt_146 : decode cX8_cellAt 146 = .ok (.iaload, 1) := by decide +kernel
theorem dX8_cellAt_147 : decode cX8_cellAt 147 = .ok (.isub, 1) := by decide +kernel
theorem dX8_cellAt_148 : decode cX8_cellAt 148 = .ok (.iconst 1, 1) := by decide +kernel
theorem dX8_cellAt_149 : decode cX8_cellAt 149 = .ok (.isub, 1) := by decide +kernel
theorem dX8_cellAt_150 : decode cX8_cellAt 150 = .ok (.iaload, 1) := by decide +kernel
theorem dX8_cellAt_151 : decode cX8_cellAt 151 = .ok (.ireturn, 1) := by decide +kernel
theorem dX8_cellAt_152 : decode cX8_cellAt 152 = .ok (.iload_n 1, 1) := by decide +kernel
theorem dX8_cellAt_153 : decode cX8_cellAt 153 = .ok (.ifCond .eq 14, 3) := by decide +kernel
theorem dX8_cellAt_156 : decode cX8_cellAt 156 = .ok (.aload_n 0, 1) := by decide +kernel
theorem dX8_cellAt_157 : decode cX8_cellAt 157 = .ok (.getfield 19, 3) := by decide +kernel
theorem dX8_cellAt_160 : decode cX8_cellAt 160 = .ok (.iload_n 1, 1) := by decide +kernel
theorem dX8_cellAt_161 : decode cX8_cellAt 161 = .ok (.iconst 1, 1) := by decide +kernel
theorem dX8_cellAt_162 : decode cX8_cellAt 162 = .ok (.isub, 1) := by decide +kernel
theorem dX8_cellAt_163 : decode cX8_cellAt 163 = .ok (.iaload, 1) := by decide +kernel
theorem dX8_cellAt_164 : decode cX8_cellAt 164 = .ok (.ifCond .eq 16, 3) := by decide +kernel
theorem dX8_cellAt_167 : decode cX8_cellAt 167 = .ok (.bipush 64, 2) := by decide +kernel
theorem dX8_cellAt_169 : decode cX8_cellAt 169 = .ok (.aload_n 0, 1) := by decide +kernel
theorem dX8_cellAt_170 : decode cX8_cellAt 170 = .ok (.iload_n 1, 1) := by decide +kernel
theorem dX8_cellAt_171 : decode cX8_cellAt 171 = .ok (.invokevirtual 103, 3) := by decide +kernel
theorem dX8_cellAt_174 : decode cX8_cellAt 174 = .ok (.iload_n 1, 1) := by decide +kernel
theorem dX8_cellAt_175 : decode cX8_cellAt 175 = .ok (.isub, 1) := by decide +kernel
theorem dX8_cellAt_176 : decode cX8_cellAt 176 = .ok (.imul, 1) := by decide +kernel
theorem dX8_cellAt_177 : decode cX8_cellAt 177 = .ok (.goto 4, 3) := by decide +kernel
theorem dX8_cellAt_180 : decode cX8_cellAt 180 = .ok (.iconst 0, 1) := by decide +kernel
theorem dX8_cellAt_181 : decode cX8_cellAt 181 = .ok (.ireturn, 1) := by decide +kernel
abbrev mX8_cellAt : XM := (cX8_cellAt, 3, RX8, (some .int), shw_8, 1)
noncomputable def rg_X8_cellAt_0 (k167 : XK) : XK :=
 o_aload 0 <|
 o_get shw_8 8 5 <|
 o_iload 1 <|
 o_iald shw_8 <|
 o_istore 2 <|
 o_iload 2 <|
 o_iconst 32 <|
 o_icmp_le (o_iload 2 <|
 o_if_le (o_iload 1 <|
 o_if_eq (o_cut [2] k167)
 (o_aload 0 <|
 o_get shw_8 8 5 <|
 o_iload 1 <|
 o_iconst 1 <|
 o_isub <|
 o_iald shw_8 <|
 o_if_eq (o_iconst 0 <|
 o_ireturn)
 (o_cut [2] k167)))
 (o_iload 1 <|
 o_aload 0 <|
 o_get shw_8 8 0 <|
 o_iconst 13 <|
 o_iload 2 <|
 o_iadd <|
 o_iconst 1 <|
 o_isub <|
 o_iald shw_8 <|
 o_icmp_ne (o_aload 0 <|
 o_get shw_8 8 0 <|
 o_iconst 75 <|
 o_iconst 60 <|
 o_iload 2 <|
 o_iconst 1 <|
 o_isub <|
 o_imul <|
 o_iadd <|
 o_iload 1 <|
 o_iadd <|
 o_aload 0 <|
 o_get shw_8 8 0 <|
 o_iconst 13 <|
 o_iload 2 <|
 o_iadd <|
 o_iconst 1 <|
 o_isub <|
 o_iald shw_8 <|
 o_isub <|
 o_iconst 1 <|
 o_isub <|
 o_iald shw_8 <|
 o_ireturn)
 (o_iconst 64 <|
 o_aload 0 <|
 o_iload 2 <|
 o_iconst 1 <|
 o_isub <|
 o_callVg 2 1 [0] g_X8_lengthOf v_X8_lengthOf <|
 o_imul <|
 o_iload 2 <|
 o_iadd <|
 o_ireturn)))
 (o_iload 1 <|
 o_aload 0 <|
 o_get shw_8 8 0 <|
 o_iconst 72 <|
 o_iload 2 <|
 o_iadd <|
 o_iconst 33 <|
 o_isub <|
 o_iald shw_8 <|
 o_icmp_ne (o_aload 0 <|
 o_get shw_8 8 0 <|
 o_iconst 75 <|
 o_iconst 60 <|
 o_iconst 8 <|
 o_iload 2 <|
 o_iadd <|
 o_iconst 33 <|
 o_isub <|
 o_imul <|
 o_iadd <|
 o_iload 1 <|
 o_iadd <|
 o_aload 0 <|
 o_get shw_8 8 0 <|
 o_iconst 72 <|
 o_iload 2 <|
 o_iadd <|
 o_iconst 33 <|
 o_isub <|
 o_iald shw_8 <|
 o_isub <|
 o_iconst 1 <|
 o_isub <|
 o_iald shw_8 <|
 o_ireturn)
 (o_iconst 64 <|
 o_aload 0 <|
 o_get shw_8 8 0 <|
 o_iconst 69 <|
 o_iload 2 <|
 o_iadd <|
 o_iconst 33 <|
 o_isub <|
 o_iald shw_8 <|
 o_iconst 1 <|
 o_iadd <|
 o_imul <|
 o_iload 2 <|
 o_iadd <|
 o_ireturn))
def en_X8_cellAt_0 (p1 : Int) (h0 : Ob) (a : Unit) : XSt := ([some (.inr (.inl (0, 0))), some (.inl p1), none], [], [h0])
noncomputable def rg_X8_cellAt_167 : XK :=
 o_iconst 64 <|
 o_aload 0 <|
 o_iload 1 <|
 o_callVg 2 1 [0] g_X8_behind v_X8_behind <|
 o_iload 1 <|
 o_isub <|
 o_imul <|
 o_ireturn
def en_X8_cellAt_167 (p1 : Int) (h0 : Ob) (a : Unit) : XSt := ([some (.inr (.inl (0, 0))), some (.inl p1), none], [], [h0])
noncomputable def mg_X8_cellAt_0 (p1 : Int) (h0 : Ob) (k167 : Unit → Option Rt) (a : Unit) : Option Rt :=
 if xin p1 200 then (
 if xw (h0 4 (xw p1).toNat) ≤ 32 then (if xw (h0 4 (xw p1).toNat) ≤ 0 then (if xw p1 = 0 then (k167 ())
 else (if xin (p1 - 1) 200 then (
 if xw (h0 4 (xw (p1 - 1)).toNat) = 0 then (RI 0 [h0])
 else (k167 ())) else none))
 else (if xin ((13 + (h0 4 (xw p1).toNat)) - 1) 735 then (
 if xw p1 = xw (h0 1 (xw ((13 + (h0 4 (xw p1).toNat)) - 1)).toNat) then (if hdl ((h0 4 (xw p1).toNat) - 1) then (
 RI ((64 * (lenM h0 ((h0 4 (xw p1).toNat) - 1))) + (h0 4 (xw p1).toNat)) [h0]) else none)
 else (if xin ((13 + (h0 4 (xw p1).toNat)) - 1) 735 then (
 if xin ((((75 + (60 * ((h0 4 (xw p1).toNat) - 1))) + p1) - (h0 1 (xw ((13 + (h0 4 (xw p1).toNat)) - 1)).toNat)) - 1) 735 then (
 RI (h0 1 (xw ((((75 + (60 * ((h0 4 (xw p1).toNat) - 1))) + p1) - (h0 1 (xw ((13 + (h0 4 (xw p1).toNat)) - 1)).toNat)) - 1)).toNat) [h0]) else none) else none)) else none))
 else (if xin ((72 + (h0 4 (xw p1).toNat)) - 33) 735 then (
 if xw p1 = xw (h0 1 (xw ((72 + (h0 4 (xw p1).toNat)) - 33)).toNat) then (if xin ((69 + (h0 4 (xw p1).toNat)) - 33) 735 then (
 RI ((64 * ((h0 1 (xw ((69 + (h0 4 (xw p1).toNat)) - 33)).toNat) + 1)) + (h0 4 (xw p1).toNat)) [h0]) else none)
 else (if xin ((72 + (h0 4 (xw p1).toNat)) - 33) 735 then (
 if xin ((((75 + (60 * ((8 + (h0 4 (xw p1).toNat)) - 33))) + p1) - (h0 1 (xw ((72 + (h0 4 (xw p1).toNat)) - 33)).toNat)) - 1) 735 then (
 RI (h0 1 (xw ((((75 + (60 * ((8 + (h0 4 (xw p1).toNat)) - 33))) + p1) - (h0 1 (xw ((72 + (h0 4 (xw p1).toNat)) - 33)).toNat)) - 1)).toNat) [h0]) else none) else none)) else none)) else none
set_option maxRecDepth 100000 in
set_option maxHeartbeats 4000000 in
theorem rq_X8_cellAt_0 (p1 : Int) (h0 : Ob) (k167 : XK) (a : Unit) : rg_X8_cellAt_0 k167 (en_X8_cellAt_0 p1 h0 a) = mg_X8_cellAt_0 p1 h0 (fun b => k167 (en_X8_cellAt_167 p1 h0 b)) a := rfl
set_option maxRecDepth 100000 in
set_option maxHeartbeats 4000000 in
theorem sg_X8_cellAt_0 {X : XDyn} {r0 : Rt} (C : XO X mX8_cellAt) {k167 : XK} (q167 : XS X mX8_cellAt r0 167 k167) : XS X mX8_cellAt r0 0 (rg_X8_cellAt_0 k167) := by
 unfold rg_X8_cellAt_0
 exact s_aload_n (pc := 0) C dX8_cellAt_0 rfl <|
    s_get (pc := 1) C (ci := 8) (kf := 5) rfl inX8 (by decide) wd_876 dX8_cellAt_1 <|
    s_iload_n (pc := 4) C dX8_cellAt_4 rfl <|
    s_iald (pc := 5) C dX8_cellAt_5 <|
    s_istore_n (pc := 6) C dX8_cellAt_6 rfl <|
    s_iload_n (pc := 7) C dX8_cellAt_7 rfl <|
    s_bipush (pc := 8) C dX8_cellAt_8 (by decide) <|
    s_icmp_le (pc := 10) C dX8_cellAt_10 (by decide) (s_iload_n (pc := 87) C dX8_cellAt_87 rfl <|
    s_if_le (pc := 88) C dX8_cellAt_88 (by decide) (s_iload_n (pc := 152) C dX8_cellAt_152 rfl <|
    s_if_eq (pc := 153) C dX8_cellAt_153 (by decide) (s_cut q167)
    (s_aload_n (pc := 156) C dX8_cellAt_156 rfl <|
    s_get (pc := 157) C (ci := 8) (kf := 5) rfl inX8 (by decide) wd_876 dX8_cellAt_157 <|
    s_iload_n (pc := 160) C dX8_cellAt_160 rfl <|
    s_iconst (pc := 161) C dX8_cellAt_161 <|
    s_isub (pc := 162) C dX8_cellAt_162 <|
    s_iald (pc := 163) C dX8_cellAt_163 <|
    s_if_eq (pc := 164) C dX8_cellAt_164 (by decide) (s_iconst (pc := 180) C dX8_cellAt_180 <|
    s_ireturn (pc := 181) C rfl dX8_cellAt_181)
    (s_cut q167)))
    (s_iload_n (pc := 91) C dX8_cellAt_91 rfl <|
    s_aload_n (pc := 92) C dX8_cellAt_92 rfl <|
    s_get (pc := 93) C (ci := 8) (kf := 0) rfl inX8 (by decide) wd_871 dX8_cellAt_93 <|
    s_bipush (pc := 96) C dX8_cellAt_96 (by decide) <|
    s_iload_n (pc := 98) C dX8_cellAt_98 rfl <|
    s_iadd (pc := 99) C dX8_cellAt_99 <|
    s_iconst (pc := 100) C dX8_cellAt_100 <|
    s_isub (pc := 101) C dX8_cellAt_101 <|
    s_iald (pc := 102) C dX8_cellAt_102 <|
    s_icmp_ne (pc := 103) C dX8_cellAt_103 (by decide) (s_aload_n (pc := 121) C dX8_cellAt_121 rfl <|
    s_get (pc := 122) C (ci := 8) (kf := 0) rfl inX8 (by decide) wd_871 dX8_cellAt_122 <|
    s_bipush (pc := 125) C dX8_cellAt_125 (by decide) <|
    s_bipush (pc := 127) C dX8_cellAt_127 (by decide) <|
    s_iload_n (pc := 129) C dX8_cellAt_129 rfl <|
    s_iconst (pc := 130) C dX8_cellAt_130 <|
    s_isub (pc := 131) C dX8_cellAt_131 <|
    s_imul (pc := 132) C dX8_cellAt_132 <|
    s_iadd (pc := 133) C dX8_cellAt_133 <|
    s_iload_n (pc := 134) C dX8_cellAt_134 rfl <|
    s_iadd (pc := 135) C dX8_cellAt_135 <|
    s_aload_n (pc := 136) C dX8_cellAt_136 rfl <|
    s_get (pc := 137) C (ci := 8) (kf := 0) rfl inX8 (by decide) wd_871 dX8_cellAt_137 <|
    s_bipush (pc := 140) C dX8_cellAt_140 (by decide) <|
    s_iload_n (pc := 142) C dX8_cellAt_142 rfl <|
    s_iadd (pc := 143) C dX8_cellAt_143 <|
    s_iconst (pc := 144) C dX8_cellAt_144 <|
    s_isub (pc := 145) C dX8_cellAt_145 <|
    s_iald (pc := 146) C dX8_cellAt_146 <|
    s_isub (pc := 147) C dX8_cellAt_147 <|
    s_iconst (pc := 148) C dX8_cellAt_148 <|
    s_isub (pc := 149) C dX8_cellAt_149 <|
    s_iald (pc := 150) C dX8_cellAt_150 <|
    s_ireturn (pc := 151) C rfl dX8_cellAt_151)
    (s_bipush (pc := 106) C dX8_cellAt_106 (by decide) <|
    s_aload_n (pc := 108) C dX8_cellAt_108 rfl <|
    s_iload_n (pc := 109) C dX8_cellAt_109 rfl <|
    s_iconst (pc := 110) C dX8_cellAt_110 <|
    s_isub (pc := 111) C dX8_cellAt_111 <|
    s_callVg (pc := 112) C ct_X8_lengthOf (n := 2) (rk := 1) (mp := [0]) ⟨rfl, by decide, rfl⟩ (ci := 8) rfl rfl (by decide) (by decide) yi_X8_lengthOf (by decide) wd_994 wd_996 wd_25 wd_81 wd_997 dX8_cellAt_112 <|
    s_imul (pc := 115) C dX8_cellAt_115 <|
    s_iload_n (pc := 116) C dX8_cellAt_116 rfl <|
    s_iadd (pc := 117) C dX8_cellAt_117 <|
    s_goto (pc := 118) C dX8_cellAt_118 (by decide) <|
    s_ireturn (pc := 151) C rfl dX8_cellAt_151)))
    (s_iload_n (pc := 13) C dX8_cellAt_13 rfl <|
    s_aload_n (pc := 14) C dX8_cellAt_14 rfl <|
    s_get (pc := 15) C (ci := 8) (kf := 0) rfl inX8 (by decide) wd_871 dX8_cellAt_15 <|
    s_bipush (pc := 18) C dX8_cellAt_18 (by decide) <|
    s_iload_n (pc := 20) C dX8_cellAt_20 rfl <|
    s_iadd (pc := 21) C dX8_cellAt_21 <|
    s_bipush (pc := 22) C dX8_cellAt_22 (by decide) <|
    s_isub (pc := 24) C dX8_cellAt_24 <|
    s_iald (pc := 25) C dX8_cellAt_25 <|
    s_icmp_ne (pc := 26) C dX8_cellAt_26 (by decide) (s_aload_n (pc := 51) C dX8_cellAt_51 rfl <|
    s_get (pc := 52) C (ci := 8) (kf := 0) rfl inX8 (by decide) wd_871 dX8_cellAt_52 <|
    s_bipush (pc := 55) C dX8_cellAt_55 (by decide) <|
    s_bipush (pc := 57) C dX8_cellAt_57 (by decide) <|
    s_bipush (pc := 59) C dX8_cellAt_59 (by decide) <|
    s_iload_n (pc := 61) C dX8_cellAt_61 rfl <|
    s_iadd (pc := 62) C dX8_cellAt_62 <|
    s_bipush (pc := 63) C dX8_cellAt_63 (by decide) <|
    s_isub (pc := 65) C dX8_cellAt_65 <|
    s_imul (pc := 66) C dX8_cellAt_66 <|
    s_iadd (pc := 67) C dX8_cellAt_67 <|
    s_iload_n (pc := 68) C dX8_cellAt_68 rfl <|
    s_iadd (pc := 69) C dX8_cellAt_69 <|
    s_aload_n (pc := 70) C dX8_cellAt_70 rfl <|
    s_get (pc := 71) C (ci := 8) (kf := 0) rfl inX8 (by decide) wd_871 dX8_cellAt_71 <|
    s_bipush (pc := 74) C dX8_cellAt_74 (by decide) <|
    s_iload_n (pc := 76) C dX8_cellAt_76 rfl <|
    s_iadd (pc := 77) C dX8_cellAt_77 <|
    s_bipush (pc := 78) C dX8_cellAt_78 (by decide) <|
    s_isub (pc := 80) C dX8_cellAt_80 <|
    s_iald (pc := 81) C dX8_cellAt_81 <|
    s_isub (pc := 82) C dX8_cellAt_82 <|
    s_iconst (pc := 83) C dX8_cellAt_83 <|
    s_isub (pc := 84) C dX8_cellAt_84 <|
    s_iald (pc := 85) C dX8_cellAt_85 <|
    s_ireturn (pc := 86) C rfl dX8_cellAt_86)
    (s_bipush (pc := 29) C dX8_cellAt_29 (by decide) <|
    s_aload_n (pc := 31) C dX8_cellAt_31 rfl <|
    s_get (pc := 32) C (ci := 8) (kf := 0) rfl inX8 (by decide) wd_871 dX8_cellAt_32 <|
    s_bipush (pc := 35) C dX8_cellAt_35 (by decide) <|
    s_iload_n (pc := 37) C dX8_cellAt_37 rfl <|
    s_iadd (pc := 38) C dX8_cellAt_38 <|
    s_bipush (pc := 39) C dX8_cellAt_39 (by decide) <|
    s_isub (pc := 41) C dX8_cellAt_41 <|
    s_iald (pc := 42) C dX8_cellAt_42 <|
    s_iconst (pc := 43) C dX8_cellAt_43 <|
    s_iadd (pc := 44) C dX8_cellAt_44 <|
    s_imul (pc := 45) C dX8_cellAt_45 <|
    s_iload_n (pc := 46) C dX8_cellAt_46 rfl <|
    s_iadd (pc := 47) C dX8_cellAt_47 <|
    s_goto (pc := 48) C dX8_cellAt_48 (by decide) <|
    s_ireturn (pc := 86) C rfl dX8_cellAt_86))
noncomputable def mg_X8_cellAt_167 (p1 : Int) (h0 : Ob) (a : Unit) : Option Rt :=
 if pd (ov_X8_behind p1 h0 = RI (oqR (ov_X8_behind p1 h0)) [h0]) then (
 RI (64 * ((oqR (ov_X8_behind p1 h0)) - p1)) [h0]) else none
set_option maxRecDepth 100000 in
set_option maxHeartbeats 4000000 in
theorem rq_X8_cellAt_167 (p1 : Int) (h0 : Ob) (a : Unit) : rg_X8_cellAt_167 (en_X8_cellAt_167 p1 h0 a) = mg_X8_cellAt_167 p1 h0 a := rfl
set_option maxRecDepth 100000 in
set_option maxHeartbeats 4000000 in
theorem sg_X8_cellAt_167 {X : XDyn} {r0 : Rt} (C : XO X mX8_cellAt) : XS X mX8_cellAt r0 167 (rg_X8_cellAt_167) := by
 unfold rg_X8_cellAt_167
 exact s_bipush (pc := 167) C dX8_cellAt_167 (by decide) <|
    s_aload_n (pc := 169) C dX8_cellAt_169 rfl <|
    s_iload_n (pc := 170) C dX8_cellAt_170 rfl <|
    s_callVg (pc := 171) C ct_X8_behind (n := 2) (rk := 1) (mp := [0]) ⟨rfl, by decide, rfl⟩ (ci := 8) rfl rfl (by decide) (by decide) yi_X8_behind (by decide) wd_1006 wd_1008 wd_28 wd_81 wd_1009 dX8_cellAt_171 <|
    s_iload_n (pc := 174) C dX8_cellAt_174 rfl <|
    s_isub (pc := 175) C dX8_cellAt_175 <|
    s_imul (pc := 176) C dX8_cellAt_176 <|
    s_goto (pc := 177) C dX8_cellAt_177 (by decide) <|
    s_ireturn (pc := 181) C rfl dX8_cellAt_181
noncomputable def rw_X8_cellAt_167 : XK := rg_X8_cellAt_167
noncomputable def md_X8_cellAt_167 (p1 : Int) (h0 : Ob) : Unit → Option Rt := mg_X8_cellAt_167 p1 h0
theorem eq_X8_cellAt_167 (p1 : Int) (h0 : Ob) (a : Unit) : rw_X8_cellAt_167 (en_X8_cellAt_167 p1 h0 a) = md_X8_cellAt_167 p1 h0 a :=
 rq_X8_cellAt_167 p1 h0 a
theorem sd_X8_cellAt_167 {X : XDyn} {r0 : Rt} (C : XO X mX8_cellAt) : XS X mX8_cellAt r0 167 (rw_X8_cellAt_167) := sg_X8_cellAt_167 C
noncomputable def rw_X8_cellAt_0 : XK := rg_X8_cellAt_0 (rw_X8_cellAt_167)
noncomputable def md_X8_cellAt_0 (p1 : Int) (h0 : Ob) : Unit → Option Rt := mg_X8_cellAt_0 p1 h0 (md_X8_cellAt_167 p1 h0)
theorem eq_X8_cellAt_0 (p1 : Int) (h0 : Ob) (a : Unit) : rw_X8_cellAt_0 (en_X8_cellAt_0 p1 h0 a) = md_X8_cellAt_0 p1 h0 a :=
 (rq_X8_cellAt_0 p1 h0 (rw_X8_cellAt_167) a).trans (congrFun (congr (rfl : mg_X8_cellAt_0 p1 h0 = mg_X8_cellAt_0 p1 h0) (funext (eq_X8_cellAt_167 p1 h0))) a)
theorem sd_X8_cellAt_0 {X : XDyn} {r0 : Rt} (C : XO X mX8_cellAt) : XS X mX8_cellAt r0 0 (rw_X8_cellAt_0) := sg_X8_cellAt_0 C (sd_X8_cellAt_167 C)
theorem ctr_X8_cellAt : XCt yX8_cellAt mX8_cellAt (xF mX8_cellAt (rw_X8_cellAt_0)) := xMet (by decide +kernel) rfl (fun _ _ C => sd_X8_cellAt_0 C)
theorem eqf_X8_cellAt (p1 : Int) (h0 : Ob) : xF mX8_cellAt (rw_X8_cellAt_0) [.inr (.inl (0, 0)), .inl p1] [h0] = md_X8_cellAt_0 p1 h0 () := eq_X8_cellAt_0 p1 h0 ()
theorem yi_X8_cellAt : yX8_cellAt.cls = RX8 ∧ yX8_cellAt.cls ≠ "java/lang/invoke/MethodHandle" ∧ yX8_cellAt.cls ≠ "java/lang/invoke/VarHandle" ∧ (parseMethodDescriptor yX8_cellAt.desc).map (fun d => d.parameters.length) = some 1 := ⟨rfl, by decide +kernel, by decide +kernel, by decide +kernel⟩
noncomputable def ov_X8_cellAt (p1 : Int) (h0 : Ob) : Option Rt := xop (md_X8_cellAt_0 p1 h0 ())
theorem ov_X8_cellAt_e (p1 : Int) (h0 : Ob) : ov_X8_cellAt p1 h0 = md_X8_cellAt_0 p1 h0 () := xop_eq _
theorem sp_X8_cellAt (p1 : Int) (h0 : Ob) (hg : pd (ov_X8_cellAt p1 h0 = RI (oqR (ov_X8_cellAt p1 h0)) [h0]) = true) : md_X8_cellAt_0 p1 h0 () = RI (oqR (ov_X8_cellAt p1 h0)) [h0] := (ov_X8_cellAt_e p1 h0).symm.trans (pd_of hg)
noncomputable def g_X8_cellAt : List AV → List Ob → Bool
  | [.inr (.inl (0, 0)), .inl p1], [h0] => pd (ov_X8_cellAt p1 h0 = RI (oqR (ov_X8_cellAt p1 h0)) [h0])
  | _, _ => false
noncomputable def v_X8_cellAt : List AV → List Ob → Rt
  | [.inr (.inl (0, 0)), .inl p1], [h0] => (some (.inl (oqR (ov_X8_cellAt p1 h0))), [h0])
  | _, _ => (none, [])
theorem ct_X8_cellAt : XCt yX8_cellAt mX8_cellAt (fun as μ => if g_X8_cellAt as μ then some (v_X8_cellAt as μ) else none) := (ctr_X8_cellAt ).of (fun as μ r h => by
  split at h
  · rename_i hg
    unfold g_X8_cellAt at hg
    split at hg
    · rw [← h]
      exact (eqf_X8_cellAt _ _).trans (sp_X8_cellAt _ _ hg)
    · cases hg
  · cases h)
theorem dX8_clearsContents_0 : decode cX8_clearsContents 0 = .ok (.iload_n 2, 1) := by decide +kernel
theorem dX8_clearsContents_1 : decode cX8_clearsContents 1 = .ok (.istore 4, 2) := by decide +kernel
theorem dX8_clearsContents_3 : decode cX8_clearsContents 3 = .ok (.iload 4, 2) := by decide +kernel
theorem dX8_clearsContents_5 : decode cX8_clearsContents 5 = .ok (.iload_n 3, 1) := by decide +kernel
theorem dX8_clearsContents_6 : decode cX8_clearsContents 6 = .ok (.if_icmp .ge 25, 3) := by decide +kernel
theorem dX8_clearsContents_9 : decode cX8_clearsContents 9 = .ok (.aload_n 0, 1) := by decide +kernel
theorem dX8_clearsContents_10 : decode cX8_clearsContents 10 = .ok (.getfield 7, 3) := by decide +kernel
theorem dX8_clearsContents_13 : decode cX8_clearsContents 13 = .ok (.bipush 75, 2) := by decide +kernel
theorem dX8_clearsContents_15 : decode cX8_clearsContents 15 = .ok (.bipush 60, 2) := by decide +kernel
theorem dX8_clearsContents_17 : decode cX8_clearsContents 17 = .ok (.iload_n 1, 1) := by decide +kernel
theorem dX8_clearsContents_18 : decode cX8_clearsContents 18 = .ok (.imul, 1) := by decide +kernel
theorem dX8_clearsContents_19 : decode cX8_clearsContents 19 = .ok (.iadd, 1) := by decide +kernel
theorem dX8_clearsContents_20 : decode cX8_clearsContents 20 = .ok (.iload 4, 2) := by decide +kernel
theorem dX8_clearsContents_22 : decode cX8_clearsContents 22 = .ok (.iadd, 1) := by decide +kernel
theorem dX8_clearsContents_23 : decode cX8_clearsContents 23 = .ok (.iconst 0, 1) := by decide +kernel
theorem dX8_clearsContents_24 : decode cX8_clearsContents 24 = .ok (.iastore, 1) := by decide +kernel
theorem dX8_clearsContents_25 : decode cX8_clearsContents 25 = .ok (.iinc 4 1, 3) := by decide +kernel
theorem dX8_clearsContents_28 : decode cX8_clearsContents 28 = .ok (.goto (-25), 3) := by decide +kernel
theorem dX8_clearsContents_31 : decode cX8_clearsContents 31 = .ok (.return_, 1) := by decide +kernel
abbrev mX8_clearsContents : XM := (cX8_clearsContents, 5, RX8, none, shw_8, 0)
noncomputable def rg_X8_clearsContents_0 (k3 : XK) : XK :=
 o_iload 2 <|
 o_istore 4 <|
 o_cut [] k3
def en_X8_clearsContents_0 (p1 : Int) (p2 : Int) (p3 : Int) (a : Ob) : XSt := ([some (.inr (.inl (0, 0))), some (.inl p1), some (.inl p2), some (.inl p3), none], [], [a])
noncomputable def rg_X8_clearsContents_3 (k3 : XK) : XK :=
 o_iload 4 <|
 o_iload 3 <|
 o_icmp_ge (o_return)
 (o_aload 0 <|
 o_get shw_8 8 0 <|
 o_iconst 75 <|
 o_iconst 60 <|
 o_iload 1 <|
 o_imul <|
 o_iadd <|
 o_iload 4 <|
 o_iadd <|
 o_iconst 0 <|
 o_iast shw_8 <|
 o_iinc 4 1 <|
 o_cut [] k3)
def en_X8_clearsContents_3 (p1 : Int) (p2 : Int) (p3 : Int) (a : Int × Ob) : XSt := ([some (.inr (.inl (0, 0))), some (.inl p1), some (.inl p2), some (.inl p3), some (.inl a.1)], [], [a.2])
noncomputable def mg_X8_clearsContents_0 (p1 : Int) (p2 : Int) (p3 : Int) (k3 : (Int × Ob) → Option Rt) (a : Ob) : Option Rt :=
 k3 (p2, a)
set_option maxRecDepth 100000 in
set_option maxHeartbeats 4000000 in
theorem rq_X8_clearsContents_0 (p1 : Int) (p2 : Int) (p3 : Int) (k3 : XK) (a : Ob) : rg_X8_clearsContents_0 k3 (en_X8_clearsContents_0 p1 p2 p3 a) = mg_X8_clearsContents_0 p1 p2 p3 (fun b => k3 (en_X8_clearsContents_3 p1 p2 p3 b)) a := rfl
set_option maxRecDepth 100000 in
set_option maxHeartbeats 4000000 in
theorem sg_X8_clearsContents_0 {X : XDyn} {r0 : Rt} (C : XO X mX8_clearsContents) {k3 : XK} (q3 : XS X mX8_clearsContents r0 3 k3) : XS X mX8_clearsContents r0 0 (rg_X8_clearsContents_0 k3) := by
 unfold rg_X8_clearsContents_0
 exact s_iload_n (pc := 0) C dX8_clearsContents_0 rfl <|
    s_istore (pc := 1) C dX8_clearsContents_1 <|
    s_cut q3
noncomputable def mg_X8_clearsContents_3 (p1 : Int) (p2 : Int) (p3 : Int) (k3 : (Int × Ob) → Option Rt) (a : Int × Ob) : Option Rt :=
 if xw a.1 ≥ xw p3 then (RV [a.2])
 else (if xin ((75 + (60 * p1)) + a.1) 735 then (
 k3 ((a.1 + 1), (xset a.2 1 (xw ((75 + (60 * p1)) + a.1)).toNat 0))) else none)
set_option maxRecDepth 100000 in
set_option maxHeartbeats 4000000 in
theorem rq_X8_clearsContents_3 (p1 : Int) (p2 : Int) (p3 : Int) (k3 : XK) (a : Int × Ob) : rg_X8_clearsContents_3 k3 (en_X8_clearsContents_3 p1 p2 p3 a) = mg_X8_clearsContents_3 p1 p2 p3 (fun b => k3 (en_X8_clearsContents_3 p1 p2 p3 b)) a := rfl
set_option maxRecDepth 100000 in
set_option maxHeartbeats 4000000 in
theorem sg_X8_clearsContents_3 {X : XDyn} {r0 : Rt} (C : XO X mX8_clearsContents) {k3 : XK} (q3 : XS X mX8_clearsContents r0 3 k3) : XS X mX8_clearsContents r0 3 (rg_X8_clearsContents_3 k3) := by
 unfold rg_X8_clearsContents_3
 exact s_iload (pc := 3) C dX8_clearsContents_3 <|
    s_iload_n (pc := 5) C dX8_clearsContents_5 rfl <|
    s_icmp_ge (pc := 6) C dX8_clearsContents_6 (by decide) (s_return (pc := 31) C rfl dX8_clearsContents_31)
    (s_aload_n (pc := 9) C dX8_clearsContents_9 rfl <|
    s_get (pc := 10) C (ci := 8) (kf := 0) rfl inX8 (by decide) wd_871 dX8_clearsContents_10 <|
    s_bipush (pc := 13) C dX8_clearsContents_13 (by decide) <|
    s_bipush (pc := 15) C dX8_clearsContents_15 (by decide) <|
    s_iload_n (pc := 17) C dX8_clearsContents_17 rfl <|
    s_imul (pc := 18) C dX8_clearsContents_18 <|
    s_iadd (pc := 19) C dX8_clearsContents_19 <|
    s_iload (pc := 20) C dX8_clearsContents_20 <|
    s_iadd (pc := 22) C dX8_clearsContents_22 <|
    s_iconst (pc := 23) C dX8_clearsContents_23 <|
    s_iast (pc := 24) C dX8_clearsContents_24 <|
    s_iinc (pc := 25) C dX8_clearsContents_25 <|
    s_goto (pc := 28) C dX8_clearsContents_28 (by decide) <|
    s_cut q3)
noncomputable def rw_X8_clearsContents_3 (f : Nat) : XK := tlp (fun k3 => rg_X8_clearsContents_3 k3) f
noncomputable def lb_X8_clearsContents_3 (p1 : Int) (p2 : Int) (p3 : Int) (f : Nat) : ((Int × Ob) → Option Rt) → Int × Ob → Option Rt := fun k3 => mg_X8_clearsContents_3 p1 p2 p3 k3
noncomputable def md_X8_clearsContents_3 (p1 : Int) (p2 : Int) (p3 : Int) (f : Nat) : Int × Ob → Option Rt := tlp (lb_X8_clearsContents_3 p1 p2 p3 f) f
theorem eq_X8_clearsContents_3 (p1 : Int) (p2 : Int) (p3 : Int) (f : Nat) (a : Int × Ob) : rw_X8_clearsContents_3 f (en_X8_clearsContents_3 p1 p2 p3 a) = md_X8_clearsContents_3 p1 p2 p3 f a :=
 tlp_enc (en_X8_clearsContents_3 p1 p2 p3) (fun k3 a => (rq_X8_clearsContents_3 p1 p2 p3 k3 a).trans (congrFun (congr (rfl : mg_X8_clearsContents_3 p1 p2 p3 = mg_X8_clearsContents_3 p1 p2 p3) rfl) a)) f a
theorem sd_X8_clearsContents_3 (f : Nat) {X : XDyn} {r0 : Rt} (C : XO X mX8_clearsContents) : XS X mX8_clearsContents r0 3 (rw_X8_clearsContents_3 f) := s_lp (fun k3 q3 => sg_X8_clearsContents_3 C q3) f
noncomputable def rw_X8_clearsContents_0 (f : Nat) : XK := rg_X8_clearsContents_0 (rw_X8_clearsContents_3 f)
noncomputable def md_X8_clearsContents_0 (p1 : Int) (p2 : Int) (p3 : Int) (f : Nat) : Ob → Option Rt := mg_X8_clearsContents_0 p1 p2 p3 (md_X8_clearsContents_3 p1 p2 p3 f)
theorem eq_X8_clearsContents_0 (p1 : Int) (p2 : Int) (p3 : Int) (f : Nat) (a : Ob) : rw_X8_clearsContents_0 f (en_X8_clearsContents_0 p1 p2 p3 a) = md_X8_clearsContents_0 p1 p2 p3 f a :=
 (rq_X8_clearsContents_0 p1 p2 p3 (rw_X8_clearsContents_3 f) a).trans (congrFun (congr (rfl : mg_X8_clearsContents_0 p1 p2 p3 = mg_X8_clearsContents_0 p1 p2 p3) (funext (eq_X8_clearsContents_3 p1 p2 p3 f))) a)
theorem sd_X8_clearsContents_0 (f : Nat) {X : XDyn} {r0 : Rt} (C : XO X mX8_clearsContents) : XS X mX8_clearsContents r0 0 (rw_X8_clearsContents_0 f) := sg_X8_clearsContents_0 C (sd_X8_clearsContents_3 f C)
theorem ctr_X8_clearsContents (f : Nat) : XCt yX8_clearsContents mX8_clearsContents (xF mX8_clearsContents (rw_X8_clearsContents_0 f)) := xMet (by decide +kernel) rfl (fun _ _ C => sd_X8_clearsContents_0 f C)
theorem eqf_X8_clearsContents (f : Nat) (p1 : Int) (p2 : Int) (p3 : Int) (h0 : Ob) : xF mX8_clearsContents (rw_X8_clearsContents_0 f) [.inr (.inl (0, 0)), .inl p1, .inl p2, .inl p3] [h0] = md_X8_clearsContents_0 p1 p2 p3 f h0 := eq_X8_clearsContents_0 p1 p2 p3 f h0
theorem yi_X8_clearsContents : yX8_clearsContents.cls = RX8 ∧ yX8_clearsContents.cls ≠ "java/lang/invoke/MethodHandle" ∧ yX8_clearsContents.cls ≠ "java/lang/invoke/VarHandle" ∧ (parseMethodDescriptor yX8_clearsContents.desc).map (fun d => d.parameters.length) = some 3 := ⟨rfl, by decide +kernel, by decide +kernel, by decide +kernel⟩
noncomputable def ov_X8_clearsContents (p1 p2 p3 : Int) (h0 : Ob) : Option Rt := xop (md_X8_clearsContents_0 p1 p2 p3 xfu h0)
theorem ov_X8_clearsContents_e (p1 p2 p3 : Int) (h0 : Ob) : ov_X8_clearsContents p1 p2 p3 h0 = md_X8_clearsContents_0 p1 p2 p3 xfu h0 := xop_eq _
theorem sp_X8_clearsContents (p1 p2 p3 : Int) (h0 : Ob) (hg : oqV (ov_X8_clearsContents p1 p2 p3 h0) = true) : md_X8_clearsContents_0 p1 p2 p3 xfu h0 = RV [(oqO (ov_X8_clearsContents p1 p2 p3 h0) 0)] := (ov_X8_clearsContents_e p1 p2 p3 h0).symm.trans (oqV_eq hg)
noncomputable def g_X8_clearsContents : List AV → List Ob → Bool
  | [.inr (.inl (0, 0)), .inl p1, .inl p2, .inl p3], [h0] => oqV (ov_X8_clearsContents p1 p2 p3 h0)
  | _, _ => false
noncomputable def v_X8_clearsContents : List AV → List Ob → Rt
  | [.inr (.inl (0, 0)), .inl p1, .inl p2, .inl p3], [h0] => (none, [(oqO (ov_X8_clearsContents p1 p2 p3 h0) 0)])
  | _, _ => (none, [])
theorem ct_X8_clearsContents : XCt yX8_clearsContents mX8_clearsContents (fun as μ => if g_X8_clearsContents as μ then some (v_X8_clearsContents as μ) else none) := (ctr_X8_clearsContents xfu).of (fun as μ r h => by
  split at h
  · rename_i hg
    unfold g_X8_clearsContents at hg
    split at hg
    · rw [← h]
      exact (eqf_X8_clearsContents xfu _ _ _ _).trans (sp_X8_clearsContents _ _ _ _ hg)
    · cases hg
  · cases h)
theorem dX8_firstFree_0 : decode cX8_firstFree 0 = .ok (.iconst 0, 1) := by decide +kernel
theorem dX8_firstFree_1 : decode cX8_firstFree 1 = .ok (.istore_n 2, 1) := by decide +kernel
theorem dX8_firstFree_2 : decode cX8_firstFree 2 = .ok (.iload_n 2, 1) := by decide +kernel
theorem dX8_firstFree_3 : decode cX8_firstFree 3 = .ok (.aload_n 0, 1) := by decide +kernel
theorem dX8_firstFree_4 : decode cX8_firstFree 4 = .ok (.getfield 7, 3) := by decide +kernel
theorem dX8_firstFree_7 : decode cX8_firstFree 7 = .ok (.iconst 0, 1) := by decide +kernel
theorem dX8_firstFree_8 : decode cX8_firstFree 8 = .ok (.iaload, 1) := by decide +kernel
theorem dX8_firstFree_9 : decode cX8_firstFree 9 = .ok (.if_icmp .ge 34, 3) := by decide +kernel
theorem dX8_firstFree_12 : decode cX8_firstFree 12 = .ok (.aload_n 0, 1) := by decide +kernel
theorem dX8_firstFree_13 : decode cX8_firstFree 13 = .ok (.getfield 19, 3) := by decide +kernel
theorem dX8_firstFree_16 : decode cX8_firstFree 16 = .ok (.iload_n 2, 1) := by decide +kernel
theorem dX8_firstFree_17 : decode cX8_firstFree 17 = .ok (.iaload, 1) := by decide +kernel
theorem dX8_firstFree_18 : decode cX8_firstFree 18 = .ok (.ifCond .ne 16, 3) := by decide +kernel
theorem dX8_firstFree_21 : decode cX8_firstFree 21 = .ok (.aload_n 0, 1) := by decide +kernel
theorem dX8_firstFree_22 : decode cX8_firstFree 22 = .ok (.iload_n 2, 1) := by decide +kernel
theorem dX8_firstFree_23 : decode cX8_firstFree 23 = .ok (.invokevirtual 103, 3) := by decide +kernel
theorem dX8_firstFree_26 : decode cX8_firstFree 26 = .ok (.iload_n 2, 1) := by decide +kernel
theorem dX8_firstFree_27 : decode cX8_firstFree 27 = .ok (.isub, 1) := by decide +kernel
theorem dX8_firstFree_28 : decode cX8_firstFree 28 = .ok (.iload_n 1, 1) := by decide +kernel
theorem dX8_firstFree_29 : decode cX8_firstFree 29 = .ok (.if_icmp .lt 5, 3) := by decide +kernel
theorem dX8_firstFree_32 : decode cX8_firstFree 32 = .ok (.iload_n 2, 1) := by decide +kernel
theorem dX8_firstFree_33 : decode cX8_firstFree 33 = .ok (.ireturn, 1) := by decide +kernel
theorem dX8_firstFree_34 : decode cX8_firstFree 34 = .ok (.aload_n 0, 1) := by decide +kernel
theorem dX8_firstFree_35 : decode cX8_firstFree 35 = .ok (.iload_n 2, 1) := by decide +kernel
theorem dX8_firstFree_36 : decode cX8_firstFree 36 = .ok (.invokevirtual 103, 3) := by decide +kernel
theorem dX8_firstFree_39 : decode cX8_firstFree 39 = .ok (.istore_n 2, 1) := by decide +kernel
theorem dX8_firstFree_40 : decode cX8_firstFree 40 = .ok (.goto (-38), 3) := by decide +kernel
theorem dX8_firstFree_43 : decode cX8_firstFree 43 = .ok (.iconst (-1), 1) := by decide +kernel
theorem dX8_firstFree_44 : decode cX8_firstFree 44 = .ok (.ireturn, 1) := by decide +kernel
abbrev mX8_firstFree : XM := (cX8_firstFree, 3, RX8, (some .int), shw_8, 1)
noncomputable def rg_X8_firstFree_0 (k2 : XK) : XK :=
 o_iconst 0 <|
 o_istore 2 <|
 o_cut [] k2
def en_X8_firstFree_0 (p1 : Int) (h0 : Ob) (a : Unit) : XSt := ([some (.inr (.inl (0, 0))), some (.inl p1), none], [], [h0])
noncomputable def rg_X8_firstFree_2 (k34 : XK) : XK :=
 o_iload 2 <|
 o_aload 0 <|
 o_get shw_8 8 0 <|
 o_iconst 0 <|
 o_iald shw_8 <|
 o_icmp_ge (o_iconst (-1) <|
 o_ireturn)
 (o_aload 0 <|
 o_get shw_8 8 5 <|
 o_iload 2 <|
 o_iald shw_8 <|
 o_if_ne (o_cut [] k34)
 (o_aload 0 <|
 o_iload 2 <|
 o_callVg 2 1 [0] g_X8_behind v_X8_behind <|
 o_iload 2 <|
 o_isub <|
 o_iload 1 <|
 o_icmp_lt (o_cut [] k34)
 (o_iload 2 <|
 o_ireturn)))
def en_X8_firstFree_2 (p1 : Int) (h0 : Ob) (a : Int) : XSt := ([some (.inr (.inl (0, 0))), some (.inl p1), some (.inl a)], [], [h0])
noncomputable def rg_X8_firstFree_34 (k2 : XK) : XK :=
 o_aload 0 <|
 o_iload 2 <|
 o_callVg 2 1 [0] g_X8_behind v_X8_behind <|
 o_istore 2 <|
 o_cut [] k2
def en_X8_firstFree_34 (p1 : Int) (h0 : Ob) (a : Int) : XSt := ([some (.inr (.inl (0, 0))), some (.inl p1), some (.inl a)], [], [h0])
noncomputable def mg_X8_firstFree_0 (p1 : Int) (h0 : Ob) (k2 : Int → Option Rt) (a : Unit) : Option Rt :=
 k2 0
set_option maxRecDepth 100000 in
set_option maxHeartbeats 4000000 in
theorem rq_X8_firstFree_0 (p1 : Int) (h0 : Ob) (k2 : XK) (a : Unit) : rg_X8_firstFree_0 k2 (en_X8_firstFree_0 p1 h0 a) = mg_X8_firstFree_0 p1 h0 (fun b => k2 (en_X8_firstFree_2 p1 h0 b)) a := rfl
set_option maxRecDepth 100000 in
set_option maxHeartbeats 4000000 in
theorem sg_X8_firstFree_0 {X : XDyn} {r0 : Rt} (C : XO X mX8_firstFree) {k2 : XK} (q2 : XS X mX8_firstFree r0 2 k2) : XS X mX8_firstFree r0 0 (rg_X8_firstFree_0 k2) := by
 unfold rg_X8_firstFree_0
 exact s_iconst (pc := 0) C dX8_firstFree_0 <|
    s_istore_n (pc := 1) C dX8_firstFree_1 rfl <|
    s_cut q2
noncomputable def mg_X8_firstFree_2 (p1 : Int) (h0 : Ob) (k34 : Int → Option Rt) (a : Int) : Option Rt :=
 if xw a ≥ xw (h0 1 0) then (RI (-1) [h0])
 else (if xin a 200 then (
 if xw (h0 4 (xw a).toNat) = 0 then (if pd (ov_X8_behind a h0 = RI (oqR (ov_X8_behind a h0)) [h0]) then (
 if xw ((oqR (ov_X8_behind a h0)) - a) < xw p1 then (k34 a)
 else (RI a [h0])) else none)
 else (k34 a)) else none)
set_option maxRecDepth 100000 in
set_option maxHeartbeats 4000000 in
theorem rq_X8_firstFree_2 (p1 : Int) (h0 : Ob) (k34 : XK) (a : Int) : rg_X8_firstFree_2 k34 (en_X8_firstFree_2 p1 h0 a) = mg_X8_firstFree_2 p1 h0 (fun b => k34 (en_X8_firstFree_34 p1 h0 b)) a := rfl
set_option maxRecDepth 100000 in
set_option maxHeartbeats 4000000 in
theorem sg_X8_firstFree_2 {X : XDyn} {r0 : Rt} (C : XO X mX8_firstFree) {k34 : XK} (q34 : XS X mX8_firstFree r0 34 k34) : XS X mX8_firstFree r0 2 (rg_X8_firstFree_2 k34) := by
 unfold rg_X8_firstFree_2
 exact s_iload_n (pc := 2) C dX8_firstFree_2 rfl <|
    s_aload_n (pc := 3) C dX8_firstFree_3 rfl <|
    s_get (pc := 4) C (ci := 8) (kf := 0) rfl inX8 (by decide) wd_871 dX8_firstFree_4 <|
    s_iconst (pc := 7) C dX8_firstFree_7 <|
    s_iald (pc := 8) C dX8_firstFree_8 <|
    s_icmp_ge (pc := 9) C dX8_firstFree_9 (by decide) (s_iconst (pc := 43) C dX8_firstFree_43 <|
    s_ireturn (pc := 44) C rfl dX8_firstFree_44)
    (s_aload_n (pc := 12) C dX8_firstFree_12 rfl <|
    s_get (pc := 13) C (ci := 8) (kf := 5) rfl inX8 (by decide) wd_876 dX8_firstFree_13 <|
    s_iload_n (pc := 16) C dX8_firstFree_16 rfl <|
    s_iald (pc := 17) C dX8_firstFree_17 <|
    s_if_ne (pc := 18) C dX8_firstFree_18 (by decide) (s_cut q34)
    (s_aload_n (pc := 21) C dX8_firstFree_21 rfl <|
    s_iload_n (pc := 22) C dX8_firstFree_22 rfl <|
    s_callVg (pc := 23) C ct_X8_behind (n := 2) (rk := 1) (mp := [0]) ⟨rfl, by decide, rfl⟩ (ci := 8) rfl rfl (by decide) (by decide) yi_X8_behind (by decide) wd_1006 wd_1008 wd_28 wd_81 wd_1009 dX8_firstFree_23 <|
    s_iload_n (pc := 26) C dX8_firstFree_26 rfl <|
    s_isub (pc := 27) C dX8_firstFree_27 <|
    s_iload_n (pc := 28) C dX8_firstFree_28 rfl <|
    s_icmp_lt (pc := 29) C dX8_firstFree_29 (by decide) (s_cut q34)
    (s_iload_n (pc := 32) C dX8_firstFree_32 rfl <|
    s_ireturn (pc := 33) C rfl dX8_firstFree_33)))
noncomputable def mg_X8_firstFree_34 (p1 : Int) (h0 : Ob) (k2 : Int → Option Rt) (a : Int) : Option Rt :=
 if pd (ov_X8_behind a h0 = RI (oqR (ov_X8_behind a h0)) [h0]) then (
 k2 (oqR (ov_X8_behind a h0))) else none
set_option maxRecDepth 100000 in
set_option maxHeartbeats 4000000 in
theorem rq_X8_firstFree_34 (p1 : Int) (h0 : Ob) (k2 : XK) (a : Int) : rg_X8_firstFree_34 k2 (en_X8_firstFree_34 p1 h0 a) = mg_X8_firstFree_34 p1 h0 (fun b => k2 (en_X8_firstFree_2 p1 h0 b)) a := rfl
set_option maxRecDepth 100000 in
set_option maxHeartbeats 4000000 in
theorem sg_X8_firstFree_34 {X : XDyn} {r0 : Rt} (C : XO X mX8_firstFree) {k2 : XK} (q2 : XS X mX8_firstFree r0 2 k2) : XS X mX8_firstFree r0 34 (rg_X8_firstFree_34 k2) := by
 unfold rg_X8_firstFree_34
 exact s_aload_n (pc := 34) C dX8_firstFree_34 rfl <|
    s_iload_n (pc := 35) C dX8_firstFree_35 rfl <|
    s_callVg (pc := 36) C ct_X8_behind (n := 2) (rk := 1) (mp := [0]) ⟨rfl, by decide, rfl⟩ (ci := 8) rfl rfl (by decide) (by decide) yi_X8_behind (by decide) wd_1006 wd_1008 wd_28 wd_81 wd_1009 dX8_firstFree_36 <|
    s_istore_n (pc := 39) C dX8_firstFree_39 rfl <|
    s_goto (pc := 40) C dX8_firstFree_40 (by decide) <|
    s_cut q2
noncomputable def rw_X8_firstFree_34 (f : Nat) (k2 : XK) : XK := rg_X8_firstFree_34 k2
noncomputable def md_X8_firstFree_34 (p1 : Int) (h0 : Ob) (f : Nat) (k2 : Int → Option Rt) : Int → Option Rt := mg_X8_firstFree_34 p1 h0 k2
theorem eq_X8_firstFree_34 (p1 : Int) (h0 : Ob) (f : Nat) (k2 : XK) (a : Int) : rw_X8_firstFree_34 f k2 (en_X8_firstFree_34 p1 h0 a) = md_X8_firstFree_34 p1 h0 f (fun b => k2 (en_X8_firstFree_2 p1 h0 b)) a :=
 (rq_X8_firstFree_34 p1 h0 k2 a).trans (congrFun (congr (rfl : mg_X8_firstFree_34 p1 h0 = mg_X8_firstFree_34 p1 h0) rfl) a)
theorem sd_X8_firstFree_34 (f : Nat) {X : XDyn} {r0 : Rt} (C : XO X mX8_firstFree) {k2 : XK} (q2 : XS X mX8_firstFree r0 2 k2) : XS X mX8_firstFree r0 34 (rw_X8_firstFree_34 f k2) := sg_X8_firstFree_34 C q2
noncomputable def rw_X8_firstFree_2 (f : Nat) : XK := tlp (fun k2 => rg_X8_firstFree_2 (rw_X8_firstFree_34 f k2)) f
noncomputable def lb_X8_firstFree_2 (p1 : Int) (h0 : Ob) (f : Nat) : ((Int) → Option Rt) → Int → Option Rt := fun k2 => mg_X8_firstFree_2 p1 h0 (md_X8_firstFree_34 p1 h0 f k2)
noncomputable def md_X8_firstFree_2 (p1 : Int) (h0 : Ob) (f : Nat) : Int → Option Rt := tlp (lb_X8_firstFree_2 p1 h0 f) f
theorem eq_X8_firstFree_2 (p1 : Int) (h0 : Ob) (f : Nat) (a : Int) : rw_X8_firstFree_2 f (en_X8_firstFree_2 p1 h0 a) = md_X8_firstFree_2 p1 h0 f a :=
 tlp_enc (en_X8_firstFree_2 p1 h0) (fun k2 a => (rq_X8_firstFree_2 p1 h0 (rw_X8_firstFree_34 f k2) a).trans (congrFun (congr (rfl : mg_X8_firstFree_2 p1 h0 = mg_X8_firstFree_2 p1 h0) (funext (eq_X8_firstFree_34 p1 h0 f k2))) a)) f a
theorem sd_X8_firstFree_2 (f : Nat) {X : XDyn} {r0 : Rt} (C : XO X mX8_firstFree) : XS X mX8_firstFree r0 2 (rw_X8_firstFree_2 f) := s_lp (fun k2 q2 => sg_X8_firstFree_2 C (sd_X8_firstFree_34 f C q2)) f
noncomputable def rw_X8_firstFree_0 (f : Nat) : XK := rg_X8_firstFree_0 (rw_X8_firstFree_2 f)
noncomputable def md_X8_firstFree_0 (p1 : Int) (h0 : Ob) (f : Nat) : Unit → Option Rt := mg_X8_firstFree_0 p1 h0 (md_X8_firstFree_2 p1 h0 f)
theorem eq_X8_firstFree_0 (p1 : Int) (h0 : Ob) (f : Nat) (a : Unit) : rw_X8_firstFree_0 f (en_X8_firstFree_0 p1 h0 a) = md_X8_firstFree_0 p1 h0 f a :=
 (rq_X8_firstFree_0 p1 h0 (rw_X8_firstFree_2 f) a).trans (congrFun (congr (rfl : mg_X8_firstFree_0 p1 h0 = mg_X8_firstFree_0 p1 h0) (funext (eq_X8_firstFree_2 p1 h0 f))) a)
theorem sd_X8_firstFree_0 (f : Nat) {X : XDyn} {r0 : Rt} (C : XO X mX8_firstFree) : XS X mX8_firstFree r0 0 (rw_X8_firstFree_0 f) := sg_X8_firstFree_0 C (sd_X8_firstFree_2 f C)
theorem ctr_X8_firstFree (f : Nat) : XCt yX8_firstFree mX8_firstFree (xF mX8_firstFree (rw_X8_firstFree_0 f)) := xMet (by decide +kernel) rfl (fun _ _ C => sd_X8_firstFree_0 f C)
theorem eqf_X8_firstFree (f : Nat) (p1 : Int) (h0 : Ob) : xF mX8_firstFree (rw_X8_firstFree_0 f) [.inr (.inl (0, 0)), .inl p1] [h0] = md_X8_firstFree_0 p1 h0 f () := eq_X8_firstFree_0 p1 h0 f ()
theorem yi_X8_firstFree : yX8_firstFree.cls = RX8 ∧ yX8_firstFree.cls ≠ "java/lang/invoke/MethodHandle" ∧ yX8_firstFree.cls ≠ "java/lang/invoke/VarHandle" ∧ (parseMethodDescriptor yX8_firstFree.desc).map (fun d => d.parameters.length) = some 1 := ⟨rfl, by decide +kernel, by decide +kernel, by decide +kernel⟩
noncomputable def ov_X8_firstFree (p1 : Int) (h0 : Ob) : Option Rt := xop (md_X8_firstFree_0 p1 h0 xfu ())
theorem ov_X8_firstFree_e (p1 : Int) (h0 : Ob) : ov_X8_firstFree p1 h0 = md_X8_firstFree_0 p1 h0 xfu () := xop_eq _
theorem sp_X8_firstFree (p1 : Int) (h0 : Ob) (hg : pd (ov_X8_firstFree p1 h0 = RI (oqR (ov_X8_firstFree p1 h0)) [h0]) = true) : md_X8_firstFree_0 p1 h0 xfu () = RI (oqR (ov_X8_firstFree p1 h0)) [h0] := (ov_X8_firstFree_e p1 h0).symm.trans (pd_of hg)
noncomputable def g_X8_firstFree : List AV → List Ob → Bool
  | [.inr (.inl (0, 0)), .inl p1], [h0] => pd (ov_X8_firstFree p1 h0 = RI (oqR (ov_X8_firstFree p1 h0)) [h0])
  | _, _ => false
noncomputable def v_X8_firstFree : List AV → List Ob → Rt
  | [.inr (.inl (0, 0)), .inl p1], [h0] => (some (.inl (oqR (ov_X8_firstFree p1 h0))), [h0])
  | _, _ => (none, [])
theorem ct_X8_firstFree : XCt yX8_firstFree mX8_firstFree (fun as μ => if g_X8_firstFree as μ then some (v_X8_firstFree as μ) else none) := (ctr_X8_firstFree xfu).of (fun as μ r h => by
  split at h
  · rename_i hg
    unfold g_X8_firstFree at hg
    split at hg
    · rw [← h]
      exact (eqf_X8_firstFree xfu _ _).trans (sp_X8_firstFree _ _ hg)
    · cases hg
  · cases h)
theorem dX8_slidesOne_0 : decode cX8_slidesOne 0 = .ok (.iconst 0, 1) := by decide +kernel
theorem dX8_slidesOne_1 : decode cX8_slidesOne 1 = .ok (.istore_n 1, 1) := by decide +kernel
theorem dX8_slidesOne_2 : decode cX8_slidesOne 2 = .ok (.iload_n 1, 1) := by decide +kernel
theorem dX8_slidesOne_3 : decode cX8_slidesOne 3 = .ok (.aload_n 0, 1) := by decide +kernel
theorem dX8_slidesOne_4 : decode cX8_slidesOne 4 = .ok (.getfield 7, 3) := by decide +kernel
theorem dX8_slidesOne_7 : decode cX8_slidesOne 7 = .ok (.iconst 0, 1) := by decide +kernel
theorem dX8_slidesOne_8 : decode cX8_slidesOne 8 = .ok (.iaload, 1) := by decide +kernel
theorem dX8_slidesOne_9 : decode cX8_slidesOne 9 = .ok (.if_icmp .ge 79, 3) := by decide +kernel
theorem dX8_slidesOne_12 : decode cX8_slidesOne 12 = .ok (.aload_n 0, 1) := by decide +kernel
theorem dX8_slidesOne_13 : decode cX8_slidesOne 13 = .ok (.iload_n 1, 1) := by decide +kernel
theorem dX8_slidesOne_14 : decode cX8_slidesOne 14 = .ok (.invokevirtual 103, 3) := by decide +kernel
theorem dX8_slidesOne_17 : decode cX8_slidesOne 17 = .ok (.istore_n 2, 1) := by decide +kernel
theorem dX8_slidesOne_18 : decode cX8_slidesOne 18 = .ok (.aload_n 0, 1) := by decide +kernel
theorem dX8_slidesOne_19 : decode cX8_slidesOne 19 = .ok (.getfield 19, 3) := by decide +kernel
theorem dX8_slidesOne_22 : decode cX8_slidesOne 22 = .ok (.iload_n 1, 1) := by decide +kernel
theorem dX8_slidesOne_23 : decode cX8_slidesOne 23 = .ok (.iaload, 1) := by decide +kernel
theorem dX8_slidesOne_24 : decode cX8_slidesOne 24 = .ok (.ifCond .ne 55, 3) := by decide +kernel
theorem dX8_slidesOne_27 : decode cX8_slidesOne 27 = .ok (.iload_n 2, 1) := by decide +kernel
theorem dX8_slidesOne_28 : decode cX8_slidesOne 28 = .ok (.aload_n 0, 1) := by decide +kernel
theorem dX8_slidesOne_29 : decode cX8_slidesOne 29 = .ok (.getfield 7, 3) := by decide +kernel
theorem dX8_slidesOne_32 : decode cX8_slidesOne 32 = .ok (.iconst 0, 1) := by decide +kernel
theorem dX8_slidesOne_33 : decode cX8_slidesOne 33 = .ok (.iaload, 1) := by decide +kernel
theorem dX8_slidesOne_34 : decode cX8_slidesOne 34 = .ok (.if_icmp .ge 45, 3) := by decide +kernel
theorem dX8_slidesOne_37 : decode cX8_slidesOne 37 = .ok (.aload_n 0, 1) := by decide +kernel
theorem dX8_slidesOne_38 : decode cX8_slidesOne 38 = .ok (.iload_n 2, 1) := by decide +kernel
theorem dX8_slidesOne_39 : decode cX8_slidesOne 39 = .ok (.invokevirtual 106, 3) := by decide +kernel
theorem dX8_slidesOne_42 : decode cX8_slidesOne 42 = .ok (.ifCond .ne 6, 3) := by decide +kernel
theorem dX8_slidesOne_45 : decode cX8_slidesOne 45 = .ok (.goto 34, 3) := by decide +kernel
theorem dX8_slidesOne_48 : decode cX8_slidesOne 48 = .ok (.aload_n 0, 1) := by decide +kernel
theorem dX8_slidesOne_49 : decode cX8_slidesOne 49 = .ok (.getfield 19, 3) := by decide +kernel
theorem dX8_slidesOne_52 : decode cX8_slidesOne 52 = .ok (.iload_n 2, 1) := by decide +kernel
theorem dX8_slidesOne_53 : decode cX8_slidesOne 53 = .ok (.iaload, 1) := by decide +kernel
theorem dX8_slidesOne_54 : decode cX8_slidesOne 54 = .ok (.iconst 1, 1) := by decide +kernel
theorem dX8_slidesOne_55 : decode cX8_slidesOne 55 = .ok (.isub, 1) := by decide +kernel
theorem dX8_slidesOne_56 : decode cX8_slidesOne 56 = .ok (.istore_n 3, 1) := by decide +kernel
theorem dX8_slidesOne_57 : decode cX8_slidesOne 57 = .ok (.aload_n 0, 1) := by decide +kernel
theorem dX8_slidesOne_58 : decode cX8_slidesOne 58 = .ok (.getfield 7, 3) := by decide +kernel
theorem dX8_slidesOne_61 : decode cX8_slidesOne 61 = .ok (.bipush 13, 2) := by decide +kernel
theorem dX8_slidesOne_63 : decode cX8_slidesOne 63 = .ok (.iload_n 3, 1) := by decide +kernel
theorem dX8_slidesOne_64 : decode cX8_slidesOne 64 = .ok (.iadd, 1) := by decide +kernel
theorem dX8_slidesOne_65 : decode cX8_slidesOne 65 = .ok (.iload_n 1, 1) := by decide +kernel
theorem dX8_slidesOne_66 : decode cX8_slidesOne 66 = .ok (.iastore, 1) := by decide +kernel
theorem dX8_slidesOne_67 : decode cX8_slidesOne 67 = .ok (.aload_n 0, 1) := by decide +kernel
theorem dX8_slidesOne_68 : decode cX8_slidesOne 68 = .ok (.invokevirtual 109, 3) := by decide +kernel
theorem dX8_slidesOne_71 : decode cX8_slidesOne 71 = .ok (.iload_n 1, 1) := by decide +kernel
theorem dX8_slidesOne_72 : decode cX8_slidesOne 72 = .ok (.aload_n 0, 1) := by decide +kernel
theorem dX8_slidesOne_73 : decode cX8_slidesOne 73 = .ok (.iload_n 3, 1) := by decide +kernel
theorem dX8_slidesOne_74 : decode cX8_slidesOne 74 = .ok (.invokevirtual 93, 3) := by decide +kernel
theorem dX8_slidesOne_77 : decode cX8_slidesOne 77 = .ok (.iadd, 1) := by decide +kernel
theorem dX8_slidesOne_78 : decode cX8_slidesOne 78 = .ok (.ireturn, 1) := by decide +kernel
theorem dX8_slidesOne_79 : decode cX8_slidesOne 79 = .ok (.aload_n 0, 1) := by decide +kernel
theorem dX8_slidesOne_80 : decode cX8_slidesOne 80 = .ok (.iload_n 1, 1) := by decide +kernel
theorem dX8_slidesOne_81 : decode cX8_slidesOne 81 = .ok (.invokevirtual 103, 3) := by decide +kernel
theorem dX8_slidesOne_84 : decode cX8_slidesOne 84 = .ok (.istore_n 1, 1) := by decide +kernel
theorem dX8_slidesOne_85 : decode cX8_slidesOne 85 = .ok (.goto (-83), 3) := by decide +kernel
theorem dX8_slidesOne_88 : decode cX8_slidesOne 88 = .ok (.iconst (-1), 1) := by decide +kernel
theorem dX8_slidesOne_89 : decode cX8_slidesOne 89 = .ok (.ireturn, 1) := by decide +kernel
abbrev mX8_slidesOne : XM := (cX8_slidesOne, 4, RX8, (some .int), shw_8, 3)
noncomputable def rg_X8_slidesOne_0 (k2 : XK) : XK :=
 o_iconst 0 <|
 o_istore 1 <|
 o_cut [] k2
def en_X8_slidesOne_0 (a : Ob) : XSt := ([some (.inr (.inl (0, 0))), none, none, none], [], [a])
noncomputable def rg_X8_slidesOne_2 (k79 : XK) : XK :=
 o_iload 1 <|
 o_aload 0 <|
 o_get shw_8 8 0 <|
 o_iconst 0 <|
 o_iald shw_8 <|
 o_icmp_ge (o_iconst (-1) <|
 o_ireturn)
 (o_aload 0 <|
 o_iload 1 <|
 o_callVg 2 1 [0] g_X8_behind v_X8_behind <|
 o_istore 2 <|
 o_aload 0 <|
 o_get shw_8 8 5 <|
 o_iload 1 <|
 o_iald shw_8 <|
 o_if_ne (o_cut [2] k79)
 (o_iload 2 <|
 o_aload 0 <|
 o_get shw_8 8 0 <|
 o_iconst 0 <|
 o_iald shw_8 <|
 o_icmp_ge (o_cut [2] k79)
 (o_aload 0 <|
 o_iload 2 <|
 o_callVg 2 1 [0] g_X8_isLooseAt v_X8_isLooseAt <|
 o_if_ne (o_aload 0 <|
 o_get shw_8 8 5 <|
 o_iload 2 <|
 o_iald shw_8 <|
 o_iconst 1 <|
 o_isub <|
 o_istore 3 <|
 o_aload 0 <|
 o_get shw_8 8 0 <|
 o_iconst 13 <|
 o_iload 3 <|
 o_iadd <|
 o_iload 1 <|
 o_iast shw_8 <|
 o_aload 0 <|
 o_callVg 1 0 [0] g_X8_fillsOwners v_X8_fillsOwners <|
 o_iload 1 <|
 o_aload 0 <|
 o_iload 3 <|
 o_callVg 2 1 [0] g_X8_lengthOf v_X8_lengthOf <|
 o_iadd <|
 o_ireturn)
 (o_cut [2] k79))))
def en_X8_slidesOne_2 (a : Int × Ob) : XSt := ([some (.inr (.inl (0, 0))), some (.inl a.1), none, none], [], [a.2])
noncomputable def rg_X8_slidesOne_79 (k2 : XK) : XK :=
 o_aload 0 <|
 o_iload 1 <|
 o_callVg 2 1 [0] g_X8_behind v_X8_behind <|
 o_istore 1 <|
 o_cut [] k2
def en_X8_slidesOne_79 (a : Int × Ob) : XSt := ([some (.inr (.inl (0, 0))), some (.inl a.1), none, none], [], [a.2])
noncomputable def mg_X8_slidesOne_0 (k2 : (Int × Ob) → Option Rt) (a : Ob) : Option Rt :=
 k2 (0, a)
set_option maxRecDepth 100000 in
set_option maxHeartbeats 4000000 in
theorem rq_X8_slidesOne_0 (k2 : XK) (a : Ob) : rg_X8_slidesOne_0 k2 (en_X8_slidesOne_0 a) = mg_X8_slidesOne_0 (fun b => k2 (en_X8_slidesOne_2 b)) a := rfl
set_option maxRecDepth 100000 in
set_option maxHeartbeats 4000000 in
theorem sg_X8_slidesOne_0 {X : XDyn} {r0 : Rt} (C : XO X mX8_slidesOne) {k2 : XK} (q2 : XS X mX8_slidesOne r0 2 k2) : XS X mX8_slidesOne r0 0 (rg_X8_slidesOne_0 k2) := by
 unfold rg_X8_slidesOne_0
 exact s_iconst (pc := 0) C dX8_slidesOne_0 <|
    s_istore_n (pc := 1) C dX8_slidesOne_1 rfl <|
    s_cut q2
noncomputable def mg_X8_slidesOne_2 (k79 : (Int × Ob) → Option Rt) (a : Int × Ob) : Option Rt :=
 if xw a.1 ≥ xw (a.2 1 0) then (RI (-1) [a.2])
 else (if pd (ov_X8_behind a.1 a.2 = RI (oqR (ov_X8_behind a.1 a.2)) [a.2]) then (
 if xin a.1 200 then (
 if xw (a.2 4 (xw a.1).toNat) = 0 then (if xw (oqR (ov_X8_behind a.1 a.2)) ≥ xw (a.2 1 0) then (k79 (a.1, a.2))
 else (if pd (ov_X8_isLooseAt (oqR (ov_X8_behind a.1 a.2)) a.2 = RI (oqR (ov_X8_isLooseAt (oqR (ov_X8_behind a.1 a.2)) a.2)) [a.2]) then (
 if xw (oqR (ov_X8_isLooseAt (oqR (ov_X8_behind a.1 a.2)) a.2)) = 0 then (k79 (a.1, a.2))
 else (if xin (oqR (ov_X8_behind a.1 a.2)) 200 then (
 if xin (13 + ((a.2 4 (xw (oqR (ov_X8_behind a.1 a.2))).toNat) - 1)) 735 then (
 if oqV (ov_X8_fillsOwners (xset a.2 1 (xw (13 + ((a.2 4 (xw (oqR (ov_X8_behind a.1 a.2))).toNat) - 1))).toNat a.1)) then (
 if hdl ((a.2 4 (xw (oqR (ov_X8_behind a.1 a.2))).toNat) - 1) then (
 RI (a.1 + (lenM (oqO (ov_X8_fillsOwners (xset a.2 1 (xw (13 + ((a.2 4 (xw (oqR (ov_X8_behind a.1 a.2))).toNat) - 1))).toNat a.1)) 0) ((a.2 4 (xw (oqR (ov_X8_behind a.1 a.2))).toNat) - 1))) [(oqO (ov_X8_fillsOwners (xset a.2 1 (xw (13 + ((a.2 4 (xw (oqR (ov_X8_behind a.1 a.2))).toNat) - 1))).toNat a.1)) 0)]) else none) else none) else none) else none)) else none))
 else (k79 (a.1, a.2))) else none) else none)
set_option maxRecDepth 100000 in
set_option maxHeartbeats 4000000 in
theorem rq_X8_slidesOne_2 (k79 : XK) (a : Int × Ob) : rg_X8_slidesOne_2 k79 (en_X8_slidesOne_2 a) = mg_X8_slidesOne_2 (fun b => k79 (en_X8_slidesOne_79 b)) a := rfl
set_option maxRecDepth 100000 in
set_option maxHeartbeats 4000000 in
theorem sg_X8_slidesOne_2 {X : XDyn} {r0 : Rt} (C : XO X mX8_slidesOne) {k79 : XK} (q79 : XS X mX8_slidesOne r0 79 k79) : XS X mX8_slidesOne r0 2 (rg_X8_slidesOne_2 k79) := by
 unfold rg_X8_slidesOne_2
 exact s_iload_n (pc := 2) C dX8_slidesOne_2 rfl <|
    s_aload_n (pc := 3) C dX8_slidesOne_3 rfl <|
    s_get (pc := 4) C (ci := 8) (kf := 0) rfl inX8 (by decide) wd_871 dX8_slidesOne_4 <|
    s_iconst (pc := 7) C dX8_slidesOne_7 <|
    s_iald (pc := 8) C dX8_slidesOne_8 <|
    s_icmp_ge (pc := 9) C dX8_slidesOne_9 (by decide) (s_iconst (pc := 88) C dX8_slidesOne_88 <|
    s_ireturn (pc := 89) C rfl dX8_slidesOne_89)
    (s_aload_n (pc := 12) C dX8_slidesOne_12 rfl <|
    s_iload_n (pc := 13) C dX8_slidesOne_13 rfl <|
    s_callVg (pc := 14) C ct_X8_behind (n := 2) (rk := 1) (mp := [0]) ⟨rfl, by decide, rfl⟩ (ci := 8) rfl rfl (by decide) (by decide) yi_X8_behind (by decide) wd_1006 wd_1008 wd_28 wd_81 wd_1009 dX8_slidesOne_14 <|
    s_istore_n (pc := 17) C dX8_slidesOne_17 rfl <|
    s_aload_n (pc := 18) C dX8_slidesOne_18 rfl <|
    s_get (pc := 19) C (ci := 8) (kf := 5) rfl inX8 (by decide) wd_876 dX8_slidesOne_19 <|
    s_iload_n (pc := 22) C dX8_slidesOne_22 rfl <|
    s_iald (pc := 23) C dX8_slidesOne_23 <|
    s_if_ne (pc := 24) C dX8_slidesOne_24 (by decide) (s_cut q79)
    (s_iload_n (pc := 27) C dX8_slidesOne_27 rfl <|
    s_aload_n (pc := 28) C dX8_slidesOne_28 rfl <|
    s_get (pc := 29) C (ci := 8) (kf := 0) rfl inX8 (by decide) wd_871 dX8_slidesOne_29 <|
    s_iconst (pc := 32) C dX8_slidesOne_32 <|
    s_iald (pc := 33) C dX8_slidesOne_33 <|
    s_icmp_ge (pc := 34) C dX8_slidesOne_34 (by decide) (s_cut q79)
    (s_aload_n (pc := 37) C dX8_slidesOne_37 rfl <|
    s_iload_n (pc := 38) C dX8_slidesOne_38 rfl <|
    s_callVg (pc := 39) C ct_X8_isLooseAt (n := 2) (rk := 1) (mp := [0]) ⟨rfl, by decide, rfl⟩ (ci := 8) rfl rfl (by decide) (by decide) yi_X8_isLooseAt (by decide) wd_1018 wd_1020 wd_31 wd_81 wd_1021 dX8_slidesOne_39 <|
    s_if_ne (pc := 42) C dX8_slidesOne_42 (by decide) (s_aload_n (pc := 48) C dX8_slidesOne_48 rfl <|
    s_get (pc := 49) C (ci := 8) (kf := 5) rfl inX8 (by decide) wd_876 dX8_slidesOne_49 <|
    s_iload_n (pc := 52) C dX8_slidesOne_52 rfl <|
    s_iald (pc := 53) C dX8_slidesOne_53 <|
    s_iconst (pc := 54) C dX8_slidesOne_54 <|
    s_isub (pc := 55) C dX8_slidesOne_55 <|
    s_istore_n (pc := 56) C dX8_slidesOne_56 rfl <|
    s_aload_n (pc := 57) C dX8_slidesOne_57 rfl <|
    s_get (pc := 58) C (ci := 8) (kf := 0) rfl inX8 (by decide) wd_871 dX8_slidesOne_58 <|
    s_bipush (pc := 61) C dX8_slidesOne_61 (by decide) <|
    s_iload_n (pc := 63) C dX8_slidesOne_63 rfl <|
    s_iadd (pc := 64) C dX8_slidesOne_64 <|
    s_iload_n (pc := 65) C dX8_slidesOne_65 rfl <|
    s_iast (pc := 66) C dX8_slidesOne_66 <|
    s_aload_n (pc := 67) C dX8_slidesOne_67 rfl <|
    s_callVg (pc := 68) C ct_X8_fillsOwners (n := 1) (rk := 0) (mp := [0]) ⟨rfl, by decide, rfl⟩ (ci := 8) rfl rfl (by decide) (by decide) yi_X8_fillsOwners (by decide) wd_979 wd_981 wd_22 wd_81 wd_982 dX8_slidesOne_68 <|
    s_iload_n (pc := 71) C dX8_slidesOne_71 rfl <|
    s_aload_n (pc := 72) C dX8_slidesOne_72 rfl <|
    s_iload_n (pc := 73) C dX8_slidesOne_73 rfl <|
    s_callVg (pc := 74) C ct_X8_lengthOf (n := 2) (rk := 1) (mp := [0]) ⟨rfl, by decide, rfl⟩ (ci := 8) rfl rfl (by decide) (by decide) yi_X8_lengthOf (by decide) wd_994 wd_996 wd_25 wd_81 wd_997 dX8_slidesOne_74 <|
    s_iadd (pc := 77) C dX8_slidesOne_77 <|
    s_ireturn (pc := 78) C rfl dX8_slidesOne_78)
    (s_goto (pc := 45) C dX8_slidesOne_45 (by decide) <|
    s_cut q79))))
noncomputable def mg_X8_slidesOne_79 (k2 : (Int × Ob) → Option Rt) (a : Int × Ob) : Option Rt :=
 if pd (ov_X8_behind a.1 a.2 = RI (oqR (ov_X8_behind a.1 a.2)) [a.2]) then (
 k2 ((oqR (ov_X8_behind a.1 a.2)), a.2)) else none
set_option maxRecDepth 100000 in
set_option maxHeartbeats 4000000 in
theorem rq_X8_slidesOne_79 (k2 : XK) (a : Int × Ob) : rg_X8_slidesOne_79 k2 (en_X8_slidesOne_79 a) = mg_X8_slidesOne_79 (fun b => k2 (en_X8_slidesOne_2 b)) a := rfl
set_option maxRecDepth 100000 in
set_option maxHeartbeats 4000000 in
theorem sg_X8_slidesOne_79 {X : XDyn} {r0 : Rt} (C : XO X mX8_slidesOne) {k2 : XK} (q2 : XS X mX8_slidesOne r0 2 k2) : XS X mX8_slidesOne r0 79 (rg_X8_slidesOne_79 k2) := by
 unfold rg_X8_slidesOne_79
 exact s_aload_n (pc := 79) C dX8_slidesOne_79 rfl <|
    s_iload_n (pc := 80) C dX8_slidesOne_80 rfl <|
    s_callVg (pc := 81) C ct_X8_behind (n := 2) (rk := 1) (mp := [0]) ⟨rfl, by decide, rfl⟩ (ci := 8) rfl rfl (by decide) (by decide) yi_X8_behind (by decide) wd_1006 wd_1008 wd_28 wd_81 wd_1009 dX8_slidesOne_81 <|
    s_istore_n (pc := 84) C dX8_slidesOne_84 rfl <|
    s_goto (pc := 85) C dX8_slidesOne_85 (by decide) <|
    s_cut q2
noncomputable def rw_X8_slidesOne_79 (f : Nat) (k2 : XK) : XK := rg_X8_slidesOne_79 k2
noncomputable def md_X8_slidesOne_79 (f : Nat) (k2 : (Int × Ob) → Option Rt) : Int × Ob → Option Rt := mg_X8_slidesOne_79 k2
theorem eq_X8_slidesOne_79 (f : Nat) (k2 : XK) (a : Int × Ob) : rw_X8_slidesOne_79 f k2 (en_X8_slidesOne_79 a) = md_X8_slidesOne_79 f (fun b => k2 (en_X8_slidesOne_2 b)) a :=
 (rq_X8_slidesOne_79 k2 a).trans (congrFun (congr (rfl : mg_X8_slidesOne_79 = mg_X8_slidesOne_79) rfl) a)
theorem sd_X8_slidesOne_79 (f : Nat) {X : XDyn} {r0 : Rt} (C : XO X mX8_slidesOne) {k2 : XK} (q2 : XS X mX8_slidesOne r0 2 k2) : XS X mX8_slidesOne r0 79 (rw_X8_slidesOne_79 f k2) := sg_X8_slidesOne_79 C q2
noncomputable def rw_X8_slidesOne_2 (f : Nat) : XK := tlp (fun k2 => rg_X8_slidesOne_2 (rw_X8_slidesOne_79 f k2)) f
noncomputable def lb_X8_slidesOne_2 (f : Nat) : ((Int × Ob) → Option Rt) → Int × Ob → Option Rt := fun k2 => mg_X8_slidesOne_2 (md_X8_slidesOne_79 f k2)
noncomputable def md_X8_slidesOne_2 (f : Nat) : Int × Ob → Option Rt := tlp (lb_X8_slidesOne_2 f) f
theorem eq_X8_slidesOne_2 (f : Nat) (a : Int × Ob) : rw_X8_slidesOne_2 f (en_X8_slidesOne_2 a) = md_X8_slidesOne_2 f a :=
 tlp_enc (en_X8_slidesOne_2) (fun k2 a => (rq_X8_slidesOne_2 (rw_X8_slidesOne_79 f k2) a).trans (congrFun (congr (rfl : mg_X8_slidesOne_2 = mg_X8_slidesOne_2) (funext (eq_X8_slidesOne_79 f k2))) a)) f a
theorem sd_X8_slidesOne_2 (f : Nat) {X : XDyn} {r0 : Rt} (C : XO X mX8_slidesOne) : XS X mX8_slidesOne r0 2 (rw_X8_slidesOne_2 f) := s_lp (fun k2 q2 => sg_X8_slidesOne_2 C (sd_X8_slidesOne_79 f C q2)) f
noncomputable def rw_X8_slidesOne_0 (f : Nat) : XK := rg_X8_slidesOne_0 (rw_X8_slidesOne_2 f)
noncomputable def md_X8_slidesOne_0 (f : Nat) : Ob → Option Rt := mg_X8_slidesOne_0 (md_X8_slidesOne_2 f)
theorem eq_X8_slidesOne_0 (f : Nat) (a : Ob) : rw_X8_slidesOne_0 f (en_X8_slidesOne_0 a) = md_X8_slidesOne_0 f a :=
 (rq_X8_slidesOne_0 (rw_X8_slidesOne_2 f) a).trans (congrFun (congr (rfl : mg_X8_slidesOne_0 = mg_X8_slidesOne_0) (funext (eq_X8_slidesOne_2 f))) a)
theorem sd_X8_slidesOne_0 (f : Nat) {X : XDyn} {r0 : Rt} (C : XO X mX8_slidesOne) : XS X mX8_slidesOne r0 0 (rw_X8_slidesOne_0 f) := sg_X8_slidesOne_0 C (sd_X8_slidesOne_2 f C)
theorem ctr_X8_slidesOne (f : Nat) : XCt yX8_slidesOne mX8_slidesOne (xF mX8_slidesOne (rw_X8_slidesOne_0 f)) := xMet (by decide +kernel) rfl (fun _ _ C => sd_X8_slidesOne_0 f C)
theorem eqf_X8_slidesOne (f : Nat) (h0 : Ob) : xF mX8_slidesOne (rw_X8_slidesOne_0 f) [.inr (.inl (0, 0))] [h0] = md_X8_slidesOne_0 f h0 := eq_X8_slidesOne_0 f h0
theorem yi_X8_slidesOne : yX8_slidesOne.cls = RX8 ∧ yX8_slidesOne.cls ≠ "java/lang/invoke/MethodHandle" ∧ yX8_slidesOne.cls ≠ "java/lang/invoke/VarHandle" ∧ (parseMethodDescriptor yX8_slidesOne.desc).map (fun d => d.parameters.length) = some 0 := ⟨rfl, by decide +kernel, by decide +kernel, by decide +kernel⟩
noncomputable def ov_X8_slidesOne (h0 : Ob) : Option Rt := xop (md_X8_slidesOne_0 xfu h0)
theorem ov_X8_slidesOne_e (h0 : Ob) : ov_X8_slidesOne h0 = md_X8_slidesOne_0 xfu h0 := xop_eq _
theorem sp_X8_slidesOne (h0 : Ob) (hg : oqI (ov_X8_slidesOne h0) = true) : md_X8_slidesOne_0 xfu h0 = RI (oqR (ov_X8_slidesOne h0)) [(oqO (ov_X8_slidesOne h0) 0)] := (ov_X8_slidesOne_e h0).symm.trans (oqI_eq hg)
noncomputable def g_X8_slidesOne : List AV → List Ob → Bool
  | [.inr (.inl (0, 0))], [h0] => oqI (ov_X8_slidesOne h0)
  | _, _ => false
noncomputable def v_X8_slidesOne : List AV → List Ob → Rt
  | [.inr (.inl (0, 0))], [h0] => (some (.inl (oqR (ov_X8_slidesOne h0))), [(oqO (ov_X8_slidesOne h0) 0)])
  | _, _ => (none, [])
theorem ct_X8_slidesOne : XCt yX8_slidesOne mX8_slidesOne (fun as μ => if g_X8_slidesOne as μ then some (v_X8_slidesOne as μ) else none) := (ctr_X8_slidesOne xfu).of (fun as μ r h => by
  split at h
  · rename_i hg
    unfold g_X8_slidesOne at hg
    split at hg
    · rw [← h]
      exact (eqf_X8_slidesOne xfu _).trans (sp_X8_slidesOne _ hg)
    · cases hg
  · cases h)
theorem dX8_slides_0 : decode cX8_slides 0 = .ok (.aload_n 0, 1) := by decide +kernel
theorem dX8_slides_1 : decode cX8_slides 1 = .ok (.invokevirtual 112, 3) := by decide +kernel
theorem dX8_slides_4 : decode cX8_slides 4 = .ok (.istore_n 2, 1) := by decide +kernel
theorem dX8_slides_5 : decode cX8_slides 5 = .ok (.iload_n 2, 1) := by decide +kernel
theorem dX8_slides_6 : decode cX8_slides 6 = .ok (.ifCond .lt 22, 3) := by decide +kernel
theorem dX8_slides_9 : decode cX8_slides 9 = .ok (.aload_n 0, 1) := by decide +kernel
theorem dX8_slides_10 : decode cX8_slides 10 = .ok (.iload_n 2, 1) := by decide +kernel
theorem dX8_slides_11 : decode cX8_slides 11 = .ok (.invokevirtual 103, 3) := by decide +kernel
theorem dX8_slides_14 : decode cX8_slides 14 = .ok (.iload_n 2, 1) := by decide +kernel
theorem dX8_slides_15 : decode cX8_slides 15 = .ok (.isub, 1) := by decide +kernel
theorem dX8_slides_16 : decode cX8_slides 16 = .ok (.iload_n 1, 1) := by decide +kernel
theorem dX8_slides_17 : decode cX8_slides 17 = .ok (.if_icmp .ge 11, 3) := by decide +kernel
theorem dX8_slides_20 : decode cX8_slides 20 = .ok (.aload_n 0, 1) := by decide +kernel
theorem dX8_slides_21 : decode cX8_slides 21 = .ok (.invokevirtual 112, 3) := by decide +kernel
theorem dX8_slides_24 : decode cX8_slides 24 = .ok (.istore_n 2, 1) := by decide +kernel
theorem dX8_slides_25 : decode cX8_slides 25 = .ok (.goto (-20), 3) := by decide +kernel
theorem dX8_slides_28 : decode cX8_slides 28 = .ok (.iload_n 2, 1) := by decide +kernel
theorem dX8_slides_29 : decode cX8_slides 29 = .ok (.ireturn, 1) := by decide +kernel
abbrev mX8_slides : XM := (cX8_slides, 3, RX8, (some .int), shw_8, 4)
noncomputable def rg_X8_slides_0 (k5 : XK) : XK :=
 o_aload 0 <|
 o_callVg 1 1 [0] g_X8_slidesOne v_X8_slidesOne <|
 o_istore 2 <|
 o_cut [] k5
def en_X8_slides_0 (p1 : Int) (a : Ob) : XSt := ([some (.inr (.inl (0, 0))), some (.inl p1), none], [], [a])
noncomputable def rg_X8_slides_5 (k5 : XK) : XK :=
 o_iload 2 <|
 o_if_lt (o_iload 2 <|
 o_ireturn)
 (o_aload 0 <|
 o_iload 2 <|
 o_callVg 2 1 [0] g_X8_behind v_X8_behind <|
 o_iload 2 <|
 o_isub <|
 o_iload 1 <|
 o_icmp_ge (o_iload 2 <|
 o_ireturn)
 (o_aload 0 <|
 o_callVg 1 1 [0] g_X8_slidesOne v_X8_slidesOne <|
 o_istore 2 <|
 o_cut [] k5))
def en_X8_slides_5 (p1 : Int) (a : Int × Ob) : XSt := ([some (.inr (.inl (0, 0))), some (.inl p1), some (.inl a.1)], [], [a.2])
noncomputable def mg_X8_slides_0 (p1 : Int) (k5 : (Int × Ob) → Option Rt) (a : Ob) : Option Rt :=
 if oqI (ov_X8_slidesOne a) then (
 k5 ((oqR (ov_X8_slidesOne a)), (oqO (ov_X8_slidesOne a) 0))) else none
set_option maxRecDepth 100000 in
set_option maxHeartbeats 4000000 in
theorem rq_X8_slides_0 (p1 : Int) (k5 : XK) (a : Ob) : rg_X8_slides_0 k5 (en_X8_slides_0 p1 a) = mg_X8_slides_0 p1 (fun b => k5 (en_X8_slides_5 p1 b)) a := rfl
set_option maxRecDepth 100000 in
set_option maxHeartbeats 4000000 in
theorem sg_X8_slides_0 {X : XDyn} {r0 : Rt} (C : XO X mX8_slides) {k5 : XK} (q5 : XS X mX8_slides r0 5 k5) : XS X mX8_slides r0 0 (rg_X8_slides_0 k5) := by
 unfold rg_X8_slides_0
 exact s_aload_n (pc := 0) C dX8_slides_0 rfl <|
    s_callVg (pc := 1) C ct_X8_slidesOne (n := 1) (rk := 1) (mp := [0]) ⟨rfl, by decide, rfl⟩ (ci := 8) rfl rfl (by decide) (by decide) yi_X8_slidesOne (by decide) wd_1014 wd_1016 wd_30 wd_81 wd_1017 dX8_slides_1 <|
    s_istore_n (pc := 4) C dX8_slides_4 rfl <|
    s_cut q5
noncomputable def mg_X8_slides_5 (p1 : Int) (k5 : (Int × Ob) → Option Rt) (a : Int × Ob) : Option Rt :=
 if xw a.1 < 0 then (RI a.1 [a.2])
 else (if pd (ov_X8_behind a.1 a.2 = RI (oqR (ov_X8_behind a.1 a.2)) [a.2]) then (
 if xw ((oqR (ov_X8_behind a.1 a.2)) - a.1) ≥ xw p1 then (RI a.1 [a.2])
 else (if oqI (ov_X8_slidesOne a.2) then (
 k5 ((oqR (ov_X8_slidesOne a.2)), (oqO (ov_X8_slidesOne a.2) 0))) else none)) else none)
set_option maxRecDepth 100000 in
set_option maxHeartbeats 4000000 in
theorem rq_X8_slides_5 (p1 : Int) (k5 : XK) (a : Int × Ob) : rg_X8_slides_5 k5 (en_X8_slides_5 p1 a) = mg_X8_slides_5 p1 (fun b => k5 (en_X8_slides_5 p1 b)) a := rfl
set_option maxRecDepth 100000 in
set_option maxHeartbeats 4000000 in
theorem sg_X8_slides_5 {X : XDyn} {r0 : Rt} (C : XO X mX8_slides) {k5 : XK} (q5 : XS X mX8_slides r0 5 k5) : XS X mX8_slides r0 5 (rg_X8_slides_5 k5) := by
 unfold rg_X8_slides_5
 exact s_iload_n (pc := 5) C dX8_slides_5 rfl <|
    s_if_lt (pc := 6) C dX8_slides_6 (by decide) (s_iload_n (pc := 28) C dX8_slides_28 rfl <|
    s_ireturn (pc := 29) C rfl dX8_slides_29)
    (s_aload_n (pc := 9) C dX8_slides_9 rfl <|
    s_iload_n (pc := 10) C dX8_slides_10 rfl <|
    s_callVg (pc := 11) C ct_X8_behind (n := 2) (rk := 1) (mp := [0]) ⟨rfl, by decide, rfl⟩ (ci := 8) rfl rfl (by decide) (by decide) yi_X8_behind (by decide) wd_1006 wd_1008 wd_28 wd_81 wd_1009 dX8_slides_11 <|
    s_iload_n (pc := 14) C dX8_slides_14 rfl <|
    s_isub (pc := 15) C dX8_slides_15 <|
    s_iload_n (pc := 16) C dX8_slides_16 rfl <|
    s_icmp_ge (pc := 17) C dX8_slides_17 (by decide) (s_iload_n (pc := 28) C dX8_slides_28 rfl <|
    s_ireturn (pc := 29) C rfl dX8_slides_29)
    (s_aload_n (pc := 20) C dX8_slides_20 rfl <|
    s_callVg (pc := 21) C ct_X8_slidesOne (n := 1) (rk := 1) (mp := [0]) ⟨rfl, by decide, rfl⟩ (ci := 8) rfl rfl (by decide) (by decide) yi_X8_slidesOne (by decide) wd_1014 wd_1016 wd_30 wd_81 wd_1017 dX8_slides_21 <|
    s_istore_n (pc := 24) C dX8_slides_24 rfl <|
    s_goto (pc := 25) C dX8_slides_25 (by decide) <|
    s_cut q5))
noncomputable def rw_X8_slides_5 (f : Nat) : XK := tlp (fun k5 => rg_X8_slides_5 k5) f
noncomputable def lb_X8_slides_5 (p1 : Int) (f : Nat) : ((Int × Ob) → Option Rt) → Int × Ob → Option Rt := fun k5 => mg_X8_slides_5 p1 k5
noncomputable def md_X8_slides_5 (p1 : Int) (f : Nat) : Int × Ob → Option Rt := tlp (lb_X8_slides_5 p1 f) f
theorem eq_X8_slides_5 (p1 : Int) (f : Nat) (a : Int × Ob) : rw_X8_slides_5 f (en_X8_slides_5 p1 a) = md_X8_slides_5 p1 f a :=
 tlp_enc (en_X8_slides_5 p1) (fun k5 a => (rq_X8_slides_5 p1 k5 a).trans (congrFun (congr (rfl : mg_X8_slides_5 p1 = mg_X8_slides_5 p1) rfl) a)) f a
theorem sd_X8_slides_5 (f : Nat) {X : XDyn} {r0 : Rt} (C : XO X mX8_slides) : XS X mX8_slides r0 5 (rw_X8_slides_5 f) := s_lp (fun k5 q5 => sg_X8_slides_5 C q5) f
noncomputable def rw_X8_slides_0 (f : Nat) : XK := rg_X8_slides_0 (rw_X8_slides_5 f)
noncomputable def md_X8_slides_0 (p1 : Int) (f : Nat) : Ob → Option Rt := mg_X8_slides_0 p1 (md_X8_slides_5 p1 f)
theorem eq_X8_slides_0 (p1 : Int) (f : Nat) (a : Ob) : rw_X8_slides_0 f (en_X8_slides_0 p1 a) = md_X8_slides_0 p1 f a :=
 (rq_X8_slides_0 p1 (rw_X8_slides_5 f) a).trans (congrFun (congr (rfl : mg_X8_slides_0 p1 = mg_X8_slides_0 p1) (funext (eq_X8_slides_5 p1 f))) a)
theorem sd_X8_slides_0 (f : Nat) {X : XDyn} {r0 : Rt} (C : XO X mX8_slides) : XS X mX8_slides r0 0 (rw_X8_slides_0 f) := sg_X8_slides_0 C (sd_X8_slides_5 f C)
theorem ctr_X8_slides (f : Nat) : XCt yX8_slides mX8_slides (xF mX8_slides (rw_X8_slides_0 f)) := xMet (by decide +kernel) rfl (fun _ _ C => sd_X8_slides_0 f C)
theorem eqf_X8_slides (f : Nat) (p1 : Int) (h0 : Ob) : xF mX8_slides (rw_X8_slides_0 f) [.inr (.inl (0, 0)), .inl p1] [h0] = md_X8_slides_0 p1 f h0 := eq_X8_slides_0 p1 f h0
theorem yi_X8_slides : yX8_slides.cls = RX8 ∧ yX8_slides.cls ≠ "java/lang/invoke/MethodHandle" ∧ yX8_slides.cls ≠ "java/lang/invoke/VarHandle" ∧ (parseMethodDescriptor yX8_slides.desc).map (fun d => d.parameters.length) = some 1 := ⟨rfl, by decide +kernel, by decide +kernel, by decide +kernel⟩
noncomputable def ov_X8_slides (p1 : Int) (h0 : Ob) : Option Rt := xop (md_X8_slides_0 p1 xfu h0)
theorem ov_X8_slides_e (p1 : Int) (h0 : Ob) : ov_X8_slides p1 h0 = md_X8_slides_0 p1 xfu h0 := xop_eq _
theorem sp_X8_slides (p1 : Int) (h0 : Ob) (hg : oqI (ov_X8_slides p1 h0) = true) : md_X8_slides_0 p1 xfu h0 = RI (oqR (ov_X8_slides p1 h0)) [(oqO (ov_X8_slides p1 h0) 0)] := (ov_X8_slides_e p1 h0).symm.trans (oqI_eq hg)
noncomputable def g_X8_slides : List AV → List Ob → Bool
  | [.inr (.inl (0, 0)), .inl p1], [h0] => oqI (ov_X8_slides p1 h0)
  | _, _ => false
noncomputable def v_X8_slides : List AV → List Ob → Rt
  | [.inr (.inl (0, 0)), .inl p1], [h0] => (some (.inl (oqR (ov_X8_slides p1 h0))), [(oqO (ov_X8_slides p1 h0) 0)])
  | _, _ => (none, [])
theorem ct_X8_slides : XCt yX8_slides mX8_slides (fun as μ => if g_X8_slides as μ then some (v_X8_slides as μ) else none) := (ctr_X8_slides xfu).of (fun as μ r h => by
  split at h
  · rename_i hg
    unfold g_X8_slides at hg
    split at hg
    · rw [← h]
      exact (eqf_X8_slides xfu _ _).trans (sp_X8_slides _ _ hg)
    · cases hg
  · cases h)
theorem dX8_freeEnd_0 : decode cX8_freeEnd 0 = .ok (.aload_n 0, 1) := by decide +kernel
theorem dX8_freeEnd_1 : decode cX8_freeEnd 1 = .ok (.getfield 7, 3) := by decide +kernel
theorem dX8_freeEnd_4 : decode cX8_freeEnd 4 = .ok (.iconst 0, 1) := by decide +kernel
theorem dX8_freeEnd_5 : decode cX8_freeEnd 5 = .ok (.iaload, 1) := by decide +kernel
theorem dX8_freeEnd_6 : decode cX8_freeEnd 6 = .ok (.istore_n 1, 1) := by decide +kernel
theorem dX8_freeEnd_7 : decode cX8_freeEnd 7 = .ok (.iload_n 1, 1) := by decide +kernel
theorem dX8_freeEnd_8 : decode cX8_freeEnd 8 = .ok (.ifCond .le 20, 3) := by decide +kernel
theorem dX8_freeEnd_11 : decode cX8_freeEnd 11 = .ok (.aload_n 0, 1) := by decide +kernel
theorem dX8_freeEnd_12 : decode cX8_freeEnd 12 = .ok (.getfield 19, 3) := by decide +kernel
theorem dX8_freeEnd_15 : decode cX8_freeEnd 15 = .ok (.iload_n 1, 1) := by decide +kernel
theorem dX8_freeEnd_16 : decode cX8_freeEnd 16 = .ok (.iconst 1, 1) := by decide +kernel
theorem dX8_freeEnd_17 : decode cX8_freeEnd 17 = .ok (.isub, 1) := by decide +kernel
theorem dX8_freeEnd_18 : decode cX8_freeEnd 18 = .ok (.iaload, 1) := by decide +kernel
theorem dX8_freeEnd_19 : decode cX8_freeEnd 19 = .ok (.ifCond .ne 9, 3) := by decide +kernel
theorem dX8_freeEnd_22 : decode cX8_freeEnd 22 = .ok (.iinc 1 (-1), 3) := by decide +kernel
theorem dX8_freeEnd_25 : decode cX8_freeEnd 25 = .ok (.goto (-18), 3) := by decide +kernel
theorem dX8_freeEnd_28 : decode cX8_freeEnd 28 = .ok (.iload_n 1, 1) := by decide +kernel
theorem dX8_freeEnd_29 : decode cX8_freeEnd 29 = .ok (.ireturn, 1) := by decide +kernel
abbrev mX8_freeEnd : XM := (cX8_freeEnd, 2, RX8, (some .int), shw_8, 0)
noncomputable def rg_X8_freeEnd_0 (k7 : XK) : XK :=
 o_aload 0 <|
 o_get shw_8 8 0 <|
 o_iconst 0 <|
 o_iald shw_8 <|
 o_istore 1 <|
 o_cut [] k7
def en_X8_freeEnd_0 (h0 : Ob) (a : Unit) : XSt := ([some (.inr (.inl (0, 0))), none], [], [h0])
noncomputable def rg_X8_freeEnd_7 (k7 : XK) : XK :=
 o_iload 1 <|
 o_if_le (o_iload 1 <|
 o_ireturn)
 (o_aload 0 <|
 o_get shw_8 8 5 <|
 o_iload 1 <|
 o_iconst 1 <|
 o_isub <|
 o_iald shw_8 <|
 o_if_ne (o_iload 1 <|
 o_ireturn)
 (o_iinc 1 (-1) <|
 o_cut [] k7))
def en_X8_freeEnd_7 (h0 : Ob) (a : Int) : XSt := ([some (.inr (.inl (0, 0))), some (.inl a)], [], [h0])
noncomputable def mg_X8_freeEnd_0 (h0 : Ob) (k7 : Int → Option Rt) (a : Unit) : Option Rt :=
 k7 (h0 1 0)
set_option maxRecDepth 100000 in
set_option maxHeartbeats 4000000 in
theorem rq_X8_freeEnd_0 (h0 : Ob) (k7 : XK) (a : Unit) : rg_X8_freeEnd_0 k7 (en_X8_freeEnd_0 h0 a) = mg_X8_freeEnd_0 h0 (fun b => k7 (en_X8_freeEnd_7 h0 b)) a := rfl
set_option maxRecDepth 100000 in
set_option maxHeartbeats 4000000 in
theorem sg_X8_freeEnd_0 {X : XDyn} {r0 : Rt} (C : XO X mX8_freeEnd) {k7 : XK} (q7 : XS X mX8_freeEnd r0 7 k7) : XS X mX8_freeEnd r0 0 (rg_X8_freeEnd_0 k7) := by
 unfold rg_X8_freeEnd_0
 exact s_aload_n (pc := 0) C dX8_freeEnd_0 rfl <|
    s_get (pc := 1) C (ci := 8) (kf := 0) rfl inX8 (by decide) wd_871 dX8_freeEnd_1 <|
    s_iconst (pc := 4) C dX8_freeEnd_4 <|
    s_iald (pc := 5) C dX8_freeEnd_5 <|
    s_istore_n (pc := 6) C dX8_freeEnd_6 rfl <|
    s_cut q7
noncomputable def mg_X8_freeEnd_7 (h0 : Ob) (k7 : Int → Option Rt) (a : Int) : Option Rt :=
 if xw a ≤ 0 then (RI a [h0])
 else (if xin (a - 1) 200 then (
 if xw (h0 4 (xw (a - 1)).toNat) = 0 then (k7 (a + (-1)))
 else (RI a [h0])) else none)
set_option maxRecDepth 100000 in
set_option maxHeartbeats 4000000 in
theorem rq_X8_freeEnd_7 (h0 : Ob) (k7 : XK) (a : Int) : rg_X8_freeEnd_7 k7 (en_X8_freeEnd_7 h0 a) = mg_X8_freeEnd_7 h0 (fun b => k7 (en_X8_freeEnd_7 h0 b)) a := rfl
set_option maxRecDepth 100000 in
set_option maxHeartbeats 4000000 in
theorem sg_X8_freeEnd_7 {X : XDyn} {r0 : Rt} (C : XO X mX8_freeEnd) {k7 : XK} (q7 : XS X mX8_freeEnd r0 7 k7) : XS X mX8_freeEnd r0 7 (rg_X8_freeEnd_7 k7) := by
 unfold rg_X8_freeEnd_7
 exact s_iload_n (pc := 7) C dX8_freeEnd_7 rfl <|
    s_if_le (pc := 8) C dX8_freeEnd_8 (by decide) (s_iload_n (pc := 28) C dX8_freeEnd_28 rfl <|
    s_ireturn (pc := 29) C rfl dX8_freeEnd_29)
    (s_aload_n (pc := 11) C dX8_freeEnd_11 rfl <|
    s_get (pc := 12) C (ci := 8) (kf := 5) rfl inX8 (by decide) wd_876 dX8_freeEnd_12 <|
    s_iload_n (pc := 15) C dX8_freeEnd_15 rfl <|
    s_iconst (pc := 16) C dX8_freeEnd_16 <|
    s_isub (pc := 17) C dX8_freeEnd_17 <|
    s_iald (pc := 18) C dX8_freeEnd_18 <|
    s_if_ne (pc := 19) C dX8_freeEnd_19 (by decide) (s_iload_n (pc := 28) C dX8_freeEnd_28 rfl <|
    s_ireturn (pc := 29) C rfl dX8_freeEnd_29)
    (s_iinc (pc := 22) C dX8_freeEnd_22 <|
    s_goto (pc := 25) C dX8_freeEnd_25 (by decide) <|
    s_cut q7))
noncomputable def rw_X8_freeEnd_7 (f : Nat) : XK := tlp (fun k7 => rg_X8_freeEnd_7 k7) f
noncomputable def lb_X8_freeEnd_7 (h0 : Ob) (f : Nat) : ((Int) → Option Rt) → Int → Option Rt := fun k7 => mg_X8_freeEnd_7 h0 k7
noncomputable def md_X8_freeEnd_7 (h0 : Ob) (f : Nat) : Int → Option Rt := tlp (lb_X8_freeEnd_7 h0 f) f
theorem eq_X8_freeEnd_7 (h0 : Ob) (f : Nat) (a : Int) : rw_X8_freeEnd_7 f (en_X8_freeEnd_7 h0 a) = md_X8_freeEnd_7 h0 f a :=
 tlp_enc (en_X8_freeEnd_7 h0) (fun k7 a => (rq_X8_freeEnd_7 h0 k7 a).trans (congrFun (congr (rfl : mg_X8_freeEnd_7 h0 = mg_X8_freeEnd_7 h0) rfl) a)) f a
theorem sd_X8_freeEnd_7 (f : Nat) {X : XDyn} {r0 : Rt} (C : XO X mX8_freeEnd) : XS X mX8_freeEnd r0 7 (rw_X8_freeEnd_7 f) := s_lp (fun k7 q7 => sg_X8_freeEnd_7 C q7) f
noncomputable def rw_X8_freeEnd_0 (f : Nat) : XK := rg_X8_freeEnd_0 (rw_X8_freeEnd_7 f)
noncomputable def md_X8_freeEnd_0 (h0 : Ob) (f : Nat) : Unit → Option Rt := mg_X8_freeEnd_0 h0 (md_X8_freeEnd_7 h0 f)
theorem eq_X8_freeEnd_0 (h0 : Ob) (f : Nat) (a : Unit) : rw_X8_freeEnd_0 f (en_X8_freeEnd_0 h0 a) = md_X8_freeEnd_0 h0 f a :=
 (rq_X8_freeEnd_0 h0 (rw_X8_freeEnd_7 f) a).trans (congrFun (congr (rfl : mg_X8_freeEnd_0 h0 = mg_X8_freeEnd_0 h0) (funext (eq_X8_freeEnd_7 h0 f))) a)
theorem sd_X8_freeEnd_0 (f : Nat) {X : XDyn} {r0 : Rt} (C : XO X mX8_freeEnd) : XS X mX8_freeEnd r0 0 (rw_X8_freeEnd_0 f) := sg_X8_freeEnd_0 C (sd_X8_freeEnd_7 f C)
theorem ctr_X8_freeEnd (f : Nat) : XCt yX8_freeEnd mX8_freeEnd (xF mX8_freeEnd (rw_X8_freeEnd_0 f)) := xMet (by decide +kernel) rfl (fun _ _ C => sd_X8_freeEnd_0 f C)
theorem eqf_X8_freeEnd (f : Nat) (h0 : Ob) : xF mX8_freeEnd (rw_X8_freeEnd_0 f) [.inr (.inl (0, 0))] [h0] = md_X8_freeEnd_0 h0 f () := eq_X8_freeEnd_0 h0 f ()
theorem yi_X8_freeEnd : yX8_freeEnd.cls = RX8 ∧ yX8_freeEnd.cls ≠ "java/lang/invoke/MethodHandle" ∧ yX8_freeEnd.cls ≠ "java/lang/invoke/VarHandle" ∧ (parseMethodDescriptor yX8_freeEnd.desc).map (fun d => d.parameters.length) = some 0 := ⟨rfl, by decide +kernel, by decide +kernel, by decide +kernel⟩
noncomputable def ov_X8_freeEnd (h0 : Ob) : Option Rt := xop (md_X8_freeEnd_0 h0 xfu ())
theorem ov_X8_freeEnd_e (h0 : Ob) : ov_X8_freeEnd h0 = md_X8_freeEnd_0 h0 xfu () := xop_eq _
theorem sp_X8_freeEnd (h0 : Ob) (hg : pd (ov_X8_freeEnd h0 = RI (oqR (ov_X8_freeEnd h0)) [h0]) = true) : md_X8_freeEnd_0 h0 xfu () = RI (oqR (ov_X8_freeEnd h0)) [h0] := (ov_X8_freeEnd_e h0).symm.trans (pd_of hg)
noncomputable def g_X8_freeEnd : List AV → List Ob → Bool
  | [.inr (.inl (0, 0))], [h0] => pd (ov_X8_freeEnd h0 = RI (oqR (ov_X8_freeEnd h0)) [h0])
  | _, _ => false
noncomputable def v_X8_freeEnd : List AV → List Ob → Rt
  | [.inr (.inl (0, 0))], [h0] => (some (.inl (oqR (ov_X8_freeEnd h0))), [h0])
  | _, _ => (none, [])
theorem ct_X8_freeEnd : XCt yX8_freeEnd mX8_freeEnd (fun as μ => if g_X8_freeEnd as μ then some (v_X8_freeEnd as μ) else none) := (ctr_X8_freeEnd xfu).of (fun as μ r h => by
  split at h
  · rename_i hg
    unfold g_X8_freeEnd at hg
    split at hg
    · rw [← h]
      exact (eqf_X8_freeEnd xfu _).trans (sp_X8_freeEnd _ hg)
    · cases hg
  · cases h)
theorem dX8_grows_0 : decode cX8_grows 0 = .ok (.aload_n 0, 1) := by decide +kernel
theorem dX8_grows_1 : decode cX8_grows 1 = .ok (.invokevirtual 116, 3) := by decide +kernel
theorem dX8_grows_4 : decode cX8_grows 4 = .ok (.istore_n 2, 1) := by decide +kernel
theorem dX8_grows_5 : decode cX8_grows 5 = .ok (.aload_n 0, 1) := by decide +kernel
theorem dX8_grows_6 : decode cX8_grows 6 = .ok (.getfield 7, 3) := by decide +kernel
theorem dX8_grows_9 : decode cX8_grows 9 = .ok (.iconst 0, 1) := by decide +kernel
theorem dX8_grows_10 : decode cX8_grows 10 = .ok (.iload_n 2, 1) := by decide +kernel
theorem dX8_grows_11 : decode cX8_grows 11 = .ok (.iload_n 1, 1) := by decide +kernel
theorem dX8_grows_12 : decode cX8_grows 12 = .ok (.iadd, 1) := by decide +kernel
theorem dX8_grows_13 : decode cX8_grows 13 = .ok (.aload_n 0, 1) := by decide +kernel
theorem dX8_grows_14 : decode cX8_grows 14 = .ok (.getfield 7, 3) := by decide +kernel
theorem dX8_grows_17 : decode cX8_grows 17 = .ok (.iconst 1, 1) := by decide +kernel
theorem dX8_grows_18 : decode cX8_grows 18 = .ok (.iaload, 1) := by decide +kernel
theorem dX8_grows_19 : decode cX8_grows 19 = .ok (.if_icmp .ge 9, 3) := by decide +kernel
theorem dX8_grows_22 : decode cX8_grows 22 = .ok (.iload_n 2, 1) := by decide +kernel
theorem dX8_grows_23 : decode cX8_grows 23 = .ok (.iload_n 1, 1) := by decide +kernel
theorem dX8_grows_24 : decode cX8_grows 24 = .ok (.iadd, 1) := by decide +kernel
theorem dX8_grows_25 : decode cX8_grows 25 = .ok (.goto 9, 3) := by decide +kernel
theorem dX8_grows_28 : decode cX8_grows 28 = .ok (.aload_n 0, 1) := by decide +kernel
theorem dX8_grows_29 : decode cX8_grows 29 = .ok (.getfield 7, 3) := by decide +kernel
theorem dX8_grows_32 : decode cX8_grows 32 = .ok (.iconst 1, 1) := by decide +kernel
theorem dX8_grows_33 : decode cX8_grows 33 = .ok (.iaload, 1) := by decide +kernel
theorem dX8_grows_34 : decode cX8_grows 34 = .ok (.iastore, 1) := by decide +kernel
theorem dX8_grows_35 : decode cX8_grows 35 = .ok (.aload_n 0, 1) := by decide +kernel
theorem dX8_grows_36 : decode cX8_grows 36 = .ok (.invokevirtual 109, 3) := by decide +kernel
theorem dX8_grows_39 : decode cX8_grows 39 = .ok (.aload_n 0, 1) := by decide +kernel
theorem dX8_grows_40 : decode cX8_grows 40 = .ok (.getfield 7, 3) := by decide +kernel
theorem dX8_grows_43 : decode cX8_grows 43 = .ok (.iconst 0, 1) := by decide +kernel
theorem dX8_grows_44 : decode cX8_grows 44 = .ok (.iaload, 1) := by decide +kernel
theorem dX8_grows_45 : decode cX8_grows 45 = .ok (.iload_n 2, 1) := by decide +kernel
theorem dX8_grows_46 : decode cX8_grows 46 = .ok (.isub, 1) := by decide +kernel
theorem dX8_grows_47 : decode cX8_grows 47 = .ok (.iload_n 1, 1) := by decide +kernel
theorem dX8_grows_48 : decode cX8_grows 48 = .ok (.if_icmp .lt 7, 3) := by decide +kernel
theorem dX8_grows_51 : decode cX8_grows 51 = .ok (.iload_n 2, 1) := by decide +kernel
theorem dX8_grows_52 : decode cX8_grows 52 = .ok (.goto 4, 3) := by decide +kernel
theorem dX8_grows_55 : decode cX8_grows 55 = .ok (.iconst (-1), 1) := by decide +kernel
theorem dX8_grows_56 : decode cX8_grows 56 = .ok (.ireturn, 1) := by decide +kernel
abbrev mX8_grows : XM := (cX8_grows, 3, RX8, (some .int), shw_8, 3)
noncomputable def rg_X8_grows_0 (k34 : XK) : XK :=
 o_aload 0 <|
 o_callVg 1 1 [0] g_X8_freeEnd v_X8_freeEnd <|
 o_istore 2 <|
 o_aload 0 <|
 o_get shw_8 8 0 <|
 o_iconst 0 <|
 o_iload 2 <|
 o_iload 1 <|
 o_iadd <|
 o_aload 0 <|
 o_get shw_8 8 0 <|
 o_iconst 1 <|
 o_iald shw_8 <|
 o_icmp_ge (o_aload 0 <|
 o_get shw_8 8 0 <|
 o_iconst 1 <|
 o_iald shw_8 <|
 o_cut [] k34)
 (o_iload 2 <|
 o_iload 1 <|
 o_iadd <|
 o_cut [] k34)
def en_X8_grows_0 (p1 : Int) (a : Ob) : XSt := ([some (.inr (.inl (0, 0))), some (.inl p1), none], [], [a])
noncomputable def rg_X8_grows_34 : XK :=
 o_iast shw_8 <|
 o_aload 0 <|
 o_callVg 1 0 [0] g_X8_fillsOwners v_X8_fillsOwners <|
 o_aload 0 <|
 o_get shw_8 8 0 <|
 o_iconst 0 <|
 o_iald shw_8 <|
 o_iload 2 <|
 o_isub <|
 o_iload 1 <|
 o_icmp_lt (o_iconst (-1) <|
 o_ireturn)
 (o_iload 2 <|
 o_ireturn)
def en_X8_grows_34 (p1 : Int) (a : Int × Int × Int × Ob) : XSt := ([some (.inr (.inl (0, 0))), some (.inl p1), some (.inl a.1)], [.inl a.2.2.1, .inl a.2.1, .inr (.inl (0, 1))], [a.2.2.2])
noncomputable def mg_X8_grows_0 (p1 : Int) (k34 : (Int × Int × Int × Ob) → Option Rt) (a : Ob) : Option Rt :=
 if pd (ov_X8_freeEnd a = RI (oqR (ov_X8_freeEnd a)) [a]) then (
 if xw ((oqR (ov_X8_freeEnd a)) + p1) ≥ xw (a 1 1) then (k34 ((oqR (ov_X8_freeEnd a)), 0, (a 1 1), a))
 else (k34 ((oqR (ov_X8_freeEnd a)), 0, ((oqR (ov_X8_freeEnd a)) + p1), a))) else none
set_option maxRecDepth 100000 in
set_option maxHeartbeats 4000000 in
theorem rq_X8_grows_0 (p1 : Int) (k34 : XK) (a : Ob) : rg_X8_grows_0 k34 (en_X8_grows_0 p1 a) = mg_X8_grows_0 p1 (fun b => k34 (en_X8_grows_34 p1 b)) a := rfl
set_option maxRecDepth 100000 in
set_option maxHeartbeats 4000000 in
theorem sg_X8_grows_0 {X : XDyn} {r0 : Rt} (C : XO X mX8_grows) {k34 : XK} (q34 : XS X mX8_grows r0 34 k34) : XS X mX8_grows r0 0 (rg_X8_grows_0 k34) := by
 unfold rg_X8_grows_0
 exact s_aload_n (pc := 0) C dX8_grows_0 rfl <|
    s_callVg (pc := 1) C ct_X8_freeEnd (n := 1) (rk := 1) (mp := [0]) ⟨rfl, by decide, rfl⟩ (ci := 8) rfl rfl (by decide) (by decide) yi_X8_freeEnd (by decide) wd_1030 wd_1032 wd_34 wd_81 wd_1033 dX8_grows_1 <|
    s_istore_n (pc := 4) C dX8_grows_4 rfl <|
    s_aload_n (pc := 5) C dX8_grows_5 rfl <|
    s_get (pc := 6) C (ci := 8) (kf := 0) rfl inX8 (by decide) wd_871 dX8_grows_6 <|
    s_iconst (pc := 9) C dX8_grows_9 <|
    s_iload_n (pc := 10) C dX8_grows_10 rfl <|
    s_iload_n (pc := 11) C dX8_grows_11 rfl <|
    s_iadd (pc := 12) C dX8_grows_12 <|
    s_aload_n (pc := 13) C dX8_grows_13 rfl <|
    s_get (pc := 14) C (ci := 8) (kf := 0) rfl inX8 (by decide) wd_871 dX8_grows_14 <|
    s_iconst (pc := 17) C dX8_grows_17 <|
    s_iald (pc := 18) C dX8_grows_18 <|
    s_icmp_ge (pc := 19) C dX8_grows_19 (by decide) (s_aload_n (pc := 28) C dX8_grows_28 rfl <|
    s_get (pc := 29) C (ci := 8) (kf := 0) rfl inX8 (by decide) wd_871 dX8_grows_29 <|
    s_iconst (pc := 32) C dX8_grows_32 <|
    s_iald (pc := 33) C dX8_grows_33 <|
    s_cut q34)
    (s_iload_n (pc := 22) C dX8_grows_22 rfl <|
    s_iload_n (pc := 23) C dX8_grows_23 rfl <|
    s_iadd (pc := 24) C dX8_grows_24 <|
    s_goto (pc := 25) C dX8_grows_25 (by decide) <|
    s_cut q34)
noncomputable def mg_X8_grows_34 (p1 : Int) (a : Int × Int × Int × Ob) : Option Rt :=
 if xin a.2.1 735 then (
 if oqV (ov_X8_fillsOwners (xset a.2.2.2 1 (xw a.2.1).toNat a.2.2.1)) then (
 if xw (((oqO (ov_X8_fillsOwners (xset a.2.2.2 1 (xw a.2.1).toNat a.2.2.1)) 0) 1 0) - a.1) < xw p1 then (RI (-1) [(oqO (ov_X8_fillsOwners (xset a.2.2.2 1 (xw a.2.1).toNat a.2.2.1)) 0)])
 else (RI a.1 [(oqO (ov_X8_fillsOwners (xset a.2.2.2 1 (xw a.2.1).toNat a.2.2.1)) 0)])) else none) else none
set_option maxRecDepth 100000 in
set_option maxHeartbeats 4000000 in
theorem rq_X8_grows_34 (p1 : Int) (a : Int × Int × Int × Ob) : rg_X8_grows_34 (en_X8_grows_34 p1 a) = mg_X8_grows_34 p1 a := rfl
set_option maxRecDepth 100000 in
set_option maxHeartbeats 4000000 in
theorem sg_X8_grows_34 {X : XDyn} {r0 : Rt} (C : XO X mX8_grows) : XS X mX8_grows r0 34 (rg_X8_grows_34) := by
 unfold rg_X8_grows_34
 exact s_iast (pc := 34) C dX8_grows_34 <|
    s_aload_n (pc := 35) C dX8_grows_35 rfl <|
    s_callVg (pc := 36) C ct_X8_fillsOwners (n := 1) (rk := 0) (mp := [0]) ⟨rfl, by decide, rfl⟩ (ci := 8) rfl rfl (by decide) (by decide) yi_X8_fillsOwners (by decide) wd_979 wd_981 wd_22 wd_81 wd_982 dX8_grows_36 <|
    s_aload_n (pc := 39) C dX8_grows_39 rfl <|
    s_get (pc := 40) C (ci := 8) (kf := 0) rfl inX8 (by decide) wd_871 dX8_grows_40 <|
    s_iconst (pc := 43) C dX8_grows_43 <|
    s_iald (pc := 44) C dX8_grows_44 <|
    s_iload_n (pc := 45) C dX8_grows_45 rfl <|
    s_isub (pc := 46) C dX8_grows_46 <|
    s_iload_n (pc := 47) C dX8_grows_47 rfl <|
    s_icmp_lt (pc := 48) C dX8_grows_48 (by decide) (s_iconst (pc := 55) C dX8_grows_55 <|
    s_ireturn (pc := 56) C rfl dX8_grows_56)
    (s_iload_n (pc := 51) C dX8_grows_51 rfl <|
    s_goto (pc := 52) C dX8_grows_52 (by decide) <|
    s_ireturn (pc := 56) C rfl dX8_grows_56)
noncomputable def rw_X8_grows_34 : XK := rg_X8_grows_34
noncomputable def md_X8_grows_34 (p1 : Int) : Int × Int × Int × Ob → Option Rt := mg_X8_grows_34 p1
theorem eq_X8_grows_34 (p1 : Int) (a : Int × Int × Int × Ob) : rw_X8_grows_34 (en_X8_grows_34 p1 a) = md_X8_grows_34 p1 a :=
 rq_X8_grows_34 p1 a
theorem sd_X8_grows_34 {X : XDyn} {r0 : Rt} (C : XO X mX8_grows) : XS X mX8_grows r0 34 (rw_X8_grows_34) := sg_X8_grows_34 C
noncomputable def rw_X8_grows_0 : XK := rg_X8_grows_0 (rw_X8_grows_34)
noncomputable def md_X8_grows_0 (p1 : Int) : Ob → Option Rt := mg_X8_grows_0 p1 (md_X8_grows_34 p1)
theorem eq_X8_grows_0 (p1 : Int) (a : Ob) : rw_X8_grows_0 (en_X8_grows_0 p1 a) = md_X8_grows_0 p1 a :=
 (rq_X8_grows_0 p1 (rw_X8_grows_34) a).trans (congrFun (congr (rfl : mg_X8_grows_0 p1 = mg_X8_grows_0 p1) (funext (eq_X8_grows_34 p1))) a)
theorem sd_X8_grows_0 {X : XDyn} {r0 : Rt} (C : XO X mX8_grows) : XS X mX8_grows r0 0 (rw_X8_grows_0) := sg_X8_grows_0 C (sd_X8_grows_34 C)
theorem ctr_X8_grows : XCt yX8_grows mX8_grows (xF mX8_grows (rw_X8_grows_0)) := xMet (by decide +kernel) rfl (fun _ _ C => sd_X8_grows_0 C)
theorem eqf_X8_grows (p1 : Int) (h0 : Ob) : xF mX8_grows (rw_X8_grows_0) [.inr (.inl (0, 0)), .inl p1] [h0] = md_X8_grows_0 p1 h0 := eq_X8_grows_0 p1 h0
theorem yi_X8_grows : yX8_grows.cls = RX8 ∧ yX8_grows.cls ≠ "java/lang/invoke/MethodHandle" ∧ yX8_grows.cls ≠ "java/lang/invoke/VarHandle" ∧ (parseMethodDescriptor yX8_grows.desc).map (fun d => d.parameters.length) = some 1 := ⟨rfl, by decide +kernel, by decide +kernel, by decide +kernel⟩
noncomputable def ov_X8_grows (p1 : Int) (h0 : Ob) : Option Rt := xop (md_X8_grows_0 p1 h0)
theorem ov_X8_grows_e (p1 : Int) (h0 : Ob) : ov_X8_grows p1 h0 = md_X8_grows_0 p1 h0 := xop_eq _
theorem sp_X8_grows (p1 : Int) (h0 : Ob) (hg : oqI (ov_X8_grows p1 h0) = true) : md_X8_grows_0 p1 h0 = RI (oqR (ov_X8_grows p1 h0)) [(oqO (ov_X8_grows p1 h0) 0)] := (ov_X8_grows_e p1 h0).symm.trans (oqI_eq hg)
noncomputable def g_X8_grows : List AV → List Ob → Bool
  | [.inr (.inl (0, 0)), .inl p1], [h0] => oqI (ov_X8_grows p1 h0)
  | _, _ => false
noncomputable def v_X8_grows : List AV → List Ob → Rt
  | [.inr (.inl (0, 0)), .inl p1], [h0] => (some (.inl (oqR (ov_X8_grows p1 h0))), [(oqO (ov_X8_grows p1 h0) 0)])
  | _, _ => (none, [])
theorem ct_X8_grows : XCt yX8_grows mX8_grows (fun as μ => if g_X8_grows as μ then some (v_X8_grows as μ) else none) := (ctr_X8_grows ).of (fun as μ r h => by
  split at h
  · rename_i hg
    unfold g_X8_grows at hg
    split at hg
    · rw [← h]
      exact (eqf_X8_grows _ _).trans (sp_X8_grows _ _ hg)
    · cases hg
  · cases h)
