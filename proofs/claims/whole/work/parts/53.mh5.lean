theorem dX7_torn_0 : decode cX7_torn 0 = .ok (.aload_n 0, 1) := by decide +kernel
theorem dX7_torn_1 : decode cX7_torn 1 = .ok (.getfield 12, 3) := by decide +kernel
theorem dX7_torn_4 : decode cX7_torn 4 = .ok (.iload_n 1, 1) := by decide +kernel
theorem dX7_torn_5 : decode cX7_torn 5 = .ok (.invokevirtual 246, 3) := by decide +kernel
theorem dX7_torn_8 : decode cX7_torn 8 = .ok (.ifCond .ne 6, 3) := by decide +kernel
theorem dX7_torn_11 : decode cX7_torn 11 = .ok (.bipush (-2), 2) := by decide +kernel
theorem dX7_torn_13 : decode cX7_torn 13 = .ok (.ireturn, 1) := by decide +kernel
theorem dX7_torn_14 : decode cX7_torn 14 = .ok (.iconst 0, 1) := by decide +kernel
theorem dX7_torn_15 : decode cX7_torn 15 = .ok (.istore_n 3, 1) := by decide +kernel
theorem dX7_torn_16 : decode cX7_torn 16 = .ok (.iconst 0, 1) := by decide +kernel
theorem dX7_torn_17 : decode cX7_torn 17 = .ok (.istore 4, 2) := by decide +kernel
theorem dX7_torn_19 : decode cX7_torn 19 = .ok (.iload 4, 2) := by decide +kernel
theorem dX7_torn_21 : decode cX7_torn 21 = .ok (.aload_n 0, 1) := by decide +kernel
theorem dX7_torn_22 : decode cX7_torn 22 = .ok (.getfield 12, 3) := by decide +kernel
theorem dX7_torn_25 : decode cX7_torn 25 = .ok (.getfield 201, 3) := by decide +kernel
theorem dX7_torn_28 : decode cX7_torn 28 = .ok (.if_icmp .ge 73, 3) := by decide +kernel
theorem dX7_torn_31 : decode cX7_torn 31 = .ok (.iload 4, 2) := by decide +kernel
theorem dX7_torn_33 : decode cX7_torn 33 = .ok (.iload_n 1, 1) := by decide +kernel
theorem dX7_torn_34 : decode cX7_torn 34 = .ok (.if_icmp .ne 7, 3) := by decide +kernel
theorem dX7_torn_37 : decode cX7_torn 37 = .ok (.iload_n 2, 1) := by decide +kernel
theorem dX7_torn_38 : decode cX7_torn 38 = .ok (.goto 12, 3) := by decide +kernel
theorem dX7_torn_41 : decode cX7_torn 41 = .ok (.aload_n 0, 1) := by decide +kernel
theorem dX7_torn_42 : decode cX7_torn 42 = .ok (.getfield 12, 3) := by decide +kernel
theorem dX7_torn_45 : decode cX7_torn 45 = .ok (.iload 4, 2) := by decide +kernel
theorem dX7_torn_47 : decode cX7_torn 47 = .ok (.invokevirtual 195, 3) := by decide +kernel
theorem dX7_torn_50 : decode cX7_torn 50 = .ok (.istore 5, 2) := by decide +kernel
theorem dX7_torn_52 : decode cX7_torn 52 = .ok (.aload_n 0, 1) := by decide +kernel
theorem dX7_torn_53 : decode cX7_torn 53 = .ok (.getfield 12, 3) := by decide +kernel
theorem dX7_torn_56 : decode cX7_torn 56 = .ok (.iload 4, 2) := by decide +kernel
theorem dX7_torn_58 : decode cX7_torn 58 = .ok (.iload 5, 2) := by decide +kernel
theorem dX7_torn_60 : decode cX7_torn 60 = .ok (.iload_n 3, 1) := by decide +kernel
theorem dX7_torn_61 : decode cX7_torn 61 = .ok (.invokevirtual 249, 3) := by decide +kernel
theorem dX7_torn_64 : decode cX7_torn 64 = .ok (.ifCond .eq 6, 3) := by decide +kernel
theorem dX7_torn_67 : decode cX7_torn 67 = .ok (.iload 4, 2) := by decide +kernel
theorem dX7_torn_69 : decode cX7_torn 69 = .ok (.ireturn, 1) := by decide +kernel
theorem dX7_torn_70 : decode cX7_torn 70 = .ok (.iload 5, 2) := by decide +kernel
theorem dX7_torn_72 : decode cX7_torn 72 = .ok (.bipush 64, 2) := by decide +kernel
theorem dX7_torn_74 : decode cX7_torn 74 = .ok (.irem, 1) := by decide +kernel
theorem dX7_torn_75 : decode cX7_torn 75 = .ok (.ifCond .ne 7, 3) := by decide +kernel
theorem dX7_torn_78 : decode cX7_torn 78 = .ok (.iconst 1, 1) := by decide +kernel
theorem dX7_torn_79 : decode cX7_torn 79 = .ok (.goto 4, 3) := by decide +kernel
theorem dX7_torn_82 : decode cX7_torn 82 = .ok (.iconst 0, 1) := by decide +kernel
theorem dX7_torn_83 : decode cX7_torn 83 = .ok (.istore_n 3, 1) := by decide +kernel
theorem dX7_torn_84 : decode cX7_torn 84 = .ok (.iload 4, 2) := by decide +kernel
theorem dX7_torn_86 : decode cX7_torn 86 = .ok (.iconst 1, 1) := by decide +kernel
theorem dX7_torn_87 : decode cX7_torn 87 = .ok (.iload 5, 2) := by decide +kernel
theorem dX7_torn_89 : decode cX7_torn 89 = .ok (.bipush 64, 2) := by decide +kernel
theorem dX7_torn_91 : decode cX7_torn 91 = .ok (.idiv, 1) := by decide +kernel
theorem dX7_torn_92 : decode cX7_torn 92 = .ok (.invokestatic 253, 3) := by decide +kernel
theorem dX7_torn_95 : decode cX7_torn 95 = .ok (.iadd, 1) := by decide +kernel
theorem dX7_torn_96 : decode cX7_torn 96 = .ok (.istore 4, 2) := by decide +kernel
theorem dX7_torn_98 : decode cX7_torn 98 = .ok (.goto (-79), 3) := by decide +kernel
theorem dX7_torn_101 : decode cX7_torn 101 = .ok (.iconst (-1), 1) := by decide +kernel
theorem dX7_torn_102 : decode cX7_torn 102 = .ok (.ireturn, 1) := by decide +kernel
abbrev mX7_torn : XM := (cX7_torn, 6, RX7, (some .int), shw_M, 4)
noncomputable def rg_X7_torn_0 (k19 : XK) : XK :=
 o_aload 0 <|
 o_get shw_M 7 0 <|
 o_iload 1 <|
 o_callV 2 1 [1] f_X3_isCell <|
 o_if_ne (o_iconst 0 <|
 o_istore 3 <|
 o_iconst 0 <|
 o_istore 4 <|
 o_cut [] k19)
 (o_iconst (-2) <|
 o_ireturn)
def en_X7_torn_0 (p1 : Int) (p2 : Int) (h0 : Ob) (h1 : Ob) (h2 : Ob) (h3 : Ob) (h4 : Ob) (h5 : Ob) (h6 : Ob) (h7 : Ob) (h8 : Ob) (h9 : Ob) (h10 : Ob) (h11 : Ob) (h12 : Ob) (h13 : Ob) (h14 : Ob) (h15 : Ob) (h16 : Ob) (h17 : Ob) (h18 : Ob) (h19 : Ob) (h20 : Ob) (h21 : Ob) (h22 : Ob) (h23 : Ob) (h24 : Ob) (a : Unit) : XSt := ([some (.inr (.inl (0, 0))), some (.inl p1), some (.inl p2), none, none, none], [], [h0, h1, h2, h3, h4, h5, h6, h7, h8, h9, h10, h11, h12, h13, h14, h15, h16, h17, h18, h19, h20, h21, h22, h23, h24])
noncomputable def rg_X7_torn_19 (k50 : XK) : XK :=
 o_iload 4 <|
 o_aload 0 <|
 o_get shw_M 7 0 <|
 o_get shw_M 3 9 <|
 o_icmp_ge (o_iconst (-1) <|
 o_ireturn)
 (o_iload 4 <|
 o_iload 1 <|
 o_icmp_ne (o_aload 0 <|
 o_get shw_M 7 0 <|
 o_iload 4 <|
 o_callVg 2 1 [1] g_X3_cellAt v_X3_cellAt <|
 o_cut [] k50)
 (o_iload 2 <|
 o_cut [] k50))
def en_X7_torn_19 (p1 : Int) (p2 : Int) (h0 : Ob) (h1 : Ob) (h2 : Ob) (h3 : Ob) (h4 : Ob) (h5 : Ob) (h6 : Ob) (h7 : Ob) (h8 : Ob) (h9 : Ob) (h10 : Ob) (h11 : Ob) (h12 : Ob) (h13 : Ob) (h14 : Ob) (h15 : Ob) (h16 : Ob) (h17 : Ob) (h18 : Ob) (h19 : Ob) (h20 : Ob) (h21 : Ob) (h22 : Ob) (h23 : Ob) (h24 : Ob) (a : Int × Int) : XSt := ([some (.inr (.inl (0, 0))), some (.inl p1), some (.inl p2), some (.inl a.1), some (.inl a.2), none], [], [h0, h1, h2, h3, h4, h5, h6, h7, h8, h9, h10, h11, h12, h13, h14, h15, h16, h17, h18, h19, h20, h21, h22, h23, h24])
noncomputable def rg_X7_torn_50 (k83 : XK) : XK :=
 o_istore 5 <|
 o_aload 0 <|
 o_get shw_M 7 0 <|
 o_iload 4 <|
 o_iload 5 <|
 o_iload 3 <|
 o_callVg 4 1 [1] g_X3_isTorn v_X3_isTorn <|
 o_if_eq (o_iload 5 <|
 o_iconst 64 <|
 o_irem <|
 o_if_ne (o_iconst 0 <|
 o_cut [3] k83)
 (o_iconst 1 <|
 o_cut [3] k83))
 (o_iload 4 <|
 o_ireturn)
def en_X7_torn_50 (p1 : Int) (p2 : Int) (h0 : Ob) (h1 : Ob) (h2 : Ob) (h3 : Ob) (h4 : Ob) (h5 : Ob) (h6 : Ob) (h7 : Ob) (h8 : Ob) (h9 : Ob) (h10 : Ob) (h11 : Ob) (h12 : Ob) (h13 : Ob) (h14 : Ob) (h15 : Ob) (h16 : Ob) (h17 : Ob) (h18 : Ob) (h19 : Ob) (h20 : Ob) (h21 : Ob) (h22 : Ob) (h23 : Ob) (h24 : Ob) (a : Int × Int × Int) : XSt := ([some (.inr (.inl (0, 0))), some (.inl p1), some (.inl p2), some (.inl a.1), some (.inl a.2.1), none], [.inl a.2.2], [h0, h1, h2, h3, h4, h5, h6, h7, h8, h9, h10, h11, h12, h13, h14, h15, h16, h17, h18, h19, h20, h21, h22, h23, h24])
noncomputable def rg_X7_torn_83 (k19 : XK) : XK :=
 o_istore 3 <|
 o_iload 4 <|
 o_iconst 1 <|
 o_iload 5 <|
 o_iconst 64 <|
 o_idiv <|
 o_max <|
 o_iadd <|
 o_istore 4 <|
 o_cut [5] k19
def en_X7_torn_83 (p1 : Int) (p2 : Int) (h0 : Ob) (h1 : Ob) (h2 : Ob) (h3 : Ob) (h4 : Ob) (h5 : Ob) (h6 : Ob) (h7 : Ob) (h8 : Ob) (h9 : Ob) (h10 : Ob) (h11 : Ob) (h12 : Ob) (h13 : Ob) (h14 : Ob) (h15 : Ob) (h16 : Ob) (h17 : Ob) (h18 : Ob) (h19 : Ob) (h20 : Ob) (h21 : Ob) (h22 : Ob) (h23 : Ob) (h24 : Ob) (a : Int × Int × Int) : XSt := ([some (.inr (.inl (0, 0))), some (.inl p1), some (.inl p2), none, some (.inl a.1), some (.inl a.2.1)], [.inl a.2.2], [h0, h1, h2, h3, h4, h5, h6, h7, h8, h9, h10, h11, h12, h13, h14, h15, h16, h17, h18, h19, h20, h21, h22, h23, h24])
noncomputable def mg_X7_torn_0 (p1 : Int) (p2 : Int) (h0 : Ob) (h1 : Ob) (h2 : Ob) (h3 : Ob) (h4 : Ob) (h5 : Ob) (h6 : Ob) (h7 : Ob) (h8 : Ob) (h9 : Ob) (h10 : Ob) (h11 : Ob) (h12 : Ob) (h13 : Ob) (h14 : Ob) (h15 : Ob) (h16 : Ob) (h17 : Ob) (h18 : Ob) (h19 : Ob) (h20 : Ob) (h21 : Ob) (h22 : Ob) (h23 : Ob) (h24 : Ob) (k19 : (Int × Int) → Option Rt) (a : Unit) : Option Rt :=
 if xw (bz (isc h1 p1)) = 0 then (RI (-2) [h0, h1, h2, h3, h4, h5, h6, h7, h8, h9, h10, h11, h12, h13, h14, h15, h16, h17, h18, h19, h20, h21, h22, h23, h24])
 else (k19 (0, 0))
set_option maxRecDepth 100000 in
set_option maxHeartbeats 4000000 in
theorem rq_X7_torn_0 (p1 : Int) (p2 : Int) (h0 : Ob) (h1 : Ob) (h2 : Ob) (h3 : Ob) (h4 : Ob) (h5 : Ob) (h6 : Ob) (h7 : Ob) (h8 : Ob) (h9 : Ob) (h10 : Ob) (h11 : Ob) (h12 : Ob) (h13 : Ob) (h14 : Ob) (h15 : Ob) (h16 : Ob) (h17 : Ob) (h18 : Ob) (h19 : Ob) (h20 : Ob) (h21 : Ob) (h22 : Ob) (h23 : Ob) (h24 : Ob) (k19 : XK) (a : Unit) : rg_X7_torn_0 k19 (en_X7_torn_0 p1 p2 h0 h1 h2 h3 h4 h5 h6 h7 h8 h9 h10 h11 h12 h13 h14 h15 h16 h17 h18 h19 h20 h21 h22 h23 h24 a) = mg_X7_torn_0 p1 p2 h0 h1 h2 h3 h4 h5 h6 h7 h8 h9 h10 h11 h12 h13 h14 h15 h16 h17 h18 h19 h20 h21 h22 h23 h24 (fun b => k19 (en_X7_torn_19 p1 p2 h0 h1 h2 h3 h4 h5 h6 h7 h8 h9 h10 h11 h12 h13 h14 h15 h16 h17 h18 h19 h20 h21 h22 h23 h24 b)) a := rfl
set_option maxRecDepth 100000 in
set_option maxHeartbeats 4000000 in
theorem sg_X7_torn_0 {X : XDyn} {r0 : Rt} (C : XO X mX7_torn) {k19 : XK} (q19 : XS X mX7_torn r0 19 k19) : XS X mX7_torn r0 0 (rg_X7_torn_0 k19) := by
 unfold rg_X7_torn_0
 exact s_aload_n (pc := 0) C dX7_torn_0 rfl <|
    s_get (pc := 1) C (ci := 7) (kf := 0) rfl inX7 (by decide) wd_312 dX7_torn_1 <|
    s_iload_n (pc := 4) C dX7_torn_4 rfl <|
    s_callV (pc := 5) C ct_X3_isCell (n := 2) (rk := 1) (mp := [1]) ⟨rfl, by decide, rfl⟩ (ci := 3) rfl rfl (by decide) (by decide) yi_X3_isCell (by decide) wd_786 wd_741 wd_742 wd_74 wd_743 dX7_torn_5 <|
    s_if_ne (pc := 8) C dX7_torn_8 (by decide) (s_iconst (pc := 14) C dX7_torn_14 <|
    s_istore_n (pc := 15) C dX7_torn_15 rfl <|
    s_iconst (pc := 16) C dX7_torn_16 <|
    s_istore (pc := 17) C dX7_torn_17 <|
    s_cut q19)
    (s_bipush (pc := 11) C dX7_torn_11 (by decide) <|
    s_ireturn (pc := 13) C rfl dX7_torn_13)
noncomputable def mg_X7_torn_19 (p1 : Int) (p2 : Int) (h0 : Ob) (h1 : Ob) (h2 : Ob) (h3 : Ob) (h4 : Ob) (h5 : Ob) (h6 : Ob) (h7 : Ob) (h8 : Ob) (h9 : Ob) (h10 : Ob) (h11 : Ob) (h12 : Ob) (h13 : Ob) (h14 : Ob) (h15 : Ob) (h16 : Ob) (h17 : Ob) (h18 : Ob) (h19 : Ob) (h20 : Ob) (h21 : Ob) (h22 : Ob) (h23 : Ob) (h24 : Ob) (k50 : (Int × Int × Int) → Option Rt) (a : Int × Int) : Option Rt :=
 if xw a.2 ≥ xw (h1 0 9) then (RI (-1) [h0, h1, h2, h3, h4, h5, h6, h7, h8, h9, h10, h11, h12, h13, h14, h15, h16, h17, h18, h19, h20, h21, h22, h23, h24])
 else (if xw a.2 = xw p1 then (k50 (a.1, a.2, p2))
 else (if pd (LW h1) then (
 k50 (a.1, a.2, (celF h1 a.2))) else none))
set_option maxRecDepth 100000 in
set_option maxHeartbeats 4000000 in
theorem rq_X7_torn_19 (p1 : Int) (p2 : Int) (h0 : Ob) (h1 : Ob) (h2 : Ob) (h3 : Ob) (h4 : Ob) (h5 : Ob) (h6 : Ob) (h7 : Ob) (h8 : Ob) (h9 : Ob) (h10 : Ob) (h11 : Ob) (h12 : Ob) (h13 : Ob) (h14 : Ob) (h15 : Ob) (h16 : Ob) (h17 : Ob) (h18 : Ob) (h19 : Ob) (h20 : Ob) (h21 : Ob) (h22 : Ob) (h23 : Ob) (h24 : Ob) (k50 : XK) (a : Int × Int) : rg_X7_torn_19 k50 (en_X7_torn_19 p1 p2 h0 h1 h2 h3 h4 h5 h6 h7 h8 h9 h10 h11 h12 h13 h14 h15 h16 h17 h18 h19 h20 h21 h22 h23 h24 a) = mg_X7_torn_19 p1 p2 h0 h1 h2 h3 h4 h5 h6 h7 h8 h9 h10 h11 h12 h13 h14 h15 h16 h17 h18 h19 h20 h21 h22 h23 h24 (fun b => k50 (en_X7_torn_50 p1 p2 h0 h1 h2 h3 h4 h5 h6 h7 h8 h9 h10 h11 h12 h13 h14 h15 h16 h17 h18 h19 h20 h21 h22 h23 h24 b)) a := rfl
set_option maxRecDepth 100000 in
set_option maxHeartbeats 4000000 in
theorem sg_X7_torn_19 {X : XDyn} {r0 : Rt} (C : XO X mX7_torn) {k50 : XK} (q50 : XS X mX7_torn r0 50 k50) : XS X mX7_torn r0 19 (rg_X7_torn_19 k50) := by
 unfold rg_X7_torn_19
 exact s_iload (pc := 19) C dX7_torn_19 <|
    s_aload_n (pc := 21) C dX7_torn_21 rfl <|
    s_get (pc := 22) C (ci := 7) (kf := 0) rfl inX7 (by decide) wd_312 dX7_torn_22 <|
    s_get (pc := 25) C (ci := 3) (kf := 9) rfl inX3 (by decide) wd_128 dX7_torn_25 <|
    s_icmp_ge (pc := 28) C dX7_torn_28 (by decide) (s_iconst (pc := 101) C dX7_torn_101 <|
    s_ireturn (pc := 102) C rfl dX7_torn_102)
    (s_iload (pc := 31) C dX7_torn_31 <|
    s_iload_n (pc := 33) C dX7_torn_33 rfl <|
    s_icmp_ne (pc := 34) C dX7_torn_34 (by decide) (s_aload_n (pc := 41) C dX7_torn_41 rfl <|
    s_get (pc := 42) C (ci := 7) (kf := 0) rfl inX7 (by decide) wd_312 dX7_torn_42 <|
    s_iload (pc := 45) C dX7_torn_45 <|
    s_callVg (pc := 47) C ct_X3_cellAt (n := 2) (rk := 1) (mp := [1]) ⟨rfl, by decide, rfl⟩ (ci := 3) rfl rfl (by decide) (by decide) yi_X3_cellAt (by decide) wd_736 wd_737 wd_738 wd_74 wd_739 dX7_torn_47 <|
    s_cut q50)
    (s_iload_n (pc := 37) C dX7_torn_37 rfl <|
    s_goto (pc := 38) C dX7_torn_38 (by decide) <|
    s_cut q50))
noncomputable def mg_X7_torn_50 (p1 : Int) (p2 : Int) (h0 : Ob) (h1 : Ob) (h2 : Ob) (h3 : Ob) (h4 : Ob) (h5 : Ob) (h6 : Ob) (h7 : Ob) (h8 : Ob) (h9 : Ob) (h10 : Ob) (h11 : Ob) (h12 : Ob) (h13 : Ob) (h14 : Ob) (h15 : Ob) (h16 : Ob) (h17 : Ob) (h18 : Ob) (h19 : Ob) (h20 : Ob) (h21 : Ob) (h22 : Ob) (h23 : Ob) (h24 : Ob) (k83 : (Int × Int × Int) → Option Rt) (a : Int × Int × Int) : Option Rt :=
 if pd (LW h1) && xb a.1 then (
 if xw (bz (torF h1 a.2.1 a.2.2 a.1)) = 0 then (if xw (xrem a.2.2 64) = 0 then (k83 (a.2.1, a.2.2, 1))
 else (k83 (a.2.1, a.2.2, 0)))
 else (RI a.2.1 [h0, h1, h2, h3, h4, h5, h6, h7, h8, h9, h10, h11, h12, h13, h14, h15, h16, h17, h18, h19, h20, h21, h22, h23, h24])) else none
set_option maxRecDepth 100000 in
set_option maxHeartbeats 4000000 in
theorem rq_X7_torn_50 (p1 : Int) (p2 : Int) (h0 : Ob) (h1 : Ob) (h2 : Ob) (h3 : Ob) (h4 : Ob) (h5 : Ob) (h6 : Ob) (h7 : Ob) (h8 : Ob) (h9 : Ob) (h10 : Ob) (h11 : Ob) (h12 : Ob) (h13 : Ob) (h14 : Ob) (h15 : Ob) (h16 : Ob) (h17 : Ob) (h18 : Ob) (h19 : Ob) (h20 : Ob) (h21 : Ob) (h22 : Ob) (h23 : Ob) (h24 : Ob) (k83 : XK) (a : Int × Int × Int) : rg_X7_torn_50 k83 (en_X7_torn_50 p1 p2 h0 h1 h2 h3 h4 h5 h6 h7 h8 h9 h10 h11 h12 h13 h14 h15 h16 h17 h18 h19 h20 h21 h22 h23 h24 a) = mg_X7_torn_50 p1 p2 h0 h1 h2 h3 h4 h5 h6 h7 h8 h9 h10 h11 h12 h13 h14 h15 h16 h17 h18 h19 h20 h21 h22 h23 h24 (fun b => k83 (en_X7_torn_83 p1 p2 h0 h1 h2 h3 h4 h5 h6 h7 h8 h9 h10 h11 h12 h13 h14 h15 h16 h17 h18 h19 h20 h21 h22 h23 h24 b)) a := rfl
set_option maxRecDepth 100000 in
set_option maxHeartbeats 4000000 in
theorem sg_X7_torn_50 {X : XDyn} {r0 : Rt} (C : XO X mX7_torn) {k83 : XK} (q83 : XS X mX7_torn r0 83 k83) : XS X mX7_torn r0 50 (rg_X7_torn_50 k83) := by
 unfold rg_X7_torn_50
 exact s_istore (pc := 50) C dX7_torn_50 <|
    s_aload_n (pc := 52) C dX7_torn_52 rfl <|
    s_get (pc := 53) C (ci := 7) (kf := 0) rfl inX7 (by decide) wd_312 dX7_torn_53 <|
    s_iload (pc := 56) C dX7_torn_56 <|
    s_iload (pc := 58) C dX7_torn_58 <|
    s_iload_n (pc := 60) C dX7_torn_60 rfl <|
    s_callVg (pc := 61) C ct_X3_isTorn (n := 4) (rk := 1) (mp := [1]) ⟨rfl, by decide, rfl⟩ (ci := 3) rfl rfl (by decide) (by decide) yi_X3_isTorn (by decide) wd_787 wd_788 wd_789 wd_74 wd_790 dX7_torn_61 <|
    s_if_eq (pc := 64) C dX7_torn_64 (by decide) (s_iload (pc := 70) C dX7_torn_70 <|
    s_bipush (pc := 72) C dX7_torn_72 (by decide) <|
    s_irem (pc := 74) C dX7_torn_74 <|
    s_if_ne (pc := 75) C dX7_torn_75 (by decide) (s_iconst (pc := 82) C dX7_torn_82 <|
    s_cut q83)
    (s_iconst (pc := 78) C dX7_torn_78 <|
    s_goto (pc := 79) C dX7_torn_79 (by decide) <|
    s_cut q83))
    (s_iload (pc := 67) C dX7_torn_67 <|
    s_ireturn (pc := 69) C rfl dX7_torn_69)
noncomputable def mg_X7_torn_83 (p1 : Int) (p2 : Int) (h0 : Ob) (h1 : Ob) (h2 : Ob) (h3 : Ob) (h4 : Ob) (h5 : Ob) (h6 : Ob) (h7 : Ob) (h8 : Ob) (h9 : Ob) (h10 : Ob) (h11 : Ob) (h12 : Ob) (h13 : Ob) (h14 : Ob) (h15 : Ob) (h16 : Ob) (h17 : Ob) (h18 : Ob) (h19 : Ob) (h20 : Ob) (h21 : Ob) (h22 : Ob) (h23 : Ob) (h24 : Ob) (k19 : (Int × Int) → Option Rt) (a : Int × Int × Int) : Option Rt :=
 k19 (a.2.2, (a.1 + (xmax 1 (xdiv a.2.1 64))))
set_option maxRecDepth 100000 in
set_option maxHeartbeats 4000000 in
theorem rq_X7_torn_83 (p1 : Int) (p2 : Int) (h0 : Ob) (h1 : Ob) (h2 : Ob) (h3 : Ob) (h4 : Ob) (h5 : Ob) (h6 : Ob) (h7 : Ob) (h8 : Ob) (h9 : Ob) (h10 : Ob) (h11 : Ob) (h12 : Ob) (h13 : Ob) (h14 : Ob) (h15 : Ob) (h16 : Ob) (h17 : Ob) (h18 : Ob) (h19 : Ob) (h20 : Ob) (h21 : Ob) (h22 : Ob) (h23 : Ob) (h24 : Ob) (k19 : XK) (a : Int × Int × Int) : rg_X7_torn_83 k19 (en_X7_torn_83 p1 p2 h0 h1 h2 h3 h4 h5 h6 h7 h8 h9 h10 h11 h12 h13 h14 h15 h16 h17 h18 h19 h20 h21 h22 h23 h24 a) = mg_X7_torn_83 p1 p2 h0 h1 h2 h3 h4 h5 h6 h7 h8 h9 h10 h11 h12 h13 h14 h15 h16 h17 h18 h19 h20 h21 h22 h23 h24 (fun b => k19 (en_X7_torn_19 p1 p2 h0 h1 h2 h3 h4 h5 h6 h7 h8 h9 h10 h11 h12 h13 h14 h15 h16 h17 h18 h19 h20 h21 h22 h23 h24 b)) a := rfl
set_option maxRecDepth 100000 in
set_option maxHeartbeats 4000000 in
theorem sg_X7_torn_83 {X : XDyn} {r0 : Rt} (C : XO X mX7_torn) {k19 : XK} (q19 : XS X mX7_torn r0 19 k19) : XS X mX7_torn r0 83 (rg_X7_torn_83 k19) := by
 unfold rg_X7_torn_83
 exact s_istore_n (pc := 83) C dX7_torn_83 rfl <|
    s_iload (pc := 84) C dX7_torn_84 <|
    s_iconst (pc := 86) C dX7_torn_86 <|
    s_iload (pc := 87) C dX7_torn_87 <|
    s_bipush (pc := 89) C dX7_torn_89 (by decide) <|
    s_idiv (pc := 91) C dX7_torn_91 <|
    s_max (pc := 92) C (by decide) wd_794 wd_402 wd_82 wd_403 dX7_torn_92 <|
    s_iadd (pc := 95) C dX7_torn_95 <|
    s_istore (pc := 96) C dX7_torn_96 <|
    s_goto (pc := 98) C dX7_torn_98 (by decide) <|
    s_cut q19
noncomputable def rw_X7_torn_83 (f : Nat) (k19 : XK) : XK := rg_X7_torn_83 k19
noncomputable def md_X7_torn_83 (p1 : Int) (p2 : Int) (h0 : Ob) (h1 : Ob) (h2 : Ob) (h3 : Ob) (h4 : Ob) (h5 : Ob) (h6 : Ob) (h7 : Ob) (h8 : Ob) (h9 : Ob) (h10 : Ob) (h11 : Ob) (h12 : Ob) (h13 : Ob) (h14 : Ob) (h15 : Ob) (h16 : Ob) (h17 : Ob) (h18 : Ob) (h19 : Ob) (h20 : Ob) (h21 : Ob) (h22 : Ob) (h23 : Ob) (h24 : Ob) (f : Nat) (k19 : (Int × Int) → Option Rt) : Int × Int × Int → Option Rt := mg_X7_torn_83 p1 p2 h0 h1 h2 h3 h4 h5 h6 h7 h8 h9 h10 h11 h12 h13 h14 h15 h16 h17 h18 h19 h20 h21 h22 h23 h24 k19
theorem eq_X7_torn_83 (p1 : Int) (p2 : Int) (h0 : Ob) (h1 : Ob) (h2 : Ob) (h3 : Ob) (h4 : Ob) (h5 : Ob) (h6 : Ob) (h7 : Ob) (h8 : Ob) (h9 : Ob) (h10 : Ob) (h11 : Ob) (h12 : Ob) (h13 : Ob) (h14 : Ob) (h15 : Ob) (h16 : Ob) (h17 : Ob) (h18 : Ob) (h19 : Ob) (h20 : Ob) (h21 : Ob) (h22 : Ob) (h23 : Ob) (h24 : Ob) (f : Nat) (k19 : XK) (a : Int × Int × Int) : rw_X7_torn_83 f k19 (en_X7_torn_83 p1 p2 h0 h1 h2 h3 h4 h5 h6 h7 h8 h9 h10 h11 h12 h13 h14 h15 h16 h17 h18 h19 h20 h21 h22 h23 h24 a) = md_X7_torn_83 p1 p2 h0 h1 h2 h3 h4 h5 h6 h7 h8 h9 h10 h11 h12 h13 h14 h15 h16 h17 h18 h19 h20 h21 h22 h23 h24 f (fun b => k19 (en_X7_torn_19 p1 p2 h0 h1 h2 h3 h4 h5 h6 h7 h8 h9 h10 h11 h12 h13 h14 h15 h16 h17 h18 h19 h20 h21 h22 h23 h24 b)) a :=
 (rq_X7_torn_83 p1 p2 h0 h1 h2 h3 h4 h5 h6 h7 h8 h9 h10 h11 h12 h13 h14 h15 h16 h17 h18 h19 h20 h21 h22 h23 h24 k19 a).trans (congrFun (congr (rfl : mg_X7_torn_83 p1 p2 h0 h1 h2 h3 h4 h5 h6 h7 h8 h9 h10 h11 h12 h13 h14 h15 h16 h17 h18 h19 h20 h21 h22 h23 h24 = mg_X7_torn_83 p1 p2 h0 h1 h2 h3 h4 h5 h6 h7 h8 h9 h10 h11 h12 h13 h14 h15 h16 h17 h18 h19 h20 h21 h22 h23 h24) rfl) a)
theorem sd_X7_torn_83 (f : Nat) {X : XDyn} {r0 : Rt} (C : XO X mX7_torn) {k19 : XK} (q19 : XS X mX7_torn r0 19 k19) : XS X mX7_torn r0 83 (rw_X7_torn_83 f k19) := sg_X7_torn_83 C q19
noncomputable def rw_X7_torn_50 (f : Nat) (k19 : XK) : XK := rg_X7_torn_50 (rw_X7_torn_83 f k19)
noncomputable def md_X7_torn_50 (p1 : Int) (p2 : Int) (h0 : Ob) (h1 : Ob) (h2 : Ob) (h3 : Ob) (h4 : Ob) (h5 : Ob) (h6 : Ob) (h7 : Ob) (h8 : Ob) (h9 : Ob) (h10 : Ob) (h11 : Ob) (h12 : Ob) (h13 : Ob) (h14 : Ob) (h15 : Ob) (h16 : Ob) (h17 : Ob) (h18 : Ob) (h19 : Ob) (h20 : Ob) (h21 : Ob) (h22 : Ob) (h23 : Ob) (h24 : Ob) (f : Nat) (k19 : (Int × Int) → Option Rt) : Int × Int × Int → Option Rt := mg_X7_torn_50 p1 p2 h0 h1 h2 h3 h4 h5 h6 h7 h8 h9 h10 h11 h12 h13 h14 h15 h16 h17 h18 h19 h20 h21 h22 h23 h24 (md_X7_torn_83 p1 p2 h0 h1 h2 h3 h4 h5 h6 h7 h8 h9 h10 h11 h12 h13 h14 h15 h16 h17 h18 h19 h20 h21 h22 h23 h24 f k19)
theorem eq_X7_torn_50 (p1 : Int) (p2 : Int) (h0 : Ob) (h1 : Ob) (h2 : Ob) (h3 : Ob) (h4 : Ob) (h5 : Ob) (h6 : Ob) (h7 : Ob) (h8 : Ob) (h9 : Ob) (h10 : Ob) (h11 : Ob) (h12 : Ob) (h13 : Ob) (h14 : Ob) (h15 : Ob) (h16 : Ob) (h17 : Ob) (h18 : Ob) (h19 : Ob) (h20 : Ob) (h21 : Ob) (h22 : Ob) (h23 : Ob) (h24 : Ob) (f : Nat) (k19 : XK) (a : Int × Int × Int) : rw_X7_torn_50 f k19 (en_X7_torn_50 p1 p2 h0 h1 h2 h3 h4 h5 h6 h7 h8 h9 h10 h11 h12 h13 h14 h15 h16 h17 h18 h19 h20 h21 h22 h23 h24 a) = md_X7_torn_50 p1 p2 h0 h1 h2 h3 h4 h5 h6 h7 h8 h9 h10 h11 h12 h13 h14 h15 h16 h17 h18 h19 h20 h21 h22 h23 h24 f (fun b => k19 (en_X7_torn_19 p1 p2 h0 h1 h2 h3 h4 h5 h6 h7 h8 h9 h10 h11 h12 h13 h14 h15 h16 h17 h18 h19 h20 h21 h22 h23 h24 b)) a :=
 (rq_X7_torn_50 p1 p2 h0 h1 h2 h3 h4 h5 h6 h7 h8 h9 h10 h11 h12 h13 h14 h15 h16 h17 h18 h19 h20 h21 h22 h23 h24 (rw_X7_torn_83 f k19) a).trans (congrFun (congr (rfl : mg_X7_torn_50 p1 p2 h0 h1 h2 h3 h4 h5 h6 h7 h8 h9 h10 h11 h12 h13 h14 h15 h16 h17 h18 h19 h20 h21 h22 h23 h24 = mg_X7_torn_50 p1 p2 h0 h1 h2 h3 h4 h5 h6 h7 h8 h9 h10 h11 h12 h13 h14 h15 h16 h17 h18 h19 h20 h21 h22 h23 h24) (funext (eq_X7_torn_83 p1 p2 h0 h1 h2 h3 h4 h5 h6 h7 h8 h9 h10 h11 h12 h13 h14 h15 h16 h17 h18 h19 h20 h21 h22 h23 h24 f k19))) a)
theorem sd_X7_torn_50 (f : Nat) {X : XDyn} {r0 : Rt} (C : XO X mX7_torn) {k19 : XK} (q19 : XS X mX7_torn r0 19 k19) : XS X mX7_torn r0 50 (rw_X7_torn_50 f k19) := sg_X7_torn_50 C (sd_X7_torn_83 f C q19)
noncomputable def rw_X7_torn_19 (f : Nat) : XK := tlp (fun k19 => rg_X7_torn_19 (rw_X7_torn_50 f k19)) f
noncomputable def lb_X7_torn_19 (p1 : Int) (p2 : Int) (h0 : Ob) (h1 : Ob) (h2 : Ob) (h3 : Ob) (h4 : Ob) (h5 : Ob) (h6 : Ob) (h7 : Ob) (h8 : Ob) (h9 : Ob) (h10 : Ob) (h11 : Ob) (h12 : Ob) (h13 : Ob) (h14 : Ob) (h15 : Ob) (h16 : Ob) (h17 : Ob) (h18 : Ob) (h19 : Ob) (h20 : Ob) (h21 : Ob) (h22 : Ob) (h23 : Ob) (h24 : Ob) (f : Nat) : ((Int × Int) → Option Rt) → Int × Int → Option Rt := fun k19 => mg_X7_torn_19 p1 p2 h0 h1 h2 h3 h4 h5 h6 h7 h8 h9 h10 h11 h12 h13 h14 h15 h16 h17 h18 h19 h20 h21 h22 h23 h24 (md_X7_torn_50 p1 p2 h0 h1 h2 h3 h4 h5 h6 h7 h8 h9 h10 h11 h12 h13 h14 h15 h16 h17 h18 h19 h20 h21 h22 h23 h24 f k19)
noncomputable def md_X7_torn_19 (p1 : Int) (p2 : Int) (h0 : Ob) (h1 : Ob) (h2 : Ob) (h3 : Ob) (h4 : Ob) (h5 : Ob) (h6 : Ob) (h7 : Ob) (h8 : Ob) (h9 : Ob) (h10 : Ob) (h11 : Ob) (h12 : Ob) (h13 : Ob) (h14 : Ob) (h15 : Ob) (h16 : Ob) (h17 : Ob) (h18 : Ob) (h19 : Ob) (h20 : Ob) (h21 : Ob) (h22 : Ob) (h23 : Ob) (h24 : Ob) (f : Nat) : Int × Int → Option Rt := tlp (lb_X7_torn_19 p1 p2 h0 h1 h2 h3 h4 h5 h6 h7 h8 h9 h10 h11 h12 h13 h14 h15 h16 h17 h18 h19 h20 h21 h22 h23 h24 f) f
theorem eq_X7_torn_19 (p1 : Int) (p2 : Int) (h0 : Ob) (h1 : Ob) (h2 : Ob) (h3 : Ob) (h4 : Ob) (h5 : Ob) (h6 : Ob) (h7 : Ob) (h8 : Ob) (h9 : Ob) (h10 : Ob) (h11 : Ob) (h12 : Ob) (h13 : Ob) (h14 : Ob) (h15 : Ob) (h16 : Ob) (h17 : Ob) (h18 : Ob) (h19 : Ob) (h20 : Ob) (h21 : Ob) (h22 : Ob) (h23 : Ob) (h24 : Ob) (f : Nat) (a : Int × Int) : rw_X7_torn_19 f (en_X7_torn_19 p1 p2 h0 h1 h2 h3 h4 h5 h6 h7 h8 h9 h10 h11 h12 h13 h14 h15 h16 h17 h18 h19 h20 h21 h22 h23 h24 a) = md_X7_torn_19 p1 p2 h0 h1 h2 h3 h4 h5 h6 h7 h8 h9 h10 h11 h12 h13 h14 h15 h16 h17 h18 h19 h20 h21 h22 h23 h24 f a :=
 tlp_enc (en_X7_torn_19 p1 p2 h0 h1 h2 h3 h4 h5 h6 h7 h8 h9 h10 h11 h12 h13 h14 h15 h16 h17 h18 h19 h20 h21 h22 h23 h24) (fun k19 a => (rq_X7_torn_19 p1 p2 h0 h1 h2 h3 h4 h5 h6 h7 h8 h9 h10 h11 h12 h13 h14 h15 h16 h17 h18 h19 h20 h21 h22 h23 h24 (rw_X7_torn_50 f k19) a).trans (congrFun (congr (rfl : mg_X7_torn_19 p1 p2 h0 h1 h2 h3 h4 h5 h6 h7 h8 h9 h10 h11 h12 h13 h14 h15 h16 h17 h18 h19 h20 h21 h22 h23 h24 = mg_X7_torn_19 p1 p2 h0 h1 h2 h3 h4 h5 h6 h7 h8 h9 h10 h11 h12 h13 h14 h15 h16 h17 h18 h19 h20 h21 h22 h23 h24) (funext (eq_X7_torn_50 p1 p2 h0 h1 h2 h3 h4 h5 h6 h7 h8 h9 h10 h11 h12 h13 h14 h15 h16 h17 h18 h19 h20 h21 h22 h23 h24 f k19))) a)) f a
theorem sd_X7_torn_19 (f : Nat) {X : XDyn} {r0 : Rt} (C : XO X mX7_torn) : XS X mX7_torn r0 19 (rw_X7_torn_19 f) := s_lp (fun k19 q19 => sg_X7_torn_19 C (sd_X7_torn_50 f C q19)) f
noncomputable def rw_X7_torn_0 (f : Nat) : XK := rg_X7_torn_0 (rw_X7_torn_19 f)
noncomputable def md_X7_torn_0 (p1 : Int) (p2 : Int) (h0 : Ob) (h1 : Ob) (h2 : Ob) (h3 : Ob) (h4 : Ob) (h5 : Ob) (h6 : Ob) (h7 : Ob) (h8 : Ob) (h9 : Ob) (h10 : Ob) (h11 : Ob) (h12 : Ob) (h13 : Ob) (h14 : Ob) (h15 : Ob) (h16 : Ob) (h17 : Ob) (h18 : Ob) (h19 : Ob) (h20 : Ob) (h21 : Ob) (h22 : Ob) (h23 : Ob) (h24 : Ob) (f : Nat) : Unit → Option Rt := mg_X7_torn_0 p1 p2 h0 h1 h2 h3 h4 h5 h6 h7 h8 h9 h10 h11 h12 h13 h14 h15 h16 h17 h18 h19 h20 h21 h22 h23 h24 (md_X7_torn_19 p1 p2 h0 h1 h2 h3 h4 h5 h6 h7 h8 h9 h10 h11 h12 h13 h14 h15 h16 h17 h18 h19 h20 h21 h22 h23 h24 f)
theorem eq_X7_torn_0 (p1 : Int) (p2 : Int) (h0 : Ob) (h1 : Ob) (h2 : Ob) (h3 : Ob) (h4 : Ob) (h5 : Ob) (h6 : Ob) (h7 : Ob) (h8 : Ob) (h9 : Ob) (h10 : Ob) (h11 : Ob) (h12 : Ob) (h13 : Ob) (h14 : Ob) (h15 : Ob) (h16 : Ob) (h17 : Ob) (h18 : Ob) (h19 : Ob) (h20 : Ob) (h21 : Ob) (h22 : Ob) (h23 : Ob) (h24 : Ob) (f : Nat) (a : Unit) : rw_X7_torn_0 f (en_X7_torn_0 p1 p2 h0 h1 h2 h3 h4 h5 h6 h7 h8 h9 h10 h11 h12 h13 h14 h15 h16 h17 h18 h19 h20 h21 h22 h23 h24 a) = md_X7_torn_0 p1 p2 h0 h1 h2 h3 h4 h5 h6 h7 h8 h9 h10 h11 h12 h13 h14 h15 h16 h17 h18 h19 h20 h21 h22 h23 h24 f a :=
 (rq_X7_torn_0 p1 p2 h0 h1 h2 h3 h4 h5 h6 h7 h8 h9 h10 h11 h12 h13 h14 h15 h16 h17 h18 h19 h20 h21 h22 h23 h24 (rw_X7_torn_19 f) a).trans (congrFun (congr (rfl : mg_X7_torn_0 p1 p2 h0 h1 h2 h3 h4 h5 h6 h7 h8 h9 h10 h11 h12 h13 h14 h15 h16 h17 h18 h19 h20 h21 h22 h23 h24 = mg_X7_torn_0 p1 p2 h0 h1 h2 h3 h4 h5 h6 h7 h8 h9 h10 h11 h12 h13 h14 h15 h16 h17 h18 h19 h20 h21 h22 h23 h24) (funext (eq_X7_torn_19 p1 p2 h0 h1 h2 h3 h4 h5 h6 h7 h8 h9 h10 h11 h12 h13 h14 h15 h16 h17 h18 h19 h20 h21 h22 h23 h24 f))) a)
theorem sd_X7_torn_0 (f : Nat) {X : XDyn} {r0 : Rt} (C : XO X mX7_torn) : XS X mX7_torn r0 0 (rw_X7_torn_0 f) := sg_X7_torn_0 C (sd_X7_torn_19 f C)
theorem ctr_X7_torn (f : Nat) : XCt yX7_torn mX7_torn (xF mX7_torn (rw_X7_torn_0 f)) := xMet (by decide +kernel) rfl (fun _ _ C => sd_X7_torn_0 f C)
theorem eqf_X7_torn (f : Nat) (p1 : Int) (p2 : Int) (h0 : Ob) (h1 : Ob) (h2 : Ob) (h3 : Ob) (h4 : Ob) (h5 : Ob) (h6 : Ob) (h7 : Ob) (h8 : Ob) (h9 : Ob) (h10 : Ob) (h11 : Ob) (h12 : Ob) (h13 : Ob) (h14 : Ob) (h15 : Ob) (h16 : Ob) (h17 : Ob) (h18 : Ob) (h19 : Ob) (h20 : Ob) (h21 : Ob) (h22 : Ob) (h23 : Ob) (h24 : Ob) : xF mX7_torn (rw_X7_torn_0 f) [.inr (.inl (0, 0)), .inl p1, .inl p2] [h0, h1, h2, h3, h4, h5, h6, h7, h8, h9, h10, h11, h12, h13, h14, h15, h16, h17, h18, h19, h20, h21, h22, h23, h24] = md_X7_torn_0 p1 p2 h0 h1 h2 h3 h4 h5 h6 h7 h8 h9 h10 h11 h12 h13 h14 h15 h16 h17 h18 h19 h20 h21 h22 h23 h24 f () := eq_X7_torn_0 p1 p2 h0 h1 h2 h3 h4 h5 h6 h7 h8 h9 h10 h11 h12 h13 h14 h15 h16 h17 h18 h19 h20 h21 h22 h23 h24 f ()
theorem yi_X7_torn : yX7_torn.cls = RX7 ∧ yX7_torn.cls ≠ "java/lang/invoke/MethodHandle" ∧ yX7_torn.cls ≠ "java/lang/invoke/VarHandle" ∧ (parseMethodDescriptor yX7_torn.desc).map (fun d => d.parameters.length) = some 2 := ⟨rfl, by decide +kernel, by decide +kernel, by decide +kernel⟩
theorem dX7_would_0 : decode cX7_would 0 = .ok (.iload_n 1, 1) := by decide +kernel
theorem dX7_would_1 : decode cX7_would 1 = .ok (.invokestatic 266, 3) := by decide +kernel
theorem dX7_would_4 : decode cX7_would 4 = .ok (.ifCond .eq 12, 3) := by decide +kernel
theorem dX7_would_7 : decode cX7_would 7 = .ok (.iload_n 2, 1) := by decide +kernel
theorem dX7_would_8 : decode cX7_would 8 = .ok (.ifCond .lt 8, 3) := by decide +kernel
theorem dX7_would_11 : decode cX7_would 11 = .ok (.iload_n 2, 1) := by decide +kernel
theorem dX7_would_12 : decode cX7_would 12 = .ok (.iconst 4, 1) := by decide +kernel
theorem dX7_would_13 : decode cX7_would 13 = .ok (.if_icmp .le 5, 3) := by decide +kernel
theorem dX7_would_16 : decode cX7_would 16 = .ok (.iconst (-1), 1) := by decide +kernel
theorem dX7_would_17 : decode cX7_would 17 = .ok (.ireturn, 1) := by decide +kernel
theorem dX7_would_18 : decode cX7_would 18 = .ok (.aload_n 0, 1) := by decide +kernel
theorem dX7_would_19 : decode cX7_would 19 = .ok (.getfield 16, 3) := by decide +kernel
theorem dX7_would_22 : decode cX7_would 22 = .ok (.aload_n 0, 1) := by decide +kernel
theorem dX7_would_23 : decode cX7_would 23 = .ok (.getfield 12, 3) := by decide +kernel
theorem dX7_would_26 : decode cX7_would 26 = .ok (.invokevirtual 269, 3) := by decide +kernel
theorem dX7_would_29 : decode cX7_would 29 = .ok (.aload_n 0, 1) := by decide +kernel
theorem dX7_would_30 : decode cX7_would 30 = .ok (.getfield 43, 3) := by decide +kernel
theorem dX7_would_33 : decode cX7_would 33 = .ok (.aload_n 0, 1) := by decide +kernel
theorem dX7_would_34 : decode cX7_would 34 = .ok (.getfield 16, 3) := by decide +kernel
theorem dX7_would_37 : decode cX7_would 37 = .ok (.iload_n 1, 1) := by decide +kernel
theorem dX7_would_38 : decode cX7_would 38 = .ok (.iconst 1, 1) := by decide +kernel
theorem dX7_would_39 : decode cX7_would 39 = .ok (.iadd, 1) := by decide +kernel
theorem dX7_would_40 : decode cX7_would 40 = .ok (.iconst (-1), 1) := by decide +kernel
theorem dX7_would_41 : decode cX7_would 41 = .ok (.invokevirtual 73, 3) := by decide +kernel
theorem dX7_would_44 : decode cX7_would 44 = .ok (.istore_n 3, 1) := by decide +kernel
theorem dX7_would_45 : decode cX7_would 45 = .ok (.iload_n 3, 1) := by decide +kernel
theorem dX7_would_46 : decode cX7_would 46 = .ok (.iconst (-1), 1) := by decide +kernel
theorem dX7_would_47 : decode cX7_would 47 = .ok (.if_icmp .ne 6, 3) := by decide +kernel
theorem dX7_would_50 : decode cX7_would 50 = .ok (.bipush (-2), 2) := by decide +kernel
theorem dX7_would_52 : decode cX7_would 52 = .ok (.ireturn, 1) := by decide +kernel
theorem dX7_would_53 : decode cX7_would 53 = .ok (.iload_n 2, 1) := by decide +kernel
theorem dX7_would_54 : decode cX7_would 54 = .ok (.tableswitch 56 0 3 #[30, 38, 46, 48], 30) := by decide +kernel
theorem dX7_would_84 : decode cX7_would 84 = .ok (.aload_n 0, 1) := by decide +kernel
theorem dX7_would_85 : decode cX7_would 85 = .ok (.getfield 43, 3) := by decide +kernel
theorem dX7_would_88 : decode cX7_would 88 = .ok (.getfield 272, 3) := by decide +kernel
theorem dX7_would_91 : decode cX7_would 91 = .ok (.ireturn, 1) := by decide +kernel
theorem dX7_would_92 : decode cX7_would 92 = .ok (.aload_n 0, 1) := by decide +kernel
theorem dX7_would_93 : decode cX7_would 93 = .ok (.getfield 43, 3) := by decide +kernel
theorem dX7_would_96 : decode cX7_would 96 = .ok (.getfield 275, 3) := by decide +kernel
theorem dX7_would_99 : decode cX7_would 99 = .ok (.ireturn, 1) := by decide +kernel
theorem dX7_would_100 : decode cX7_would 100 = .ok (.iload_n 3, 1) := by decide +kernel
theorem dX7_would_101 : decode cX7_would 101 = .ok (.ireturn, 1) := by decide +kernel
theorem dX7_would_102 : decode cX7_would 102 = .ok (.aload_n 0, 1) := by decide +kernel
theorem dX7_would_103 : decode cX7_would 103 = .ok (.getfield 16, 3) := by decide +kernel
theorem dX7_would_106 : decode cX7_would 106 = .ok (.getfield 201, 3) := by decide +kernel
theorem dX7_would_109 : decode cX7_would 109 = .ok (.ireturn, 1) := by decide +kernel
theorem dX7_would_110 : decode cX7_would 110 = .ok (.aload_n 0, 1) := by decide +kernel
theorem dX7_would_111 : decode cX7_would 111 = .ok (.getfield 43, 3) := by decide +kernel
theorem dX7_would_114 : decode cX7_would 114 = .ok (.getfield 278, 3) := by decide +kernel
theorem dX7_would_117 : decode cX7_would 117 = .ok (.ireturn, 1) := by decide +kernel
abbrev mX7_would : XM := (cX7_would, 4, RX7, (some .int), shw_M, 14)
noncomputable def rg_X7_would_0 : XK :=
 o_iload 1 <|
 o_callS 1 1 [] f_X7_isAsked <|
 o_if_eq (o_iconst (-1) <|
 o_ireturn)
 (o_iload 2 <|
 o_if_lt (o_iconst (-1) <|
 o_ireturn)
 (o_iload 2 <|
 o_iconst 4 <|
 o_icmp_le (o_aload 0 <|
 o_get shw_M 7 1 <|
 o_aload 0 <|
 o_get shw_M 7 0 <|
 o_callV 2 0 [2, 1] f_X3_copyFrom <|
 o_aload 0 <|
 o_get shw_M 7 5 <|
 o_aload 0 <|
 o_get shw_M 7 1 <|
 o_iload 1 <|
 o_iconst 1 <|
 o_iadd <|
 o_iconst (-1) <|
 o_callVg 4 1 [19, 20, 21, 22, 2] g_X2_seek v_X2_seek <|
 o_istore 3 <|
 o_iload 3 <|
 o_iconst (-1) <|
 o_icmp_ne (o_iload 2 <|
 o_sw [(0, o_aload 0 <|
 o_get shw_M 7 5 <|
 o_get shw_M 2 1 <|
 o_ireturn),
 (1, o_aload 0 <|
 o_get shw_M 7 5 <|
 o_get shw_M 2 3 <|
 o_ireturn),
 (2, o_iload 3 <|
 o_ireturn),
 (3, o_aload 0 <|
 o_get shw_M 7 1 <|
 o_get shw_M 3 9 <|
 o_ireturn)]
 (o_aload 0 <|
 o_get shw_M 7 5 <|
 o_get shw_M 2 2 <|
 o_ireturn))
 (o_iconst (-2) <|
 o_ireturn))
 (o_iconst (-1) <|
 o_ireturn)))
def en_X7_would_0 (p1 : Int) (p2 : Int) (h0 : Ob) (h1 : Ob) (h3 : Ob) (h4 : Ob) (h5 : Ob) (h6 : Ob) (h7 : Ob) (h8 : Ob) (h9 : Ob) (h10 : Ob) (h11 : Ob) (h12 : Ob) (h13 : Ob) (h14 : Ob) (h15 : Ob) (h16 : Ob) (h17 : Ob) (h18 : Ob) (h23 : Ob) (h24 : Ob) (a : Ob × Ob × Ob × Ob × Ob) : XSt := ([some (.inr (.inl (0, 0))), some (.inl p1), some (.inl p2), none], [], [h0, h1, a.1, h3, h4, h5, h6, h7, h8, h9, h10, h11, h12, h13, h14, h15, h16, h17, h18, a.2.1, a.2.2.1, a.2.2.2.1, a.2.2.2.2, h23, h24])
noncomputable def mg_X7_would_0 (p1 : Int) (p2 : Int) (h0 : Ob) (h1 : Ob) (h3 : Ob) (h4 : Ob) (h5 : Ob) (h6 : Ob) (h7 : Ob) (h8 : Ob) (h9 : Ob) (h10 : Ob) (h11 : Ob) (h12 : Ob) (h13 : Ob) (h14 : Ob) (h15 : Ob) (h16 : Ob) (h17 : Ob) (h18 : Ob) (h23 : Ob) (h24 : Ob) (a : Ob × Ob × Ob × Ob × Ob) : Option Rt :=
 if xw (bz (ask p1)) = 0 then (RI (-1) [h0, h1, a.1, h3, h4, h5, h6, h7, h8, h9, h10, h11, h12, h13, h14, h15, h16, h17, h18, a.2.1, a.2.2.1, a.2.2.2.1, a.2.2.2.2, h23, h24])
 else (if xw p2 < 0 then (RI (-1) [h0, h1, a.1, h3, h4, h5, h6, h7, h8, h9, h10, h11, h12, h13, h14, h15, h16, h17, h18, a.2.1, a.2.2.1, a.2.2.2.1, a.2.2.2.2, h23, h24])
 else (if xw p2 ≤ 4 then (if pd (LW (cpyO a.1 h1) ∧ Lst (cpyO a.1 h1) ∧ 1 ≤ (p1 + 1) ∧ (p1 + 1) ≤ 200) then (
 if xw ((fsF a.2.1 a.2.2.1 a.2.2.2.1 a.2.2.2.2 (cpyO a.1 h1) (p1 + 1) ((-1) : Int)).1) = (-1) then (RI (-2) [h0, h1, ((fsF a.2.1 a.2.2.1 a.2.2.2.1 a.2.2.2.2 (cpyO a.1 h1) (p1 + 1) ((-1) : Int)).2.2.2.2.2), h3, h4, h5, h6, h7, h8, h9, h10, h11, h12, h13, h14, h15, h16, h17, h18, ((fsF a.2.1 a.2.2.1 a.2.2.2.1 a.2.2.2.2 (cpyO a.1 h1) (p1 + 1) ((-1) : Int)).2.1), ((fsF a.2.1 a.2.2.1 a.2.2.2.1 a.2.2.2.2 (cpyO a.1 h1) (p1 + 1) ((-1) : Int)).2.2.1), ((fsF a.2.1 a.2.2.1 a.2.2.2.1 a.2.2.2.2 (cpyO a.1 h1) (p1 + 1) ((-1) : Int)).2.2.2.1), ((fsF a.2.1 a.2.2.1 a.2.2.2.1 a.2.2.2.2 (cpyO a.1 h1) (p1 + 1) ((-1) : Int)).2.2.2.2.1), h23, h24])
 else (if xw p2 = 0 then (RI (((fsF a.2.1 a.2.2.1 a.2.2.2.1 a.2.2.2.2 (cpyO a.1 h1) (p1 + 1) ((-1) : Int)).2.1) 0 1) [h0, h1, ((fsF a.2.1 a.2.2.1 a.2.2.2.1 a.2.2.2.2 (cpyO a.1 h1) (p1 + 1) ((-1) : Int)).2.2.2.2.2), h3, h4, h5, h6, h7, h8, h9, h10, h11, h12, h13, h14, h15, h16, h17, h18, ((fsF a.2.1 a.2.2.1 a.2.2.2.1 a.2.2.2.2 (cpyO a.1 h1) (p1 + 1) ((-1) : Int)).2.1), ((fsF a.2.1 a.2.2.1 a.2.2.2.1 a.2.2.2.2 (cpyO a.1 h1) (p1 + 1) ((-1) : Int)).2.2.1), ((fsF a.2.1 a.2.2.1 a.2.2.2.1 a.2.2.2.2 (cpyO a.1 h1) (p1 + 1) ((-1) : Int)).2.2.2.1), ((fsF a.2.1 a.2.2.1 a.2.2.2.1 a.2.2.2.2 (cpyO a.1 h1) (p1 + 1) ((-1) : Int)).2.2.2.2.1), h23, h24])
 else if xw p2 = 1 then (RI (((fsF a.2.1 a.2.2.1 a.2.2.2.1 a.2.2.2.2 (cpyO a.1 h1) (p1 + 1) ((-1) : Int)).2.1) 0 3) [h0, h1, ((fsF a.2.1 a.2.2.1 a.2.2.2.1 a.2.2.2.2 (cpyO a.1 h1) (p1 + 1) ((-1) : Int)).2.2.2.2.2), h3, h4, h5, h6, h7, h8, h9, h10, h11, h12, h13, h14, h15, h16, h17, h18, ((fsF a.2.1 a.2.2.1 a.2.2.2.1 a.2.2.2.2 (cpyO a.1 h1) (p1 + 1) ((-1) : Int)).2.1), ((fsF a.2.1 a.2.2.1 a.2.2.2.1 a.2.2.2.2 (cpyO a.1 h1) (p1 + 1) ((-1) : Int)).2.2.1), ((fsF a.2.1 a.2.2.1 a.2.2.2.1 a.2.2.2.2 (cpyO a.1 h1) (p1 + 1) ((-1) : Int)).2.2.2.1), ((fsF a.2.1 a.2.2.1 a.2.2.2.1 a.2.2.2.2 (cpyO a.1 h1) (p1 + 1) ((-1) : Int)).2.2.2.2.1), h23, h24])
 else if xw p2 = 2 then (RI ((fsF a.2.1 a.2.2.1 a.2.2.2.1 a.2.2.2.2 (cpyO a.1 h1) (p1 + 1) ((-1) : Int)).1) [h0, h1, ((fsF a.2.1 a.2.2.1 a.2.2.2.1 a.2.2.2.2 (cpyO a.1 h1) (p1 + 1) ((-1) : Int)).2.2.2.2.2), h3, h4, h5, h6, h7, h8, h9, h10, h11, h12, h13, h14, h15, h16, h17, h18, ((fsF a.2.1 a.2.2.1 a.2.2.2.1 a.2.2.2.2 (cpyO a.1 h1) (p1 + 1) ((-1) : Int)).2.1), ((fsF a.2.1 a.2.2.1 a.2.2.2.1 a.2.2.2.2 (cpyO a.1 h1) (p1 + 1) ((-1) : Int)).2.2.1), ((fsF a.2.1 a.2.2.1 a.2.2.2.1 a.2.2.2.2 (cpyO a.1 h1) (p1 + 1) ((-1) : Int)).2.2.2.1), ((fsF a.2.1 a.2.2.1 a.2.2.2.1 a.2.2.2.2 (cpyO a.1 h1) (p1 + 1) ((-1) : Int)).2.2.2.2.1), h23, h24])
 else if xw p2 = 3 then (RI (((fsF a.2.1 a.2.2.1 a.2.2.2.1 a.2.2.2.2 (cpyO a.1 h1) (p1 + 1) ((-1) : Int)).2.2.2.2.2) 0 9) [h0, h1, ((fsF a.2.1 a.2.2.1 a.2.2.2.1 a.2.2.2.2 (cpyO a.1 h1) (p1 + 1) ((-1) : Int)).2.2.2.2.2), h3, h4, h5, h6, h7, h8, h9, h10, h11, h12, h13, h14, h15, h16, h17, h18, ((fsF a.2.1 a.2.2.1 a.2.2.2.1 a.2.2.2.2 (cpyO a.1 h1) (p1 + 1) ((-1) : Int)).2.1), ((fsF a.2.1 a.2.2.1 a.2.2.2.1 a.2.2.2.2 (cpyO a.1 h1) (p1 + 1) ((-1) : Int)).2.2.1), ((fsF a.2.1 a.2.2.1 a.2.2.2.1 a.2.2.2.2 (cpyO a.1 h1) (p1 + 1) ((-1) : Int)).2.2.2.1), ((fsF a.2.1 a.2.2.1 a.2.2.2.1 a.2.2.2.2 (cpyO a.1 h1) (p1 + 1) ((-1) : Int)).2.2.2.2.1), h23, h24])
 else (RI (((fsF a.2.1 a.2.2.1 a.2.2.2.1 a.2.2.2.2 (cpyO a.1 h1) (p1 + 1) ((-1) : Int)).2.1) 0 2) [h0, h1, ((fsF a.2.1 a.2.2.1 a.2.2.2.1 a.2.2.2.2 (cpyO a.1 h1) (p1 + 1) ((-1) : Int)).2.2.2.2.2), h3, h4, h5, h6, h7, h8, h9, h10, h11, h12, h13, h14, h15, h16, h17, h18, ((fsF a.2.1 a.2.2.1 a.2.2.2.1 a.2.2.2.2 (cpyO a.1 h1) (p1 + 1) ((-1) : Int)).2.1), ((fsF a.2.1 a.2.2.1 a.2.2.2.1 a.2.2.2.2 (cpyO a.1 h1) (p1 + 1) ((-1) : Int)).2.2.1), ((fsF a.2.1 a.2.2.1 a.2.2.2.1 a.2.2.2.2 (cpyO a.1 h1) (p1 + 1) ((-1) : Int)).2.2.2.1), ((fsF a.2.1 a.2.2.1 a.2.2.2.1 a.2.2.2.2 (cpyO a.1 h1) (p1 + 1) ((-1) : Int)).2.2.2.2.1), h23, h24]))) else none)
 else (RI (-1) [h0, h1, a.1, h3, h4, h5, h6, h7, h8, h9, h10, h11, h12, h13, h14, h15, h16, h17, h18, a.2.1, a.2.2.1, a.2.2.2.1, a.2.2.2.2, h23, h24])))
set_option maxRecDepth 100000 in
set_option maxHeartbeats 4000000 in
theorem rq_X7_would_0 (p1 : Int) (p2 : Int) (h0 : Ob) (h1 : Ob) (h3 : Ob) (h4 : Ob) (h5 : Ob) (h6 : Ob) (h7 : Ob) (h8 : Ob) (h9 : Ob) (h10 : Ob) (h11 : Ob) (h12 : Ob) (h13 : Ob) (h14 : Ob) (h15 : Ob) (h16 : Ob) (h17 : Ob) (h18 : Ob) (h23 : Ob) (h24 : Ob) (a : Ob × Ob × Ob × Ob × Ob) : rg_X7_would_0 (en_X7_would_0 p1 p2 h0 h1 h3 h4 h5 h6 h7 h8 h9 h10 h11 h12 h13 h14 h15 h16 h17 h18 h23 h24 a) = mg_X7_would_0 p1 p2 h0 h1 h3 h4 h5 h6 h7 h8 h9 h10 h11 h12 h13 h14 h15 h16 h17 h18 h23 h24 a := rfl
set_option maxRecDepth 100000 in
set_option maxHeartbeats 4000000 in
theorem sg_X7_would_0 {X : XDyn} {r0 : Rt} (C : XO X mX7_would) : XS X mX7_would r0 0 (rg_X7_would_0) := by
 unfold rg_X7_would_0
 exact s_iload_n (pc := 0) C dX7_would_0 rfl <|
    s_callS (pc := 1) C ct_X7_isAsked (n := 1) (rk := 1) (mp := []) ⟨rfl, by decide, rfl⟩ (by decide) (by decide) ⟨rfl, yi_X7_isAsked⟩ wd_807 wd_808 wd_73 wd_809 dX7_would_1 <|
    s_if_eq (pc := 4) C dX7_would_4 (by decide) (s_iconst (pc := 16) C dX7_would_16 <|
    s_ireturn (pc := 17) C rfl dX7_would_17)
    (s_iload_n (pc := 7) C dX7_would_7 rfl <|
    s_if_lt (pc := 8) C dX7_would_8 (by decide) (s_iconst (pc := 16) C dX7_would_16 <|
    s_ireturn (pc := 17) C rfl dX7_would_17)
    (s_iload_n (pc := 11) C dX7_would_11 rfl <|
    s_iconst (pc := 12) C dX7_would_12 <|
    s_icmp_le (pc := 13) C dX7_would_13 (by decide) (s_aload_n (pc := 18) C dX7_would_18 rfl <|
    s_get (pc := 19) C (ci := 7) (kf := 1) rfl inX7 (by decide) wd_313 dX7_would_19 <|
    s_aload_n (pc := 22) C dX7_would_22 rfl <|
    s_get (pc := 23) C (ci := 7) (kf := 0) rfl inX7 (by decide) wd_312 dX7_would_23 <|
    s_callV (pc := 26) C ct_X3_copyFrom (n := 2) (rk := 0) (mp := [2, 1]) ⟨rfl, by decide, rfl⟩ (ci := 3) rfl rfl (by decide) (by decide) yi_X3_copyFrom (by decide) wd_810 wd_372 wd_373 wd_74 wd_374 dX7_would_26 <|
    s_aload_n (pc := 29) C dX7_would_29 rfl <|
    s_get (pc := 30) C (ci := 7) (kf := 5) rfl inX7 (by decide) wd_317 dX7_would_30 <|
    s_aload_n (pc := 33) C dX7_would_33 rfl <|
    s_get (pc := 34) C (ci := 7) (kf := 1) rfl inX7 (by decide) wd_313 dX7_would_34 <|
    s_iload_n (pc := 37) C dX7_would_37 rfl <|
    s_iconst (pc := 38) C dX7_would_38 <|
    s_iadd (pc := 39) C dX7_would_39 <|
    s_iconst (pc := 40) C dX7_would_40 <|
    s_callVg (pc := 41) C ct_X2_seek (n := 4) (rk := 1) (mp := [19, 20, 21, 22, 2]) ⟨rfl, by decide, rfl⟩ (ci := 2) rfl rfl (by decide) (by decide) yi_X2_seek (by decide) wd_378 wd_379 wd_380 wd_78 wd_381 dX7_would_41 <|
    s_istore_n (pc := 44) C dX7_would_44 rfl <|
    s_iload_n (pc := 45) C dX7_would_45 rfl <|
    s_iconst (pc := 46) C dX7_would_46 <|
    s_icmp_ne (pc := 47) C dX7_would_47 (by decide) (s_iload_n (pc := 53) C dX7_would_53 rfl <|
    s_tsw (pc := 54) C dX7_would_54 _ (by decide) (s_aload_n (pc := 110) C dX7_would_110 rfl <|
    s_get (pc := 111) C (ci := 7) (kf := 5) rfl inX7 (by decide) wd_317 dX7_would_111 <|
    s_get (pc := 114) C (ci := 2) (kf := 2) rfl inX2 (by decide) wd_281 dX7_would_114 <|
    s_ireturn (pc := 117) C rfl dX7_would_117) (List.forall_mem_cons.mpr ⟨⟨by decide, by decide, 30, 84, rfl, by decide, s_aload_n (pc := 84) C dX7_would_84 rfl <|
    s_get (pc := 85) C (ci := 7) (kf := 5) rfl inX7 (by decide) wd_317 dX7_would_85 <|
    s_get (pc := 88) C (ci := 2) (kf := 1) rfl inX2 (by decide) wd_279 dX7_would_88 <|
    s_ireturn (pc := 91) C rfl dX7_would_91⟩, (List.forall_mem_cons.mpr ⟨⟨by decide, by decide, 38, 92, rfl, by decide, s_aload_n (pc := 92) C dX7_would_92 rfl <|
    s_get (pc := 93) C (ci := 7) (kf := 5) rfl inX7 (by decide) wd_317 dX7_would_93 <|
    s_get (pc := 96) C (ci := 2) (kf := 3) rfl inX2 (by decide) wd_283 dX7_would_96 <|
    s_ireturn (pc := 99) C rfl dX7_would_99⟩, (List.forall_mem_cons.mpr ⟨⟨by decide, by decide, 46, 100, rfl, by decide, s_iload_n (pc := 100) C dX7_would_100 rfl <|
    s_ireturn (pc := 101) C rfl dX7_would_101⟩, (List.forall_mem_cons.mpr ⟨⟨by decide, by decide, 48, 102, rfl, by decide, s_aload_n (pc := 102) C dX7_would_102 rfl <|
    s_get (pc := 103) C (ci := 7) (kf := 1) rfl inX7 (by decide) wd_313 dX7_would_103 <|
    s_get (pc := 106) C (ci := 3) (kf := 9) rfl inX3 (by decide) wd_128 dX7_would_106 <|
    s_ireturn (pc := 109) C rfl dX7_would_109⟩, (fun _ z => absurd z List.not_mem_nil)⟩)⟩)⟩)⟩) (fun v h1 h2 => by
     have hv : v = 0 ∨ v = 1 ∨ v = 2 ∨ v = 3 := by omega
     rcases hv with rfl | rfl | rfl | rfl <;> simp))
    (s_bipush (pc := 50) C dX7_would_50 (by decide) <|
    s_ireturn (pc := 52) C rfl dX7_would_52))
    (s_iconst (pc := 16) C dX7_would_16 <|
    s_ireturn (pc := 17) C rfl dX7_would_17)))
noncomputable def rw_X7_would_0 : XK := rg_X7_would_0
noncomputable def md_X7_would_0 (p1 : Int) (p2 : Int) (h0 : Ob) (h1 : Ob) (h3 : Ob) (h4 : Ob) (h5 : Ob) (h6 : Ob) (h7 : Ob) (h8 : Ob) (h9 : Ob) (h10 : Ob) (h11 : Ob) (h12 : Ob) (h13 : Ob) (h14 : Ob) (h15 : Ob) (h16 : Ob) (h17 : Ob) (h18 : Ob) (h23 : Ob) (h24 : Ob) : Ob × Ob × Ob × Ob × Ob → Option Rt := mg_X7_would_0 p1 p2 h0 h1 h3 h4 h5 h6 h7 h8 h9 h10 h11 h12 h13 h14 h15 h16 h17 h18 h23 h24
theorem eq_X7_would_0 (p1 : Int) (p2 : Int) (h0 : Ob) (h1 : Ob) (h3 : Ob) (h4 : Ob) (h5 : Ob) (h6 : Ob) (h7 : Ob) (h8 : Ob) (h9 : Ob) (h10 : Ob) (h11 : Ob) (h12 : Ob) (h13 : Ob) (h14 : Ob) (h15 : Ob) (h16 : Ob) (h17 : Ob) (h18 : Ob) (h23 : Ob) (h24 : Ob) (a : Ob × Ob × Ob × Ob × Ob) : rw_X7_would_0 (en_X7_would_0 p1 p2 h0 h1 h3 h4 h5 h6 h7 h8 h9 h10 h11 h12 h13 h14 h15 h16 h17 h18 h23 h24 a) = md_X7_would_0 p1 p2 h0 h1 h3 h4 h5 h6 h7 h8 h9 h10 h11 h12 h13 h14 h15 h16 h17 h18 h23 h24 a :=
 rq_X7_would_0 p1 p2 h0 h1 h3 h4 h5 h6 h7 h8 h9 h10 h11 h12 h13 h14 h15 h16 h17 h18 h23 h24 a
theorem sd_X7_would_0 {X : XDyn} {r0 : Rt} (C : XO X mX7_would) : XS X mX7_would r0 0 (rw_X7_would_0) := sg_X7_would_0 C
theorem ctr_X7_would : XCt yX7_would mX7_would (xF mX7_would (rw_X7_would_0)) := xMet (by decide +kernel) rfl (fun _ _ C => sd_X7_would_0 C)
theorem eqf_X7_would (p1 : Int) (p2 : Int) (h0 : Ob) (h1 : Ob) (h2 : Ob) (h3 : Ob) (h4 : Ob) (h5 : Ob) (h6 : Ob) (h7 : Ob) (h8 : Ob) (h9 : Ob) (h10 : Ob) (h11 : Ob) (h12 : Ob) (h13 : Ob) (h14 : Ob) (h15 : Ob) (h16 : Ob) (h17 : Ob) (h18 : Ob) (h19 : Ob) (h20 : Ob) (h21 : Ob) (h22 : Ob) (h23 : Ob) (h24 : Ob) : xF mX7_would (rw_X7_would_0) [.inr (.inl (0, 0)), .inl p1, .inl p2] [h0, h1, h2, h3, h4, h5, h6, h7, h8, h9, h10, h11, h12, h13, h14, h15, h16, h17, h18, h19, h20, h21, h22, h23, h24] = md_X7_would_0 p1 p2 h0 h1 h3 h4 h5 h6 h7 h8 h9 h10 h11 h12 h13 h14 h15 h16 h17 h18 h23 h24 (h2, h19, h20, h21, h22) := eq_X7_would_0 p1 p2 h0 h1 h3 h4 h5 h6 h7 h8 h9 h10 h11 h12 h13 h14 h15 h16 h17 h18 h23 h24 (h2, h19, h20, h21, h22)
theorem yi_X7_would : yX7_would.cls = RX7 ∧ yX7_would.cls ≠ "java/lang/invoke/MethodHandle" ∧ yX7_would.cls ≠ "java/lang/invoke/VarHandle" ∧ (parseMethodDescriptor yX7_would.desc).map (fun d => d.parameters.length) = some 2 := ⟨rfl, by decide +kernel, by decide +kernel, by decide +kernel⟩
