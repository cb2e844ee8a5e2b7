theorem dX7_handle_0 : decode cX7_handle 0 = .ok (.iload_n 2, 1) := by decide +kernel
theorem dX7_handle_1 : decode cX7_handle 1 = .ok (.ifCond .ne 19, 3) := by decide +kernel
theorem dX7_handle_4 : decode cX7_handle 4 = .ok (.iload_n 1, 1) := by decide +kernel
theorem dX7_handle_5 : decode cX7_handle 5 = .ok (.invokestatic 183, 3) := by decide +kernel
theorem dX7_handle_8 : decode cX7_handle 8 = .ok (.ifCond .eq 12, 3) := by decide +kernel
theorem dX7_handle_11 : decode cX7_handle 11 = .ok (.aload_n 0, 1) := by decide +kernel
theorem dX7_handle_12 : decode cX7_handle 12 = .ok (.getfield 12, 3) := by decide +kernel
theorem dX7_handle_15 : decode cX7_handle 15 = .ok (.iload_n 1, 1) := by decide +kernel
theorem dX7_handle_16 : decode cX7_handle 16 = .ok (.invokevirtual 138, 3) := by decide +kernel
theorem dX7_handle_19 : decode cX7_handle 19 = .ok (.ireturn, 1) := by decide +kernel
theorem dX7_handle_20 : decode cX7_handle 20 = .ok (.aload_n 0, 1) := by decide +kernel
theorem dX7_handle_21 : decode cX7_handle 21 = .ok (.getfield 12, 3) := by decide +kernel
theorem dX7_handle_24 : decode cX7_handle 24 = .ok (.iload_n 1, 1) := by decide +kernel
theorem dX7_handle_25 : decode cX7_handle 25 = .ok (.invokevirtual 105, 3) := by decide +kernel
theorem dX7_handle_28 : decode cX7_handle 28 = .ok (.ifCond .ne 5, 3) := by decide +kernel
theorem dX7_handle_31 : decode cX7_handle 31 = .ok (.iconst (-1), 1) := by decide +kernel
theorem dX7_handle_32 : decode cX7_handle 32 = .ok (.ireturn, 1) := by decide +kernel
theorem dX7_handle_33 : decode cX7_handle 33 = .ok (.iload_n 2, 1) := by decide +kernel
theorem dX7_handle_34 : decode cX7_handle 34 = .ok (.tableswitch 132 1 8 #[46, 56, 66, 76, 93, 103, 113, 122], 46) := by decide +kernel
theorem dX7_handle_80 : decode cX7_handle 80 = .ok (.aload_n 0, 1) := by decide +kernel
theorem dX7_handle_81 : decode cX7_handle 81 = .ok (.getfield 12, 3) := by decide +kernel
theorem dX7_handle_84 : decode cX7_handle 84 = .ok (.getfield 119, 3) := by decide +kernel
theorem dX7_handle_87 : decode cX7_handle 87 = .ok (.iload_n 1, 1) := by decide +kernel
theorem dX7_handle_88 : decode cX7_handle 88 = .ok (.iaload, 1) := by decide +kernel
theorem dX7_handle_89 : decode cX7_handle 89 = .ok (.ireturn, 1) := by decide +kernel
theorem dX7_handle_90 : decode cX7_handle 90 = .ok (.aload_n 0, 1) := by decide +kernel
theorem dX7_handle_91 : decode cX7_handle 91 = .ok (.getfield 12, 3) := by decide +kernel
theorem dX7_handle_94 : decode cX7_handle 94 = .ok (.getfield 132, 3) := by decide +kernel
theorem dX7_handle_97 : decode cX7_handle 97 = .ok (.iload_n 1, 1) := by decide +kernel
theorem dX7_handle_98 : decode cX7_handle 98 = .ok (.iaload, 1) := by decide +kernel
theorem dX7_handle_99 : decode cX7_handle 99 = .ok (.ireturn, 1) := by decide +kernel
theorem dX7_handle_100 : decode cX7_handle 100 = .ok (.aload_n 0, 1) := by decide +kernel
theorem dX7_handle_101 : decode cX7_handle 101 = .ok (.getfield 12, 3) := by decide +kernel
theorem dX7_handle_104 : decode cX7_handle 104 = .ok (.getfield 108, 3) := by decide +kernel
theorem dX7_handle_107 : decode cX7_handle 107 = .ok (.iload_n 1, 1) := by decide +kernel
theorem dX7_handle_108 : decode cX7_handle 108 = .ok (.iaload, 1) := by decide +kernel
theorem dX7_handle_109 : decode cX7_handle 109 = .ok (.ireturn, 1) := by decide +kernel
theorem dX7_handle_110 : decode cX7_handle 110 = .ok (.aload_n 0, 1) := by decide +kernel
theorem dX7_handle_111 : decode cX7_handle 111 = .ok (.getfield 12, 3) := by decide +kernel
theorem dX7_handle_114 : decode cX7_handle 114 = .ok (.iload_n 1, 1) := by decide +kernel
theorem dX7_handle_115 : decode cX7_handle 115 = .ok (.invokevirtual 122, 3) := by decide +kernel
theorem dX7_handle_118 : decode cX7_handle 118 = .ok (.ifCond .eq 7, 3) := by decide +kernel
theorem dX7_handle_121 : decode cX7_handle 121 = .ok (.iconst 1, 1) := by decide +kernel
theorem dX7_handle_122 : decode cX7_handle 122 = .ok (.goto 4, 3) := by decide +kernel
theorem dX7_handle_125 : decode cX7_handle 125 = .ok (.iconst 0, 1) := by decide +kernel
theorem dX7_handle_126 : decode cX7_handle 126 = .ok (.ireturn, 1) := by decide +kernel
theorem dX7_handle_127 : decode cX7_handle 127 = .ok (.aload_n 0, 1) := by decide +kernel
theorem dX7_handle_128 : decode cX7_handle 128 = .ok (.getfield 12, 3) := by decide +kernel
theorem dX7_handle_131 : decode cX7_handle 131 = .ok (.getfield 145, 3) := by decide +kernel
theorem dX7_handle_134 : decode cX7_handle 134 = .ok (.iload_n 1, 1) := by decide +kernel
theorem dX7_handle_135 : decode cX7_handle 135 = .ok (.iaload, 1) := by decide +kernel
theorem dX7_handle_136 : decode cX7_handle 136 = .ok (.ireturn, 1) := by decide +kernel
theorem dX7_handle_137 : decode cX7_handle 137 = .ok (.aload_n 0, 1) := by decide +kernel
theorem dX7_handle_138 : decode cX7_handle 138 = .ok (.getfield 12, 3) := by decide +kernel
theorem dX7_handle_141 : decode cX7_handle 141 = .ok (.getfield 186, 3) := by decide +kernel
theorem dX7_handle_144 : decode cX7_handle 144 = .ok (.iload_n 1, 1) := by decide +kernel
theorem dX7_handle_145 : decode cX7_handle 145 = .ok (.iaload, 1) := by decide +kernel
theorem dX7_handle_146 : decode cX7_handle 146 = .ok (.ireturn, 1) := by decide +kernel
theorem dX7_handle_147 : decode cX7_handle 147 = .ok (.aload_n 0, 1) := by decide +kernel
theorem dX7_handle_148 : decode cX7_handle 148 = .ok (.getfield 12, 3) := by decide +kernel
theorem dX7_handle_151 : decode cX7_handle 151 = .ok (.iload_n 1, 1) := by decide +kernel
theorem dX7_handle_152 : decode cX7_handle 152 = .ok (.invokevirtual 189, 3) := by decide +kernel
theorem dX7_handle_155 : decode cX7_handle 155 = .ok (.ireturn, 1) := by decide +kernel
theorem dX7_handle_156 : decode cX7_handle 156 = .ok (.aload_n 0, 1) := by decide +kernel
theorem dX7_handle_157 : decode cX7_handle 157 = .ok (.getfield 12, 3) := by decide +kernel
theorem dX7_handle_160 : decode cX7_handle 160 = .ok (.getfield 135, 3) := by decide +kernel
theorem dX7_handle_163 : decode cX7_handle 163 = .ok (.iload_n 1, 1) := by decide +kernel
theorem dX7_handle_164 : decode cX7_handle 164 = .ok (.iaload, 1) := by decide +kernel
theorem dX7_handle_165 : decode cX7_handle 165 = .ok (.ireturn, 1) := by decide +kernel
theorem dX7_handle_166 : decode cX7_handle 166 = .ok (.iconst (-1), 1) := by decide +kernel
theorem dX7_handle_167 : decode cX7_handle 167 = .ok (.ireturn, 1) := by decide +kernel
abbrev mX7_handle : XM := (cX7_handle, 3, RX7, (some .int), shw_M, 3)
noncomputable def rg_X7_handle_0 (k20 : XK) : XK :=
 o_iload 2 <|
 o_if_ne (o_cut [] k20)
 (o_iload 1 <|
 o_callS 1 1 [] f_X7_isHandle <|
 o_if_eq (o_cut [] k20)
 (o_aload 0 <|
 o_get shw_M 7 0 <|
 o_iload 1 <|
 o_callV 2 1 [1] f_X3_kindOf <|
 o_ireturn))
def en_X7_handle_0 (p1 : Int) (p2 : Int) (h0 : Ob) (h1 : Ob) (h2 : Ob) (h3 : Ob) (h4 : Ob) (h5 : Ob) (h6 : Ob) (h7 : Ob) (h8 : Ob) (h9 : Ob) (h10 : Ob) (h11 : Ob) (h12 : Ob) (h13 : Ob) (h14 : Ob) (h15 : Ob) (h16 : Ob) (h17 : Ob) (h18 : Ob) (h19 : Ob) (h20 : Ob) (h21 : Ob) (h22 : Ob) (h23 : Ob) (h24 : Ob) (a : Unit) : XSt := ([some (.inr (.inl (0, 0))), some (.inl p1), some (.inl p2)], [], [h0, h1, h2, h3, h4, h5, h6, h7, h8, h9, h10, h11, h12, h13, h14, h15, h16, h17, h18, h19, h20, h21, h22, h23, h24])
noncomputable def rg_X7_handle_20 : XK :=
 o_aload 0 <|
 o_get shw_M 7 0 <|
 o_iload 1 <|
 o_callV 2 1 [1] f_X3_isUsed <|
 o_if_ne (o_iload 2 <|
 o_sw [(1, o_aload 0 <|
 o_get shw_M 7 0 <|
 o_get shw_M 3 0 <|
 o_iload 1 <|
 o_iald shw_M <|
 o_ireturn),
 (2, o_aload 0 <|
 o_get shw_M 7 0 <|
 o_get shw_M 3 1 <|
 o_iload 1 <|
 o_iald shw_M <|
 o_ireturn),
 (3, o_aload 0 <|
 o_get shw_M 7 0 <|
 o_get shw_M 3 3 <|
 o_iload 1 <|
 o_iald shw_M <|
 o_ireturn),
 (4, o_aload 0 <|
 o_get shw_M 7 0 <|
 o_iload 1 <|
 o_callV 2 1 [1] f_X3_isPurgeable <|
 o_if_eq (o_iconst 0 <|
 o_ireturn)
 (o_iconst 1 <|
 o_ireturn)),
 (5, o_aload 0 <|
 o_get shw_M 7 0 <|
 o_get shw_M 3 5 <|
 o_iload 1 <|
 o_iald shw_M <|
 o_ireturn),
 (6, o_aload 0 <|
 o_get shw_M 7 0 <|
 o_get shw_M 3 6 <|
 o_iload 1 <|
 o_iald shw_M <|
 o_ireturn),
 (7, o_aload 0 <|
 o_get shw_M 7 0 <|
 o_iload 1 <|
 o_callV 2 1 [1] f_X3_worthOf <|
 o_ireturn),
 (8, o_aload 0 <|
 o_get shw_M 7 0 <|
 o_get shw_M 3 4 <|
 o_iload 1 <|
 o_iald shw_M <|
 o_ireturn)]
 (o_iconst (-1) <|
 o_ireturn))
 (o_iconst (-1) <|
 o_ireturn)
def en_X7_handle_20 (p1 : Int) (p2 : Int) (h0 : Ob) (h1 : Ob) (h2 : Ob) (h3 : Ob) (h4 : Ob) (h5 : Ob) (h6 : Ob) (h7 : Ob) (h8 : Ob) (h9 : Ob) (h10 : Ob) (h11 : Ob) (h12 : Ob) (h13 : Ob) (h14 : Ob) (h15 : Ob) (h16 : Ob) (h17 : Ob) (h18 : Ob) (h19 : Ob) (h20 : Ob) (h21 : Ob) (h22 : Ob) (h23 : Ob) (h24 : Ob) (a : Unit) : XSt := ([some (.inr (.inl (0, 0))), some (.inl p1), some (.inl p2)], [], [h0, h1, h2, h3, h4, h5, h6, h7, h8, h9, h10, h11, h12, h13, h14, h15, h16, h17, h18, h19, h20, h21, h22, h23, h24])
noncomputable def mg_X7_handle_0 (p1 : Int) (p2 : Int) (h0 : Ob) (h1 : Ob) (h2 : Ob) (h3 : Ob) (h4 : Ob) (h5 : Ob) (h6 : Ob) (h7 : Ob) (h8 : Ob) (h9 : Ob) (h10 : Ob) (h11 : Ob) (h12 : Ob) (h13 : Ob) (h14 : Ob) (h15 : Ob) (h16 : Ob) (h17 : Ob) (h18 : Ob) (h19 : Ob) (h20 : Ob) (h21 : Ob) (h22 : Ob) (h23 : Ob) (h24 : Ob) (k20 : Unit → Option Rt) (a : Unit) : Option Rt :=
 if xw p2 = 0 then (if xw (bz (hdl p1)) = 0 then (k20 ())
 else (RI (knd h1 p1) [h0, h1, h2, h3, h4, h5, h6, h7, h8, h9, h10, h11, h12, h13, h14, h15, h16, h17, h18, h19, h20, h21, h22, h23, h24]))
 else (k20 ())
set_option maxRecDepth 100000 in
set_option maxHeartbeats 4000000 in
theorem rq_X7_handle_0 (p1 : Int) (p2 : Int) (h0 : Ob) (h1 : Ob) (h2 : Ob) (h3 : Ob) (h4 : Ob) (h5 : Ob) (h6 : Ob) (h7 : Ob) (h8 : Ob) (h9 : Ob) (h10 : Ob) (h11 : Ob) (h12 : Ob) (h13 : Ob) (h14 : Ob) (h15 : Ob) (h16 : Ob) (h17 : Ob) (h18 : Ob) (h19 : Ob) (h20 : Ob) (h21 : Ob) (h22 : Ob) (h23 : Ob) (h24 : Ob) (k20 : XK) (a : Unit) : rg_X7_handle_0 k20 (en_X7_handle_0 p1 p2 h0 h1 h2 h3 h4 h5 h6 h7 h8 h9 h10 h11 h12 h13 h14 h15 h16 h17 h18 h19 h20 h21 h22 h23 h24 a) = mg_X7_handle_0 p1 p2 h0 h1 h2 h3 h4 h5 h6 h7 h8 h9 h10 h11 h12 h13 h14 h15 h16 h17 h18 h19 h20 h21 h22 h23 h24 (fun b => k20 (en_X7_handle_20 p1 p2 h0 h1 h2 h3 h4 h5 h6 h7 h8 h9 h10 h11 h12 h13 h14 h15 h16 h17 h18 h19 h20 h21 h22 h23 h24 b)) a := rfl
set_option maxRecDepth 100000 in
set_option maxHeartbeats 4000000 in
theorem sg_X7_handle_0 {X : XDyn} {r0 : Rt} (C : XO X mX7_handle) {k20 : XK} (q20 : XS X mX7_handle r0 20 k20) : XS X mX7_handle r0 0 (rg_X7_handle_0 k20) := by
 unfold rg_X7_handle_0
 exact s_iload_n (pc := 0) C dX7_handle_0 rfl <|
    s_if_ne (pc := 1) C dX7_handle_1 (by decide) (s_cut q20)
    (s_iload_n (pc := 4) C dX7_handle_4 rfl <|
    s_callS (pc := 5) C ct_X7_isHandle (n := 1) (rk := 1) (mp := []) ⟨rfl, by decide, rfl⟩ (by decide) (by decide) ⟨rfl, yi_X7_isHandle⟩ wd_546 wd_383 wd_73 wd_384 dX7_handle_5 <|
    s_if_eq (pc := 8) C dX7_handle_8 (by decide) (s_cut q20)
    (s_aload_n (pc := 11) C dX7_handle_11 rfl <|
    s_get (pc := 12) C (ci := 7) (kf := 0) rfl inX7 (by decide) wd_312 dX7_handle_12 <|
    s_iload_n (pc := 15) C dX7_handle_15 rfl <|
    s_callV (pc := 16) C ct_X3_kindOf (n := 2) (rk := 1) (mp := [1]) ⟨rfl, by decide, rfl⟩ (ci := 3) rfl rfl (by decide) (by decide) yi_X3_kindOf (by decide) wd_634 wd_635 wd_636 wd_74 wd_637 dX7_handle_16 <|
    s_ireturn (pc := 19) C rfl dX7_handle_19))
noncomputable def mg_X7_handle_20 (p1 : Int) (p2 : Int) (h0 : Ob) (h1 : Ob) (h2 : Ob) (h3 : Ob) (h4 : Ob) (h5 : Ob) (h6 : Ob) (h7 : Ob) (h8 : Ob) (h9 : Ob) (h10 : Ob) (h11 : Ob) (h12 : Ob) (h13 : Ob) (h14 : Ob) (h15 : Ob) (h16 : Ob) (h17 : Ob) (h18 : Ob) (h19 : Ob) (h20 : Ob) (h21 : Ob) (h22 : Ob) (h23 : Ob) (h24 : Ob) (a : Unit) : Option Rt :=
 if xw (bz (inS (h1 0 7) p1)) = 0 then (RI (-1) [h0, h1, h2, h3, h4, h5, h6, h7, h8, h9, h10, h11, h12, h13, h14, h15, h16, h17, h18, h19, h20, h21, h22, h23, h24])
 else (if xw p2 = 1 then (if xin p1 11 then (
 RI (h1 1 (xw p1).toNat) [h0, h1, h2, h3, h4, h5, h6, h7, h8, h9, h10, h11, h12, h13, h14, h15, h16, h17, h18, h19, h20, h21, h22, h23, h24]) else none)
 else if xw p2 = 2 then (if xin p1 11 then (
 RI (h1 2 (xw p1).toNat) [h0, h1, h2, h3, h4, h5, h6, h7, h8, h9, h10, h11, h12, h13, h14, h15, h16, h17, h18, h19, h20, h21, h22, h23, h24]) else none)
 else if xw p2 = 3 then (if xin p1 8 then (
 RI (h1 4 (xw p1).toNat) [h0, h1, h2, h3, h4, h5, h6, h7, h8, h9, h10, h11, h12, h13, h14, h15, h16, h17, h18, h19, h20, h21, h22, h23, h24]) else none)
 else if xw p2 = 4 then (if xw (bz (inS (h1 0 8) p1)) = 0 then (RI 0 [h0, h1, h2, h3, h4, h5, h6, h7, h8, h9, h10, h11, h12, h13, h14, h15, h16, h17, h18, h19, h20, h21, h22, h23, h24])
 else (RI 1 [h0, h1, h2, h3, h4, h5, h6, h7, h8, h9, h10, h11, h12, h13, h14, h15, h16, h17, h18, h19, h20, h21, h22, h23, h24]))
 else if xw p2 = 5 then (if xin p1 8 then (
 RI (h1 6 (xw p1).toNat) [h0, h1, h2, h3, h4, h5, h6, h7, h8, h9, h10, h11, h12, h13, h14, h15, h16, h17, h18, h19, h20, h21, h22, h23, h24]) else none)
 else if xw p2 = 6 then (if xin p1 8 then (
 RI (h1 7 (xw p1).toNat) [h0, h1, h2, h3, h4, h5, h6, h7, h8, h9, h10, h11, h12, h13, h14, h15, h16, h17, h18, h19, h20, h21, h22, h23, h24]) else none)
 else if xw p2 = 7 then (RI (wrt h1 p1) [h0, h1, h2, h3, h4, h5, h6, h7, h8, h9, h10, h11, h12, h13, h14, h15, h16, h17, h18, h19, h20, h21, h22, h23, h24])
 else if xw p2 = 8 then (if xin p1 8 then (
 RI (h1 5 (xw p1).toNat) [h0, h1, h2, h3, h4, h5, h6, h7, h8, h9, h10, h11, h12, h13, h14, h15, h16, h17, h18, h19, h20, h21, h22, h23, h24]) else none)
 else (RI (-1) [h0, h1, h2, h3, h4, h5, h6, h7, h8, h9, h10, h11, h12, h13, h14, h15, h16, h17, h18, h19, h20, h21, h22, h23, h24]))
set_option maxRecDepth 100000 in
set_option maxHeartbeats 4000000 in
theorem rq_X7_handle_20 (p1 : Int) (p2 : Int) (h0 : Ob) (h1 : Ob) (h2 : Ob) (h3 : Ob) (h4 : Ob) (h5 : Ob) (h6 : Ob) (h7 : Ob) (h8 : Ob) (h9 : Ob) (h10 : Ob) (h11 : Ob) (h12 : Ob) (h13 : Ob) (h14 : Ob) (h15 : Ob) (h16 : Ob) (h17 : Ob) (h18 : Ob) (h19 : Ob) (h20 : Ob) (h21 : Ob) (h22 : Ob) (h23 : Ob) (h24 : Ob) (a : Unit) : rg_X7_handle_20 (en_X7_handle_20 p1 p2 h0 h1 h2 h3 h4 h5 h6 h7 h8 h9 h10 h11 h12 h13 h14 h15 h16 h17 h18 h19 h20 h21 h22 h23 h24 a) = mg_X7_handle_20 p1 p2 h0 h1 h2 h3 h4 h5 h6 h7 h8 h9 h10 h11 h12 h13 h14 h15 h16 h17 h18 h19 h20 h21 h22 h23 h24 a := rfl
set_option maxRecDepth 100000 in
set_option maxHeartbeats 4000000 in
theorem sg_X7_handle_20 {X : XDyn} {r0 : Rt} (C : XO X mX7_handle) : XS X mX7_handle r0 20 (rg_X7_handle_20) := by
 unfold rg_X7_handle_20
 exact s_aload_n (pc := 20) C dX7_handle_20 rfl <|
    s_get (pc := 21) C (ci := 7) (kf := 0) rfl inX7 (by decide) wd_312 dX7_handle_21 <|
    s_iload_n (pc := 24) C dX7_handle_24 rfl <|
    s_callV (pc := 25) C ct_X3_isUsed (n := 2) (rk := 1) (mp := [1]) ⟨rfl, by decide, rfl⟩ (ci := 3) rfl rfl (by decide) (by decide) yi_X3_isUsed (by decide) wd_588 wd_351 wd_352 wd_74 wd_353 dX7_handle_25 <|
    s_if_ne (pc := 28) C dX7_handle_28 (by decide) (s_iload_n (pc := 33) C dX7_handle_33 rfl <|
    s_tsw (pc := 34) C dX7_handle_34 _ (by decide) (s_iconst (pc := 166) C dX7_handle_166 <|
    s_ireturn (pc := 167) C rfl dX7_handle_167) (List.forall_mem_cons.mpr ⟨⟨by decide, by decide, 46, 80, rfl, by decide, s_aload_n (pc := 80) C dX7_handle_80 rfl <|
    s_get (pc := 81) C (ci := 7) (kf := 0) rfl inX7 (by decide) wd_312 dX7_handle_81 <|
    s_get (pc := 84) C (ci := 3) (kf := 0) rfl inX3 (by decide) wd_104 dX7_handle_84 <|
    s_iload_n (pc := 87) C dX7_handle_87 rfl <|
    s_iald (pc := 88) C dX7_handle_88 <|
    s_ireturn (pc := 89) C rfl dX7_handle_89⟩, (List.forall_mem_cons.mpr ⟨⟨by decide, by decide, 56, 90, rfl, by decide, s_aload_n (pc := 90) C dX7_handle_90 rfl <|
    s_get (pc := 91) C (ci := 7) (kf := 0) rfl inX7 (by decide) wd_312 dX7_handle_91 <|
    s_get (pc := 94) C (ci := 3) (kf := 1) rfl inX3 (by decide) wd_110 dX7_handle_94 <|
    s_iload_n (pc := 97) C dX7_handle_97 rfl <|
    s_iald (pc := 98) C dX7_handle_98 <|
    s_ireturn (pc := 99) C rfl dX7_handle_99⟩, (List.forall_mem_cons.mpr ⟨⟨by decide, by decide, 66, 100, rfl, by decide, s_aload_n (pc := 100) C dX7_handle_100 rfl <|
    s_get (pc := 101) C (ci := 7) (kf := 0) rfl inX7 (by decide) wd_312 dX7_handle_101 <|
    s_get (pc := 104) C (ci := 3) (kf := 3) rfl inX3 (by decide) wd_113 dX7_handle_104 <|
    s_iload_n (pc := 107) C dX7_handle_107 rfl <|
    s_iald (pc := 108) C dX7_handle_108 <|
    s_ireturn (pc := 109) C rfl dX7_handle_109⟩, (List.forall_mem_cons.mpr ⟨⟨by decide, by decide, 76, 110, rfl, by decide, s_aload_n (pc := 110) C dX7_handle_110 rfl <|
    s_get (pc := 111) C (ci := 7) (kf := 0) rfl inX7 (by decide) wd_312 dX7_handle_111 <|
    s_iload_n (pc := 114) C dX7_handle_114 rfl <|
    s_callV (pc := 115) C ct_X3_isPurgeable (n := 2) (rk := 1) (mp := [1]) ⟨rfl, by decide, rfl⟩ (ci := 3) rfl rfl (by decide) (by decide) yi_X3_isPurgeable (by decide) wd_614 wd_615 wd_616 wd_74 wd_617 dX7_handle_115 <|
    s_if_eq (pc := 118) C dX7_handle_118 (by decide) (s_iconst (pc := 125) C dX7_handle_125 <|
    s_ireturn (pc := 126) C rfl dX7_handle_126)
    (s_iconst (pc := 121) C dX7_handle_121 <|
    s_goto (pc := 122) C dX7_handle_122 (by decide) <|
    s_ireturn (pc := 126) C rfl dX7_handle_126)⟩, (List.forall_mem_cons.mpr ⟨⟨by decide, by decide, 93, 127, rfl, by decide, s_aload_n (pc := 127) C dX7_handle_127 rfl <|
    s_get (pc := 128) C (ci := 7) (kf := 0) rfl inX7 (by decide) wd_312 dX7_handle_128 <|
    s_get (pc := 131) C (ci := 3) (kf := 5) rfl inX3 (by decide) wd_118 dX7_handle_131 <|
    s_iload_n (pc := 134) C dX7_handle_134 rfl <|
    s_iald (pc := 135) C dX7_handle_135 <|
    s_ireturn (pc := 136) C rfl dX7_handle_136⟩, (List.forall_mem_cons.mpr ⟨⟨by decide, by decide, 103, 137, rfl, by decide, s_aload_n (pc := 137) C dX7_handle_137 rfl <|
    s_get (pc := 138) C (ci := 7) (kf := 0) rfl inX7 (by decide) wd_312 dX7_handle_138 <|
    s_get (pc := 141) C (ci := 3) (kf := 6) rfl inX3 (by decide) wd_120 dX7_handle_141 <|
    s_iload_n (pc := 144) C dX7_handle_144 rfl <|
    s_iald (pc := 145) C dX7_handle_145 <|
    s_ireturn (pc := 146) C rfl dX7_handle_146⟩, (List.forall_mem_cons.mpr ⟨⟨by decide, by decide, 113, 147, rfl, by decide, s_aload_n (pc := 147) C dX7_handle_147 rfl <|
    s_get (pc := 148) C (ci := 7) (kf := 0) rfl inX7 (by decide) wd_312 dX7_handle_148 <|
    s_iload_n (pc := 151) C dX7_handle_151 rfl <|
    s_callV (pc := 152) C ct_X3_worthOf (n := 2) (rk := 1) (mp := [1]) ⟨rfl, by decide, rfl⟩ (ci := 3) rfl rfl (by decide) (by decide) yi_X3_worthOf (by decide) wd_723 wd_513 wd_514 wd_74 wd_515 dX7_handle_152 <|
    s_ireturn (pc := 155) C rfl dX7_handle_155⟩, (List.forall_mem_cons.mpr ⟨⟨by decide, by decide, 122, 156, rfl, by decide, s_aload_n (pc := 156) C dX7_handle_156 rfl <|
    s_get (pc := 157) C (ci := 7) (kf := 0) rfl inX7 (by decide) wd_312 dX7_handle_157 <|
    s_get (pc := 160) C (ci := 3) (kf := 4) rfl inX3 (by decide) wd_116 dX7_handle_160 <|
    s_iload_n (pc := 163) C dX7_handle_163 rfl <|
    s_iald (pc := 164) C dX7_handle_164 <|
    s_ireturn (pc := 165) C rfl dX7_handle_165⟩, (fun _ z => absurd z List.not_mem_nil)⟩)⟩)⟩)⟩)⟩)⟩)⟩)⟩) (fun v h1 h2 => by
     have hv : v = 1 ∨ v = 2 ∨ v = 3 ∨ v = 4 ∨ v = 5 ∨ v = 6 ∨ v = 7 ∨ v = 8 := by omega
     rcases hv with rfl | rfl | rfl | rfl | rfl | rfl | rfl | rfl <;> simp))
    (s_iconst (pc := 31) C dX7_handle_31 <|
    s_ireturn (pc := 32) C rfl dX7_handle_32)
noncomputable def rw_X7_handle_20 : XK := rg_X7_handle_20
noncomputable def md_X7_handle_20 (p1 : Int) (p2 : Int) (h0 : Ob) (h1 : Ob) (h2 : Ob) (h3 : Ob) (h4 : Ob) (h5 : Ob) (h6 : Ob) (h7 : Ob) (h8 : Ob) (h9 : Ob) (h10 : Ob) (h11 : Ob) (h12 : Ob) (h13 : Ob) (h14 : Ob) (h15 : Ob) (h16 : Ob) (h17 : Ob) (h18 : Ob) (h19 : Ob) (h20 : Ob) (h21 : Ob) (h22 : Ob) (h23 : Ob) (h24 : Ob) : Unit → Option Rt := mg_X7_handle_20 p1 p2 h0 h1 h2 h3 h4 h5 h6 h7 h8 h9 h10 h11 h12 h13 h14 h15 h16 h17 h18 h19 h20 h21 h22 h23 h24
theorem eq_X7_handle_20 (p1 : Int) (p2 : Int) (h0 : Ob) (h1 : Ob) (h2 : Ob) (h3 : Ob) (h4 : Ob) (h5 : Ob) (h6 : Ob) (h7 : Ob) (h8 : Ob) (h9 : Ob) (h10 : Ob) (h11 : Ob) (h12 : Ob) (h13 : Ob) (h14 : Ob) (h15 : Ob) (h16 : Ob) (h17 : Ob) (h18 : Ob) (h19 : Ob) (h20 : Ob) (h21 : Ob) (h22 : Ob) (h23 : Ob) (h24 : Ob) (a : Unit) : rw_X7_handle_20 (en_X7_handle_20 p1 p2 h0 h1 h2 h3 h4 h5 h6 h7 h8 h9 h10 h11 h12 h13 h14 h15 h16 h17 h18 h19 h20 h21 h22 h23 h24 a) = md_X7_handle_20 p1 p2 h0 h1 h2 h3 h4 h5 h6 h7 h8 h9 h10 h11 h12 h13 h14 h15 h16 h17 h18 h19 h20 h21 h22 h23 h24 a :=
 rq_X7_handle_20 p1 p2 h0 h1 h2 h3 h4 h5 h6 h7 h8 h9 h10 h11 h12 h13 h14 h15 h16 h17 h18 h19 h20 h21 h22 h23 h24 a
theorem sd_X7_handle_20 {X : XDyn} {r0 : Rt} (C : XO X mX7_handle) : XS X mX7_handle r0 20 (rw_X7_handle_20) := sg_X7_handle_20 C
noncomputable def rw_X7_handle_0 : XK := rg_X7_handle_0 (rw_X7_handle_20)
noncomputable def md_X7_handle_0 (p1 : Int) (p2 : Int) (h0 : Ob) (h1 : Ob) (h2 : Ob) (h3 : Ob) (h4 : Ob) (h5 : Ob) (h6 : Ob) (h7 : Ob) (h8 : Ob) (h9 : Ob) (h10 : Ob) (h11 : Ob) (h12 : Ob) (h13 : Ob) (h14 : Ob) (h15 : Ob) (h16 : Ob) (h17 : Ob) (h18 : Ob) (h19 : Ob) (h20 : Ob) (h21 : Ob) (h22 : Ob) (h23 : Ob) (h24 : Ob) : Unit → Option Rt := mg_X7_handle_0 p1 p2 h0 h1 h2 h3 h4 h5 h6 h7 h8 h9 h10 h11 h12 h13 h14 h15 h16 h17 h18 h19 h20 h21 h22 h23 h24 (md_X7_handle_20 p1 p2 h0 h1 h2 h3 h4 h5 h6 h7 h8 h9 h10 h11 h12 h13 h14 h15 h16 h17 h18 h19 h20 h21 h22 h23 h24)
theorem eq_X7_handle_0 (p1 : Int) (p2 : Int) (h0 : Ob) (h1 : Ob) (h2 : Ob) (h3 : Ob) (h4 : Ob) (h5 : Ob) (h6 : Ob) (h7 : Ob) (h8 : Ob) (h9 : Ob) (h10 : Ob) (h11 : Ob) (h12 : Ob) (h13 : Ob) (h14 : Ob) (h15 : Ob) (h16 : Ob) (h17 : Ob) (h18 : Ob) (h19 : Ob) (h20 : Ob) (h21 : Ob) (h22 : Ob) (h23 : Ob) (h24 : Ob) (a : Unit) : rw_X7_handle_0 (en_X7_handle_0 p1 p2 h0 h1 h2 h3 h4 h5 h6 h7 h8 h9 h10 h11 h12 h13 h14 h15 h16 h17 h18 h19 h20 h21 h22 h23 h24 a) = md_X7_handle_0 p1 p2 h0 h1 h2 h3 h4 h5 h6 h7 h8 h9 h10 h11 h12 h13 h14 h15 h16 h17 h18 h19 h20 h21 h22 h23 h24 a :=
 (rq_X7_handle_0 p1 p2 h0 h1 h2 h3 h4 h5 h6 h7 h8 h9 h10 h11 h12 h13 h14 h15 h16 h17 h18 h19 h20 h21 h22 h23 h24 (rw_X7_handle_20) a).trans (congrFun (congr (rfl : mg_X7_handle_0 p1 p2 h0 h1 h2 h3 h4 h5 h6 h7 h8 h9 h10 h11 h12 h13 h14 h15 h16 h17 h18 h19 h20 h21 h22 h23 h24 = mg_X7_handle_0 p1 p2 h0 h1 h2 h3 h4 h5 h6 h7 h8 h9 h10 h11 h12 h13 h14 h15 h16 h17 h18 h19 h20 h21 h22 h23 h24) (funext (eq_X7_handle_20 p1 p2 h0 h1 h2 h3 h4 h5 h6 h7 h8 h9 h10 h11 h12 h13 h14 h15 h16 h17 h18 h19 h20 h21 h22 h23 h24))) a)
theorem sd_X7_handle_0 {X : XDyn} {r0 : Rt} (C : XO X mX7_handle) : XS X mX7_handle r0 0 (rw_X7_handle_0) := sg_X7_handle_0 C (sd_X7_handle_20 C)
theorem ctr_X7_handle : XCt yX7_handle mX7_handle (xF mX7_handle (rw_X7_handle_0)) := xMet (by decide +kernel) rfl (fun _ _ C => sd_X7_handle_0 C)
theorem eqf_X7_handle (p1 : Int) (p2 : Int) (h0 : Ob) (h1 : Ob) (h2 : Ob) (h3 : Ob) (h4 : Ob) (h5 : Ob) (h6 : Ob) (h7 : Ob) (h8 : Ob) (h9 : Ob) (h10 : Ob) (h11 : Ob) (h12 : Ob) (h13 : Ob) (h14 : Ob) (h15 : Ob) (h16 : Ob) (h17 : Ob) (h18 : Ob) (h19 : Ob) (h20 : Ob) (h21 : Ob) (h22 : Ob) (h23 : Ob) (h24 : Ob) : xF mX7_handle (rw_X7_handle_0) [.inr (.inl (0, 0)), .inl p1, .inl p2] [h0, h1, h2, h3, h4, h5, h6, h7, h8, h9, h10, h11, h12, h13, h14, h15, h16, h17, h18, h19, h20, h21, h22, h23, h24] = md_X7_handle_0 p1 p2 h0 h1 h2 h3 h4 h5 h6 h7 h8 h9 h10 h11 h12 h13 h14 h15 h16 h17 h18 h19 h20 h21 h22 h23 h24 () := eq_X7_handle_0 p1 p2 h0 h1 h2 h3 h4 h5 h6 h7 h8 h9 h10 h11 h12 h13 h14 h15 h16 h17 h18 h19 h20 h21 h22 h23 h24 ()
theorem yi_X7_handle : yX7_handle.cls = RX7 ∧ yX7_handle.cls ≠ "java/lang/invoke/MethodHandle" ∧ yX7_handle.cls ≠ "java/lang/invoke/VarHandle" ∧ (parseMethodDescriptor yX7_handle.desc).map (fun d => d.parameters.length) = some 2 := ⟨rfl, by decide +kernel, by decide +kernel, by decide +kernel⟩
theorem dX7_get_0 : decode cX7_get 0 = .ok (.aload_n 0, 1) := by decide +kernel
theorem dX7_get_1 : decode cX7_get 1 = .ok (.getfield 12, 3) := by decide +kernel
theorem dX7_get_4 : decode cX7_get 4 = .ok (.iload_n 1, 1) := by decide +kernel
theorem dX7_get_5 : decode cX7_get 5 = .ok (.invokevirtual 91, 3) := by decide +kernel
theorem dX7_get_8 : decode cX7_get 8 = .ok (.ifCond .ne 5, 3) := by decide +kernel
theorem dX7_get_11 : decode cX7_get 11 = .ok (.iconst 0, 1) := by decide +kernel
theorem dX7_get_12 : decode cX7_get 12 = .ok (.ireturn, 1) := by decide +kernel
theorem dX7_get_13 : decode cX7_get 13 = .ok (.aload_n 0, 1) := by decide +kernel
theorem dX7_get_14 : decode cX7_get 14 = .ok (.getfield 12, 3) := by decide +kernel
theorem dX7_get_17 : decode cX7_get 17 = .ok (.iload_n 1, 1) := by decide +kernel
theorem dX7_get_18 : decode cX7_get 18 = .ok (.iload_n 2, 1) := by decide +kernel
theorem dX7_get_19 : decode cX7_get 19 = .ok (.invokevirtual 192, 3) := by decide +kernel
theorem dX7_get_22 : decode cX7_get 22 = .ok (.ireturn, 1) := by decide +kernel
abbrev mX7_get : XM := (cX7_get, 3, RX7, (some .int), shw_M, 3)
noncomputable def rg_X7_get_0 : XK :=
 o_aload 0 <|
 o_get shw_M 7 0 <|
 o_iload 1 <|
 o_callV 2 1 [1] f_X3_isFull <|
 o_if_ne (o_aload 0 <|
 o_get shw_M 7 0 <|
 o_iload 1 <|
 o_iload 2 <|
 o_callV 3 1 [1] f_X3_contentOf <|
 o_ireturn)
 (o_iconst 0 <|
 o_ireturn)
def en_X7_get_0 (p1 : Int) (p2 : Int) (h0 : Ob) (h1 : Ob) (h2 : Ob) (h3 : Ob) (h4 : Ob) (h5 : Ob) (h6 : Ob) (h7 : Ob) (h8 : Ob) (h9 : Ob) (h10 : Ob) (h11 : Ob) (h12 : Ob) (h13 : Ob) (h14 : Ob) (h15 : Ob) (h16 : Ob) (h17 : Ob) (h18 : Ob) (h19 : Ob) (h20 : Ob) (h21 : Ob) (h22 : Ob) (h23 : Ob) (h24 : Ob) (a : Unit) : XSt := ([some (.inr (.inl (0, 0))), some (.inl p1), some (.inl p2)], [], [h0, h1, h2, h3, h4, h5, h6, h7, h8, h9, h10, h11, h12, h13, h14, h15, h16, h17, h18, h19, h20, h21, h22, h23, h24])
noncomputable def mg_X7_get_0 (p1 : Int) (p2 : Int) (h0 : Ob) (h1 : Ob) (h2 : Ob) (h3 : Ob) (h4 : Ob) (h5 : Ob) (h6 : Ob) (h7 : Ob) (h8 : Ob) (h9 : Ob) (h10 : Ob) (h11 : Ob) (h12 : Ob) (h13 : Ob) (h14 : Ob) (h15 : Ob) (h16 : Ob) (h17 : Ob) (h18 : Ob) (h19 : Ob) (h20 : Ob) (h21 : Ob) (h22 : Ob) (h23 : Ob) (h24 : Ob) (a : Unit) : Option Rt :=
 if xw (bz (ful h1 p1)) = 0 then (RI 0 [h0, h1, h2, h3, h4, h5, h6, h7, h8, h9, h10, h11, h12, h13, h14, h15, h16, h17, h18, h19, h20, h21, h22, h23, h24])
 else (RI (conF h1 p1 p2) [h0, h1, h2, h3, h4, h5, h6, h7, h8, h9, h10, h11, h12, h13, h14, h15, h16, h17, h18, h19, h20, h21, h22, h23, h24])
set_option maxRecDepth 100000 in
set_option maxHeartbeats 4000000 in
theorem rq_X7_get_0 (p1 : Int) (p2 : Int) (h0 : Ob) (h1 : Ob) (h2 : Ob) (h3 : Ob) (h4 : Ob) (h5 : Ob) (h6 : Ob) (h7 : Ob) (h8 : Ob) (h9 : Ob) (h10 : Ob) (h11 : Ob) (h12 : Ob) (h13 : Ob) (h14 : Ob) (h15 : Ob) (h16 : Ob) (h17 : Ob) (h18 : Ob) (h19 : Ob) (h20 : Ob) (h21 : Ob) (h22 : Ob) (h23 : Ob) (h24 : Ob) (a : Unit) : rg_X7_get_0 (en_X7_get_0 p1 p2 h0 h1 h2 h3 h4 h5 h6 h7 h8 h9 h10 h11 h12 h13 h14 h15 h16 h17 h18 h19 h20 h21 h22 h23 h24 a) = mg_X7_get_0 p1 p2 h0 h1 h2 h3 h4 h5 h6 h7 h8 h9 h10 h11 h12 h13 h14 h15 h16 h17 h18 h19 h20 h21 h22 h23 h24 a := rfl
set_option maxRecDepth 100000 in
set_option maxHeartbeats 4000000 in
theorem sg_X7_get_0 {X : XDyn} {r0 : Rt} (C : XO X mX7_get) : XS X mX7_get r0 0 (rg_X7_get_0) := by
 unfold rg_X7_get_0
 exact s_aload_n (pc := 0) C dX7_get_0 rfl <|
    s_get (pc := 1) C (ci := 7) (kf := 0) rfl inX7 (by decide) wd_312 dX7_get_1 <|
    s_iload_n (pc := 4) C dX7_get_4 rfl <|
    s_callV (pc := 5) C ct_X3_isFull (n := 2) (rk := 1) (mp := [1]) ⟨rfl, by decide, rfl⟩ (ci := 3) rfl rfl (by decide) (by decide) yi_X3_isFull (by decide) wd_555 wd_556 wd_557 wd_74 wd_558 dX7_get_5 <|
    s_if_ne (pc := 8) C dX7_get_8 (by decide) (s_aload_n (pc := 13) C dX7_get_13 rfl <|
    s_get (pc := 14) C (ci := 7) (kf := 0) rfl inX7 (by decide) wd_312 dX7_get_14 <|
    s_iload_n (pc := 17) C dX7_get_17 rfl <|
    s_iload_n (pc := 18) C dX7_get_18 rfl <|
    s_callV (pc := 19) C ct_X3_contentOf (n := 3) (rk := 1) (mp := [1]) ⟨rfl, by decide, rfl⟩ (ci := 3) rfl rfl (by decide) (by decide) yi_X3_contentOf (by decide) wd_567 wd_568 wd_569 wd_74 wd_570 dX7_get_19 <|
    s_ireturn (pc := 22) C rfl dX7_get_22)
    (s_iconst (pc := 11) C dX7_get_11 <|
    s_ireturn (pc := 12) C rfl dX7_get_12)
noncomputable def rw_X7_get_0 : XK := rg_X7_get_0
noncomputable def md_X7_get_0 (p1 : Int) (p2 : Int) (h0 : Ob) (h1 : Ob) (h2 : Ob) (h3 : Ob) (h4 : Ob) (h5 : Ob) (h6 : Ob) (h7 : Ob) (h8 : Ob) (h9 : Ob) (h10 : Ob) (h11 : Ob) (h12 : Ob) (h13 : Ob) (h14 : Ob) (h15 : Ob) (h16 : Ob) (h17 : Ob) (h18 : Ob) (h19 : Ob) (h20 : Ob) (h21 : Ob) (h22 : Ob) (h23 : Ob) (h24 : Ob) : Unit → Option Rt := mg_X7_get_0 p1 p2 h0 h1 h2 h3 h4 h5 h6 h7 h8 h9 h10 h11 h12 h13 h14 h15 h16 h17 h18 h19 h20 h21 h22 h23 h24
theorem eq_X7_get_0 (p1 : Int) (p2 : Int) (h0 : Ob) (h1 : Ob) (h2 : Ob) (h3 : Ob) (h4 : Ob) (h5 : Ob) (h6 : Ob) (h7 : Ob) (h8 : Ob) (h9 : Ob) (h10 : Ob) (h11 : Ob) (h12 : Ob) (h13 : Ob) (h14 : Ob) (h15 : Ob) (h16 : Ob) (h17 : Ob) (h18 : Ob) (h19 : Ob) (h20 : Ob) (h21 : Ob) (h22 : Ob) (h23 : Ob) (h24 : Ob) (a : Unit) : rw_X7_get_0 (en_X7_get_0 p1 p2 h0 h1 h2 h3 h4 h5 h6 h7 h8 h9 h10 h11 h12 h13 h14 h15 h16 h17 h18 h19 h20 h21 h22 h23 h24 a) = md_X7_get_0 p1 p2 h0 h1 h2 h3 h4 h5 h6 h7 h8 h9 h10 h11 h12 h13 h14 h15 h16 h17 h18 h19 h20 h21 h22 h23 h24 a :=
 rq_X7_get_0 p1 p2 h0 h1 h2 h3 h4 h5 h6 h7 h8 h9 h10 h11 h12 h13 h14 h15 h16 h17 h18 h19 h20 h21 h22 h23 h24 a
theorem sd_X7_get_0 {X : XDyn} {r0 : Rt} (C : XO X mX7_get) : XS X mX7_get r0 0 (rw_X7_get_0) := sg_X7_get_0 C
theorem ctr_X7_get : XCt yX7_get mX7_get (xF mX7_get (rw_X7_get_0)) := xMet (by decide +kernel) rfl (fun _ _ C => sd_X7_get_0 C)
theorem eqf_X7_get (p1 : Int) (p2 : Int) (h0 : Ob) (h1 : Ob) (h2 : Ob) (h3 : Ob) (h4 : Ob) (h5 : Ob) (h6 : Ob) (h7 : Ob) (h8 : Ob) (h9 : Ob) (h10 : Ob) (h11 : Ob) (h12 : Ob) (h13 : Ob) (h14 : Ob) (h15 : Ob) (h16 : Ob) (h17 : Ob) (h18 : Ob) (h19 : Ob) (h20 : Ob) (h21 : Ob) (h22 : Ob) (h23 : Ob) (h24 : Ob) : xF mX7_get (rw_X7_get_0) [.inr (.inl (0, 0)), .inl p1, .inl p2] [h0, h1, h2, h3, h4, h5, h6, h7, h8, h9, h10, h11, h12, h13, h14, h15, h16, h17, h18, h19, h20, h21, h22, h23, h24] = md_X7_get_0 p1 p2 h0 h1 h2 h3 h4 h5 h6 h7 h8 h9 h10 h11 h12 h13 h14 h15 h16 h17 h18 h19 h20 h21 h22 h23 h24 () := eq_X7_get_0 p1 p2 h0 h1 h2 h3 h4 h5 h6 h7 h8 h9 h10 h11 h12 h13 h14 h15 h16 h17 h18 h19 h20 h21 h22 h23 h24 ()
theorem yi_X7_get : yX7_get.cls = RX7 ∧ yX7_get.cls ≠ "java/lang/invoke/MethodHandle" ∧ yX7_get.cls ≠ "java/lang/invoke/VarHandle" ∧ (parseMethodDescriptor yX7_get.desc).map (fun d => d.parameters.length) = some 2 := ⟨rfl, by decide +kernel, by decide +kernel, by decide +kernel⟩
theorem dX7_pointer_0 : decode cX7_pointer 0 = .ok (.aload_n 0, 1) := by decide +kernel
theorem dX7_pointer_1 : decode cX7_pointer 1 = .ok (.getfield 12, 3) := by decide +kernel
theorem dX7_pointer_4 : decode cX7_pointer 4 = .ok (.iload_n 1, 1) := by decide +kernel
theorem dX7_pointer_5 : decode cX7_pointer 5 = .ok (.invokevirtual 102, 3) := by decide +kernel
theorem dX7_pointer_8 : decode cX7_pointer 8 = .ok (.ifCond .ne 5, 3) := by decide +kernel
theorem dX7_pointer_11 : decode cX7_pointer 11 = .ok (.iconst (-1), 1) := by decide +kernel
theorem dX7_pointer_12 : decode cX7_pointer 12 = .ok (.ireturn, 1) := by decide +kernel
theorem dX7_pointer_13 : decode cX7_pointer 13 = .ok (.iload_n 2, 1) := by decide +kernel
theorem dX7_pointer_14 : decode cX7_pointer 14 = .ok (.lookupswitch 52 #[(0, 26), (1, 39)], 26) := by decide +kernel
theorem dX7_pointer_40 : decode cX7_pointer 40 = .ok (.aload_n 0, 1) := by decide +kernel
theorem dX7_pointer_41 : decode cX7_pointer 41 = .ok (.getfield 12, 3) := by decide +kernel
theorem dX7_pointer_44 : decode cX7_pointer 44 = .ok (.getfield 119, 3) := by decide +kernel
theorem dX7_pointer_47 : decode cX7_pointer 47 = .ok (.bipush 8, 2) := by decide +kernel
theorem dX7_pointer_49 : decode cX7_pointer 49 = .ok (.iload_n 1, 1) := by decide +kernel
theorem dX7_pointer_50 : decode cX7_pointer 50 = .ok (.iadd, 1) := by decide +kernel
theorem dX7_pointer_51 : decode cX7_pointer 51 = .ok (.iaload, 1) := by decide +kernel
theorem dX7_pointer_52 : decode cX7_pointer 52 = .ok (.ireturn, 1) := by decide +kernel
theorem dX7_pointer_53 : decode cX7_pointer 53 = .ok (.aload_n 0, 1) := by decide +kernel
theorem dX7_pointer_54 : decode cX7_pointer 54 = .ok (.getfield 12, 3) := by decide +kernel
theorem dX7_pointer_57 : decode cX7_pointer 57 = .ok (.getfield 132, 3) := by decide +kernel
theorem dX7_pointer_60 : decode cX7_pointer 60 = .ok (.bipush 8, 2) := by decide +kernel
theorem dX7_pointer_62 : decode cX7_pointer 62 = .ok (.iload_n 1, 1) := by decide +kernel
theorem dX7_pointer_63 : decode cX7_pointer 63 = .ok (.iadd, 1) := by decide +kernel
theorem dX7_pointer_64 : decode cX7_pointer 64 = .ok (.iaload, 1) := by decide +kernel
theorem dX7_pointer_65 : decode cX7_pointer 65 = .ok (.ireturn, 1) := by decide +kernel
theorem dX7_pointer_66 : decode cX7_pointer 66 = .ok (.iconst (-1), 1) := by decide +kernel
theorem dX7_pointer_67 : decode cX7_pointer 67 = .ok (.ireturn, 1) := by decide +kernel
abbrev mX7_pointer : XM := (cX7_pointer, 3, RX7, (some .int), shw_M, 1)
noncomputable def rg_X7_pointer_0 : XK :=
 o_aload 0 <|
 o_get shw_M 7 0 <|
 o_iload 1 <|
 o_callV 2 1 [1] f_X3_isIsland <|
 o_if_ne (o_iload 2 <|
 o_sw [(0, o_aload 0 <|
 o_get shw_M 7 0 <|
 o_get shw_M 3 0 <|
 o_iconst 8 <|
 o_iload 1 <|
 o_iadd <|
 o_iald shw_M <|
 o_ireturn),
 (1, o_aload 0 <|
 o_get shw_M 7 0 <|
 o_get shw_M 3 1 <|
 o_iconst 8 <|
 o_iload 1 <|
 o_iadd <|
 o_iald shw_M <|
 o_ireturn)]
 (o_iconst (-1) <|
 o_ireturn))
 (o_iconst (-1) <|
 o_ireturn)
def en_X7_pointer_0 (p1 : Int) (p2 : Int) (h0 : Ob) (h1 : Ob) (h2 : Ob) (h3 : Ob) (h4 : Ob) (h5 : Ob) (h6 : Ob) (h7 : Ob) (h8 : Ob) (h9 : Ob) (h10 : Ob) (h11 : Ob) (h12 : Ob) (h13 : Ob) (h14 : Ob) (h15 : Ob) (h16 : Ob) (h17 : Ob) (h18 : Ob) (h19 : Ob) (h20 : Ob) (h21 : Ob) (h22 : Ob) (h23 : Ob) (h24 : Ob) (a : Unit) : XSt := ([some (.inr (.inl (0, 0))), some (.inl p1), some (.inl p2)], [], [h0, h1, h2, h3, h4, h5, h6, h7, h8, h9, h10, h11, h12, h13, h14, h15, h16, h17, h18, h19, h20, h21, h22, h23, h24])
noncomputable def mg_X7_pointer_0 (p1 : Int) (p2 : Int) (h0 : Ob) (h1 : Ob) (h2 : Ob) (h3 : Ob) (h4 : Ob) (h5 : Ob) (h6 : Ob) (h7 : Ob) (h8 : Ob) (h9 : Ob) (h10 : Ob) (h11 : Ob) (h12 : Ob) (h13 : Ob) (h14 : Ob) (h15 : Ob) (h16 : Ob) (h17 : Ob) (h18 : Ob) (h19 : Ob) (h20 : Ob) (h21 : Ob) (h22 : Ob) (h23 : Ob) (h24 : Ob) (a : Unit) : Option Rt :=
 if xw (bz (isl h1 p1)) = 0 then (RI (-1) [h0, h1, h2, h3, h4, h5, h6, h7, h8, h9, h10, h11, h12, h13, h14, h15, h16, h17, h18, h19, h20, h21, h22, h23, h24])
 else (if xw p2 = 0 then (if xin (8 + p1) 11 then (
 RI (h1 1 (xw (8 + p1)).toNat) [h0, h1, h2, h3, h4, h5, h6, h7, h8, h9, h10, h11, h12, h13, h14, h15, h16, h17, h18, h19, h20, h21, h22, h23, h24]) else none)
 else if xw p2 = 1 then (if xin (8 + p1) 11 then (
 RI (h1 2 (xw (8 + p1)).toNat) [h0, h1, h2, h3, h4, h5, h6, h7, h8, h9, h10, h11, h12, h13, h14, h15, h16, h17, h18, h19, h20, h21, h22, h23, h24]) else none)
 else (RI (-1) [h0, h1, h2, h3, h4, h5, h6, h7, h8, h9, h10, h11, h12, h13, h14, h15, h16, h17, h18, h19, h20, h21, h22, h23, h24]))
set_option maxRecDepth 100000 in
set_option maxHeartbeats 4000000 in
theorem rq_X7_pointer_0 (p1 : Int) (p2 : Int) (h0 : Ob) (h1 : Ob) (h2 : Ob) (h3 : Ob) (h4 : Ob) (h5 : Ob) (h6 : Ob) (h7 : Ob) (h8 : Ob) (h9 : Ob) (h10 : Ob) (h11 : Ob) (h12 : Ob) (h13 : Ob) (h14 : Ob) (h15 : Ob) (h16 : Ob) (h17 : Ob) (h18 : Ob) (h19 : Ob) (h20 : Ob) (h21 : Ob) (h22 : Ob) (h23 : Ob) (h24 : Ob) (a : Unit) : rg_X7_pointer_0 (en_X7_pointer_0 p1 p2 h0 h1 h2 h3 h4 h5 h6 h7 h8 h9 h10 h11 h12 h13 h14 h15 h16 h17 h18 h19 h20 h21 h22 h23 h24 a) = mg_X7_pointer_0 p1 p2 h0 h1 h2 h3 h4 h5 h6 h7 h8 h9 h10 h11 h12 h13 h14 h15 h16 h17 h18 h19 h20 h21 h22 h23 h24 a := rfl
set_option maxRecDepth 100000 in
set_option maxHeartbeats 4000000 in
theorem sg_X7_pointer_0 {X : XDyn} {r0 : Rt} (C : XO X mX7_pointer) : XS X mX7_pointer r0 0 (rg_X7_pointer_0) := by
 unfold rg_X7_pointer_0
 exact s_aload_n (pc := 0) C dX7_pointer_0 rfl <|
    s_get (pc := 1) C (ci := 7) (kf := 0) rfl inX7 (by decide) wd_312 dX7_pointer_1 <|
    s_iload_n (pc := 4) C dX7_pointer_4 rfl <|
    s_callV (pc := 5) C ct_X3_isIsland (n := 2) (rk := 1) (mp := [1]) ⟨rfl, by decide, rfl⟩ (ci := 3) rfl rfl (by decide) (by decide) yi_X3_isIsland (by decide) wd_580 wd_581 wd_582 wd_74 wd_583 dX7_pointer_5 <|
    s_if_ne (pc := 8) C dX7_pointer_8 (by decide) (s_iload_n (pc := 13) C dX7_pointer_13 rfl <|
    s_lsw (pc := 14) C dX7_pointer_14 [(0, 26, _), (1, 39, _)] rfl (by decide) (by decide) (s_iconst (pc := 66) C dX7_pointer_66 <|
    s_ireturn (pc := 67) C rfl dX7_pointer_67) (List.forall_mem_cons.mpr ⟨⟨40, by decide, s_aload_n (pc := 40) C dX7_pointer_40 rfl <|
    s_get (pc := 41) C (ci := 7) (kf := 0) rfl inX7 (by decide) wd_312 dX7_pointer_41 <|
    s_get (pc := 44) C (ci := 3) (kf := 0) rfl inX3 (by decide) wd_104 dX7_pointer_44 <|
    s_bipush (pc := 47) C dX7_pointer_47 (by decide) <|
    s_iload_n (pc := 49) C dX7_pointer_49 rfl <|
    s_iadd (pc := 50) C dX7_pointer_50 <|
    s_iald (pc := 51) C dX7_pointer_51 <|
    s_ireturn (pc := 52) C rfl dX7_pointer_52⟩, (List.forall_mem_cons.mpr ⟨⟨53, by decide, s_aload_n (pc := 53) C dX7_pointer_53 rfl <|
    s_get (pc := 54) C (ci := 7) (kf := 0) rfl inX7 (by decide) wd_312 dX7_pointer_54 <|
    s_get (pc := 57) C (ci := 3) (kf := 1) rfl inX3 (by decide) wd_110 dX7_pointer_57 <|
    s_bipush (pc := 60) C dX7_pointer_60 (by decide) <|
    s_iload_n (pc := 62) C dX7_pointer_62 rfl <|
    s_iadd (pc := 63) C dX7_pointer_63 <|
    s_iald (pc := 64) C dX7_pointer_64 <|
    s_ireturn (pc := 65) C rfl dX7_pointer_65⟩, (fun _ z => absurd z List.not_mem_nil)⟩)⟩))
    (s_iconst (pc := 11) C dX7_pointer_11 <|
    s_ireturn (pc := 12) C rfl dX7_pointer_12)
noncomputable def rw_X7_pointer_0 : XK := rg_X7_pointer_0
noncomputable def md_X7_pointer_0 (p1 : Int) (p2 : Int) (h0 : Ob) (h1 : Ob) (h2 : Ob) (h3 : Ob) (h4 : Ob) (h5 : Ob) (h6 : Ob) (h7 : Ob) (h8 : Ob) (h9 : Ob) (h10 : Ob) (h11 : Ob) (h12 : Ob) (h13 : Ob) (h14 : Ob) (h15 : Ob) (h16 : Ob) (h17 : Ob) (h18 : Ob) (h19 : Ob) (h20 : Ob) (h21 : Ob) (h22 : Ob) (h23 : Ob) (h24 : Ob) : Unit → Option Rt := mg_X7_pointer_0 p1 p2 h0 h1 h2 h3 h4 h5 h6 h7 h8 h9 h10 h11 h12 h13 h14 h15 h16 h17 h18 h19 h20 h21 h22 h23 h24
theorem eq_X7_pointer_0 (p1 : Int) (p2 : Int) (h0 : Ob) (h1 : Ob) (h2 : Ob) (h3 : Ob) (h4 : Ob) (h5 : Ob) (h6 : Ob) (h7 : Ob) (h8 : Ob) (h9 : Ob) (h10 : Ob) (h11 : Ob) (h12 : Ob) (h13 : Ob) (h14 : Ob) (h15 : Ob) (h16 : Ob) (h17 : Ob) (h18 : Ob) (h19 : Ob) (h20 : Ob) (h21 : Ob) (h22 : Ob) (h23 : Ob) (h24 : Ob) (a : Unit) : rw_X7_pointer_0 (en_X7_pointer_0 p1 p2 h0 h1 h2 h3 h4 h5 h6 h7 h8 h9 h10 h11 h12 h13 h14 h15 h16 h17 h18 h19 h20 h21 h22 h23 h24 a) = md_X7_pointer_0 p1 p2 h0 h1 h2 h3 h4 h5 h6 h7 h8 h9 h10 h11 h12 h13 h14 h15 h16 h17 h18 h19 h20 h21 h22 h23 h24 a :=
 rq_X7_pointer_0 p1 p2 h0 h1 h2 h3 h4 h5 h6 h7 h8 h9 h10 h11 h12 h13 h14 h15 h16 h17 h18 h19 h20 h21 h22 h23 h24 a
theorem sd_X7_pointer_0 {X : XDyn} {r0 : Rt} (C : XO X mX7_pointer) : XS X mX7_pointer r0 0 (rw_X7_pointer_0) := sg_X7_pointer_0 C
theorem ctr_X7_pointer : XCt yX7_pointer mX7_pointer (xF mX7_pointer (rw_X7_pointer_0)) := xMet (by decide +kernel) rfl (fun _ _ C => sd_X7_pointer_0 C)
theorem eqf_X7_pointer (p1 : Int) (p2 : Int) (h0 : Ob) (h1 : Ob) (h2 : Ob) (h3 : Ob) (h4 : Ob) (h5 : Ob) (h6 : Ob) (h7 : Ob) (h8 : Ob) (h9 : Ob) (h10 : Ob) (h11 : Ob) (h12 : Ob) (h13 : Ob) (h14 : Ob) (h15 : Ob) (h16 : Ob) (h17 : Ob) (h18 : Ob) (h19 : Ob) (h20 : Ob) (h21 : Ob) (h22 : Ob) (h23 : Ob) (h24 : Ob) : xF mX7_pointer (rw_X7_pointer_0) [.inr (.inl (0, 0)), .inl p1, .inl p2] [h0, h1, h2, h3, h4, h5, h6, h7, h8, h9, h10, h11, h12, h13, h14, h15, h16, h17, h18, h19, h20, h21, h22, h23, h24] = md_X7_pointer_0 p1 p2 h0 h1 h2 h3 h4 h5 h6 h7 h8 h9 h10 h11 h12 h13 h14 h15 h16 h17 h18 h19 h20 h21 h22 h23 h24 () := eq_X7_pointer_0 p1 p2 h0 h1 h2 h3 h4 h5 h6 h7 h8 h9 h10 h11 h12 h13 h14 h15 h16 h17 h18 h19 h20 h21 h22 h23 h24 ()
theorem yi_X7_pointer : yX7_pointer.cls = RX7 ∧ yX7_pointer.cls ≠ "java/lang/invoke/MethodHandle" ∧ yX7_pointer.cls ≠ "java/lang/invoke/VarHandle" ∧ (parseMethodDescriptor yX7_pointer.desc).map (fun d => d.parameters.length) = some 2 := ⟨rfl, by decide +kernel, by decide +kernel, by decide +kernel⟩
theorem dX7_cell_0 : decode cX7_cell 0 = .ok (.aload_n 0, 1) := by decide +kernel
theorem dX7_cell_1 : decode cX7_cell 1 = .ok (.getfield 12, 3) := by decide +kernel
theorem dX7_cell_4 : decode cX7_cell 4 = .ok (.iload_n 1, 1) := by decide +kernel
theorem dX7_cell_5 : decode cX7_cell 5 = .ok (.invokevirtual 195, 3) := by decide +kernel
theorem dX7_cell_8 : decode cX7_cell 8 = .ok (.ireturn, 1) := by decide +kernel
abbrev mX7_cell : XM := (cX7_cell, 2, RX7, (some .int), shw_M, 4)
noncomputable def rg_X7_cell_0 : XK :=
 o_aload 0 <|
 o_get shw_M 7 0 <|
 o_iload 1 <|
 o_callVg 2 1 [1] g_X3_cellAt v_X3_cellAt <|
 o_ireturn
def en_X7_cell_0 (p1 : Int) (h0 : Ob) (h1 : Ob) (h2 : Ob) (h3 : Ob) (h4 : Ob) (h5 : Ob) (h6 : Ob) (h7 : Ob) (h8 : Ob) (h9 : Ob) (h10 : Ob) (h11 : Ob) (h12 : Ob) (h13 : Ob) (h14 : Ob) (h15 : Ob) (h16 : Ob) (h17 : Ob) (h18 : Ob) (h19 : Ob) (h20 : Ob) (h21 : Ob) (h22 : Ob) (h23 : Ob) (h24 : Ob) (a : Unit) : XSt := ([some (.inr (.inl (0, 0))), some (.inl p1)], [], [h0, h1, h2, h3, h4, h5, h6, h7, h8, h9, h10, h11, h12, h13, h14, h15, h16, h17, h18, h19, h20, h21, h22, h23, h24])
noncomputable def mg_X7_cell_0 (p1 : Int) (h0 : Ob) (h1 : Ob) (h2 : Ob) (h3 : Ob) (h4 : Ob) (h5 : Ob) (h6 : Ob) (h7 : Ob) (h8 : Ob) (h9 : Ob) (h10 : Ob) (h11 : Ob) (h12 : Ob) (h13 : Ob) (h14 : Ob) (h15 : Ob) (h16 : Ob) (h17 : Ob) (h18 : Ob) (h19 : Ob) (h20 : Ob) (h21 : Ob) (h22 : Ob) (h23 : Ob) (h24 : Ob) (a : Unit) : Option Rt :=
 if pd (LW h1) then (
 RI (celF h1 p1) [h0, h1, h2, h3, h4, h5, h6, h7, h8, h9, h10, h11, h12, h13, h14, h15, h16, h17, h18, h19, h20, h21, h22, h23, h24]) else none
set_option maxRecDepth 100000 in
set_option maxHeartbeats 4000000 in
theorem rq_X7_cell_0 (p1 : Int) (h0 : Ob) (h1 : Ob) (h2 : Ob) (h3 : Ob) (h4 : Ob) (h5 : Ob) (h6 : Ob) (h7 : Ob) (h8 : Ob) (h9 : Ob) (h10 : Ob) (h11 : Ob) (h12 : Ob) (h13 : Ob) (h14 : Ob) (h15 : Ob) (h16 : Ob) (h17 : Ob) (h18 : Ob) (h19 : Ob) (h20 : Ob) (h21 : Ob) (h22 : Ob) (h23 : Ob) (h24 : Ob) (a : Unit) : rg_X7_cell_0 (en_X7_cell_0 p1 h0 h1 h2 h3 h4 h5 h6 h7 h8 h9 h10 h11 h12 h13 h14 h15 h16 h17 h18 h19 h20 h21 h22 h23 h24 a) = mg_X7_cell_0 p1 h0 h1 h2 h3 h4 h5 h6 h7 h8 h9 h10 h11 h12 h13 h14 h15 h16 h17 h18 h19 h20 h21 h22 h23 h24 a := rfl
set_option maxRecDepth 100000 in
set_option maxHeartbeats 4000000 in
theorem sg_X7_cell_0 {X : XDyn} {r0 : Rt} (C : XO X mX7_cell) : XS X mX7_cell r0 0 (rg_X7_cell_0) := by
 unfold rg_X7_cell_0
 exact s_aload_n (pc := 0) C dX7_cell_0 rfl <|
    s_get (pc := 1) C (ci := 7) (kf := 0) rfl inX7 (by decide) wd_312 dX7_cell_1 <|
    s_iload_n (pc := 4) C dX7_cell_4 rfl <|
    s_callVg (pc := 5) C ct_X3_cellAt (n := 2) (rk := 1) (mp := [1]) ⟨rfl, by decide, rfl⟩ (ci := 3) rfl rfl (by decide) (by decide) yi_X3_cellAt (by decide) wd_736 wd_737 wd_738 wd_74 wd_739 dX7_cell_5 <|
    s_ireturn (pc := 8) C rfl dX7_cell_8
noncomputable def rw_X7_cell_0 : XK := rg_X7_cell_0
noncomputable def md_X7_cell_0 (p1 : Int) (h0 : Ob) (h1 : Ob) (h2 : Ob) (h3 : Ob) (h4 : Ob) (h5 : Ob) (h6 : Ob) (h7 : Ob) (h8 : Ob) (h9 : Ob) (h10 : Ob) (h11 : Ob) (h12 : Ob) (h13 : Ob) (h14 : Ob) (h15 : Ob) (h16 : Ob) (h17 : Ob) (h18 : Ob) (h19 : Ob) (h20 : Ob) (h21 : Ob) (h22 : Ob) (h23 : Ob) (h24 : Ob) : Unit → Option Rt := mg_X7_cell_0 p1 h0 h1 h2 h3 h4 h5 h6 h7 h8 h9 h10 h11 h12 h13 h14 h15 h16 h17 h18 h19 h20 h21 h22 h23 h24
theorem eq_X7_cell_0 (p1 : Int) (h0 : Ob) (h1 : Ob) (h2 : Ob) (h3 : Ob) (h4 : Ob) (h5 : Ob) (h6 : Ob) (h7 : Ob) (h8 : Ob) (h9 : Ob) (h10 : Ob) (h11 : Ob) (h12 : Ob) (h13 : Ob) (h14 : Ob) (h15 : Ob) (h16 : Ob) (h17 : Ob) (h18 : Ob) (h19 : Ob) (h20 : Ob) (h21 : Ob) (h22 : Ob) (h23 : Ob) (h24 : Ob) (a : Unit) : rw_X7_cell_0 (en_X7_cell_0 p1 h0 h1 h2 h3 h4 h5 h6 h7 h8 h9 h10 h11 h12 h13 h14 h15 h16 h17 h18 h19 h20 h21 h22 h23 h24 a) = md_X7_cell_0 p1 h0 h1 h2 h3 h4 h5 h6 h7 h8 h9 h10 h11 h12 h13 h14 h15 h16 h17 h18 h19 h20 h21 h22 h23 h24 a :=
 rq_X7_cell_0 p1 h0 h1 h2 h3 h4 h5 h6 h7 h8 h9 h10 h11 h12 h13 h14 h15 h16 h17 h18 h19 h20 h21 h22 h23 h24 a
theorem sd_X7_cell_0 {X : XDyn} {r0 : Rt} (C : XO X mX7_cell) : XS X mX7_cell r0 0 (rw_X7_cell_0) := sg_X7_cell_0 C
theorem ctr_X7_cell : XCt yX7_cell mX7_cell (xF mX7_cell (rw_X7_cell_0)) := xMet (by decide +kernel) rfl (fun _ _ C => sd_X7_cell_0 C)
theorem eqf_X7_cell (p1 : Int) (h0 : Ob) (h1 : Ob) (h2 : Ob) (h3 : Ob) (h4 : Ob) (h5 : Ob) (h6 : Ob) (h7 : Ob) (h8 : Ob) (h9 : Ob) (h10 : Ob) (h11 : Ob) (h12 : Ob) (h13 : Ob) (h14 : Ob) (h15 : Ob) (h16 : Ob) (h17 : Ob) (h18 : Ob) (h19 : Ob) (h20 : Ob) (h21 : Ob) (h22 : Ob) (h23 : Ob) (h24 : Ob) : xF mX7_cell (rw_X7_cell_0) [.inr (.inl (0, 0)), .inl p1] [h0, h1, h2, h3, h4, h5, h6, h7, h8, h9, h10, h11, h12, h13, h14, h15, h16, h17, h18, h19, h20, h21, h22, h23, h24] = md_X7_cell_0 p1 h0 h1 h2 h3 h4 h5 h6 h7 h8 h9 h10 h11 h12 h13 h14 h15 h16 h17 h18 h19 h20 h21 h22 h23 h24 () := eq_X7_cell_0 p1 h0 h1 h2 h3 h4 h5 h6 h7 h8 h9 h10 h11 h12 h13 h14 h15 h16 h17 h18 h19 h20 h21 h22 h23 h24 ()
theorem yi_X7_cell : yX7_cell.cls = RX7 ∧ yX7_cell.cls ≠ "java/lang/invoke/MethodHandle" ∧ yX7_cell.cls ≠ "java/lang/invoke/VarHandle" ∧ (parseMethodDescriptor yX7_cell.desc).map (fun d => d.parameters.length) = some 1 := ⟨rfl, by decide +kernel, by decide +kernel, by decide +kernel⟩
theorem dX7_block_0 : decode cX7_block 0 = .ok (.aload_n 0, 1) := by decide +kernel
theorem dX7_block_1 : decode cX7_block 1 = .ok (.getfield 12, 3) := by decide +kernel
theorem dX7_block_4 : decode cX7_block 4 = .ok (.iload_n 1, 1) := by decide +kernel
theorem dX7_block_5 : decode cX7_block 5 = .ok (.invokevirtual 198, 3) := by decide +kernel
theorem dX7_block_8 : decode cX7_block 8 = .ok (.istore_n 3, 1) := by decide +kernel
theorem dX7_block_9 : decode cX7_block 9 = .ok (.iload_n 3, 1) := by decide +kernel
theorem dX7_block_10 : decode cX7_block 10 = .ok (.iconst (-1), 1) := by decide +kernel
theorem dX7_block_11 : decode cX7_block 11 = .ok (.if_icmp .ne 5, 3) := by decide +kernel
theorem dX7_block_14 : decode cX7_block 14 = .ok (.iconst (-1), 1) := by decide +kernel
theorem dX7_block_15 : decode cX7_block 15 = .ok (.ireturn, 1) := by decide +kernel
theorem dX7_block_16 : decode cX7_block 16 = .ok (.iload_n 2, 1) := by decide +kernel
theorem dX7_block_17 : decode cX7_block 17 = .ok (.tableswitch 59 0 2 #[27, 29, 47], 27) := by decide +kernel
theorem dX7_block_44 : decode cX7_block 44 = .ok (.iload_n 3, 1) := by decide +kernel
theorem dX7_block_45 : decode cX7_block 45 = .ok (.ireturn, 1) := by decide +kernel
theorem dX7_block_46 : decode cX7_block 46 = .ok (.aload_n 0, 1) := by decide +kernel
theorem dX7_block_47 : decode cX7_block 47 = .ok (.getfield 12, 3) := by decide +kernel
theorem dX7_block_50 : decode cX7_block 50 = .ok (.iload_n 3, 1) := by decide +kernel
theorem dX7_block_51 : decode cX7_block 51 = .ok (.aload_n 0, 1) := by decide +kernel
theorem dX7_block_52 : decode cX7_block 52 = .ok (.getfield 12, 3) := by decide +kernel
theorem dX7_block_55 : decode cX7_block 55 = .ok (.getfield 201, 3) := by decide +kernel
theorem dX7_block_58 : decode cX7_block 58 = .ok (.invokevirtual 204, 3) := by decide +kernel
theorem dX7_block_61 : decode cX7_block 61 = .ok (.iload_n 3, 1) := by decide +kernel
theorem dX7_block_62 : decode cX7_block 62 = .ok (.isub, 1) := by decide +kernel
theorem dX7_block_63 : decode cX7_block 63 = .ok (.ireturn, 1) := by decide +kernel
theorem dX7_block_64 : decode cX7_block 64 = .ok (.aload_n 0, 1) := by decide +kernel
theorem dX7_block_65 : decode cX7_block 65 = .ok (.getfield 12, 3) := by decide +kernel
theorem dX7_block_68 : decode cX7_block 68 = .ok (.iload_n 3, 1) := by decide +kernel
theorem dX7_block_69 : decode cX7_block 69 = .ok (.invokevirtual 207, 3) := by decide +kernel
theorem dX7_block_72 : decode cX7_block 72 = .ok (.invokestatic 210, 3) := by decide +kernel
theorem dX7_block_75 : decode cX7_block 75 = .ok (.ireturn, 1) := by decide +kernel
theorem dX7_block_76 : decode cX7_block 76 = .ok (.iconst (-1), 1) := by decide +kernel
theorem dX7_block_77 : decode cX7_block 77 = .ok (.ireturn, 1) := by decide +kernel
abbrev mX7_block : XM := (cX7_block, 4, RX7, (some .int), shw_M, 2)
noncomputable def rg_X7_block_0 : XK :=
 o_aload 0 <|
 o_get shw_M 7 0 <|
 o_iload 1 <|
 o_callVg 2 1 [1] g_X3_beginOfBlock v_X3_beginOfBlock <|
 o_istore 3 <|
 o_iload 3 <|
 o_iconst (-1) <|
 o_icmp_ne (o_iload 2 <|
 o_sw [(0, o_iload 3 <|
 o_ireturn),
 (1, o_aload 0 <|
 o_get shw_M 7 0 <|
 o_iload 3 <|
 o_aload 0 <|
 o_get shw_M 7 0 <|
 o_get shw_M 3 9 <|
 o_callV 3 1 [1] f_X3_endAt <|
 o_iload 3 <|
 o_isub <|
 o_ireturn),
 (2, o_aload 0 <|
 o_get shw_M 7 0 <|
 o_iload 3 <|
 o_callV 2 1 [1] f_X3_holderAt <|
 o_callS 1 1 [] f_X7_ownerOf <|
 o_ireturn)]
 (o_iconst (-1) <|
 o_ireturn))
 (o_iconst (-1) <|
 o_ireturn)
def en_X7_block_0 (p1 : Int) (p2 : Int) (h0 : Ob) (h1 : Ob) (h2 : Ob) (h3 : Ob) (h4 : Ob) (h5 : Ob) (h6 : Ob) (h7 : Ob) (h8 : Ob) (h9 : Ob) (h10 : Ob) (h11 : Ob) (h12 : Ob) (h13 : Ob) (h14 : Ob) (h15 : Ob) (h16 : Ob) (h17 : Ob) (h18 : Ob) (h19 : Ob) (h20 : Ob) (h21 : Ob) (h22 : Ob) (h23 : Ob) (h24 : Ob) (a : Unit) : XSt := ([some (.inr (.inl (0, 0))), some (.inl p1), some (.inl p2), none], [], [h0, h1, h2, h3, h4, h5, h6, h7, h8, h9, h10, h11, h12, h13, h14, h15, h16, h17, h18, h19, h20, h21, h22, h23, h24])
noncomputable def mg_X7_block_0 (p1 : Int) (p2 : Int) (h0 : Ob) (h1 : Ob) (h2 : Ob) (h3 : Ob) (h4 : Ob) (h5 : Ob) (h6 : Ob) (h7 : Ob) (h8 : Ob) (h9 : Ob) (h10 : Ob) (h11 : Ob) (h12 : Ob) (h13 : Ob) (h14 : Ob) (h15 : Ob) (h16 : Ob) (h17 : Ob) (h18 : Ob) (h19 : Ob) (h20 : Ob) (h21 : Ob) (h22 : Ob) (h23 : Ob) (h24 : Ob) (a : Unit) : Option Rt :=
 if pd (LW h1) then (
 if xw (xnth (wls h1 (h1 0 9)) p1) = (-1) then (RI (-1) [h0, h1, h2, h3, h4, h5, h6, h7, h8, h9, h10, h11, h12, h13, h14, h15, h16, h17, h18, h19, h20, h21, h22, h23, h24])
 else (if xw p2 = 0 then (RI (xnth (wls h1 (h1 0 9)) p1) [h0, h1, h2, h3, h4, h5, h6, h7, h8, h9, h10, h11, h12, h13, h14, h15, h16, h17, h18, h19, h20, h21, h22, h23, h24])
 else if xw p2 = 1 then (RI ((nxt h1 (xnth (wls h1 (h1 0 9)) p1) (h1 0 9)) - (xnth (wls h1 (h1 0 9)) p1)) [h0, h1, h2, h3, h4, h5, h6, h7, h8, h9, h10, h11, h12, h13, h14, h15, h16, h17, h18, h19, h20, h21, h22, h23, h24])
 else if xw p2 = 2 then (RI (ownF (hol h1 (xnth (wls h1 (h1 0 9)) p1))) [h0, h1, h2, h3, h4, h5, h6, h7, h8, h9, h10, h11, h12, h13, h14, h15, h16, h17, h18, h19, h20, h21, h22, h23, h24])
 else (RI (-1) [h0, h1, h2, h3, h4, h5, h6, h7, h8, h9, h10, h11, h12, h13, h14, h15, h16, h17, h18, h19, h20, h21, h22, h23, h24]))) else none
set_option maxRecDepth 100000 in
set_option maxHeartbeats 4000000 in
theorem rq_X7_block_0 (p1 : Int) (p2 : Int) (h0 : Ob) (h1 : Ob) (h2 : Ob) (h3 : Ob) (h4 : Ob) (h5 : Ob) (h6 : Ob) (h7 : Ob) (h8 : Ob) (h9 : Ob) (h10 : Ob) (h11 : Ob) (h12 : Ob) (h13 : Ob) (h14 : Ob) (h15 : Ob) (h16 : Ob) (h17 : Ob) (h18 : Ob) (h19 : Ob) (h20 : Ob) (h21 : Ob) (h22 : Ob) (h23 : Ob) (h24 : Ob) (a : Unit) : rg_X7_block_0 (en_X7_block_0 p1 p2 h0 h1 h2 h3 h4 h5 h6 h7 h8 h9 h10 h11 h12 h13 h14 h15 h16 h17 h18 h19 h20 h21 h22 h23 h24 a) = mg_X7_block_0 p1 p2 h0 h1 h2 h3 h4 h5 h6 h7 h8 h9 h10 h11 h12 h13 h14 h15 h16 h17 h18 h19 h20 h21 h22 h23 h24 a := rfl
set_option maxRecDepth 100000 in
set_option maxHeartbeats 4000000 in
theorem sg_X7_block_0 {X : XDyn} {r0 : Rt} (C : XO X mX7_block) : XS X mX7_block r0 0 (rg_X7_block_0) := by
 unfold rg_X7_block_0
 exact s_aload_n (pc := 0) C dX7_block_0 rfl <|
    s_get (pc := 1) C (ci := 7) (kf := 0) rfl inX7 (by decide) wd_312 dX7_block_1 <|
    s_iload_n (pc := 4) C dX7_block_4 rfl <|
    s_callVg (pc := 5) C ct_X3_beginOfBlock (n := 2) (rk := 1) (mp := [1]) ⟨rfl, by decide, rfl⟩ (ci := 3) rfl rfl (by decide) (by decide) yi_X3_beginOfBlock (by decide) wd_752 wd_753 wd_754 wd_74 wd_755 dX7_block_5 <|
    s_istore_n (pc := 8) C dX7_block_8 rfl <|
    s_iload_n (pc := 9) C dX7_block_9 rfl <|
    s_iconst (pc := 10) C dX7_block_10 <|
    s_icmp_ne (pc := 11) C dX7_block_11 (by decide) (s_iload_n (pc := 16) C dX7_block_16 rfl <|
    s_tsw (pc := 17) C dX7_block_17 _ (by decide) (s_iconst (pc := 76) C dX7_block_76 <|
    s_ireturn (pc := 77) C rfl dX7_block_77) (List.forall_mem_cons.mpr ⟨⟨by decide, by decide, 27, 44, rfl, by decide, s_iload_n (pc := 44) C dX7_block_44 rfl <|
    s_ireturn (pc := 45) C rfl dX7_block_45⟩, (List.forall_mem_cons.mpr ⟨⟨by decide, by decide, 29, 46, rfl, by decide, s_aload_n (pc := 46) C dX7_block_46 rfl <|
    s_get (pc := 47) C (ci := 7) (kf := 0) rfl inX7 (by decide) wd_312 dX7_block_47 <|
    s_iload_n (pc := 50) C dX7_block_50 rfl <|
    s_aload_n (pc := 51) C dX7_block_51 rfl <|
    s_get (pc := 52) C (ci := 7) (kf := 0) rfl inX7 (by decide) wd_312 dX7_block_52 <|
    s_get (pc := 55) C (ci := 3) (kf := 9) rfl inX3 (by decide) wd_128 dX7_block_55 <|
    s_callV (pc := 58) C ct_X3_endAt (n := 3) (rk := 1) (mp := [1]) ⟨rfl, by decide, rfl⟩ (ci := 3) rfl rfl (by decide) (by decide) yi_X3_endAt (by decide) wd_756 wd_398 wd_399 wd_74 wd_400 dX7_block_58 <|
    s_iload_n (pc := 61) C dX7_block_61 rfl <|
    s_isub (pc := 62) C dX7_block_62 <|
    s_ireturn (pc := 63) C rfl dX7_block_63⟩, (List.forall_mem_cons.mpr ⟨⟨by decide, by decide, 47, 64, rfl, by decide, s_aload_n (pc := 64) C dX7_block_64 rfl <|
    s_get (pc := 65) C (ci := 7) (kf := 0) rfl inX7 (by decide) wd_312 dX7_block_65 <|
    s_iload_n (pc := 68) C dX7_block_68 rfl <|
    s_callV (pc := 69) C ct_X3_holderAt (n := 2) (rk := 1) (mp := [1]) ⟨rfl, by decide, rfl⟩ (ci := 3) rfl rfl (by decide) (by decide) yi_X3_holderAt (by decide) wd_757 wd_394 wd_395 wd_74 wd_396 dX7_block_69 <|
    s_callS (pc := 72) C ct_X7_ownerOf (n := 1) (rk := 1) (mp := []) ⟨rfl, by decide, rfl⟩ (by decide) (by decide) ⟨rfl, yi_X7_ownerOf⟩ wd_758 wd_745 wd_73 wd_746 dX7_block_72 <|
    s_ireturn (pc := 75) C rfl dX7_block_75⟩, (fun _ z => absurd z List.not_mem_nil)⟩)⟩)⟩) (fun v h1 h2 => by
     have hv : v = 0 ∨ v = 1 ∨ v = 2 := by omega
     rcases hv with rfl | rfl | rfl <;> simp))
    (s_iconst (pc := 14) C dX7_block_14 <|
    s_ireturn (pc := 15) C rfl dX7_block_15)
noncomputable def rw_X7_block_0 : XK := rg_X7_block_0
noncomputable def md_X7_block_0 (p1 : Int) (p2 : Int) (h0 : Ob) (h1 : Ob) (h2 : Ob) (h3 : Ob) (h4 : Ob) (h5 : Ob) (h6 : Ob) (h7 : Ob) (h8 : Ob) (h9 : Ob) (h10 : Ob) (h11 : Ob) (h12 : Ob) (h13 : Ob) (h14 : Ob) (h15 : Ob) (h16 : Ob) (h17 : Ob) (h18 : Ob) (h19 : Ob) (h20 : Ob) (h21 : Ob) (h22 : Ob) (h23 : Ob) (h24 : Ob) : Unit → Option Rt := mg_X7_block_0 p1 p2 h0 h1 h2 h3 h4 h5 h6 h7 h8 h9 h10 h11 h12 h13 h14 h15 h16 h17 h18 h19 h20 h21 h22 h23 h24
theorem eq_X7_block_0 (p1 : Int) (p2 : Int) (h0 : Ob) (h1 : Ob) (h2 : Ob) (h3 : Ob) (h4 : Ob) (h5 : Ob) (h6 : Ob) (h7 : Ob) (h8 : Ob) (h9 : Ob) (h10 : Ob) (h11 : Ob) (h12 : Ob) (h13 : Ob) (h14 : Ob) (h15 : Ob) (h16 : Ob) (h17 : Ob) (h18 : Ob) (h19 : Ob) (h20 : Ob) (h21 : Ob) (h22 : Ob) (h23 : Ob) (h24 : Ob) (a : Unit) : rw_X7_block_0 (en_X7_block_0 p1 p2 h0 h1 h2 h3 h4 h5 h6 h7 h8 h9 h10 h11 h12 h13 h14 h15 h16 h17 h18 h19 h20 h21 h22 h23 h24 a) = md_X7_block_0 p1 p2 h0 h1 h2 h3 h4 h5 h6 h7 h8 h9 h10 h11 h12 h13 h14 h15 h16 h17 h18 h19 h20 h21 h22 h23 h24 a :=
 rq_X7_block_0 p1 p2 h0 h1 h2 h3 h4 h5 h6 h7 h8 h9 h10 h11 h12 h13 h14 h15 h16 h17 h18 h19 h20 h21 h22 h23 h24 a
theorem sd_X7_block_0 {X : XDyn} {r0 : Rt} (C : XO X mX7_block) : XS X mX7_block r0 0 (rw_X7_block_0) := sg_X7_block_0 C
theorem ctr_X7_block : XCt yX7_block mX7_block (xF mX7_block (rw_X7_block_0)) := xMet (by decide +kernel) rfl (fun _ _ C => sd_X7_block_0 C)
theorem eqf_X7_block (p1 : Int) (p2 : Int) (h0 : Ob) (h1 : Ob) (h2 : Ob) (h3 : Ob) (h4 : Ob) (h5 : Ob) (h6 : Ob) (h7 : Ob) (h8 : Ob) (h9 : Ob) (h10 : Ob) (h11 : Ob) (h12 : Ob) (h13 : Ob) (h14 : Ob) (h15 : Ob) (h16 : Ob) (h17 : Ob) (h18 : Ob) (h19 : Ob) (h20 : Ob) (h21 : Ob) (h22 : Ob) (h23 : Ob) (h24 : Ob) : xF mX7_block (rw_X7_block_0) [.inr (.inl (0, 0)), .inl p1, .inl p2] [h0, h1, h2, h3, h4, h5, h6, h7, h8, h9, h10, h11, h12, h13, h14, h15, h16, h17, h18, h19, h20, h21, h22, h23, h24] = md_X7_block_0 p1 p2 h0 h1 h2 h3 h4 h5 h6 h7 h8 h9 h10 h11 h12 h13 h14 h15 h16 h17 h18 h19 h20 h21 h22 h23 h24 () := eq_X7_block_0 p1 p2 h0 h1 h2 h3 h4 h5 h6 h7 h8 h9 h10 h11 h12 h13 h14 h15 h16 h17 h18 h19 h20 h21 h22 h23 h24 ()
theorem yi_X7_block : yX7_block.cls = RX7 ∧ yX7_block.cls ≠ "java/lang/invoke/MethodHandle" ∧ yX7_block.cls ≠ "java/lang/invoke/VarHandle" ∧ (parseMethodDescriptor yX7_block.desc).map (fun d => d.parameters.length) = some 2 := ⟨rfl, by decide +kernel, by decide +kernel, by decide +kernel⟩
theorem dX7_free_0 : decode cX7_free 0 = .ok (.iload_n 1, 1) := by decide +kernel
theorem dX7_free_1 : decode cX7_free 1 = .ok (.iconst 3, 1) := by decide +kernel
theorem dX7_free_2 : decode cX7_free 2 = .ok (.if_icmp .ne 36, 3) := by decide +kernel
theorem dX7_free_5 : decode cX7_free 5 = .ok (.aload_n 0, 1) := by decide +kernel
theorem dX7_free_6 : decode cX7_free 6 = .ok (.getfield 29, 3) := by decide +kernel
theorem dX7_free_9 : decode cX7_free 9 = .ok (.aload_n 0, 1) := by decide +kernel
theorem dX7_free_10 : decode cX7_free 10 = .ok (.getfield 12, 3) := by decide +kernel
theorem dX7_free_13 : decode cX7_free 13 = .ok (.aload_n 0, 1) := by decide +kernel
theorem dX7_free_14 : decode cX7_free 14 = .ok (.getfield 12, 3) := by decide +kernel
theorem dX7_free_17 : decode cX7_free 17 = .ok (.invokevirtual 213, 3) := by decide +kernel
theorem dX7_free_20 : decode cX7_free 20 = .ok (.aload_n 0, 1) := by decide +kernel
theorem dX7_free_21 : decode cX7_free 21 = .ok (.getfield 12, 3) := by decide +kernel
theorem dX7_free_24 : decode cX7_free 24 = .ok (.getfield 201, 3) := by decide +kernel
theorem dX7_free_27 : decode cX7_free 27 = .ok (.invokevirtual 216, 3) := by decide +kernel
theorem dX7_free_30 : decode cX7_free 30 = .ok (.aload_n 0, 1) := by decide +kernel
theorem dX7_free_31 : decode cX7_free 31 = .ok (.getfield 29, 3) := by decide +kernel
theorem dX7_free_34 : decode cX7_free 34 = .ok (.getfield 220, 3) := by decide +kernel
theorem dX7_free_37 : decode cX7_free 37 = .ok (.ireturn, 1) := by decide +kernel
theorem dX7_free_38 : decode cX7_free 38 = .ok (.aload_n 0, 1) := by decide +kernel
theorem dX7_free_39 : decode cX7_free 39 = .ok (.getfield 29, 3) := by decide +kernel
theorem dX7_free_42 : decode cX7_free 42 = .ok (.aload_n 0, 1) := by decide +kernel
theorem dX7_free_43 : decode cX7_free 43 = .ok (.getfield 12, 3) := by decide +kernel
theorem dX7_free_46 : decode cX7_free 46 = .ok (.iconst 0, 1) := by decide +kernel
theorem dX7_free_47 : decode cX7_free 47 = .ok (.aload_n 0, 1) := by decide +kernel
theorem dX7_free_48 : decode cX7_free 48 = .ok (.getfield 12, 3) := by decide +kernel
theorem dX7_free_51 : decode cX7_free 51 = .ok (.getfield 201, 3) := by decide +kernel
theorem dX7_free_54 : decode cX7_free 54 = .ok (.invokevirtual 216, 3) := by decide +kernel
theorem dX7_free_57 : decode cX7_free 57 = .ok (.iload_n 1, 1) := by decide +kernel
theorem dX7_free_58 : decode cX7_free 58 = .ok (.tableswitch 50 0 2 #[26, 34, 42], 26) := by decide +kernel
theorem dX7_free_84 : decode cX7_free 84 = .ok (.aload_n 0, 1) := by decide +kernel
theorem dX7_free_85 : decode cX7_free 85 = .ok (.getfield 29, 3) := by decide +kernel
theorem dX7_free_88 : decode cX7_free 88 = .ok (.invokevirtual 223, 3) := by decide +kernel
theorem dX7_free_91 : decode cX7_free 91 = .ok (.ireturn, 1) := by decide +kernel
theorem dX7_free_92 : decode cX7_free 92 = .ok (.aload_n 0, 1) := by decide +kernel
theorem dX7_free_93 : decode cX7_free 93 = .ok (.getfield 29, 3) := by decide +kernel
theorem dX7_free_96 : decode cX7_free 96 = .ok (.invokevirtual 226, 3) := by decide +kernel
theorem dX7_free_99 : decode cX7_free 99 = .ok (.ireturn, 1) := by decide +kernel
theorem dX7_free_100 : decode cX7_free 100 = .ok (.aload_n 0, 1) := by decide +kernel
theorem dX7_free_101 : decode cX7_free 101 = .ok (.getfield 29, 3) := by decide +kernel
theorem dX7_free_104 : decode cX7_free 104 = .ok (.getfield 220, 3) := by decide +kernel
theorem dX7_free_107 : decode cX7_free 107 = .ok (.ireturn, 1) := by decide +kernel
theorem dX7_free_108 : decode cX7_free 108 = .ok (.iconst (-1), 1) := by decide +kernel
theorem dX7_free_109 : decode cX7_free 109 = .ok (.ireturn, 1) := by decide +kernel
abbrev mX7_free : XM := (cX7_free, 2, RX7, (some .int), shw_M, 2)
noncomputable def rg_X7_free_0 : XK :=
 o_iload 1 <|
 o_iconst 3 <|
 o_icmp_ne (o_aload 0 <|
 o_get shw_M 7 3 <|
 o_aload 0 <|
 o_get shw_M 7 0 <|
 o_iconst 0 <|
 o_aload 0 <|
 o_get shw_M 7 0 <|
 o_get shw_M 3 9 <|
 o_callVg 4 0 [17, 1] g_X6_read v_X6_read <|
 o_iload 1 <|
 o_sw [(0, o_aload 0 <|
 o_get shw_M 7 3 <|
 o_callVg 1 1 [17] g_X6_cells v_X6_cells <|
 o_ireturn),
 (1, o_aload 0 <|
 o_get shw_M 7 3 <|
 o_callVg 1 1 [17] g_X6_longest v_X6_longest <|
 o_ireturn),
 (2, o_aload 0 <|
 o_get shw_M 7 3 <|
 o_get shw_M 6 2 <|
 o_ireturn)]
 (o_iconst (-1) <|
 o_ireturn))
 (o_aload 0 <|
 o_get shw_M 7 3 <|
 o_aload 0 <|
 o_get shw_M 7 0 <|
 o_aload 0 <|
 o_get shw_M 7 0 <|
 o_callV 1 1 [1] f_X3_movable <|
 o_aload 0 <|
 o_get shw_M 7 0 <|
 o_get shw_M 3 9 <|
 o_callVg 4 0 [17, 1] g_X6_read v_X6_read <|
 o_aload 0 <|
 o_get shw_M 7 3 <|
 o_get shw_M 6 2 <|
 o_ireturn)
def en_X7_free_0 (p1 : Int) (h0 : Ob) (h1 : Ob) (h2 : Ob) (h3 : Ob) (h4 : Ob) (h5 : Ob) (h6 : Ob) (h7 : Ob) (h8 : Ob) (h9 : Ob) (h10 : Ob) (h11 : Ob) (h12 : Ob) (h13 : Ob) (h14 : Ob) (h15 : Ob) (h16 : Ob) (h18 : Ob) (h19 : Ob) (h20 : Ob) (h21 : Ob) (h22 : Ob) (h23 : Ob) (h24 : Ob) (a : Ob) : XSt := ([some (.inr (.inl (0, 0))), some (.inl p1)], [], [h0, h1, h2, h3, h4, h5, h6, h7, h8, h9, h10, h11, h12, h13, h14, h15, h16, a, h18, h19, h20, h21, h22, h23, h24])
noncomputable def mg_X7_free_0 (p1 : Int) (h0 : Ob) (h1 : Ob) (h2 : Ob) (h3 : Ob) (h4 : Ob) (h5 : Ob) (h6 : Ob) (h7 : Ob) (h8 : Ob) (h9 : Ob) (h10 : Ob) (h11 : Ob) (h12 : Ob) (h13 : Ob) (h14 : Ob) (h15 : Ob) (h16 : Ob) (h18 : Ob) (h19 : Ob) (h20 : Ob) (h21 : Ob) (h22 : Ob) (h23 : Ob) (h24 : Ob) (a : Ob) : Option Rt :=
 if xw p1 = 3 then (if pd (RdG h1 (h1 0 9)) then (
 RI ((rdO a (rnl h1 (movS h1) (h1 0 9))) 0 2) [h0, h1, h2, h3, h4, h5, h6, h7, h8, h9, h10, h11, h12, h13, h14, h15, h16, (rdO a (rnl h1 (movS h1) (h1 0 9))), h18, h19, h20, h21, h22, h23, h24]) else none)
 else (if pd (RdG h1 (h1 0 9)) then (
 if xw p1 = 0 then (if rk (rdO a (rnl h1 (0 : Int) (h1 0 9))) then (
 RI (celR (rdO a (rnl h1 (0 : Int) (h1 0 9)))) [h0, h1, h2, h3, h4, h5, h6, h7, h8, h9, h10, h11, h12, h13, h14, h15, h16, (rdO a (rnl h1 (0 : Int) (h1 0 9))), h18, h19, h20, h21, h22, h23, h24]) else none)
 else if xw p1 = 1 then (if rk (rdO a (rnl h1 (0 : Int) (h1 0 9))) then (
 RI (lonR (rdO a (rnl h1 (0 : Int) (h1 0 9)))) [h0, h1, h2, h3, h4, h5, h6, h7, h8, h9, h10, h11, h12, h13, h14, h15, h16, (rdO a (rnl h1 (0 : Int) (h1 0 9))), h18, h19, h20, h21, h22, h23, h24]) else none)
 else if xw p1 = 2 then (RI ((rdO a (rnl h1 (0 : Int) (h1 0 9))) 0 2) [h0, h1, h2, h3, h4, h5, h6, h7, h8, h9, h10, h11, h12, h13, h14, h15, h16, (rdO a (rnl h1 (0 : Int) (h1 0 9))), h18, h19, h20, h21, h22, h23, h24])
 else (RI (-1) [h0, h1, h2, h3, h4, h5, h6, h7, h8, h9, h10, h11, h12, h13, h14, h15, h16, (rdO a (rnl h1 (0 : Int) (h1 0 9))), h18, h19, h20, h21, h22, h23, h24])) else none)
set_option maxRecDepth 100000 in
set_option maxHeartbeats 4000000 in
theorem rq_X7_free_0 (p1 : Int) (h0 : Ob) (h1 : Ob) (h2 : Ob) (h3 : Ob) (h4 : Ob) (h5 : Ob) (h6 : Ob) (h7 : Ob) (h8 : Ob) (h9 : Ob) (h10 : Ob) (h11 : Ob) (h12 : Ob) (h13 : Ob) (h14 : Ob) (h15 : Ob) (h16 : Ob) (h18 : Ob) (h19 : Ob) (h20 : Ob) (h21 : Ob) (h22 : Ob) (h23 : Ob) (h24 : Ob) (a : Ob) : rg_X7_free_0 (en_X7_free_0 p1 h0 h1 h2 h3 h4 h5 h6 h7 h8 h9 h10 h11 h12 h13 h14 h15 h16 h18 h19 h20 h21 h22 h23 h24 a) = mg_X7_free_0 p1 h0 h1 h2 h3 h4 h5 h6 h7 h8 h9 h10 h11 h12 h13 h14 h15 h16 h18 h19 h20 h21 h22 h23 h24 a := rfl
set_option maxRecDepth 100000 in
set_option maxHeartbeats 4000000 in
theorem sg_X7_free_0 {X : XDyn} {r0 : Rt} (C : XO X mX7_free) : XS X mX7_free r0 0 (rg_X7_free_0) := by
 unfold rg_X7_free_0
 exact s_iload_n (pc := 0) C dX7_free_0 rfl <|
    s_iconst (pc := 1) C dX7_free_1 <|
    s_icmp_ne (pc := 2) C dX7_free_2 (by decide) (s_aload_n (pc := 38) C dX7_free_38 rfl <|
    s_get (pc := 39) C (ci := 7) (kf := 3) rfl inX7 (by decide) wd_315 dX7_free_39 <|
    s_aload_n (pc := 42) C dX7_free_42 rfl <|
    s_get (pc := 43) C (ci := 7) (kf := 0) rfl inX7 (by decide) wd_312 dX7_free_43 <|
    s_iconst (pc := 46) C dX7_free_46 <|
    s_aload_n (pc := 47) C dX7_free_47 rfl <|
    s_get (pc := 48) C (ci := 7) (kf := 0) rfl inX7 (by decide) wd_312 dX7_free_48 <|
    s_get (pc := 51) C (ci := 3) (kf := 9) rfl inX3 (by decide) wd_128 dX7_free_51 <|
    s_callVg (pc := 54) C ct_X6_read (n := 4) (rk := 0) (mp := [17, 1]) ⟨rfl, by decide, rfl⟩ (ci := 6) rfl rfl (by decide) (by decide) yi_X6_read (by decide) wd_764 wd_432 wd_433 wd_76 wd_434 dX7_free_54 <|
    s_iload_n (pc := 57) C dX7_free_57 rfl <|
    s_tsw (pc := 58) C dX7_free_58 _ (by decide) (s_iconst (pc := 108) C dX7_free_108 <|
    s_ireturn (pc := 109) C rfl dX7_free_109) (List.forall_mem_cons.mpr ⟨⟨by decide, by decide, 26, 84, rfl, by decide, s_aload_n (pc := 84) C dX7_free_84 rfl <|
    s_get (pc := 85) C (ci := 7) (kf := 3) rfl inX7 (by decide) wd_315 dX7_free_85 <|
    s_callVg (pc := 88) C ct_X6_cells (n := 1) (rk := 1) (mp := [17]) ⟨rfl, by decide, rfl⟩ (ci := 6) rfl rfl (by decide) (by decide) yi_X6_cells (by decide) wd_765 wd_462 wd_463 wd_76 wd_464 dX7_free_88 <|
    s_ireturn (pc := 91) C rfl dX7_free_91⟩, (List.forall_mem_cons.mpr ⟨⟨by decide, by decide, 34, 92, rfl, by decide, s_aload_n (pc := 92) C dX7_free_92 rfl <|
    s_get (pc := 93) C (ci := 7) (kf := 3) rfl inX7 (by decide) wd_315 dX7_free_93 <|
    s_callVg (pc := 96) C ct_X6_longest (n := 1) (rk := 1) (mp := [17]) ⟨rfl, by decide, rfl⟩ (ci := 6) rfl rfl (by decide) (by decide) yi_X6_longest (by decide) wd_766 wd_466 wd_467 wd_76 wd_468 dX7_free_96 <|
    s_ireturn (pc := 99) C rfl dX7_free_99⟩, (List.forall_mem_cons.mpr ⟨⟨by decide, by decide, 42, 100, rfl, by decide, s_aload_n (pc := 100) C dX7_free_100 rfl <|
    s_get (pc := 101) C (ci := 7) (kf := 3) rfl inX7 (by decide) wd_315 dX7_free_101 <|
    s_get (pc := 104) C (ci := 6) (kf := 2) rfl inX6 (by decide) wd_206 dX7_free_104 <|
    s_ireturn (pc := 107) C rfl dX7_free_107⟩, (fun _ z => absurd z List.not_mem_nil)⟩)⟩)⟩) (fun v h1 h2 => by
     have hv : v = 0 ∨ v = 1 ∨ v = 2 := by omega
     rcases hv with rfl | rfl | rfl <;> simp))
    (s_aload_n (pc := 5) C dX7_free_5 rfl <|
    s_get (pc := 6) C (ci := 7) (kf := 3) rfl inX7 (by decide) wd_315 dX7_free_6 <|
    s_aload_n (pc := 9) C dX7_free_9 rfl <|
    s_get (pc := 10) C (ci := 7) (kf := 0) rfl inX7 (by decide) wd_312 dX7_free_10 <|
    s_aload_n (pc := 13) C dX7_free_13 rfl <|
    s_get (pc := 14) C (ci := 7) (kf := 0) rfl inX7 (by decide) wd_312 dX7_free_14 <|
    s_callV (pc := 17) C ct_X3_movable (n := 1) (rk := 1) (mp := [1]) ⟨rfl, by decide, rfl⟩ (ci := 3) rfl rfl (by decide) (by decide) yi_X3_movable (by decide) wd_763 wd_428 wd_429 wd_74 wd_430 dX7_free_17 <|
    s_aload_n (pc := 20) C dX7_free_20 rfl <|
    s_get (pc := 21) C (ci := 7) (kf := 0) rfl inX7 (by decide) wd_312 dX7_free_21 <|
    s_get (pc := 24) C (ci := 3) (kf := 9) rfl inX3 (by decide) wd_128 dX7_free_24 <|
    s_callVg (pc := 27) C ct_X6_read (n := 4) (rk := 0) (mp := [17, 1]) ⟨rfl, by decide, rfl⟩ (ci := 6) rfl rfl (by decide) (by decide) yi_X6_read (by decide) wd_764 wd_432 wd_433 wd_76 wd_434 dX7_free_27 <|
    s_aload_n (pc := 30) C dX7_free_30 rfl <|
    s_get (pc := 31) C (ci := 7) (kf := 3) rfl inX7 (by decide) wd_315 dX7_free_31 <|
    s_get (pc := 34) C (ci := 6) (kf := 2) rfl inX6 (by decide) wd_206 dX7_free_34 <|
    s_ireturn (pc := 37) C rfl dX7_free_37)
noncomputable def rw_X7_free_0 : XK := rg_X7_free_0
noncomputable def md_X7_free_0 (p1 : Int) (h0 : Ob) (h1 : Ob) (h2 : Ob) (h3 : Ob) (h4 : Ob) (h5 : Ob) (h6 : Ob) (h7 : Ob) (h8 : Ob) (h9 : Ob) (h10 : Ob) (h11 : Ob) (h12 : Ob) (h13 : Ob) (h14 : Ob) (h15 : Ob) (h16 : Ob) (h18 : Ob) (h19 : Ob) (h20 : Ob) (h21 : Ob) (h22 : Ob) (h23 : Ob) (h24 : Ob) : Ob → Option Rt := mg_X7_free_0 p1 h0 h1 h2 h3 h4 h5 h6 h7 h8 h9 h10 h11 h12 h13 h14 h15 h16 h18 h19 h20 h21 h22 h23 h24
theorem eq_X7_free_0 (p1 : Int) (h0 : Ob) (h1 : Ob) (h2 : Ob) (h3 : Ob) (h4 : Ob) (h5 : Ob) (h6 : Ob) (h7 : Ob) (h8 : Ob) (h9 : Ob) (h10 : Ob) (h11 : Ob) (h12 : Ob) (h13 : Ob) (h14 : Ob) (h15 : Ob) (h16 : Ob) (h18 : Ob) (h19 : Ob) (h20 : Ob) (h21 : Ob) (h22 : Ob) (h23 : Ob) (h24 : Ob) (a : Ob) : rw_X7_free_0 (en_X7_free_0 p1 h0 h1 h2 h3 h4 h5 h6 h7 h8 h9 h10 h11 h12 h13 h14 h15 h16 h18 h19 h20 h21 h22 h23 h24 a) = md_X7_free_0 p1 h0 h1 h2 h3 h4 h5 h6 h7 h8 h9 h10 h11 h12 h13 h14 h15 h16 h18 h19 h20 h21 h22 h23 h24 a :=
 rq_X7_free_0 p1 h0 h1 h2 h3 h4 h5 h6 h7 h8 h9 h10 h11 h12 h13 h14 h15 h16 h18 h19 h20 h21 h22 h23 h24 a
theorem sd_X7_free_0 {X : XDyn} {r0 : Rt} (C : XO X mX7_free) : XS X mX7_free r0 0 (rw_X7_free_0) := sg_X7_free_0 C
theorem ctr_X7_free : XCt yX7_free mX7_free (xF mX7_free (rw_X7_free_0)) := xMet (by decide +kernel) rfl (fun _ _ C => sd_X7_free_0 C)
theorem eqf_X7_free (p1 : Int) (h0 : Ob) (h1 : Ob) (h2 : Ob) (h3 : Ob) (h4 : Ob) (h5 : Ob) (h6 : Ob) (h7 : Ob) (h8 : Ob) (h9 : Ob) (h10 : Ob) (h11 : Ob) (h12 : Ob) (h13 : Ob) (h14 : Ob) (h15 : Ob) (h16 : Ob) (h17 : Ob) (h18 : Ob) (h19 : Ob) (h20 : Ob) (h21 : Ob) (h22 : Ob) (h23 : Ob) (h24 : Ob) : xF mX7_free (rw_X7_free_0) [.inr (.inl (0, 0)), .inl p1] [h0, h1, h2, h3, h4, h5, h6, h7, h8, h9, h10, h11, h12, h13, h14, h15, h16, h17, h18, h19, h20, h21, h22, h23, h24] = md_X7_free_0 p1 h0 h1 h2 h3 h4 h5 h6 h7 h8 h9 h10 h11 h12 h13 h14 h15 h16 h18 h19 h20 h21 h22 h23 h24 h17 := eq_X7_free_0 p1 h0 h1 h2 h3 h4 h5 h6 h7 h8 h9 h10 h11 h12 h13 h14 h15 h16 h18 h19 h20 h21 h22 h23 h24 h17
theorem yi_X7_free : yX7_free.cls = RX7 ∧ yX7_free.cls ≠ "java/lang/invoke/MethodHandle" ∧ yX7_free.cls ≠ "java/lang/invoke/VarHandle" ∧ (parseMethodDescriptor yX7_free.desc).map (fun d => d.parameters.length) = some 1 := ⟨rfl, by decide +kernel, by decide +kernel, by decide +kernel⟩
theorem dX7_order_0 : decode cX7_order 0 = .ok (.aload_n 0, 1) := by decide +kernel
theorem dX7_order_1 : decode cX7_order 1 = .ok (.getfield 12, 3) := by decide +kernel
theorem dX7_order_4 : decode cX7_order 4 = .ok (.invokevirtual 240, 3) := by decide +kernel
theorem dX7_order_7 : decode cX7_order 7 = .ok (.istore_n 2, 1) := by decide +kernel
theorem dX7_order_8 : decode cX7_order 8 = .ok (.iconst 0, 1) := by decide +kernel
theorem dX7_order_9 : decode cX7_order 9 = .ok (.istore_n 3, 1) := by decide +kernel
theorem dX7_order_10 : decode cX7_order 10 = .ok (.iload_n 3, 1) := by decide +kernel
theorem dX7_order_11 : decode cX7_order 11 = .ok (.iload_n 1, 1) := by decide +kernel
theorem dX7_order_12 : decode cX7_order 12 = .ok (.if_icmp .gt 48, 3) := by decide +kernel
theorem dX7_order_15 : decode cX7_order 15 = .ok (.iload_n 3, 1) := by decide +kernel
theorem dX7_order_16 : decode cX7_order 16 = .ok (.bipush 8, 2) := by decide +kernel
theorem dX7_order_18 : decode cX7_order 18 = .ok (.if_icmp .ge 42, 3) := by decide +kernel
theorem dX7_order_21 : decode cX7_order 21 = .ok (.aload_n 0, 1) := by decide +kernel
theorem dX7_order_22 : decode cX7_order 22 = .ok (.getfield 12, 3) := by decide +kernel
theorem dX7_order_25 : decode cX7_order 25 = .ok (.iload_n 2, 1) := by decide +kernel
theorem dX7_order_26 : decode cX7_order 26 = .ok (.invokevirtual 243, 3) := by decide +kernel
theorem dX7_order_29 : decode cX7_order 29 = .ok (.istore 4, 2) := by decide +kernel
theorem dX7_order_31 : decode cX7_order 31 = .ok (.iload 4, 2) := by decide +kernel
theorem dX7_order_33 : decode cX7_order 33 = .ok (.iconst (-1), 1) := by decide +kernel
theorem dX7_order_34 : decode cX7_order 34 = .ok (.if_icmp .eq 8, 3) := by decide +kernel
theorem dX7_order_37 : decode cX7_order 37 = .ok (.iload_n 3, 1) := by decide +kernel
theorem dX7_order_38 : decode cX7_order 38 = .ok (.iload_n 1, 1) := by decide +kernel
theorem dX7_order_39 : decode cX7_order 39 = .ok (.if_icmp .ne 6, 3) := by decide +kernel
theorem dX7_order_42 : decode cX7_order 42 = .ok (.iload 4, 2) := by decide +kernel
theorem dX7_order_44 : decode cX7_order 44 = .ok (.ireturn, 1) := by decide +kernel
theorem dX7_order_45 : decode cX7_order 45 = .ok (.iload_n 2, 1) := by decide +kernel
theorem dX7_order_46 : decode cX7_order 46 = .ok (.iconst 1, 1) := by decide +kernel
theorem dX7_order_47 : decode cX7_order 47 = .ok (.iload 4, 2) := by decide +kernel
theorem dX7_order_49 : decode cX7_order 49 = .ok (.ishl, 1) := by decide +kernel
theorem dX7_order_50 : decode cX7_order 50 = .ok (.iconst (-1), 1) := by decide +kernel
theorem dX7_order_51 : decode cX7_order 51 = .ok (.ixor, 1) := by decide +kernel
theorem dX7_order_52 : decode cX7_order 52 = .ok (.iand, 1) := by decide +kernel
theorem dX7_order_53 : decode cX7_order 53 = .ok (.istore_n 2, 1) := by decide +kernel
theorem dX7_order_54 : decode cX7_order 54 = .ok (.iinc 3 1, 3) := by decide +kernel
theorem dX7_order_57 : decode cX7_order 57 = .ok (.goto (-47), 3) := by decide +kernel
theorem dX7_order_60 : decode cX7_order 60 = .ok (.iconst (-1), 1) := by decide +kernel
theorem dX7_order_61 : decode cX7_order 61 = .ok (.ireturn, 1) := by decide +kernel
abbrev mX7_order : XM := (cX7_order, 5, RX7, (some .int), shw_M, 3)
noncomputable def rg_X7_order_0 (k10 : XK) : XK :=
 o_aload 0 <|
 o_get shw_M 7 0 <|
 o_callV 1 1 [1] f_X3_goers <|
 o_istore 2 <|
 o_iconst 0 <|
 o_istore 3 <|
 o_cut [] k10
def en_X7_order_0 (p1 : Int) (h0 : Ob) (h1 : Ob) (h2 : Ob) (h3 : Ob) (h4 : Ob) (h5 : Ob) (h6 : Ob) (h7 : Ob) (h8 : Ob) (h9 : Ob) (h10 : Ob) (h11 : Ob) (h12 : Ob) (h13 : Ob) (h14 : Ob) (h15 : Ob) (h16 : Ob) (h17 : Ob) (h18 : Ob) (h19 : Ob) (h20 : Ob) (h21 : Ob) (h22 : Ob) (h23 : Ob) (h24 : Ob) (a : Unit) : XSt := ([some (.inr (.inl (0, 0))), some (.inl p1), none, none, none], [], [h0, h1, h2, h3, h4, h5, h6, h7, h8, h9, h10, h11, h12, h13, h14, h15, h16, h17, h18, h19, h20, h21, h22, h23, h24])
noncomputable def rg_X7_order_10 (k10 : XK) : XK :=
 o_iload 3 <|
 o_iload 1 <|
 o_icmp_gt (o_iconst (-1) <|
 o_ireturn)
 (o_iload 3 <|
 o_iconst 8 <|
 o_icmp_ge (o_iconst (-1) <|
 o_ireturn)
 (o_aload 0 <|
 o_get shw_M 7 0 <|
 o_iload 2 <|
 o_callV 2 1 [1] f_X3_leastWorthy <|
 o_istore 4 <|
 o_iload 4 <|
 o_iconst (-1) <|
 o_icmp_eq (o_iload 4 <|
 o_ireturn)
 (o_iload 3 <|
 o_iload 1 <|
 o_icmp_ne (o_iload 2 <|
 o_iconst 1 <|
 o_iload 4 <|
 o_ishl <|
 o_iconst (-1) <|
 o_ixor <|
 o_iand <|
 o_istore 2 <|
 o_iinc 3 1 <|
 o_cut [4] k10)
 (o_iload 4 <|
 o_ireturn))))
def en_X7_order_10 (p1 : Int) (h0 : Ob) (h1 : Ob) (h2 : Ob) (h3 : Ob) (h4 : Ob) (h5 : Ob) (h6 : Ob) (h7 : Ob) (h8 : Ob) (h9 : Ob) (h10 : Ob) (h11 : Ob) (h12 : Ob) (h13 : Ob) (h14 : Ob) (h15 : Ob) (h16 : Ob) (h17 : Ob) (h18 : Ob) (h19 : Ob) (h20 : Ob) (h21 : Ob) (h22 : Ob) (h23 : Ob) (h24 : Ob) (a : Int × Int) : XSt := ([some (.inr (.inl (0, 0))), some (.inl p1), some (.inl a.1), some (.inl a.2), none], [], [h0, h1, h2, h3, h4, h5, h6, h7, h8, h9, h10, h11, h12, h13, h14, h15, h16, h17, h18, h19, h20, h21, h22, h23, h24])
noncomputable def mg_X7_order_0 (p1 : Int) (h0 : Ob) (h1 : Ob) (h2 : Ob) (h3 : Ob) (h4 : Ob) (h5 : Ob) (h6 : Ob) (h7 : Ob) (h8 : Ob) (h9 : Ob) (h10 : Ob) (h11 : Ob) (h12 : Ob) (h13 : Ob) (h14 : Ob) (h15 : Ob) (h16 : Ob) (h17 : Ob) (h18 : Ob) (h19 : Ob) (h20 : Ob) (h21 : Ob) (h22 : Ob) (h23 : Ob) (h24 : Ob) (k10 : (Int × Int) → Option Rt) (a : Unit) : Option Rt :=
 k10 ((goS h1), 0)
set_option maxRecDepth 100000 in
set_option maxHeartbeats 4000000 in
theorem rq_X7_order_0 (p1 : Int) (h0 : Ob) (h1 : Ob) (h2 : Ob) (h3 : Ob) (h4 : Ob) (h5 : Ob) (h6 : Ob) (h7 : Ob) (h8 : Ob) (h9 : Ob) (h10 : Ob) (h11 : Ob) (h12 : Ob) (h13 : Ob) (h14 : Ob) (h15 : Ob) (h16 : Ob) (h17 : Ob) (h18 : Ob) (h19 : Ob) (h20 : Ob) (h21 : Ob) (h22 : Ob) (h23 : Ob) (h24 : Ob) (k10 : XK) (a : Unit) : rg_X7_order_0 k10 (en_X7_order_0 p1 h0 h1 h2 h3 h4 h5 h6 h7 h8 h9 h10 h11 h12 h13 h14 h15 h16 h17 h18 h19 h20 h21 h22 h23 h24 a) = mg_X7_order_0 p1 h0 h1 h2 h3 h4 h5 h6 h7 h8 h9 h10 h11 h12 h13 h14 h15 h16 h17 h18 h19 h20 h21 h22 h23 h24 (fun b => k10 (en_X7_order_10 p1 h0 h1 h2 h3 h4 h5 h6 h7 h8 h9 h10 h11 h12 h13 h14 h15 h16 h17 h18 h19 h20 h21 h22 h23 h24 b)) a := rfl
set_option maxRecDepth 100000 in
set_option maxHeartbeats 4000000 in
theorem sg_X7_order_0 {X : XDyn} {r0 : Rt} (C : XO X mX7_order) {k10 : XK} (q10 : XS X mX7_order r0 10 k10) : XS X mX7_order r0 0 (rg_X7_order_0 k10) := by
 unfold rg_X7_order_0
 exact s_aload_n (pc := 0) C dX7_order_0 rfl <|
    s_get (pc := 1) C (ci := 7) (kf := 0) rfl inX7 (by decide) wd_312 dX7_order_1 <|
    s_callV (pc := 4) C ct_X3_goers (n := 1) (rk := 1) (mp := [1]) ⟨rfl, by decide, rfl⟩ (ci := 3) rfl rfl (by decide) (by decide) yi_X3_goers (by decide) wd_780 wd_522 wd_523 wd_74 wd_524 dX7_order_4 <|
    s_istore_n (pc := 7) C dX7_order_7 rfl <|
    s_iconst (pc := 8) C dX7_order_8 <|
    s_istore_n (pc := 9) C dX7_order_9 rfl <|
    s_cut q10
noncomputable def mg_X7_order_10 (p1 : Int) (h0 : Ob) (h1 : Ob) (h2 : Ob) (h3 : Ob) (h4 : Ob) (h5 : Ob) (h6 : Ob) (h7 : Ob) (h8 : Ob) (h9 : Ob) (h10 : Ob) (h11 : Ob) (h12 : Ob) (h13 : Ob) (h14 : Ob) (h15 : Ob) (h16 : Ob) (h17 : Ob) (h18 : Ob) (h19 : Ob) (h20 : Ob) (h21 : Ob) (h22 : Ob) (h23 : Ob) (h24 : Ob) (k10 : (Int × Int) → Option Rt) (a : Int × Int) : Option Rt :=
 if xw a.2 > xw p1 then (RI (-1) [h0, h1, h2, h3, h4, h5, h6, h7, h8, h9, h10, h11, h12, h13, h14, h15, h16, h17, h18, h19, h20, h21, h22, h23, h24])
 else (if xw a.2 ≥ 8 then (RI (-1) [h0, h1, h2, h3, h4, h5, h6, h7, h8, h9, h10, h11, h12, h13, h14, h15, h16, h17, h18, h19, h20, h21, h22, h23, h24])
 else (if xw (lwo h1 a.1) = (-1) then (RI (lwo h1 a.1) [h0, h1, h2, h3, h4, h5, h6, h7, h8, h9, h10, h11, h12, h13, h14, h15, h16, h17, h18, h19, h20, h21, h22, h23, h24])
 else (if xw a.2 = xw p1 then (RI (lwo h1 a.1) [h0, h1, h2, h3, h4, h5, h6, h7, h8, h9, h10, h11, h12, h13, h14, h15, h16, h17, h18, h19, h20, h21, h22, h23, h24])
 else (k10 ((xand a.1 (xxor (xshl 1 (lwo h1 a.1)) (-1))), (a.2 + 1))))))
set_option maxRecDepth 100000 in
set_option maxHeartbeats 4000000 in
theorem rq_X7_order_10 (p1 : Int) (h0 : Ob) (h1 : Ob) (h2 : Ob) (h3 : Ob) (h4 : Ob) (h5 : Ob) (h6 : Ob) (h7 : Ob) (h8 : Ob) (h9 : Ob) (h10 : Ob) (h11 : Ob) (h12 : Ob) (h13 : Ob) (h14 : Ob) (h15 : Ob) (h16 : Ob) (h17 : Ob) (h18 : Ob) (h19 : Ob) (h20 : Ob) (h21 : Ob) (h22 : Ob) (h23 : Ob) (h24 : Ob) (k10 : XK) (a : Int × Int) : rg_X7_order_10 k10 (en_X7_order_10 p1 h0 h1 h2 h3 h4 h5 h6 h7 h8 h9 h10 h11 h12 h13 h14 h15 h16 h17 h18 h19 h20 h21 h22 h23 h24 a) = mg_X7_order_10 p1 h0 h1 h2 h3 h4 h5 h6 h7 h8 h9 h10 h11 h12 h13 h14 h15 h16 h17 h18 h19 h20 h21 h22 h23 h24 (fun b => k10 (en_X7_order_10 p1 h0 h1 h2 h3 h4 h5 h6 h7 h8 h9 h10 h11 h12 h13 h14 h15 h16 h17 h18 h19 h20 h21 h22 h23 h24 b)) a := rfl
set_option maxRecDepth 100000 in
set_option maxHeartbeats 4000000 in
theorem sg_X7_order_10 {X : XDyn} {r0 : Rt} (C : XO X mX7_order) {k10 : XK} (q10 : XS X mX7_order r0 10 k10) : XS X mX7_order r0 10 (rg_X7_order_10 k10) := by
 unfold rg_X7_order_10
 exact s_iload_n (pc := 10) C dX7_order_10 rfl <|
    s_iload_n (pc := 11) C dX7_order_11 rfl <|
    s_icmp_gt (pc := 12) C dX7_order_12 (by decide) (s_iconst (pc := 60) C dX7_order_60 <|
    s_ireturn (pc := 61) C rfl dX7_order_61)
    (s_iload_n (pc := 15) C dX7_order_15 rfl <|
    s_bipush (pc := 16) C dX7_order_16 (by decide) <|
    s_icmp_ge (pc := 18) C dX7_order_18 (by decide) (s_iconst (pc := 60) C dX7_order_60 <|
    s_ireturn (pc := 61) C rfl dX7_order_61)
    (s_aload_n (pc := 21) C dX7_order_21 rfl <|
    s_get (pc := 22) C (ci := 7) (kf := 0) rfl inX7 (by decide) wd_312 dX7_order_22 <|
    s_iload_n (pc := 25) C dX7_order_25 rfl <|
    s_callV (pc := 26) C ct_X3_leastWorthy (n := 2) (rk := 1) (mp := [1]) ⟨rfl, by decide, rfl⟩ (ci := 3) rfl rfl (by decide) (by decide) yi_X3_leastWorthy (by decide) wd_781 wd_509 wd_510 wd_74 wd_511 dX7_order_26 <|
    s_istore (pc := 29) C dX7_order_29 <|
    s_iload (pc := 31) C dX7_order_31 <|
    s_iconst (pc := 33) C dX7_order_33 <|
    s_icmp_eq (pc := 34) C dX7_order_34 (by decide) (s_iload (pc := 42) C dX7_order_42 <|
    s_ireturn (pc := 44) C rfl dX7_order_44)
    (s_iload_n (pc := 37) C dX7_order_37 rfl <|
    s_iload_n (pc := 38) C dX7_order_38 rfl <|
    s_icmp_ne (pc := 39) C dX7_order_39 (by decide) (s_iload_n (pc := 45) C dX7_order_45 rfl <|
    s_iconst (pc := 46) C dX7_order_46 <|
    s_iload (pc := 47) C dX7_order_47 <|
    s_ishl (pc := 49) C dX7_order_49 <|
    s_iconst (pc := 50) C dX7_order_50 <|
    s_ixor (pc := 51) C dX7_order_51 <|
    s_iand (pc := 52) C dX7_order_52 <|
    s_istore_n (pc := 53) C dX7_order_53 rfl <|
    s_iinc (pc := 54) C dX7_order_54 <|
    s_goto (pc := 57) C dX7_order_57 (by decide) <|
    s_cut q10)
    (s_iload (pc := 42) C dX7_order_42 <|
    s_ireturn (pc := 44) C rfl dX7_order_44))))
noncomputable def rw_X7_order_10 (f : Nat) : XK := tlp (fun k10 => rg_X7_order_10 k10) f
noncomputable def lb_X7_order_10 (p1 : Int) (h0 : Ob) (h1 : Ob) (h2 : Ob) (h3 : Ob) (h4 : Ob) (h5 : Ob) (h6 : Ob) (h7 : Ob) (h8 : Ob) (h9 : Ob) (h10 : Ob) (h11 : Ob) (h12 : Ob) (h13 : Ob) (h14 : Ob) (h15 : Ob) (h16 : Ob) (h17 : Ob) (h18 : Ob) (h19 : Ob) (h20 : Ob) (h21 : Ob) (h22 : Ob) (h23 : Ob) (h24 : Ob) (f : Nat) : ((Int × Int) → Option Rt) → Int × Int → Option Rt := fun k10 => mg_X7_order_10 p1 h0 h1 h2 h3 h4 h5 h6 h7 h8 h9 h10 h11 h12 h13 h14 h15 h16 h17 h18 h19 h20 h21 h22 h23 h24 k10
noncomputable def md_X7_order_10 (p1 : Int) (h0 : Ob) (h1 : Ob) (h2 : Ob) (h3 : Ob) (h4 : Ob) (h5 : Ob) (h6 : Ob) (h7 : Ob) (h8 : Ob) (h9 : Ob) (h10 : Ob) (h11 : Ob) (h12 : Ob) (h13 : Ob) (h14 : Ob) (h15 : Ob) (h16 : Ob) (h17 : Ob) (h18 : Ob) (h19 : Ob) (h20 : Ob) (h21 : Ob) (h22 : Ob) (h23 : Ob) (h24 : Ob) (f : Nat) : Int × Int → Option Rt := tlp (lb_X7_order_10 p1 h0 h1 h2 h3 h4 h5 h6 h7 h8 h9 h10 h11 h12 h13 h14 h15 h16 h17 h18 h19 h20 h21 h22 h23 h24 f) f
theorem eq_X7_order_10 (p1 : Int) (h0 : Ob) (h1 : Ob) (h2 : Ob) (h3 : Ob) (h4 : Ob) (h5 : Ob) (h6 : Ob) (h7 : Ob) (h8 : Ob) (h9 : Ob) (h10 : Ob) (h11 : Ob) (h12 : Ob) (h13 : Ob) (h14 : Ob) (h15 : Ob) (h16 : Ob) (h17 : Ob) (h18 : Ob) (h19 : Ob) (h20 : Ob) (h21 : Ob) (h22 : Ob) (h23 : Ob) (h24 : Ob) (f : Nat) (a : Int × Int) : rw_X7_order_10 f (en_X7_order_10 p1 h0 h1 h2 h3 h4 h5 h6 h7 h8 h9 h10 h11 h12 h13 h14 h15 h16 h17 h18 h19 h20 h21 h22 h23 h24 a) = md_X7_order_10 p1 h0 h1 h2 h3 h4 h5 h6 h7 h8 h9 h10 h11 h12 h13 h14 h15 h16 h17 h18 h19 h20 h21 h22 h23 h24 f a :=
 tlp_enc (en_X7_order_10 p1 h0 h1 h2 h3 h4 h5 h6 h7 h8 h9 h10 h11 h12 h13 h14 h15 h16 h17 h18 h19 h20 h21 h22 h23 h24) (fun k10 a => (rq_X7_order_10 p1 h0 h1 h2 h3 h4 h5 h6 h7 h8 h9 h10 h11 h12 h13 h14 h15 h16 h17 h18 h19 h20 h21 h22 h23 h24 k10 a).trans (congrFun (congr (rfl : mg_X7_order_10 p1 h0 h1 h2 h3 h4 h5 h6 h7 h8 h9 h10 h11 h12 h13 h14 h15 h16 h17 h18 h19 h20 h21 h22 h23 h24 = mg_X7_order_10 p1 h0 h1 h2 h3 h4 h5 h6 h7 h8 h9 h10 h11 h12 h13 h14 h15 h16 h17 h18 h19 h20 h21 h22 h23 h24) rfl) a)) f a
theorem sd_X7_order_10 (f : Nat) {X : XDyn} {r0 : Rt} (C : XO X mX7_order) : XS X mX7_order r0 10 (rw_X7_order_10 f) := s_lp (fun k10 q10 => sg_X7_order_10 C q10) f
noncomputable def rw_X7_order_0 (f : Nat) : XK := rg_X7_order_0 (rw_X7_order_10 f)
noncomputable def md_X7_order_0 (p1 : Int) (h0 : Ob) (h1 : Ob) (h2 : Ob) (h3 : Ob) (h4 : Ob) (h5 : Ob) (h6 : Ob) (h7 : Ob) (h8 : Ob) (h9 : Ob) (h10 : Ob) (h11 : Ob) (h12 : Ob) (h13 : Ob) (h14 : Ob) (h15 : Ob) (h16 : Ob) (h17 : Ob) (h18 : Ob) (h19 : Ob) (h20 : Ob) (h21 : Ob) (h22 : Ob) (h23 : Ob) (h24 : Ob) (f : Nat) : Unit → Option Rt := mg_X7_order_0 p1 h0 h1 h2 h3 h4 h5 h6 h7 h8 h9 h10 h11 h12 h13 h14 h15 h16 h17 h18 h19 h20 h21 h22 h23 h24 (md_X7_order_10 p1 h0 h1 h2 h3 h4 h5 h6 h7 h8 h9 h10 h11 h12 h13 h14 h15 h16 h17 h18 h19 h20 h21 h22 h23 h24 f)
theorem eq_X7_order_0 (p1 : Int) (h0 : Ob) (h1 : Ob) (h2 : Ob) (h3 : Ob) (h4 : Ob) (h5 : Ob) (h6 : Ob) (h7 : Ob) (h8 : Ob) (h9 : Ob) (h10 : Ob) (h11 : Ob) (h12 : Ob) (h13 : Ob) (h14 : Ob) (h15 : Ob) (h16 : Ob) (h17 : Ob) (h18 : Ob) (h19 : Ob) (h20 : Ob) (h21 : Ob) (h22 : Ob) (h23 : Ob) (h24 : Ob) (f : Nat) (a : Unit) : rw_X7_order_0 f (en_X7_order_0 p1 h0 h1 h2 h3 h4 h5 h6 h7 h8 h9 h10 h11 h12 h13 h14 h15 h16 h17 h18 h19 h20 h21 h22 h23 h24 a) = md_X7_order_0 p1 h0 h1 h2 h3 h4 h5 h6 h7 h8 h9 h10 h11 h12 h13 h14 h15 h16 h17 h18 h19 h20 h21 h22 h23 h24 f a :=
 (rq_X7_order_0 p1 h0 h1 h2 h3 h4 h5 h6 h7 h8 h9 h10 h11 h12 h13 h14 h15 h16 h17 h18 h19 h20 h21 h22 h23 h24 (rw_X7_order_10 f) a).trans (congrFun (congr (rfl : mg_X7_order_0 p1 h0 h1 h2 h3 h4 h5 h6 h7 h8 h9 h10 h11 h12 h13 h14 h15 h16 h17 h18 h19 h20 h21 h22 h23 h24 = mg_X7_order_0 p1 h0 h1 h2 h3 h4 h5 h6 h7 h8 h9 h10 h11 h12 h13 h14 h15 h16 h17 h18 h19 h20 h21 h22 h23 h24) (funext (eq_X7_order_10 p1 h0 h1 h2 h3 h4 h5 h6 h7 h8 h9 h10 h11 h12 h13 h14 h15 h16 h17 h18 h19 h20 h21 h22 h23 h24 f))) a)
theorem sd_X7_order_0 (f : Nat) {X : XDyn} {r0 : Rt} (C : XO X mX7_order) : XS X mX7_order r0 0 (rw_X7_order_0 f) := sg_X7_order_0 C (sd_X7_order_10 f C)
theorem ctr_X7_order (f : Nat) : XCt yX7_order mX7_order (xF mX7_order (rw_X7_order_0 f)) := xMet (by decide +kernel) rfl (fun _ _ C => sd_X7_order_0 f C)
theorem eqf_X7_order (f : Nat) (p1 : Int) (h0 : Ob) (h1 : Ob) (h2 : Ob) (h3 : Ob) (h4 : Ob) (h5 : Ob) (h6 : Ob) (h7 : Ob) (h8 : Ob) (h9 : Ob) (h10 : Ob) (h11 : Ob) (h12 : Ob) (h13 : Ob) (h14 : Ob) (h15 : Ob) (h16 : Ob) (h17 : Ob) (h18 : Ob) (h19 : Ob) (h20 : Ob) (h21 : Ob) (h22 : Ob) (h23 : Ob) (h24 : Ob) : xF mX7_order (rw_X7_order_0 f) [.inr (.inl (0, 0)), .inl p1] [h0, h1, h2, h3, h4, h5, h6, h7, h8, h9, h10, h11, h12, h13, h14, h15, h16, h17, h18, h19, h20, h21, h22, h23, h24] = md_X7_order_0 p1 h0 h1 h2 h3 h4 h5 h6 h7 h8 h9 h10 h11 h12 h13 h14 h15 h16 h17 h18 h19 h20 h21 h22 h23 h24 f () := eq_X7_order_0 p1 h0 h1 h2 h3 h4 h5 h6 h7 h8 h9 h10 h11 h12 h13 h14 h15 h16 h17 h18 h19 h20 h21 h22 h23 h24 f ()
theorem yi_X7_order : yX7_order.cls = RX7 ∧ yX7_order.cls ≠ "java/lang/invoke/MethodHandle" ∧ yX7_order.cls ≠ "java/lang/invoke/VarHandle" ∧ (parseMethodDescriptor yX7_order.desc).map (fun d => d.parameters.length) = some 1 := ⟨rfl, by decide +kernel, by decide +kernel, by decide +kernel⟩
theorem dX7_count_0 : decode cX7_count 0 = .ok (.iload_n 1, 1) := by decide +kernel
theorem dX7_count_1 : decode cX7_count 1 = .ok (.tableswitch 115 0 7 #[47, 55, 63, 71, 79, 87, 99, 107], 47) := by decide +kernel
theorem dX7_count_48 : decode cX7_count 48 = .ok (.aload_n 0, 1) := by decide +kernel
theorem dX7_count_49 : decode cX7_count 49 = .ok (.getfield 12, 3) := by decide +kernel
theorem dX7_count_52 : decode cX7_count 52 = .ok (.getfield 201, 3) := by decide +kernel
theorem dX7_count_55 : decode cX7_count 55 = .ok (.ireturn, 1) := by decide +kernel
theorem dX7_count_56 : decode cX7_count 56 = .ok (.aload_n 0, 1) := by decide +kernel
theorem dX7_count_57 : decode cX7_count 57 = .ok (.getfield 12, 3) := by decide +kernel
theorem dX7_count_60 : decode cX7_count 60 = .ok (.getfield 256, 3) := by decide +kernel
theorem dX7_count_63 : decode cX7_count 63 = .ok (.ireturn, 1) := by decide +kernel
theorem dX7_count_64 : decode cX7_count 64 = .ok (.aload_n 0, 1) := by decide +kernel
theorem dX7_count_65 : decode cX7_count 65 = .ok (.getfield 12, 3) := by decide +kernel
theorem dX7_count_68 : decode cX7_count 68 = .ok (.getfield 259, 3) := by decide +kernel
theorem dX7_count_71 : decode cX7_count 71 = .ok (.ireturn, 1) := by decide +kernel
theorem dX7_count_72 : decode cX7_count 72 = .ok (.aload_n 0, 1) := by decide +kernel
theorem dX7_count_73 : decode cX7_count 73 = .ok (.getfield 12, 3) := by decide +kernel
theorem dX7_count_76 : decode cX7_count 76 = .ok (.getfield 177, 3) := by decide +kernel
theorem dX7_count_79 : decode cX7_count 79 = .ok (.ireturn, 1) := by decide +kernel
theorem dX7_count_80 : decode cX7_count 80 = .ok (.aload_n 0, 1) := by decide +kernel
theorem dX7_count_81 : decode cX7_count 81 = .ok (.getfield 12, 3) := by decide +kernel
theorem dX7_count_84 : decode cX7_count 84 = .ok (.getfield 142, 3) := by decide +kernel
theorem dX7_count_87 : decode cX7_count 87 = .ok (.ireturn, 1) := by decide +kernel
theorem dX7_count_88 : decode cX7_count 88 = .ok (.aload_n 0, 1) := by decide +kernel
theorem dX7_count_89 : decode cX7_count 89 = .ok (.getfield 22, 3) := by decide +kernel
theorem dX7_count_92 : decode cX7_count 92 = .ok (.aload_n 0, 1) := by decide +kernel
theorem dX7_count_93 : decode cX7_count 93 = .ok (.getfield 12, 3) := by decide +kernel
theorem dX7_count_96 : decode cX7_count 96 = .ok (.invokevirtual 173, 3) := by decide +kernel
theorem dX7_count_99 : decode cX7_count 99 = .ok (.ireturn, 1) := by decide +kernel
theorem dX7_count_100 : decode cX7_count 100 = .ok (.aload_n 0, 1) := by decide +kernel
theorem dX7_count_101 : decode cX7_count 101 = .ok (.getfield 22, 3) := by decide +kernel
theorem dX7_count_104 : decode cX7_count 104 = .ok (.getfield 262, 3) := by decide +kernel
theorem dX7_count_107 : decode cX7_count 107 = .ok (.ireturn, 1) := by decide +kernel
theorem dX7_count_108 : decode cX7_count 108 = .ok (.aload_n 0, 1) := by decide +kernel
theorem dX7_count_109 : decode cX7_count 109 = .ok (.getfield 12, 3) := by decide +kernel
theorem dX7_count_112 : decode cX7_count 112 = .ok (.invokevirtual 263, 3) := by decide +kernel
theorem dX7_count_115 : decode cX7_count 115 = .ok (.ireturn, 1) := by decide +kernel
theorem dX7_count_116 : decode cX7_count 116 = .ok (.iconst (-1), 1) := by decide +kernel
theorem dX7_count_117 : decode cX7_count 117 = .ok (.ireturn, 1) := by decide +kernel
abbrev mX7_count : XM := (cX7_count, 2, RX7, (some .int), shw_M, 4)
noncomputable def rg_X7_count_0 : XK :=
 o_iload 1 <|
 o_sw [(0, o_aload 0 <|
 o_get shw_M 7 0 <|
 o_get shw_M 3 9 <|
 o_ireturn),
 (1, o_aload 0 <|
 o_get shw_M 7 0 <|
 o_get shw_M 3 10 <|
 o_ireturn),
 (2, o_aload 0 <|
 o_get shw_M 7 0 <|
 o_get shw_M 3 11 <|
 o_ireturn),
 (3, o_aload 0 <|
 o_get shw_M 7 0 <|
 o_get shw_M 3 12 <|
 o_ireturn),
 (4, o_aload 0 <|
 o_get shw_M 7 0 <|
 o_get shw_M 3 13 <|
 o_ireturn),
 (5, o_aload 0 <|
 o_get shw_M 7 2 <|
 o_aload 0 <|
 o_get shw_M 7 0 <|
 o_callVg 2 1 [3, 4, 5, 6, 7, 8, 9, 10, 11, 12, 13, 14, 15, 16, 1] g_X5_movedSince v_X5_movedSince <|
 o_ireturn),
 (6, o_aload 0 <|
 o_get shw_M 7 2 <|
 o_get shw_M 5 2 <|
 o_ireturn),
 (7, o_aload 0 <|
 o_get shw_M 7 0 <|
 o_callVg 1 1 [1] g_X3_blocks v_X3_blocks <|
 o_ireturn)]
 (o_iconst (-1) <|
 o_ireturn)
def en_X7_count_0 (p1 : Int) (h0 : Ob) (h1 : Ob) (h2 : Ob) (h3 : Ob) (h4 : Ob) (h5 : Ob) (h6 : Ob) (h7 : Ob) (h8 : Ob) (h9 : Ob) (h10 : Ob) (h11 : Ob) (h12 : Ob) (h13 : Ob) (h14 : Ob) (h15 : Ob) (h16 : Ob) (h17 : Ob) (h18 : Ob) (h19 : Ob) (h20 : Ob) (h21 : Ob) (h22 : Ob) (h23 : Ob) (h24 : Ob) (a : Unit) : XSt := ([some (.inr (.inl (0, 0))), some (.inl p1)], [], [h0, h1, h2, h3, h4, h5, h6, h7, h8, h9, h10, h11, h12, h13, h14, h15, h16, h17, h18, h19, h20, h21, h22, h23, h24])
noncomputable def mg_X7_count_0 (p1 : Int) (h0 : Ob) (h1 : Ob) (h2 : Ob) (h3 : Ob) (h4 : Ob) (h5 : Ob) (h6 : Ob) (h7 : Ob) (h8 : Ob) (h9 : Ob) (h10 : Ob) (h11 : Ob) (h12 : Ob) (h13 : Ob) (h14 : Ob) (h15 : Ob) (h16 : Ob) (h17 : Ob) (h18 : Ob) (h19 : Ob) (h20 : Ob) (h21 : Ob) (h22 : Ob) (h23 : Ob) (h24 : Ob) (a : Unit) : Option Rt :=
 if xw p1 = 0 then (RI (h1 0 9) [h0, h1, h2, h3, h4, h5, h6, h7, h8, h9, h10, h11, h12, h13, h14, h15, h16, h17, h18, h19, h20, h21, h22, h23, h24])
 else if xw p1 = 1 then (RI (h1 0 10) [h0, h1, h2, h3, h4, h5, h6, h7, h8, h9, h10, h11, h12, h13, h14, h15, h16, h17, h18, h19, h20, h21, h22, h23, h24])
 else if xw p1 = 2 then (RI (h1 0 11) [h0, h1, h2, h3, h4, h5, h6, h7, h8, h9, h10, h11, h12, h13, h14, h15, h16, h17, h18, h19, h20, h21, h22, h23, h24])
 else if xw p1 = 3 then (RI (h1 0 12) [h0, h1, h2, h3, h4, h5, h6, h7, h8, h9, h10, h11, h12, h13, h14, h15, h16, h17, h18, h19, h20, h21, h22, h23, h24])
 else if xw p1 = 4 then (RI (h1 0 13) [h0, h1, h2, h3, h4, h5, h6, h7, h8, h9, h10, h11, h12, h13, h14, h15, h16, h17, h18, h19, h20, h21, h22, h23, h24])
 else if xw p1 = 5 then (if pd (PG h3 ∧ (h3 0 3 = 0 ∨ h3 0 3 = 1 ∧ 1 ≤ h3 0 2)) then (
 RI (mvsF h3 h1 [h4, h5, h6, h7, h8, h9, h10, h11, h12, h13, h14, h15, h16]) [h0, h1, h2, h3, h4, h5, h6, h7, h8, h9, h10, h11, h12, h13, h14, h15, h16, h17, h18, h19, h20, h21, h22, h23, h24]) else none)
 else if xw p1 = 6 then (RI (h3 0 2) [h0, h1, h2, h3, h4, h5, h6, h7, h8, h9, h10, h11, h12, h13, h14, h15, h16, h17, h18, h19, h20, h21, h22, h23, h24])
 else if xw p1 = 7 then (if pd (LW h1) then (
 RI (((wls h1 (h1 0 9)).length : Int)) [h0, h1, h2, h3, h4, h5, h6, h7, h8, h9, h10, h11, h12, h13, h14, h15, h16, h17, h18, h19, h20, h21, h22, h23, h24]) else none)
 else (RI (-1) [h0, h1, h2, h3, h4, h5, h6, h7, h8, h9, h10, h11, h12, h13, h14, h15, h16, h17, h18, h19, h20, h21, h22, h23, h24])
set_option maxRecDepth 100000 in
set_option maxHeartbeats 4000000 in
theorem rq_X7_count_0 (p1 : Int) (h0 : Ob) (h1 : Ob) (h2 : Ob) (h3 : Ob) (h4 : Ob) (h5 : Ob) (h6 : Ob) (h7 : Ob) (h8 : Ob) (h9 : Ob) (h10 : Ob) (h11 : Ob) (h12 : Ob) (h13 : Ob) (h14 : Ob) (h15 : Ob) (h16 : Ob) (h17 : Ob) (h18 : Ob) (h19 : Ob) (h20 : Ob) (h21 : Ob) (h22 : Ob) (h23 : Ob) (h24 : Ob) (a : Unit) : rg_X7_count_0 (en_X7_count_0 p1 h0 h1 h2 h3 h4 h5 h6 h7 h8 h9 h10 h11 h12 h13 h14 h15 h16 h17 h18 h19 h20 h21 h22 h23 h24 a) = mg_X7_count_0 p1 h0 h1 h2 h3 h4 h5 h6 h7 h8 h9 h10 h11 h12 h13 h14 h15 h16 h17 h18 h19 h20 h21 h22 h23 h24 a := rfl
set_option maxRecDepth 100000 in
set_option maxHeartbeats 4000000 in
theorem sg_X7_count_0 {X : XDyn} {r0 : Rt} (C : XO X mX7_count) : XS X mX7_count r0 0 (rg_X7_count_0) := by
 unfold rg_X7_count_0
 exact s_iload_n (pc := 0) C dX7_count_0 rfl <|
    s_tsw (pc := 1) C dX7_count_1 _ (by decide) (s_iconst (pc := 116) C dX7_count_116 <|
    s_ireturn (pc := 117) C rfl dX7_count_117) (List.forall_mem_cons.mpr ⟨⟨by decide, by decide, 47, 48, rfl, by decide, s_aload_n (pc := 48) C dX7_count_48 rfl <|
    s_get (pc := 49) C (ci := 7) (kf := 0) rfl inX7 (by decide) wd_312 dX7_count_49 <|
    s_get (pc := 52) C (ci := 3) (kf := 9) rfl inX3 (by decide) wd_128 dX7_count_52 <|
    s_ireturn (pc := 55) C rfl dX7_count_55⟩, (List.forall_mem_cons.mpr ⟨⟨by decide, by decide, 55, 56, rfl, by decide, s_aload_n (pc := 56) C dX7_count_56 rfl <|
    s_get (pc := 57) C (ci := 7) (kf := 0) rfl inX7 (by decide) wd_312 dX7_count_57 <|
    s_get (pc := 60) C (ci := 3) (kf := 10) rfl inX3 (by decide) wd_130 dX7_count_60 <|
    s_ireturn (pc := 63) C rfl dX7_count_63⟩, (List.forall_mem_cons.mpr ⟨⟨by decide, by decide, 63, 64, rfl, by decide, s_aload_n (pc := 64) C dX7_count_64 rfl <|
    s_get (pc := 65) C (ci := 7) (kf := 0) rfl inX7 (by decide) wd_312 dX7_count_65 <|
    s_get (pc := 68) C (ci := 3) (kf := 11) rfl inX3 (by decide) wd_132 dX7_count_68 <|
    s_ireturn (pc := 71) C rfl dX7_count_71⟩, (List.forall_mem_cons.mpr ⟨⟨by decide, by decide, 71, 72, rfl, by decide, s_aload_n (pc := 72) C dX7_count_72 rfl <|
    s_get (pc := 73) C (ci := 7) (kf := 0) rfl inX7 (by decide) wd_312 dX7_count_73 <|
    s_get (pc := 76) C (ci := 3) (kf := 12) rfl inX3 (by decide) wd_134 dX7_count_76 <|
    s_ireturn (pc := 79) C rfl dX7_count_79⟩, (List.forall_mem_cons.mpr ⟨⟨by decide, by decide, 79, 80, rfl, by decide, s_aload_n (pc := 80) C dX7_count_80 rfl <|
    s_get (pc := 81) C (ci := 7) (kf := 0) rfl inX7 (by decide) wd_312 dX7_count_81 <|
    s_get (pc := 84) C (ci := 3) (kf := 13) rfl inX3 (by decide) wd_136 dX7_count_84 <|
    s_ireturn (pc := 87) C rfl dX7_count_87⟩, (List.forall_mem_cons.mpr ⟨⟨by decide, by decide, 87, 88, rfl, by decide, s_aload_n (pc := 88) C dX7_count_88 rfl <|
    s_get (pc := 89) C (ci := 7) (kf := 2) rfl inX7 (by decide) wd_314 dX7_count_89 <|
    s_aload_n (pc := 92) C dX7_count_92 rfl <|
    s_get (pc := 93) C (ci := 7) (kf := 0) rfl inX7 (by decide) wd_312 dX7_count_93 <|
    s_callVg (pc := 96) C ct_X5_movedSince (n := 2) (rk := 1) (mp := [3, 4, 5, 6, 7, 8, 9, 10, 11, 12, 13, 14, 15, 16, 1]) ⟨rfl, by decide, rfl⟩ (ci := 5) rfl rfl (by decide) (by decide) yi_X5_movedSince (by decide) wd_697 wd_698 wd_699 wd_75 wd_700 dX7_count_96 <|
    s_ireturn (pc := 99) C rfl dX7_count_99⟩, (List.forall_mem_cons.mpr ⟨⟨by decide, by decide, 99, 100, rfl, by decide, s_aload_n (pc := 100) C dX7_count_100 rfl <|
    s_get (pc := 101) C (ci := 7) (kf := 2) rfl inX7 (by decide) wd_314 dX7_count_101 <|
    s_get (pc := 104) C (ci := 5) (kf := 2) rfl inX5 (by decide) wd_179 dX7_count_104 <|
    s_ireturn (pc := 107) C rfl dX7_count_107⟩, (List.forall_mem_cons.mpr ⟨⟨by decide, by decide, 107, 108, rfl, by decide, s_aload_n (pc := 108) C dX7_count_108 rfl <|
    s_get (pc := 109) C (ci := 7) (kf := 0) rfl inX7 (by decide) wd_312 dX7_count_109 <|
    s_callVg (pc := 112) C ct_X3_blocks (n := 1) (rk := 1) (mp := [1]) ⟨rfl, by decide, rfl⟩ (ci := 3) rfl rfl (by decide) (by decide) yi_X3_blocks (by decide) wd_799 wd_800 wd_801 wd_74 wd_802 dX7_count_112 <|
    s_ireturn (pc := 115) C rfl dX7_count_115⟩, (fun _ z => absurd z List.not_mem_nil)⟩)⟩)⟩)⟩)⟩)⟩)⟩)⟩) (fun v h1 h2 => by
     have hv : v = 0 ∨ v = 1 ∨ v = 2 ∨ v = 3 ∨ v = 4 ∨ v = 5 ∨ v = 6 ∨ v = 7 := by omega
     rcases hv with rfl | rfl | rfl | rfl | rfl | rfl | rfl | rfl <;> simp)
noncomputable def rw_X7_count_0 : XK := rg_X7_count_0
noncomputable def md_X7_count_0 (p1 : Int) (h0 : Ob) (h1 : Ob) (h2 : Ob) (h3 : Ob) (h4 : Ob) (h5 : Ob) (h6 : Ob) (h7 : Ob) (h8 : Ob) (h9 : Ob) (h10 : Ob) (h11 : Ob) (h12 : Ob) (h13 : Ob) (h14 : Ob) (h15 : Ob) (h16 : Ob) (h17 : Ob) (h18 : Ob) (h19 : Ob) (h20 : Ob) (h21 : Ob) (h22 : Ob) (h23 : Ob) (h24 : Ob) : Unit → Option Rt := mg_X7_count_0 p1 h0 h1 h2 h3 h4 h5 h6 h7 h8 h9 h10 h11 h12 h13 h14 h15 h16 h17 h18 h19 h20 h21 h22 h23 h24
theorem eq_X7_count_0 (p1 : Int) (h0 : Ob) (h1 : Ob) (h2 : Ob) (h3 : Ob) (h4 : Ob) (h5 : Ob) (h6 : Ob) (h7 : Ob) (h8 : Ob) (h9 : Ob) (h10 : Ob) (h11 : Ob) (h12 : Ob) (h13 : Ob) (h14 : Ob) (h15 : Ob) (h16 : Ob) (h17 : Ob) (h18 : Ob) (h19 : Ob) (h20 : Ob) (h21 : Ob) (h22 : Ob) (h23 : Ob) (h24 : Ob) (a : Unit) : rw_X7_count_0 (en_X7_count_0 p1 h0 h1 h2 h3 h4 h5 h6 h7 h8 h9 h10 h11 h12 h13 h14 h15 h16 h17 h18 h19 h20 h21 h22 h23 h24 a) = md_X7_count_0 p1 h0 h1 h2 h3 h4 h5 h6 h7 h8 h9 h10 h11 h12 h13 h14 h15 h16 h17 h18 h19 h20 h21 h22 h23 h24 a :=
 rq_X7_count_0 p1 h0 h1 h2 h3 h4 h5 h6 h7 h8 h9 h10 h11 h12 h13 h14 h15 h16 h17 h18 h19 h20 h21 h22 h23 h24 a
theorem sd_X7_count_0 {X : XDyn} {r0 : Rt} (C : XO X mX7_count) : XS X mX7_count r0 0 (rw_X7_count_0) := sg_X7_count_0 C
theorem ctr_X7_count : XCt yX7_count mX7_count (xF mX7_count (rw_X7_count_0)) := xMet (by decide +kernel) rfl (fun _ _ C => sd_X7_count_0 C)
theorem eqf_X7_count (p1 : Int) (h0 : Ob) (h1 : Ob) (h2 : Ob) (h3 : Ob) (h4 : Ob) (h5 : Ob) (h6 : Ob) (h7 : Ob) (h8 : Ob) (h9 : Ob) (h10 : Ob) (h11 : Ob) (h12 : Ob) (h13 : Ob) (h14 : Ob) (h15 : Ob) (h16 : Ob) (h17 : Ob) (h18 : Ob) (h19 : Ob) (h20 : Ob) (h21 : Ob) (h22 : Ob) (h23 : Ob) (h24 : Ob) : xF mX7_count (rw_X7_count_0) [.inr (.inl (0, 0)), .inl p1] [h0, h1, h2, h3, h4, h5, h6, h7, h8, h9, h10, h11, h12, h13, h14, h15, h16, h17, h18, h19, h20, h21, h22, h23, h24] = md_X7_count_0 p1 h0 h1 h2 h3 h4 h5 h6 h7 h8 h9 h10 h11 h12 h13 h14 h15 h16 h17 h18 h19 h20 h21 h22 h23 h24 () := eq_X7_count_0 p1 h0 h1 h2 h3 h4 h5 h6 h7 h8 h9 h10 h11 h12 h13 h14 h15 h16 h17 h18 h19 h20 h21 h22 h23 h24 ()
theorem yi_X7_count : yX7_count.cls = RX7 ∧ yX7_count.cls ≠ "java/lang/invoke/MethodHandle" ∧ yX7_count.cls ≠ "java/lang/invoke/VarHandle" ∧ (parseMethodDescriptor yX7_count.desc).map (fun d => d.parameters.length) = some 1 := ⟨rfl, by decide +kernel, by decide +kernel, by decide +kernel⟩
