theorem dX7_greatest_0 : decode cX7_greatest 0 = .ok (.iload_n 1, 1) := by decide +kernel
theorem dX7_greatest_1 : decode cX7_greatest 1 = .ok (.ifCond .lt 8, 3) := by decide +kernel
theorem dX7_greatest_4 : decode cX7_greatest 4 = .ok (.iload_n 1, 1) := by decide +kernel
theorem dX7_greatest_5 : decode cX7_greatest 5 = .ok (.iconst 2, 1) := by decide +kernel
theorem dX7_greatest_6 : decode cX7_greatest 6 = .ok (.if_icmp .le 5, 3) := by decide +kernel
theorem dX7_greatest_9 : decode cX7_greatest 9 = .ok (.iconst (-1), 1) := by decide +kernel
theorem dX7_greatest_10 : decode cX7_greatest 10 = .ok (.ireturn, 1) := by decide +kernel
theorem dX7_greatest_11 : decode cX7_greatest 11 = .ok (.aload_n 0, 1) := by decide +kernel
theorem dX7_greatest_12 : decode cX7_greatest 12 = .ok (.getfield 16, 3) := by decide +kernel
theorem dX7_greatest_15 : decode cX7_greatest 15 = .ok (.aload_n 0, 1) := by decide +kernel
theorem dX7_greatest_16 : decode cX7_greatest 16 = .ok (.getfield 12, 3) := by decide +kernel
theorem dX7_greatest_19 : decode cX7_greatest 19 = .ok (.invokevirtual 269, 3) := by decide +kernel
theorem dX7_greatest_22 : decode cX7_greatest 22 = .ok (.iload_n 1, 1) := by decide +kernel
theorem dX7_greatest_23 : decode cX7_greatest 23 = .ok (.iconst 1, 1) := by decide +kernel
theorem dX7_greatest_24 : decode cX7_greatest 24 = .ok (.if_icmp .lt 10, 3) := by decide +kernel
theorem dX7_greatest_27 : decode cX7_greatest 27 = .ok (.aload_n 0, 1) := by decide +kernel
theorem dX7_greatest_28 : decode cX7_greatest 28 = .ok (.getfield 16, 3) := by decide +kernel
theorem dX7_greatest_31 : decode cX7_greatest 31 = .ok (.invokevirtual 281, 3) := by decide +kernel
theorem dX7_greatest_34 : decode cX7_greatest 34 = .ok (.iload_n 1, 1) := by decide +kernel
theorem dX7_greatest_35 : decode cX7_greatest 35 = .ok (.iconst 2, 1) := by decide +kernel
theorem dX7_greatest_36 : decode cX7_greatest 36 = .ok (.if_icmp .ne 23, 3) := by decide +kernel
theorem dX7_greatest_39 : decode cX7_greatest 39 = .ok (.aload_n 0, 1) := by decide +kernel
theorem dX7_greatest_40 : decode cX7_greatest 40 = .ok (.getfield 12, 3) := by decide +kernel
theorem dX7_greatest_43 : decode cX7_greatest 43 = .ok (.invokevirtual 213, 3) := by decide +kernel
theorem dX7_greatest_46 : decode cX7_greatest 46 = .ok (.aload_n 0, 1) := by decide +kernel
theorem dX7_greatest_47 : decode cX7_greatest 47 = .ok (.getfield 12, 3) := by decide +kernel
theorem dX7_greatest_50 : decode cX7_greatest 50 = .ok (.invokevirtual 240, 3) := by decide +kernel
theorem dX7_greatest_53 : decode cX7_greatest 53 = .ok (.iconst (-1), 1) := by decide +kernel
theorem dX7_greatest_54 : decode cX7_greatest 54 = .ok (.ixor, 1) := by decide +kernel
theorem dX7_greatest_55 : decode cX7_greatest 55 = .ok (.iand, 1) := by decide +kernel
theorem dX7_greatest_56 : decode cX7_greatest 56 = .ok (.goto 10, 3) := by decide +kernel
theorem dX7_greatest_59 : decode cX7_greatest 59 = .ok (.aload_n 0, 1) := by decide +kernel
theorem dX7_greatest_60 : decode cX7_greatest 60 = .ok (.getfield 12, 3) := by decide +kernel
theorem dX7_greatest_63 : decode cX7_greatest 63 = .ok (.invokevirtual 213, 3) := by decide +kernel
theorem dX7_greatest_66 : decode cX7_greatest 66 = .ok (.istore_n 2, 1) := by decide +kernel
theorem dX7_greatest_67 : decode cX7_greatest 67 = .ok (.aload_n 0, 1) := by decide +kernel
theorem dX7_greatest_68 : decode cX7_greatest 68 = .ok (.getfield 29, 3) := by decide +kernel
theorem dX7_greatest_71 : decode cX7_greatest 71 = .ok (.aload_n 0, 1) := by decide +kernel
theorem dX7_greatest_72 : decode cX7_greatest 72 = .ok (.getfield 12, 3) := by decide +kernel
theorem dX7_greatest_75 : decode cX7_greatest 75 = .ok (.aload_n 0, 1) := by decide +kernel
theorem dX7_greatest_76 : decode cX7_greatest 76 = .ok (.getfield 12, 3) := by decide +kernel
theorem dX7_greatest_79 : decode cX7_greatest 79 = .ok (.invokevirtual 213, 3) := by decide +kernel
theorem dX7_greatest_82 : decode cX7_greatest 82 = .ok (.aload_n 0, 1) := by decide +kernel
theorem dX7_greatest_83 : decode cX7_greatest 83 = .ok (.getfield 12, 3) := by decide +kernel
theorem dX7_greatest_86 : decode cX7_greatest 86 = .ok (.getfield 256, 3) := by decide +kernel
theorem dX7_greatest_89 : decode cX7_greatest 89 = .ok (.invokevirtual 216, 3) := by decide +kernel
theorem dX7_greatest_92 : decode cX7_greatest 92 = .ok (.iconst 0, 1) := by decide +kernel
theorem dX7_greatest_93 : decode cX7_greatest 93 = .ok (.istore_n 3, 1) := by decide +kernel
theorem dX7_greatest_94 : decode cX7_greatest 94 = .ok (.sipush 256, 3) := by decide +kernel
theorem dX7_greatest_97 : decode cX7_greatest 97 = .ok (.istore 4, 2) := by decide +kernel
theorem dX7_greatest_99 : decode cX7_greatest 99 = .ok (.iload 4, 2) := by decide +kernel
theorem dX7_greatest_101 : decode cX7_greatest 101 = .ok (.ifCond .le 52, 3) := by decide +kernel
theorem dX7_greatest_104 : decode cX7_greatest 104 = .ok (.iload_n 3, 1) := by decide +kernel
theorem dX7_greatest_105 : decode cX7_greatest 105 = .ok (.iload 4, 2) := by decide +kernel
theorem dX7_greatest_107 : decode cX7_greatest 107 = .ok (.iadd, 1) := by decide +kernel
theorem dX7_greatest_108 : decode cX7_greatest 108 = .ok (.invokestatic 266, 3) := by decide +kernel
theorem dX7_greatest_111 : decode cX7_greatest 111 = .ok (.ifCond .eq 33, 3) := by decide +kernel
theorem dX7_greatest_114 : decode cX7_greatest 114 = .ok (.aload_n 0, 1) := by decide +kernel
theorem dX7_greatest_115 : decode cX7_greatest 115 = .ok (.getfield 36, 3) := by decide +kernel
theorem dX7_greatest_118 : decode cX7_greatest 118 = .ok (.aload_n 0, 1) := by decide +kernel
theorem dX7_greatest_119 : decode cX7_greatest 119 = .ok (.getfield 29, 3) := by decide +kernel
theorem dX7_greatest_122 : decode cX7_greatest 122 = .ok (.aload_n 0, 1) := by decide +kernel
theorem dX7_greatest_123 : decode cX7_greatest 123 = .ok (.getfield 16, 3) := by decide +kernel
theorem dX7_greatest_126 : decode cX7_greatest 126 = .ok (.iload_n 2, 1) := by decide +kernel
theorem dX7_greatest_127 : decode cX7_greatest 127 = .ok (.iload_n 3, 1) := by decide +kernel
theorem dX7_greatest_128 : decode cX7_greatest 128 = .ok (.iload 4, 2) := by decide +kernel
theorem dX7_greatest_130 : decode cX7_greatest 130 = .ok (.iadd, 1) := by decide +kernel
theorem dX7_greatest_131 : decode cX7_greatest 131 = .ok (.iconst 1, 1) := by decide +kernel
theorem dX7_greatest_132 : decode cX7_greatest 132 = .ok (.iadd, 1) := by decide +kernel
theorem dX7_greatest_133 : decode cX7_greatest 133 = .ok (.invokevirtual 284, 3) := by decide +kernel
theorem dX7_greatest_136 : decode cX7_greatest 136 = .ok (.ifCond .eq 8, 3) := by decide +kernel
theorem dX7_greatest_139 : decode cX7_greatest 139 = .ok (.iload_n 3, 1) := by decide +kernel
theorem dX7_greatest_140 : decode cX7_greatest 140 = .ok (.iload 4, 2) := by decide +kernel
theorem dX7_greatest_142 : decode cX7_greatest 142 = .ok (.iadd, 1) := by decide +kernel
theorem dX7_greatest_143 : decode cX7_greatest 143 = .ok (.istore_n 3, 1) := by decide +kernel
theorem dX7_greatest_144 : decode cX7_greatest 144 = .ok (.iload 4, 2) := by decide +kernel
theorem dX7_greatest_146 : decode cX7_greatest 146 = .ok (.iconst 2, 1) := by decide +kernel
theorem dX7_greatest_147 : decode cX7_greatest 147 = .ok (.idiv, 1) := by decide +kernel
theorem dX7_greatest_148 : decode cX7_greatest 148 = .ok (.istore 4, 2) := by decide +kernel
theorem dX7_greatest_150 : decode cX7_greatest 150 = .ok (.goto (-51), 3) := by decide +kernel
theorem dX7_greatest_153 : decode cX7_greatest 153 = .ok (.iload_n 3, 1) := by decide +kernel
theorem dX7_greatest_154 : decode cX7_greatest 154 = .ok (.ireturn, 1) := by decide +kernel
abbrev mX7_greatest : XM := (cX7_greatest, 5, RX7, (some .int), shw_M, 4)
noncomputable def rg_X7_greatest_0 (k34 : XK) : XK :=
 o_iload 1 <|
 o_if_lt (o_iconst (-1) <|
 o_ireturn)
 (o_iload 1 <|
 o_iconst 2 <|
 o_icmp_le (o_aload 0 <|
 o_get shw_M 7 1 <|
 o_aload 0 <|
 o_get shw_M 7 0 <|
 o_callV 2 0 [2, 1] f_X3_copyFrom <|
 o_iload 1 <|
 o_iconst 1 <|
 o_icmp_lt (o_cut [] k34)
 (o_aload 0 <|
 o_get shw_M 7 1 <|
 o_callV 1 0 [2] f_X3_squeezeAll <|
 o_cut [] k34))
 (o_iconst (-1) <|
 o_ireturn))
def en_X7_greatest_0 (p1 : Int) (h0 : Ob) (h1 : Ob) (h3 : Ob) (h4 : Ob) (h5 : Ob) (h6 : Ob) (h7 : Ob) (h8 : Ob) (h9 : Ob) (h10 : Ob) (h11 : Ob) (h12 : Ob) (h13 : Ob) (h14 : Ob) (h15 : Ob) (h16 : Ob) (h19 : Ob) (h20 : Ob) (h21 : Ob) (h22 : Ob) (h23 : Ob) (h24 : Ob) (a : Ob × Ob × Ob) : XSt := ([some (.inr (.inl (0, 0))), some (.inl p1), none, none, none], [], [h0, h1, a.1, h3, h4, h5, h6, h7, h8, h9, h10, h11, h12, h13, h14, h15, h16, a.2.1, a.2.2, h19, h20, h21, h22, h23, h24])
noncomputable def rg_X7_greatest_34 (k66 : XK) : XK :=
 o_iload 1 <|
 o_iconst 2 <|
 o_icmp_ne (o_aload 0 <|
 o_get shw_M 7 0 <|
 o_callV 1 1 [1] f_X3_movable <|
 o_cut [] k66)
 (o_aload 0 <|
 o_get shw_M 7 0 <|
 o_callV 1 1 [1] f_X3_movable <|
 o_aload 0 <|
 o_get shw_M 7 0 <|
 o_callV 1 1 [1] f_X3_goers <|
 o_iconst (-1) <|
 o_ixor <|
 o_iand <|
 o_cut [] k66)
def en_X7_greatest_34 (p1 : Int) (h0 : Ob) (h1 : Ob) (h3 : Ob) (h4 : Ob) (h5 : Ob) (h6 : Ob) (h7 : Ob) (h8 : Ob) (h9 : Ob) (h10 : Ob) (h11 : Ob) (h12 : Ob) (h13 : Ob) (h14 : Ob) (h15 : Ob) (h16 : Ob) (h19 : Ob) (h20 : Ob) (h21 : Ob) (h22 : Ob) (h23 : Ob) (h24 : Ob) (a : Ob × Ob × Ob) : XSt := ([some (.inr (.inl (0, 0))), some (.inl p1), none, none, none], [], [h0, h1, a.1, h3, h4, h5, h6, h7, h8, h9, h10, h11, h12, h13, h14, h15, h16, a.2.1, a.2.2, h19, h20, h21, h22, h23, h24])
noncomputable def rg_X7_greatest_66 (k99 : XK) : XK :=
 o_istore 2 <|
 o_aload 0 <|
 o_get shw_M 7 3 <|
 o_aload 0 <|
 o_get shw_M 7 0 <|
 o_aload 0 <|
 o_get shw_M 7 0 <|
 o_callV 1 1 [1] f_X3_movable <|
 o_aload 0 <|
 o_get shw_M 7 0 <|
 o_get shw_M 3 10 <|
 o_callVg 4 0 [17, 1] g_X6_read v_X6_read <|
 o_iconst 0 <|
 o_istore 3 <|
 o_iconst 256 <|
 o_istore 4 <|
 o_cut [] k99
def en_X7_greatest_66 (p1 : Int) (h0 : Ob) (h1 : Ob) (h3 : Ob) (h4 : Ob) (h5 : Ob) (h6 : Ob) (h7 : Ob) (h8 : Ob) (h9 : Ob) (h10 : Ob) (h11 : Ob) (h12 : Ob) (h13 : Ob) (h14 : Ob) (h15 : Ob) (h16 : Ob) (h19 : Ob) (h20 : Ob) (h21 : Ob) (h22 : Ob) (h23 : Ob) (h24 : Ob) (a : Int × Ob × Ob × Ob) : XSt := ([some (.inr (.inl (0, 0))), some (.inl p1), none, none, none], [.inl a.1], [h0, h1, a.2.1, h3, h4, h5, h6, h7, h8, h9, h10, h11, h12, h13, h14, h15, h16, a.2.2.1, a.2.2.2, h19, h20, h21, h22, h23, h24])
noncomputable def rg_X7_greatest_99 (k144 : XK) : XK :=
 o_iload 4 <|
 o_if_le (o_iload 3 <|
 o_ireturn)
 (o_iload 3 <|
 o_iload 4 <|
 o_iadd <|
 o_callS 1 1 [] f_X7_isAsked <|
 o_if_eq (o_cut [] k144)
 (o_aload 0 <|
 o_get shw_M 7 4 <|
 o_aload 0 <|
 o_get shw_M 7 3 <|
 o_aload 0 <|
 o_get shw_M 7 1 <|
 o_iload 2 <|
 o_iload 3 <|
 o_iload 4 <|
 o_iadd <|
 o_iconst 1 <|
 o_iadd <|
 o_callVg 5 1 [18, 17, 2] g_X4_holds v_X4_holds <|
 o_if_eq (o_cut [] k144)
 (o_iload 3 <|
 o_iload 4 <|
 o_iadd <|
 o_istore 3 <|
 o_cut [] k144)))
def en_X7_greatest_99 (p1 : Int) (h0 : Ob) (h1 : Ob) (h3 : Ob) (h4 : Ob) (h5 : Ob) (h6 : Ob) (h7 : Ob) (h8 : Ob) (h9 : Ob) (h10 : Ob) (h11 : Ob) (h12 : Ob) (h13 : Ob) (h14 : Ob) (h15 : Ob) (h16 : Ob) (h19 : Ob) (h20 : Ob) (h21 : Ob) (h22 : Ob) (h23 : Ob) (h24 : Ob) (a : Int × Int × Int × Ob × Ob × Ob) : XSt := ([some (.inr (.inl (0, 0))), some (.inl p1), some (.inl a.1), some (.inl a.2.1), some (.inl a.2.2.1)], [], [h0, h1, a.2.2.2.1, h3, h4, h5, h6, h7, h8, h9, h10, h11, h12, h13, h14, h15, h16, a.2.2.2.2.1, a.2.2.2.2.2, h19, h20, h21, h22, h23, h24])
noncomputable def rg_X7_greatest_144 (k99 : XK) : XK :=
 o_iload 4 <|
 o_iconst 2 <|
 o_idiv <|
 o_istore 4 <|
 o_cut [] k99
def en_X7_greatest_144 (p1 : Int) (h0 : Ob) (h1 : Ob) (h3 : Ob) (h4 : Ob) (h5 : Ob) (h6 : Ob) (h7 : Ob) (h8 : Ob) (h9 : Ob) (h10 : Ob) (h11 : Ob) (h12 : Ob) (h13 : Ob) (h14 : Ob) (h15 : Ob) (h16 : Ob) (h19 : Ob) (h20 : Ob) (h21 : Ob) (h22 : Ob) (h23 : Ob) (h24 : Ob) (a : Int × Int × Int × Ob × Ob × Ob) : XSt := ([some (.inr (.inl (0, 0))), some (.inl p1), some (.inl a.1), some (.inl a.2.1), some (.inl a.2.2.1)], [], [h0, h1, a.2.2.2.1, h3, h4, h5, h6, h7, h8, h9, h10, h11, h12, h13, h14, h15, h16, a.2.2.2.2.1, a.2.2.2.2.2, h19, h20, h21, h22, h23, h24])
noncomputable def mg_X7_greatest_0 (p1 : Int) (h0 : Ob) (h1 : Ob) (h3 : Ob) (h4 : Ob) (h5 : Ob) (h6 : Ob) (h7 : Ob) (h8 : Ob) (h9 : Ob) (h10 : Ob) (h11 : Ob) (h12 : Ob) (h13 : Ob) (h14 : Ob) (h15 : Ob) (h16 : Ob) (h19 : Ob) (h20 : Ob) (h21 : Ob) (h22 : Ob) (h23 : Ob) (h24 : Ob) (k34 : (Ob × Ob × Ob) → Option Rt) (a : Ob × Ob × Ob) : Option Rt :=
 if xw p1 < 0 then (RI (-1) [h0, h1, a.1, h3, h4, h5, h6, h7, h8, h9, h10, h11, h12, h13, h14, h15, h16, a.2.1, a.2.2, h19, h20, h21, h22, h23, h24])
 else (if xw p1 ≤ 2 then (if xw p1 < 1 then (k34 ((cpyO a.1 h1), a.2.1, a.2.2))
 else (k34 ((sqaO (cpyO a.1 h1)), a.2.1, a.2.2)))
 else (RI (-1) [h0, h1, a.1, h3, h4, h5, h6, h7, h8, h9, h10, h11, h12, h13, h14, h15, h16, a.2.1, a.2.2, h19, h20, h21, h22, h23, h24]))
set_option maxRecDepth 100000 in
set_option maxHeartbeats 4000000 in
theorem rq_X7_greatest_0 (p1 : Int) (h0 : Ob) (h1 : Ob) (h3 : Ob) (h4 : Ob) (h5 : Ob) (h6 : Ob) (h7 : Ob) (h8 : Ob) (h9 : Ob) (h10 : Ob) (h11 : Ob) (h12 : Ob) (h13 : Ob) (h14 : Ob) (h15 : Ob) (h16 : Ob) (h19 : Ob) (h20 : Ob) (h21 : Ob) (h22 : Ob) (h23 : Ob) (h24 : Ob) (k34 : XK) (a : Ob × Ob × Ob) : rg_X7_greatest_0 k34 (en_X7_greatest_0 p1 h0 h1 h3 h4 h5 h6 h7 h8 h9 h10 h11 h12 h13 h14 h15 h16 h19 h20 h21 h22 h23 h24 a) = mg_X7_greatest_0 p1 h0 h1 h3 h4 h5 h6 h7 h8 h9 h10 h11 h12 h13 h14 h15 h16 h19 h20 h21 h22 h23 h24 (fun b => k34 (en_X7_greatest_34 p1 h0 h1 h3 h4 h5 h6 h7 h8 h9 h10 h11 h12 h13 h14 h15 h16 h19 h20 h21 h22 h23 h24 b)) a := rfl
set_option maxRecDepth 100000 in
set_option maxHeartbeats 4000000 in
theorem sg_X7_greatest_0 {X : XDyn} {r0 : Rt} (C : XO X mX7_greatest) {k34 : XK} (q34 : XS X mX7_greatest r0 34 k34) : XS X mX7_greatest r0 0 (rg_X7_greatest_0 k34) := by
 unfold rg_X7_greatest_0
 exact s_iload_n (pc := 0) C dX7_greatest_0 rfl <|
    s_if_lt (pc := 1) C dX7_greatest_1 (by decide) (s_iconst (pc := 9) C dX7_greatest_9 <|
    s_ireturn (pc := 10) C rfl dX7_greatest_10)
    (s_iload_n (pc := 4) C dX7_greatest_4 rfl <|
    s_iconst (pc := 5) C dX7_greatest_5 <|
    s_icmp_le (pc := 6) C dX7_greatest_6 (by decide) (s_aload_n (pc := 11) C dX7_greatest_11 rfl <|
    s_get (pc := 12) C (ci := 7) (kf := 1) rfl inX7 (by decide) wd_313 dX7_greatest_12 <|
    s_aload_n (pc := 15) C dX7_greatest_15 rfl <|
    s_get (pc := 16) C (ci := 7) (kf := 0) rfl inX7 (by decide) wd_312 dX7_greatest_16 <|
    s_callV (pc := 19) C ct_X3_copyFrom (n := 2) (rk := 0) (mp := [2, 1]) ⟨rfl, by decide, rfl⟩ (ci := 3) rfl rfl (by decide) (by decide) yi_X3_copyFrom (by decide) wd_810 wd_372 wd_373 wd_74 wd_374 dX7_greatest_19 <|
    s_iload_n (pc := 22) C dX7_greatest_22 rfl <|
    s_iconst (pc := 23) C dX7_greatest_23 <|
    s_icmp_lt (pc := 24) C dX7_greatest_24 (by decide) (s_cut q34)
    (s_aload_n (pc := 27) C dX7_greatest_27 rfl <|
    s_get (pc := 28) C (ci := 7) (kf := 1) rfl inX7 (by decide) wd_313 dX7_greatest_28 <|
    s_callV (pc := 31) C ct_X3_squeezeAll (n := 1) (rk := 0) (mp := [2]) ⟨rfl, by decide, rfl⟩ (ci := 3) rfl rfl (by decide) (by decide) yi_X3_squeezeAll (by decide) wd_815 wd_816 wd_817 wd_74 wd_818 dX7_greatest_31 <|
    s_cut q34))
    (s_iconst (pc := 9) C dX7_greatest_9 <|
    s_ireturn (pc := 10) C rfl dX7_greatest_10))
noncomputable def mg_X7_greatest_34 (p1 : Int) (h0 : Ob) (h1 : Ob) (h3 : Ob) (h4 : Ob) (h5 : Ob) (h6 : Ob) (h7 : Ob) (h8 : Ob) (h9 : Ob) (h10 : Ob) (h11 : Ob) (h12 : Ob) (h13 : Ob) (h14 : Ob) (h15 : Ob) (h16 : Ob) (h19 : Ob) (h20 : Ob) (h21 : Ob) (h22 : Ob) (h23 : Ob) (h24 : Ob) (k66 : (Int × Ob × Ob × Ob) → Option Rt) (a : Ob × Ob × Ob) : Option Rt :=
 if xw p1 = 2 then (k66 ((xand (movS h1) (xxor (goS h1) (-1))), a.1, a.2.1, a.2.2))
 else (k66 ((movS h1), a.1, a.2.1, a.2.2))
set_option maxRecDepth 100000 in
set_option maxHeartbeats 4000000 in
theorem rq_X7_greatest_34 (p1 : Int) (h0 : Ob) (h1 : Ob) (h3 : Ob) (h4 : Ob) (h5 : Ob) (h6 : Ob) (h7 : Ob) (h8 : Ob) (h9 : Ob) (h10 : Ob) (h11 : Ob) (h12 : Ob) (h13 : Ob) (h14 : Ob) (h15 : Ob) (h16 : Ob) (h19 : Ob) (h20 : Ob) (h21 : Ob) (h22 : Ob) (h23 : Ob) (h24 : Ob) (k66 : XK) (a : Ob × Ob × Ob) : rg_X7_greatest_34 k66 (en_X7_greatest_34 p1 h0 h1 h3 h4 h5 h6 h7 h8 h9 h10 h11 h12 h13 h14 h15 h16 h19 h20 h21 h22 h23 h24 a) = mg_X7_greatest_34 p1 h0 h1 h3 h4 h5 h6 h7 h8 h9 h10 h11 h12 h13 h14 h15 h16 h19 h20 h21 h22 h23 h24 (fun b => k66 (en_X7_greatest_66 p1 h0 h1 h3 h4 h5 h6 h7 h8 h9 h10 h11 h12 h13 h14 h15 h16 h19 h20 h21 h22 h23 h24 b)) a := rfl
set_option maxRecDepth 100000 in
set_option maxHeartbeats 4000000 in
theorem sg_X7_greatest_34 {X : XDyn} {r0 : Rt} (C : XO X mX7_greatest) {k66 : XK} (q66 : XS X mX7_greatest r0 66 k66) : XS X mX7_greatest r0 34 (rg_X7_greatest_34 k66) := by
 unfold rg_X7_greatest_34
 exact s_iload_n (pc := 34) C dX7_greatest_34 rfl <|
    s_iconst (pc := 35) C dX7_greatest_35 <|
    s_icmp_ne (pc := 36) C dX7_greatest_36 (by decide) (s_aload_n (pc := 59) C dX7_greatest_59 rfl <|
    s_get (pc := 60) C (ci := 7) (kf := 0) rfl inX7 (by decide) wd_312 dX7_greatest_60 <|
    s_callV (pc := 63) C ct_X3_movable (n := 1) (rk := 1) (mp := [1]) ⟨rfl, by decide, rfl⟩ (ci := 3) rfl rfl (by decide) (by decide) yi_X3_movable (by decide) wd_763 wd_428 wd_429 wd_74 wd_430 dX7_greatest_63 <|
    s_cut q66)
    (s_aload_n (pc := 39) C dX7_greatest_39 rfl <|
    s_get (pc := 40) C (ci := 7) (kf := 0) rfl inX7 (by decide) wd_312 dX7_greatest_40 <|
    s_callV (pc := 43) C ct_X3_movable (n := 1) (rk := 1) (mp := [1]) ⟨rfl, by decide, rfl⟩ (ci := 3) rfl rfl (by decide) (by decide) yi_X3_movable (by decide) wd_763 wd_428 wd_429 wd_74 wd_430 dX7_greatest_43 <|
    s_aload_n (pc := 46) C dX7_greatest_46 rfl <|
    s_get (pc := 47) C (ci := 7) (kf := 0) rfl inX7 (by decide) wd_312 dX7_greatest_47 <|
    s_callV (pc := 50) C ct_X3_goers (n := 1) (rk := 1) (mp := [1]) ⟨rfl, by decide, rfl⟩ (ci := 3) rfl rfl (by decide) (by decide) yi_X3_goers (by decide) wd_780 wd_522 wd_523 wd_74 wd_524 dX7_greatest_50 <|
    s_iconst (pc := 53) C dX7_greatest_53 <|
    s_ixor (pc := 54) C dX7_greatest_54 <|
    s_iand (pc := 55) C dX7_greatest_55 <|
    s_goto (pc := 56) C dX7_greatest_56 (by decide) <|
    s_cut q66)
noncomputable def mg_X7_greatest_66 (p1 : Int) (h0 : Ob) (h1 : Ob) (h3 : Ob) (h4 : Ob) (h5 : Ob) (h6 : Ob) (h7 : Ob) (h8 : Ob) (h9 : Ob) (h10 : Ob) (h11 : Ob) (h12 : Ob) (h13 : Ob) (h14 : Ob) (h15 : Ob) (h16 : Ob) (h19 : Ob) (h20 : Ob) (h21 : Ob) (h22 : Ob) (h23 : Ob) (h24 : Ob) (k99 : (Int × Int × Int × Ob × Ob × Ob) → Option Rt) (a : Int × Ob × Ob × Ob) : Option Rt :=
 if pd (RdG h1 (h1 0 10)) then (
 k99 (a.1, 0, 256, a.2.1, (rdO a.2.2.1 (rnl h1 (movS h1) (h1 0 10))), a.2.2.2)) else none
set_option maxRecDepth 100000 in
set_option maxHeartbeats 4000000 in
theorem rq_X7_greatest_66 (p1 : Int) (h0 : Ob) (h1 : Ob) (h3 : Ob) (h4 : Ob) (h5 : Ob) (h6 : Ob) (h7 : Ob) (h8 : Ob) (h9 : Ob) (h10 : Ob) (h11 : Ob) (h12 : Ob) (h13 : Ob) (h14 : Ob) (h15 : Ob) (h16 : Ob) (h19 : Ob) (h20 : Ob) (h21 : Ob) (h22 : Ob) (h23 : Ob) (h24 : Ob) (k99 : XK) (a : Int × Ob × Ob × Ob) : rg_X7_greatest_66 k99 (en_X7_greatest_66 p1 h0 h1 h3 h4 h5 h6 h7 h8 h9 h10 h11 h12 h13 h14 h15 h16 h19 h20 h21 h22 h23 h24 a) = mg_X7_greatest_66 p1 h0 h1 h3 h4 h5 h6 h7 h8 h9 h10 h11 h12 h13 h14 h15 h16 h19 h20 h21 h22 h23 h24 (fun b => k99 (en_X7_greatest_99 p1 h0 h1 h3 h4 h5 h6 h7 h8 h9 h10 h11 h12 h13 h14 h15 h16 h19 h20 h21 h22 h23 h24 b)) a := rfl
set_option maxRecDepth 100000 in
set_option maxHeartbeats 4000000 in
theorem sg_X7_greatest_66 {X : XDyn} {r0 : Rt} (C : XO X mX7_greatest) {k99 : XK} (q99 : XS X mX7_greatest r0 99 k99) : XS X mX7_greatest r0 66 (rg_X7_greatest_66 k99) := by
 unfold rg_X7_greatest_66
 exact s_istore_n (pc := 66) C dX7_greatest_66 rfl <|
    s_aload_n (pc := 67) C dX7_greatest_67 rfl <|
    s_get (pc := 68) C (ci := 7) (kf := 3) rfl inX7 (by decide) wd_315 dX7_greatest_68 <|
    s_aload_n (pc := 71) C dX7_greatest_71 rfl <|
    s_get (pc := 72) C (ci := 7) (kf := 0) rfl inX7 (by decide) wd_312 dX7_greatest_72 <|
    s_aload_n (pc := 75) C dX7_greatest_75 rfl <|
    s_get (pc := 76) C (ci := 7) (kf := 0) rfl inX7 (by decide) wd_312 dX7_greatest_76 <|
    s_callV (pc := 79) C ct_X3_movable (n := 1) (rk := 1) (mp := [1]) ⟨rfl, by decide, rfl⟩ (ci := 3) rfl rfl (by decide) (by decide) yi_X3_movable (by decide) wd_763 wd_428 wd_429 wd_74 wd_430 dX7_greatest_79 <|
    s_aload_n (pc := 82) C dX7_greatest_82 rfl <|
    s_get (pc := 83) C (ci := 7) (kf := 0) rfl inX7 (by decide) wd_312 dX7_greatest_83 <|
    s_get (pc := 86) C (ci := 3) (kf := 10) rfl inX3 (by decide) wd_130 dX7_greatest_86 <|
    s_callVg (pc := 89) C ct_X6_read (n := 4) (rk := 0) (mp := [17, 1]) ⟨rfl, by decide, rfl⟩ (ci := 6) rfl rfl (by decide) (by decide) yi_X6_read (by decide) wd_764 wd_432 wd_433 wd_76 wd_434 dX7_greatest_89 <|
    s_iconst (pc := 92) C dX7_greatest_92 <|
    s_istore_n (pc := 93) C dX7_greatest_93 rfl <|
    s_sipush (pc := 94) C dX7_greatest_94 (by decide) <|
    s_istore (pc := 97) C dX7_greatest_97 <|
    s_cut q99
noncomputable def mg_X7_greatest_99 (p1 : Int) (h0 : Ob) (h1 : Ob) (h3 : Ob) (h4 : Ob) (h5 : Ob) (h6 : Ob) (h7 : Ob) (h8 : Ob) (h9 : Ob) (h10 : Ob) (h11 : Ob) (h12 : Ob) (h13 : Ob) (h14 : Ob) (h15 : Ob) (h16 : Ob) (h19 : Ob) (h20 : Ob) (h21 : Ob) (h22 : Ob) (h23 : Ob) (h24 : Ob) (k144 : (Int × Int × Int × Ob × Ob × Ob) → Option Rt) (a : Int × Int × Int × Ob × Ob × Ob) : Option Rt :=
 if xw a.2.2.1 ≤ 0 then (RI a.2.1 [h0, h1, a.2.2.2.1, h3, h4, h5, h6, h7, h8, h9, h10, h11, h12, h13, h14, h15, h16, a.2.2.2.2.1, a.2.2.2.2.2, h19, h20, h21, h22, h23, h24])
 else (if xw (bz (ask (a.2.1 + a.2.2.1))) = 0 then (k144 (a.1, a.2.1, a.2.2.1, a.2.2.2.1, a.2.2.2.2.1, a.2.2.2.2.2))
 else (if pd (GiG (pkA (pkF a.2.2.2.2.2 a.2.2.2.1 a.1) ((a.2.1 + a.2.2.1) + 1)) a.2.2.2.2.1) then (
 if xw (bz (gi (pkA (pkF a.2.2.2.2.2 a.2.2.2.1 a.1) ((a.2.1 + a.2.2.1) + 1)) a.2.2.2.2.1)) = 0 then (k144 (a.1, a.2.1, a.2.2.1, a.2.2.2.1, a.2.2.2.2.1, (giO xfu (pkA (pkF a.2.2.2.2.2 a.2.2.2.1 a.1) ((a.2.1 + a.2.2.1) + 1)) a.2.2.2.2.1)))
 else (k144 (a.1, (a.2.1 + a.2.2.1), a.2.2.1, a.2.2.2.1, a.2.2.2.2.1, (giO xfu (pkA (pkF a.2.2.2.2.2 a.2.2.2.1 a.1) ((a.2.1 + a.2.2.1) + 1)) a.2.2.2.2.1)))) else none))
set_option maxRecDepth 100000 in
set_option maxHeartbeats 4000000 in
theorem rq_X7_greatest_99 (p1 : Int) (h0 : Ob) (h1 : Ob) (h3 : Ob) (h4 : Ob) (h5 : Ob) (h6 : Ob) (h7 : Ob) (h8 : Ob) (h9 : Ob) (h10 : Ob) (h11 : Ob) (h12 : Ob) (h13 : Ob) (h14 : Ob) (h15 : Ob) (h16 : Ob) (h19 : Ob) (h20 : Ob) (h21 : Ob) (h22 : Ob) (h23 : Ob) (h24 : Ob) (k144 : XK) (a : Int × Int × Int × Ob × Ob × Ob) : rg_X7_greatest_99 k144 (en_X7_greatest_99 p1 h0 h1 h3 h4 h5 h6 h7 h8 h9 h10 h11 h12 h13 h14 h15 h16 h19 h20 h21 h22 h23 h24 a) = mg_X7_greatest_99 p1 h0 h1 h3 h4 h5 h6 h7 h8 h9 h10 h11 h12 h13 h14 h15 h16 h19 h20 h21 h22 h23 h24 (fun b => k144 (en_X7_greatest_144 p1 h0 h1 h3 h4 h5 h6 h7 h8 h9 h10 h11 h12 h13 h14 h15 h16 h19 h20 h21 h22 h23 h24 b)) a := rfl
set_option maxRecDepth 100000 in
set_option maxHeartbeats 4000000 in
theorem sg_X7_greatest_99 {X : XDyn} {r0 : Rt} (C : XO X mX7_greatest) {k144 : XK} (q144 : XS X mX7_greatest r0 144 k144) : XS X mX7_greatest r0 99 (rg_X7_greatest_99 k144) := by
 unfold rg_X7_greatest_99
 exact s_iload (pc := 99) C dX7_greatest_99 <|
    s_if_le (pc := 101) C dX7_greatest_101 (by decide) (s_iload_n (pc := 153) C dX7_greatest_153 rfl <|
    s_ireturn (pc := 154) C rfl dX7_greatest_154)
    (s_iload_n (pc := 104) C dX7_greatest_104 rfl <|
    s_iload (pc := 105) C dX7_greatest_105 <|
    s_iadd (pc := 107) C dX7_greatest_107 <|
    s_callS (pc := 108) C ct_X7_isAsked (n := 1) (rk := 1) (mp := []) ⟨rfl, by decide, rfl⟩ (by decide) (by decide) ⟨rfl, yi_X7_isAsked⟩ wd_807 wd_808 wd_73 wd_809 dX7_greatest_108 <|
    s_if_eq (pc := 111) C dX7_greatest_111 (by decide) (s_cut q144)
    (s_aload_n (pc := 114) C dX7_greatest_114 rfl <|
    s_get (pc := 115) C (ci := 7) (kf := 4) rfl inX7 (by decide) wd_316 dX7_greatest_115 <|
    s_aload_n (pc := 118) C dX7_greatest_118 rfl <|
    s_get (pc := 119) C (ci := 7) (kf := 3) rfl inX7 (by decide) wd_315 dX7_greatest_119 <|
    s_aload_n (pc := 122) C dX7_greatest_122 rfl <|
    s_get (pc := 123) C (ci := 7) (kf := 1) rfl inX7 (by decide) wd_313 dX7_greatest_123 <|
    s_iload_n (pc := 126) C dX7_greatest_126 rfl <|
    s_iload_n (pc := 127) C dX7_greatest_127 rfl <|
    s_iload (pc := 128) C dX7_greatest_128 <|
    s_iadd (pc := 130) C dX7_greatest_130 <|
    s_iconst (pc := 131) C dX7_greatest_131 <|
    s_iadd (pc := 132) C dX7_greatest_132 <|
    s_callVg (pc := 133) C ct_X4_holds (n := 5) (rk := 1) (mp := [18, 17, 2]) ⟨rfl, by decide, rfl⟩ (ci := 4) rfl rfl (by decide) (by decide) yi_X4_holds (by decide) wd_819 wd_820 wd_821 wd_77 wd_822 dX7_greatest_133 <|
    s_if_eq (pc := 136) C dX7_greatest_136 (by decide) (s_cut q144)
    (s_iload_n (pc := 139) C dX7_greatest_139 rfl <|
    s_iload (pc := 140) C dX7_greatest_140 <|
    s_iadd (pc := 142) C dX7_greatest_142 <|
    s_istore_n (pc := 143) C dX7_greatest_143 rfl <|
    s_cut q144)))
noncomputable def mg_X7_greatest_144 (p1 : Int) (h0 : Ob) (h1 : Ob) (h3 : Ob) (h4 : Ob) (h5 : Ob) (h6 : Ob) (h7 : Ob) (h8 : Ob) (h9 : Ob) (h10 : Ob) (h11 : Ob) (h12 : Ob) (h13 : Ob) (h14 : Ob) (h15 : Ob) (h16 : Ob) (h19 : Ob) (h20 : Ob) (h21 : Ob) (h22 : Ob) (h23 : Ob) (h24 : Ob) (k99 : (Int × Int × Int × Ob × Ob × Ob) → Option Rt) (a : Int × Int × Int × Ob × Ob × Ob) : Option Rt :=
 k99 (a.1, a.2.1, (xdiv a.2.2.1 2), a.2.2.2.1, a.2.2.2.2.1, a.2.2.2.2.2)
set_option maxRecDepth 100000 in
set_option maxHeartbeats 4000000 in
theorem rq_X7_greatest_144 (p1 : Int) (h0 : Ob) (h1 : Ob) (h3 : Ob) (h4 : Ob) (h5 : Ob) (h6 : Ob) (h7 : Ob) (h8 : Ob) (h9 : Ob) (h10 : Ob) (h11 : Ob) (h12 : Ob) (h13 : Ob) (h14 : Ob) (h15 : Ob) (h16 : Ob) (h19 : Ob) (h20 : Ob) (h21 : Ob) (h22 : Ob) (h23 : Ob) (h24 : Ob) (k99 : XK) (a : Int × Int × Int × Ob × Ob × Ob) : rg_X7_greatest_144 k99 (en_X7_greatest_144 p1 h0 h1 h3 h4 h5 h6 h7 h8 h9 h10 h11 h12 h13 h14 h15 h16 h19 h20 h21 h22 h23 h24 a) = mg_X7_greatest_144 p1 h0 h1 h3 h4 h5 h6 h7 h8 h9 h10 h11 h12 h13 h14 h15 h16 h19 h20 h21 h22 h23 h24 (fun b => k99 (en_X7_greatest_99 p1 h0 h1 h3 h4 h5 h6 h7 h8 h9 h10 h11 h12 h13 h14 h15 h16 h19 h20 h21 h22 h23 h24 b)) a := rfl
set_option maxRecDepth 100000 in
set_option maxHeartbeats 4000000 in
theorem sg_X7_greatest_144 {X : XDyn} {r0 : Rt} (C : XO X mX7_greatest) {k99 : XK} (q99 : XS X mX7_greatest r0 99 k99) : XS X mX7_greatest r0 144 (rg_X7_greatest_144 k99) := by
 unfold rg_X7_greatest_144
 exact s_iload (pc := 144) C dX7_greatest_144 <|
    s_iconst (pc := 146) C dX7_greatest_146 <|
    s_idiv (pc := 147) C dX7_greatest_147 <|
    s_istore (pc := 148) C dX7_greatest_148 <|
    s_goto (pc := 150) C dX7_greatest_150 (by decide) <|
    s_cut q99
noncomputable def rw_X7_greatest_144 (f : Nat) (k99 : XK) : XK := rg_X7_greatest_144 k99
noncomputable def md_X7_greatest_144 (p1 : Int) (h0 : Ob) (h1 : Ob) (h3 : Ob) (h4 : Ob) (h5 : Ob) (h6 : Ob) (h7 : Ob) (h8 : Ob) (h9 : Ob) (h10 : Ob) (h11 : Ob) (h12 : Ob) (h13 : Ob) (h14 : Ob) (h15 : Ob) (h16 : Ob) (h19 : Ob) (h20 : Ob) (h21 : Ob) (h22 : Ob) (h23 : Ob) (h24 : Ob) (f : Nat) (k99 : (Int × Int × Int × Ob × Ob × Ob) → Option Rt) : Int × Int × Int × Ob × Ob × Ob → Option Rt := mg_X7_greatest_144 p1 h0 h1 h3 h4 h5 h6 h7 h8 h9 h10 h11 h12 h13 h14 h15 h16 h19 h20 h21 h22 h23 h24 k99
theorem eq_X7_greatest_144 (p1 : Int) (h0 : Ob) (h1 : Ob) (h3 : Ob) (h4 : Ob) (h5 : Ob) (h6 : Ob) (h7 : Ob) (h8 : Ob) (h9 : Ob) (h10 : Ob) (h11 : Ob) (h12 : Ob) (h13 : Ob) (h14 : Ob) (h15 : Ob) (h16 : Ob) (h19 : Ob) (h20 : Ob) (h21 : Ob) (h22 : Ob) (h23 : Ob) (h24 : Ob) (f : Nat) (k99 : XK) (a : Int × Int × Int × Ob × Ob × Ob) : rw_X7_greatest_144 f k99 (en_X7_greatest_144 p1 h0 h1 h3 h4 h5 h6 h7 h8 h9 h10 h11 h12 h13 h14 h15 h16 h19 h20 h21 h22 h23 h24 a) = md_X7_greatest_144 p1 h0 h1 h3 h4 h5 h6 h7 h8 h9 h10 h11 h12 h13 h14 h15 h16 h19 h20 h21 h22 h23 h24 f (fun b => k99 (en_X7_greatest_99 p1 h0 h1 h3 h4 h5 h6 h7 h8 h9 h10 h11 h12 h13 h14 h15 h16 h19 h20 h21 h22 h23 h24 b)) a :=
 (rq_X7_greatest_144 p1 h0 h1 h3 h4 h5 h6 h7 h8 h9 h10 h11 h12 h13 h14 h15 h16 h19 h20 h21 h22 h23 h24 k99 a).trans (congrFun (congr (rfl : mg_X7_greatest_144 p1 h0 h1 h3 h4 h5 h6 h7 h8 h9 h10 h11 h12 h13 h14 h15 h16 h19 h20 h21 h22 h23 h24 = mg_X7_greatest_144 p1 h0 h1 h3 h4 h5 h6 h7 h8 h9 h10 h11 h12 h13 h14 h15 h16 h19 h20 h21 h22 h23 h24) rfl) a)
theorem sd_X7_greatest_144 (f : Nat) {X : XDyn} {r0 : Rt} (C : XO X mX7_greatest) {k99 : XK} (q99 : XS X mX7_greatest r0 99 k99) : XS X mX7_greatest r0 144 (rw_X7_greatest_144 f k99) := sg_X7_greatest_144 C q99
noncomputable def rw_X7_greatest_99 (f : Nat) : XK := tlp (fun k99 => rg_X7_greatest_99 (rw_X7_greatest_144 f k99)) f
noncomputable def lb_X7_greatest_99 (p1 : Int) (h0 : Ob) (h1 : Ob) (h3 : Ob) (h4 : Ob) (h5 : Ob) (h6 : Ob) (h7 : Ob) (h8 : Ob) (h9 : Ob) (h10 : Ob) (h11 : Ob) (h12 : Ob) (h13 : Ob) (h14 : Ob) (h15 : Ob) (h16 : Ob) (h19 : Ob) (h20 : Ob) (h21 : Ob) (h22 : Ob) (h23 : Ob) (h24 : Ob) (f : Nat) : ((Int × Int × Int × Ob × Ob × Ob) → Option Rt) → Int × Int × Int × Ob × Ob × Ob → Option Rt := fun k99 => mg_X7_greatest_99 p1 h0 h1 h3 h4 h5 h6 h7 h8 h9 h10 h11 h12 h13 h14 h15 h16 h19 h20 h21 h22 h23 h24 (md_X7_greatest_144 p1 h0 h1 h3 h4 h5 h6 h7 h8 h9 h10 h11 h12 h13 h14 h15 h16 h19 h20 h21 h22 h23 h24 f k99)
noncomputable def md_X7_greatest_99 (p1 : Int) (h0 : Ob) (h1 : Ob) (h3 : Ob) (h4 : Ob) (h5 : Ob) (h6 : Ob) (h7 : Ob) (h8 : Ob) (h9 : Ob) (h10 : Ob) (h11 : Ob) (h12 : Ob) (h13 : Ob) (h14 : Ob) (h15 : Ob) (h16 : Ob) (h19 : Ob) (h20 : Ob) (h21 : Ob) (h22 : Ob) (h23 : Ob) (h24 : Ob) (f : Nat) : Int × Int × Int × Ob × Ob × Ob → Option Rt := tlp (lb_X7_greatest_99 p1 h0 h1 h3 h4 h5 h6 h7 h8 h9 h10 h11 h12 h13 h14 h15 h16 h19 h20 h21 h22 h23 h24 f) f
theorem eq_X7_greatest_99 (p1 : Int) (h0 : Ob) (h1 : Ob) (h3 : Ob) (h4 : Ob) (h5 : Ob) (h6 : Ob) (h7 : Ob) (h8 : Ob) (h9 : Ob) (h10 : Ob) (h11 : Ob) (h12 : Ob) (h13 : Ob) (h14 : Ob) (h15 : Ob) (h16 : Ob) (h19 : Ob) (h20 : Ob) (h21 : Ob) (h22 : Ob) (h23 : Ob) (h24 : Ob) (f : Nat) (a : Int × Int × Int × Ob × Ob × Ob) : rw_X7_greatest_99 f (en_X7_greatest_99 p1 h0 h1 h3 h4 h5 h6 h7 h8 h9 h10 h11 h12 h13 h14 h15 h16 h19 h20 h21 h22 h23 h24 a) = md_X7_greatest_99 p1 h0 h1 h3 h4 h5 h6 h7 h8 h9 h10 h11 h12 h13 h14 h15 h16 h19 h20 h21 h22 h23 h24 f a :=
 tlp_enc (en_X7_greatest_99 p1 h0 h1 h3 h4 h5 h6 h7 h8 h9 h10 h11 h12 h13 h14 h15 h16 h19 h20 h21 h22 h23 h24) (fun k99 a => (rq_X7_greatest_99 p1 h0 h1 h3 h4 h5 h6 h7 h8 h9 h10 h11 h12 h13 h14 h15 h16 h19 h20 h21 h22 h23 h24 (rw_X7_greatest_144 f k99) a).trans (congrFun (congr (rfl : mg_X7_greatest_99 p1 h0 h1 h3 h4 h5 h6 h7 h8 h9 h10 h11 h12 h13 h14 h15 h16 h19 h20 h21 h22 h23 h24 = mg_X7_greatest_99 p1 h0 h1 h3 h4 h5 h6 h7 h8 h9 h10 h11 h12 h13 h14 h15 h16 h19 h20 h21 h22 h23 h24) (funext (eq_X7_greatest_144 p1 h0 h1 h3 h4 h5 h6 h7 h8 h9 h10 h11 h12 h13 h14 h15 h16 h19 h20 h21 h22 h23 h24 f k99))) a)) f a
theorem sd_X7_greatest_99 (f : Nat) {X : XDyn} {r0 : Rt} (C : XO X mX7_greatest) : XS X mX7_greatest r0 99 (rw_X7_greatest_99 f) := s_lp (fun k99 q99 => sg_X7_greatest_99 C (sd_X7_greatest_144 f C q99)) f
noncomputable def rw_X7_greatest_66 (f : Nat) : XK := rg_X7_greatest_66 (rw_X7_greatest_99 f)
noncomputable def md_X7_greatest_66 (p1 : Int) (h0 : Ob) (h1 : Ob) (h3 : Ob) (h4 : Ob) (h5 : Ob) (h6 : Ob) (h7 : Ob) (h8 : Ob) (h9 : Ob) (h10 : Ob) (h11 : Ob) (h12 : Ob) (h13 : Ob) (h14 : Ob) (h15 : Ob) (h16 : Ob) (h19 : Ob) (h20 : Ob) (h21 : Ob) (h22 : Ob) (h23 : Ob) (h24 : Ob) (f : Nat) : Int × Ob × Ob × Ob → Option Rt := mg_X7_greatest_66 p1 h0 h1 h3 h4 h5 h6 h7 h8 h9 h10 h11 h12 h13 h14 h15 h16 h19 h20 h21 h22 h23 h24 (md_X7_greatest_99 p1 h0 h1 h3 h4 h5 h6 h7 h8 h9 h10 h11 h12 h13 h14 h15 h16 h19 h20 h21 h22 h23 h24 f)
theorem eq_X7_greatest_66 (p1 : Int) (h0 : Ob) (h1 : Ob) (h3 : Ob) (h4 : Ob) (h5 : Ob) (h6 : Ob) (h7 : Ob) (h8 : Ob) (h9 : Ob) (h10 : Ob) (h11 : Ob) (h12 : Ob) (h13 : Ob) (h14 : Ob) (h15 : Ob) (h16 : Ob) (h19 : Ob) (h20 : Ob) (h21 : Ob) (h22 : Ob) (h23 : Ob) (h24 : Ob) (f : Nat) (a : Int × Ob × Ob × Ob) : rw_X7_greatest_66 f (en_X7_greatest_66 p1 h0 h1 h3 h4 h5 h6 h7 h8 h9 h10 h11 h12 h13 h14 h15 h16 h19 h20 h21 h22 h23 h24 a) = md_X7_greatest_66 p1 h0 h1 h3 h4 h5 h6 h7 h8 h9 h10 h11 h12 h13 h14 h15 h16 h19 h20 h21 h22 h23 h24 f a :=
 (rq_X7_greatest_66 p1 h0 h1 h3 h4 h5 h6 h7 h8 h9 h10 h11 h12 h13 h14 h15 h16 h19 h20 h21 h22 h23 h24 (rw_X7_greatest_99 f) a).trans (congrFun (congr (rfl : mg_X7_greatest_66 p1 h0 h1 h3 h4 h5 h6 h7 h8 h9 h10 h11 h12 h13 h14 h15 h16 h19 h20 h21 h22 h23 h24 = mg_X7_greatest_66 p1 h0 h1 h3 h4 h5 h6 h7 h8 h9 h10 h11 h12 h13 h14 h15 h16 h19 h20 h21 h22 h23 h24) (funext (eq_X7_greatest_99 p1 h0 h1 h3 h4 h5 h6 h7 h8 h9 h10 h11 h12 h13 h14 h15 h16 h19 h20 h21 h22 h23 h24 f))) a)
theorem sd_X7_greatest_66 (f : Nat) {X : XDyn} {r0 : Rt} (C : XO X mX7_greatest) : XS X mX7_greatest r0 66 (rw_X7_greatest_66 f) := sg_X7_greatest_66 C (sd_X7_greatest_99 f C)
noncomputable def rw_X7_greatest_34 (f : Nat) : XK := rg_X7_greatest_34 (rw_X7_greatest_66 f)
noncomputable def md_X7_greatest_34 (p1 : Int) (h0 : Ob) (h1 : Ob) (h3 : Ob) (h4 : Ob) (h5 : Ob) (h6 : Ob) (h7 : Ob) (h8 : Ob) (h9 : Ob) (h10 : Ob) (h11 : Ob) (h12 : Ob) (h13 : Ob) (h14 : Ob) (h15 : Ob) (h16 : Ob) (h19 : Ob) (h20 : Ob) (h21 : Ob) (h22 : Ob) (h23 : Ob) (h24 : Ob) (f : Nat) : Ob × Ob × Ob → Option Rt := mg_X7_greatest_34 p1 h0 h1 h3 h4 h5 h6 h7 h8 h9 h10 h11 h12 h13 h14 h15 h16 h19 h20 h21 h22 h23 h24 (md_X7_greatest_66 p1 h0 h1 h3 h4 h5 h6 h7 h8 h9 h10 h11 h12 h13 h14 h15 h16 h19 h20 h21 h22 h23 h24 f)
theorem eq_X7_greatest_34 (p1 : Int) (h0 : Ob) (h1 : Ob) (h3 : Ob) (h4 : Ob) (h5 : Ob) (h6 : Ob) (h7 : Ob) (h8 : Ob) (h9 : Ob) (h10 : Ob) (h11 : Ob) (h12 : Ob) (h13 : Ob) (h14 : Ob) (h15 : Ob) (h16 : Ob) (h19 : Ob) (h20 : Ob) (h21 : Ob) (h22 : Ob) (h23 : Ob) (h24 : Ob) (f : Nat) (a : Ob × Ob × Ob) : rw_X7_greatest_34 f (en_X7_greatest_34 p1 h0 h1 h3 h4 h5 h6 h7 h8 h9 h10 h11 h12 h13 h14 h15 h16 h19 h20 h21 h22 h23 h24 a) = md_X7_greatest_34 p1 h0 h1 h3 h4 h5 h6 h7 h8 h9 h10 h11 h12 h13 h14 h15 h16 h19 h20 h21 h22 h23 h24 f a :=
 (rq_X7_greatest_34 p1 h0 h1 h3 h4 h5 h6 h7 h8 h9 h10 h11 h12 h13 h14 h15 h16 h19 h20 h21 h22 h23 h24 (rw_X7_greatest_66 f) a).trans (congrFun (congr (rfl : mg_X7_greatest_34 p1 h0 h1 h3 h4 h5 h6 h7 h8 h9 h10 h11 h12 h13 h14 h15 h16 h19 h20 h21 h22 h23 h24 = mg_X7_greatest_34 p1 h0 h1 h3 h4 h5 h6 h7 h8 h9 h10 h11 h12 h13 h14 h15 h16 h19 h20 h21 h22 h23 h24) (funext (eq_X7_greatest_66 p1 h0 h1 h3 h4 h5 h6 h7 h8 h9 h10 h11 h12 h13 h14 h15 h16 h19 h20 h21 h22 h23 h24 f))) a)
theorem sd_X7_greatest_34 (f : Nat) {X : XDyn} {r0 : Rt} (C : XO X mX7_greatest) : XS X mX7_greatest r0 34 (rw_X7_greatest_34 f) := sg_X7_greatest_34 C (sd_X7_greatest_66 f C)
noncomputable def rw_X7_greatest_0 (f : Nat) : XK := rg_X7_greatest_0 (rw_X7_greatest_34 f)
noncomputable def md_X7_greatest_0 (p1 : Int) (h0 : Ob) (h1 : Ob) (h3 : Ob) (h4 : Ob) (h5 : Ob) (h6 : Ob) (h7 : Ob) (h8 : Ob) (h9 : Ob) (h10 : Ob) (h11 : Ob) (h12 : Ob) (h13 : Ob) (h14 : Ob) (h15 : Ob) (h16 : Ob) (h19 : Ob) (h20 : Ob) (h21 : Ob) (h22 : Ob) (h23 : Ob) (h24 : Ob) (f : Nat) : Ob × Ob × Ob → Option Rt := mg_X7_greatest_0 p1 h0 h1 h3 h4 h5 h6 h7 h8 h9 h10 h11 h12 h13 h14 h15 h16 h19 h20 h21 h22 h23 h24 (md_X7_greatest_34 p1 h0 h1 h3 h4 h5 h6 h7 h8 h9 h10 h11 h12 h13 h14 h15 h16 h19 h20 h21 h22 h23 h24 f)
theorem eq_X7_greatest_0 (p1 : Int) (h0 : Ob) (h1 : Ob) (h3 : Ob) (h4 : Ob) (h5 : Ob) (h6 : Ob) (h7 : Ob) (h8 : Ob) (h9 : Ob) (h10 : Ob) (h11 : Ob) (h12 : Ob) (h13 : Ob) (h14 : Ob) (h15 : Ob) (h16 : Ob) (h19 : Ob) (h20 : Ob) (h21 : Ob) (h22 : Ob) (h23 : Ob) (h24 : Ob) (f : Nat) (a : Ob × Ob × Ob) : rw_X7_greatest_0 f (en_X7_greatest_0 p1 h0 h1 h3 h4 h5 h6 h7 h8 h9 h10 h11 h12 h13 h14 h15 h16 h19 h20 h21 h22 h23 h24 a) = md_X7_greatest_0 p1 h0 h1 h3 h4 h5 h6 h7 h8 h9 h10 h11 h12 h13 h14 h15 h16 h19 h20 h21 h22 h23 h24 f a :=
 (rq_X7_greatest_0 p1 h0 h1 h3 h4 h5 h6 h7 h8 h9 h10 h11 h12 h13 h14 h15 h16 h19 h20 h21 h22 h23 h24 (rw_X7_greatest_34 f) a).trans (congrFun (congr (rfl : mg_X7_greatest_0 p1 h0 h1 h3 h4 h5 h6 h7 h8 h9 h10 h11 h12 h13 h14 h15 h16 h19 h20 h21 h22 h23 h24 = mg_X7_greatest_0 p1 h0 h1 h3 h4 h5 h6 h7 h8 h9 h10 h11 h12 h13 h14 h15 h16 h19 h20 h21 h22 h23 h24) (funext (eq_X7_greatest_34 p1 h0 h1 h3 h4 h5 h6 h7 h8 h9 h10 h11 h12 h13 h14 h15 h16 h19 h20 h21 h22 h23 h24 f))) a)
theorem sd_X7_greatest_0 (f : Nat) {X : XDyn} {r0 : Rt} (C : XO X mX7_greatest) : XS X mX7_greatest r0 0 (rw_X7_greatest_0 f) := sg_X7_greatest_0 C (sd_X7_greatest_34 f C)
theorem ctr_X7_greatest (f : Nat) : XCt yX7_greatest mX7_greatest (xF mX7_greatest (rw_X7_greatest_0 f)) := xMet (by decide +kernel) rfl (fun _ _ C => sd_X7_greatest_0 f C)
theorem eqf_X7_greatest (f : Nat) (p1 : Int) (h0 : Ob) (h1 : Ob) (h2 : Ob) (h3 : Ob) (h4 : Ob) (h5 : Ob) (h6 : Ob) (h7 : Ob) (h8 : Ob) (h9 : Ob) (h10 : Ob) (h11 : Ob) (h12 : Ob) (h13 : Ob) (h14 : Ob) (h15 : Ob) (h16 : Ob) (h17 : Ob) (h18 : Ob) (h19 : Ob) (h20 : Ob) (h21 : Ob) (h22 : Ob) (h23 : Ob) (h24 : Ob) : xF mX7_greatest (rw_X7_greatest_0 f) [.inr (.inl (0, 0)), .inl p1] [h0, h1, h2, h3, h4, h5, h6, h7, h8, h9, h10, h11, h12, h13, h14, h15, h16, h17, h18, h19, h20, h21, h22, h23, h24] = md_X7_greatest_0 p1 h0 h1 h3 h4 h5 h6 h7 h8 h9 h10 h11 h12 h13 h14 h15 h16 h19 h20 h21 h22 h23 h24 f (h2, h17, h18) := eq_X7_greatest_0 p1 h0 h1 h3 h4 h5 h6 h7 h8 h9 h10 h11 h12 h13 h14 h15 h16 h19 h20 h21 h22 h23 h24 f (h2, h17, h18)
theorem yi_X7_greatest : yX7_greatest.cls = RX7 ∧ yX7_greatest.cls ≠ "java/lang/invoke/MethodHandle" ∧ yX7_greatest.cls ≠ "java/lang/invoke/VarHandle" ∧ (parseMethodDescriptor yX7_greatest.desc).map (fun d => d.parameters.length) = some 1 := ⟨rfl, by decide +kernel, by decide +kernel, by decide +kernel⟩
theorem dX7_fewest_0 : decode cX7_fewest 0 = .ok (.iload_n 1, 1) := by decide +kernel
theorem dX7_fewest_1 : decode cX7_fewest 1 = .ok (.invokestatic 266, 3) := by decide +kernel
theorem dX7_fewest_4 : decode cX7_fewest 4 = .ok (.ifCond .eq 12, 3) := by decide +kernel
theorem dX7_fewest_7 : decode cX7_fewest 7 = .ok (.iload_n 2, 1) := by decide +kernel
theorem dX7_fewest_8 : decode cX7_fewest 8 = .ok (.ifCond .lt 8, 3) := by decide +kernel
theorem dX7_fewest_11 : decode cX7_fewest 11 = .ok (.iload_n 2, 1) := by decide +kernel
theorem dX7_fewest_12 : decode cX7_fewest 12 = .ok (.iconst 1, 1) := by decide +kernel
theorem dX7_fewest_13 : decode cX7_fewest 13 = .ok (.if_icmp .le 5, 3) := by decide +kernel
theorem dX7_fewest_16 : decode cX7_fewest 16 = .ok (.iconst (-1), 1) := by decide +kernel
theorem dX7_fewest_17 : decode cX7_fewest 17 = .ok (.ireturn, 1) := by decide +kernel
theorem dX7_fewest_18 : decode cX7_fewest 18 = .ok (.aload_n 0, 1) := by decide +kernel
theorem dX7_fewest_19 : decode cX7_fewest 19 = .ok (.getfield 12, 3) := by decide +kernel
theorem dX7_fewest_22 : decode cX7_fewest 22 = .ok (.invokevirtual 213, 3) := by decide +kernel
theorem dX7_fewest_25 : decode cX7_fewest 25 = .ok (.istore_n 3, 1) := by decide +kernel
theorem dX7_fewest_26 : decode cX7_fewest 26 = .ok (.aload_n 0, 1) := by decide +kernel
theorem dX7_fewest_27 : decode cX7_fewest 27 = .ok (.getfield 12, 3) := by decide +kernel
theorem dX7_fewest_30 : decode cX7_fewest 30 = .ok (.invokevirtual 240, 3) := by decide +kernel
theorem dX7_fewest_33 : decode cX7_fewest 33 = .ok (.istore 4, 2) := by decide +kernel
theorem dX7_fewest_35 : decode cX7_fewest 35 = .ok (.aload_n 0, 1) := by decide +kernel
theorem dX7_fewest_36 : decode cX7_fewest 36 = .ok (.getfield 29, 3) := by decide +kernel
theorem dX7_fewest_39 : decode cX7_fewest 39 = .ok (.aload_n 0, 1) := by decide +kernel
theorem dX7_fewest_40 : decode cX7_fewest 40 = .ok (.getfield 12, 3) := by decide +kernel
theorem dX7_fewest_43 : decode cX7_fewest 43 = .ok (.iload_n 3, 1) := by decide +kernel
theorem dX7_fewest_44 : decode cX7_fewest 44 = .ok (.aload_n 0, 1) := by decide +kernel
theorem dX7_fewest_45 : decode cX7_fewest 45 = .ok (.getfield 12, 3) := by decide +kernel
theorem dX7_fewest_48 : decode cX7_fewest 48 = .ok (.getfield 256, 3) := by decide +kernel
theorem dX7_fewest_51 : decode cX7_fewest 51 = .ok (.invokevirtual 216, 3) := by decide +kernel
theorem dX7_fewest_54 : decode cX7_fewest 54 = .ok (.aload_n 0, 1) := by decide +kernel
theorem dX7_fewest_55 : decode cX7_fewest 55 = .ok (.getfield 36, 3) := by decide +kernel
theorem dX7_fewest_58 : decode cX7_fewest 58 = .ok (.aload_n 0, 1) := by decide +kernel
theorem dX7_fewest_59 : decode cX7_fewest 59 = .ok (.getfield 29, 3) := by decide +kernel
theorem dX7_fewest_62 : decode cX7_fewest 62 = .ok (.aload_n 0, 1) := by decide +kernel
theorem dX7_fewest_63 : decode cX7_fewest 63 = .ok (.getfield 12, 3) := by decide +kernel
theorem dX7_fewest_66 : decode cX7_fewest 66 = .ok (.iload_n 3, 1) := by decide +kernel
theorem dX7_fewest_67 : decode cX7_fewest 67 = .ok (.iload 4, 2) := by decide +kernel
theorem dX7_fewest_69 : decode cX7_fewest 69 = .ok (.iconst (-1), 1) := by decide +kernel
theorem dX7_fewest_70 : decode cX7_fewest 70 = .ok (.ixor, 1) := by decide +kernel
theorem dX7_fewest_71 : decode cX7_fewest 71 = .ok (.iand, 1) := by decide +kernel
theorem dX7_fewest_72 : decode cX7_fewest 72 = .ok (.iload_n 1, 1) := by decide +kernel
theorem dX7_fewest_73 : decode cX7_fewest 73 = .ok (.iconst 1, 1) := by decide +kernel
theorem dX7_fewest_74 : decode cX7_fewest 74 = .ok (.iadd, 1) := by decide +kernel
theorem dX7_fewest_75 : decode cX7_fewest 75 = .ok (.invokevirtual 284, 3) := by decide +kernel
theorem dX7_fewest_78 : decode cX7_fewest 78 = .ok (.ifCond .ne 6, 3) := by decide +kernel
theorem dX7_fewest_81 : decode cX7_fewest 81 = .ok (.bipush (-2), 2) := by decide +kernel
theorem dX7_fewest_83 : decode cX7_fewest 83 = .ok (.ireturn, 1) := by decide +kernel
theorem dX7_fewest_84 : decode cX7_fewest 84 = .ok (.iconst 0, 1) := by decide +kernel
theorem dX7_fewest_85 : decode cX7_fewest 85 = .ok (.istore 5, 2) := by decide +kernel
theorem dX7_fewest_87 : decode cX7_fewest 87 = .ok (.iload 5, 2) := by decide +kernel
theorem dX7_fewest_89 : decode cX7_fewest 89 = .ok (.bipush 8, 2) := by decide +kernel
theorem dX7_fewest_91 : decode cX7_fewest 91 = .ok (.if_icmp .gt 85, 3) := by decide +kernel
theorem dX7_fewest_94 : decode cX7_fewest 94 = .ok (.iconst 0, 1) := by decide +kernel
theorem dX7_fewest_95 : decode cX7_fewest 95 = .ok (.istore 6, 2) := by decide +kernel
theorem dX7_fewest_97 : decode cX7_fewest 97 = .ok (.iload 6, 2) := by decide +kernel
theorem dX7_fewest_99 : decode cX7_fewest 99 = .ok (.sipush 256, 3) := by decide +kernel
theorem dX7_fewest_102 : decode cX7_fewest 102 = .ok (.if_icmp .ge 68, 3) := by decide +kernel
theorem dX7_fewest_105 : decode cX7_fewest 105 = .ok (.iload 6, 2) := by decide +kernel
theorem dX7_fewest_107 : decode cX7_fewest 107 = .ok (.iload 4, 2) := by decide +kernel
theorem dX7_fewest_109 : decode cX7_fewest 109 = .ok (.iconst (-1), 1) := by decide +kernel
theorem dX7_fewest_110 : decode cX7_fewest 110 = .ok (.ixor, 1) := by decide +kernel
theorem dX7_fewest_111 : decode cX7_fewest 111 = .ok (.iand, 1) := by decide +kernel
theorem dX7_fewest_112 : decode cX7_fewest 112 = .ok (.ifCond .ne 52, 3) := by decide +kernel
theorem dX7_fewest_115 : decode cX7_fewest 115 = .ok (.iload 6, 2) := by decide +kernel
theorem dX7_fewest_117 : decode cX7_fewest 117 = .ok (.invokestatic 288, 3) := by decide +kernel
theorem dX7_fewest_120 : decode cX7_fewest 120 = .ok (.iload 5, 2) := by decide +kernel
theorem dX7_fewest_122 : decode cX7_fewest 122 = .ok (.if_icmp .ne 42, 3) := by decide +kernel
theorem dX7_fewest_125 : decode cX7_fewest 125 = .ok (.aload_n 0, 1) := by decide +kernel
theorem dX7_fewest_126 : decode cX7_fewest 126 = .ok (.getfield 36, 3) := by decide +kernel
theorem dX7_fewest_129 : decode cX7_fewest 129 = .ok (.aload_n 0, 1) := by decide +kernel
theorem dX7_fewest_130 : decode cX7_fewest 130 = .ok (.getfield 29, 3) := by decide +kernel
theorem dX7_fewest_133 : decode cX7_fewest 133 = .ok (.aload_n 0, 1) := by decide +kernel
theorem dX7_fewest_134 : decode cX7_fewest 134 = .ok (.getfield 12, 3) := by decide +kernel
theorem dX7_fewest_137 : decode cX7_fewest 137 = .ok (.iload_n 3, 1) := by decide +kernel
theorem dX7_fewest_138 : decode cX7_fewest 138 = .ok (.iload 6, 2) := by decide +kernel
theorem dX7_fewest_140 : decode cX7_fewest 140 = .ok (.iconst (-1), 1) := by decide +kernel
theorem dX7_fewest_141 : decode cX7_fewest 141 = .ok (.ixor, 1) := by decide +kernel
theorem dX7_fewest_142 : decode cX7_fewest 142 = .ok (.iand, 1) := by decide +kernel
theorem dX7_fewest_143 : decode cX7_fewest 143 = .ok (.iload_n 1, 1) := by decide +kernel
theorem dX7_fewest_144 : decode cX7_fewest 144 = .ok (.iconst 1, 1) := by decide +kernel
theorem dX7_fewest_145 : decode cX7_fewest 145 = .ok (.iadd, 1) := by decide +kernel
theorem dX7_fewest_146 : decode cX7_fewest 146 = .ok (.invokevirtual 284, 3) := by decide +kernel
theorem dX7_fewest_149 : decode cX7_fewest 149 = .ok (.ifCond .eq 15, 3) := by decide +kernel
theorem dX7_fewest_152 : decode cX7_fewest 152 = .ok (.iload_n 2, 1) := by decide +kernel
theorem dX7_fewest_153 : decode cX7_fewest 153 = .ok (.ifCond .ne 8, 3) := by decide +kernel
theorem dX7_fewest_156 : decode cX7_fewest 156 = .ok (.iload 5, 2) := by decide +kernel
theorem dX7_fewest_158 : decode cX7_fewest 158 = .ok (.goto 5, 3) := by decide +kernel
theorem dX7_fewest_161 : decode cX7_fewest 161 = .ok (.iload 6, 2) := by decide +kernel
theorem dX7_fewest_163 : decode cX7_fewest 163 = .ok (.ireturn, 1) := by decide +kernel
theorem dX7_fewest_164 : decode cX7_fewest 164 = .ok (.iinc 6 1, 3) := by decide +kernel
theorem dX7_fewest_167 : decode cX7_fewest 167 = .ok (.goto (-70), 3) := by decide +kernel
theorem dX7_fewest_170 : decode cX7_fewest 170 = .ok (.iinc 5 1, 3) := by decide +kernel
theorem dX7_fewest_173 : decode cX7_fewest 173 = .ok (.goto (-86), 3) := by decide +kernel
theorem dX7_fewest_176 : decode cX7_fewest 176 = .ok (.bipush (-2), 2) := by decide +kernel
theorem dX7_fewest_178 : decode cX7_fewest 178 = .ok (.ireturn, 1) := by decide +kernel
abbrev mX7_fewest : XM := (cX7_fewest, 7, RX7, (some .int), shw_M, 4)
noncomputable def rg_X7_fewest_0 (k87 : XK) : XK :=
 o_iload 1 <|
 o_callS 1 1 [] f_X7_isAsked <|
 o_if_eq (o_iconst (-1) <|
 o_ireturn)
 (o_iload 2 <|
 o_if_lt (o_iconst (-1) <|
 o_ireturn)
 (o_iload 2 <|
 o_iconst 1 <|
 o_icmp_le (o_aload 0 <|
 o_get shw_M 7 0 <|
 o_callV 1 1 [1] f_X3_movable <|
 o_istore 3 <|
 o_aload 0 <|
 o_get shw_M 7 0 <|
 o_callV 1 1 [1] f_X3_goers <|
 o_istore 4 <|
 o_aload 0 <|
 o_get shw_M 7 3 <|
 o_aload 0 <|
 o_get shw_M 7 0 <|
 o_iload 3 <|
 o_aload 0 <|
 o_get shw_M 7 0 <|
 o_get shw_M 3 10 <|
 o_callVg 4 0 [17, 1] g_X6_read v_X6_read <|
 o_aload 0 <|
 o_get shw_M 7 4 <|
 o_aload 0 <|
 o_get shw_M 7 3 <|
 o_aload 0 <|
 o_get shw_M 7 0 <|
 o_iload 3 <|
 o_iload 4 <|
 o_iconst (-1) <|
 o_ixor <|
 o_iand <|
 o_iload 1 <|
 o_iconst 1 <|
 o_iadd <|
 o_callVg 5 1 [18, 17, 1] g_X4_holds v_X4_holds <|
 o_if_ne (o_iconst 0 <|
 o_istore 5 <|
 o_cut [] k87)
 (o_iconst (-2) <|
 o_ireturn))
 (o_iconst (-1) <|
 o_ireturn)))
def en_X7_fewest_0 (p1 : Int) (p2 : Int) (h0 : Ob) (h1 : Ob) (h2 : Ob) (h3 : Ob) (h4 : Ob) (h5 : Ob) (h6 : Ob) (h7 : Ob) (h8 : Ob) (h9 : Ob) (h10 : Ob) (h11 : Ob) (h12 : Ob) (h13 : Ob) (h14 : Ob) (h15 : Ob) (h16 : Ob) (h19 : Ob) (h20 : Ob) (h21 : Ob) (h22 : Ob) (h23 : Ob) (h24 : Ob) (a : Ob × Ob) : XSt := ([some (.inr (.inl (0, 0))), some (.inl p1), some (.inl p2), none, none, none, none], [], [h0, h1, h2, h3, h4, h5, h6, h7, h8, h9, h10, h11, h12, h13, h14, h15, h16, a.1, a.2, h19, h20, h21, h22, h23, h24])
noncomputable def rg_X7_fewest_87 (k97 : XK) : XK :=
 o_iload 5 <|
 o_iconst 8 <|
 o_icmp_gt (o_iconst (-2) <|
 o_ireturn)
 (o_iconst 0 <|
 o_istore 6 <|
 o_cut [] k97)
def en_X7_fewest_87 (p1 : Int) (p2 : Int) (h0 : Ob) (h1 : Ob) (h2 : Ob) (h3 : Ob) (h4 : Ob) (h5 : Ob) (h6 : Ob) (h7 : Ob) (h8 : Ob) (h9 : Ob) (h10 : Ob) (h11 : Ob) (h12 : Ob) (h13 : Ob) (h14 : Ob) (h15 : Ob) (h16 : Ob) (h19 : Ob) (h20 : Ob) (h21 : Ob) (h22 : Ob) (h23 : Ob) (h24 : Ob) (a : Int × Int × Int × Ob × Ob) : XSt := ([some (.inr (.inl (0, 0))), some (.inl p1), some (.inl p2), some (.inl a.1), some (.inl a.2.1), some (.inl a.2.2.1), none], [], [h0, h1, h2, h3, h4, h5, h6, h7, h8, h9, h10, h11, h12, h13, h14, h15, h16, a.2.2.2.1, a.2.2.2.2, h19, h20, h21, h22, h23, h24])
noncomputable def rg_X7_fewest_97 (k87 : XK) (k164 : XK) : XK :=
 o_iload 6 <|
 o_iconst 256 <|
 o_icmp_ge (o_iinc 5 1 <|
 o_cut [6] k87)
 (o_iload 6 <|
 o_iload 4 <|
 o_iconst (-1) <|
 o_ixor <|
 o_iand <|
 o_if_ne (o_cut [] k164)
 (o_iload 6 <|
 o_callSg 1 1 [] g_X11_bitCount v_X11_bitCount <|
 o_iload 5 <|
 o_icmp_ne (o_cut [] k164)
 (o_aload 0 <|
 o_get shw_M 7 4 <|
 o_aload 0 <|
 o_get shw_M 7 3 <|
 o_aload 0 <|
 o_get shw_M 7 0 <|
 o_iload 3 <|
 o_iload 6 <|
 o_iconst (-1) <|
 o_ixor <|
 o_iand <|
 o_iload 1 <|
 o_iconst 1 <|
 o_iadd <|
 o_callVg 5 1 [18, 17, 1] g_X4_holds v_X4_holds <|
 o_if_eq (o_cut [] k164)
 (o_iload 2 <|
 o_if_ne (o_iload 6 <|
 o_ireturn)
 (o_iload 5 <|
 o_ireturn)))))
def en_X7_fewest_97 (p1 : Int) (p2 : Int) (h0 : Ob) (h1 : Ob) (h2 : Ob) (h3 : Ob) (h4 : Ob) (h5 : Ob) (h6 : Ob) (h7 : Ob) (h8 : Ob) (h9 : Ob) (h10 : Ob) (h11 : Ob) (h12 : Ob) (h13 : Ob) (h14 : Ob) (h15 : Ob) (h16 : Ob) (h19 : Ob) (h20 : Ob) (h21 : Ob) (h22 : Ob) (h23 : Ob) (h24 : Ob) (a : Int × Int × Int × Int × Ob × Ob) : XSt := ([some (.inr (.inl (0, 0))), some (.inl p1), some (.inl p2), some (.inl a.1), some (.inl a.2.1), some (.inl a.2.2.1), some (.inl a.2.2.2.1)], [], [h0, h1, h2, h3, h4, h5, h6, h7, h8, h9, h10, h11, h12, h13, h14, h15, h16, a.2.2.2.2.1, a.2.2.2.2.2, h19, h20, h21, h22, h23, h24])
noncomputable def rg_X7_fewest_164 (k97 : XK) : XK :=
 o_iinc 6 1 <|
 o_cut [] k97
def en_X7_fewest_164 (p1 : Int) (p2 : Int) (h0 : Ob) (h1 : Ob) (h2 : Ob) (h3 : Ob) (h4 : Ob) (h5 : Ob) (h6 : Ob) (h7 : Ob) (h8 : Ob) (h9 : Ob) (h10 : Ob) (h11 : Ob) (h12 : Ob) (h13 : Ob) (h14 : Ob) (h15 : Ob) (h16 : Ob) (h19 : Ob) (h20 : Ob) (h21 : Ob) (h22 : Ob) (h23 : Ob) (h24 : Ob) (a : Int × Int × Int × Int × Ob × Ob) : XSt := ([some (.inr (.inl (0, 0))), some (.inl p1), some (.inl p2), some (.inl a.1), some (.inl a.2.1), some (.inl a.2.2.1), some (.inl a.2.2.2.1)], [], [h0, h1, h2, h3, h4, h5, h6, h7, h8, h9, h10, h11, h12, h13, h14, h15, h16, a.2.2.2.2.1, a.2.2.2.2.2, h19, h20, h21, h22, h23, h24])
noncomputable def mg_X7_fewest_0 (p1 : Int) (p2 : Int) (h0 : Ob) (h1 : Ob) (h2 : Ob) (h3 : Ob) (h4 : Ob) (h5 : Ob) (h6 : Ob) (h7 : Ob) (h8 : Ob) (h9 : Ob) (h10 : Ob) (h11 : Ob) (h12 : Ob) (h13 : Ob) (h14 : Ob) (h15 : Ob) (h16 : Ob) (h19 : Ob) (h20 : Ob) (h21 : Ob) (h22 : Ob) (h23 : Ob) (h24 : Ob) (k87 : (Int × Int × Int × Ob × Ob) → Option Rt) (a : Ob × Ob) : Option Rt :=
 if xw (bz (ask p1)) = 0 then (RI (-1) [h0, h1, h2, h3, h4, h5, h6, h7, h8, h9, h10, h11, h12, h13, h14, h15, h16, a.1, a.2, h19, h20, h21, h22, h23, h24])
 else (if xw p2 < 0 then (RI (-1) [h0, h1, h2, h3, h4, h5, h6, h7, h8, h9, h10, h11, h12, h13, h14, h15, h16, a.1, a.2, h19, h20, h21, h22, h23, h24])
 else (if xw p2 ≤ 1 then (if pd (RdG h1 (h1 0 10)) then (
 if pd (GiG (pkA (pkF a.2 h1 (xand (movS h1) (xxor (goS h1) (-1)))) (p1 + 1)) (rdO a.1 (rnl h1 (movS h1) (h1 0 10)))) then (
 if xw (bz (gi (pkA (pkF a.2 h1 (xand (movS h1) (xxor (goS h1) (-1)))) (p1 + 1)) (rdO a.1 (rnl h1 (movS h1) (h1 0 10))))) = 0 then (RI (-2) [h0, h1, h2, h3, h4, h5, h6, h7, h8, h9, h10, h11, h12, h13, h14, h15, h16, (rdO a.1 (rnl h1 (movS h1) (h1 0 10))), (giO xfu (pkA (pkF a.2 h1 (xand (movS h1) (xxor (goS h1) (-1)))) (p1 + 1)) (rdO a.1 (rnl h1 (movS h1) (h1 0 10)))), h19, h20, h21, h22, h23, h24])
 else (k87 ((movS h1), (goS h1), 0, (rdO a.1 (rnl h1 (movS h1) (h1 0 10))), (giO xfu (pkA (pkF a.2 h1 (xand (movS h1) (xxor (goS h1) (-1)))) (p1 + 1)) (rdO a.1 (rnl h1 (movS h1) (h1 0 10))))))) else none) else none)
 else (RI (-1) [h0, h1, h2, h3, h4, h5, h6, h7, h8, h9, h10, h11, h12, h13, h14, h15, h16, a.1, a.2, h19, h20, h21, h22, h23, h24])))
set_option maxRecDepth 100000 in
set_option maxHeartbeats 4000000 in
theorem rq_X7_fewest_0 (p1 : Int) (p2 : Int) (h0 : Ob) (h1 : Ob) (h2 : Ob) (h3 : Ob) (h4 : Ob) (h5 : Ob) (h6 : Ob) (h7 : Ob) (h8 : Ob) (h9 : Ob) (h10 : Ob) (h11 : Ob) (h12 : Ob) (h13 : Ob) (h14 : Ob) (h15 : Ob) (h16 : Ob) (h19 : Ob) (h20 : Ob) (h21 : Ob) (h22 : Ob) (h23 : Ob) (h24 : Ob) (k87 : XK) (a : Ob × Ob) : rg_X7_fewest_0 k87 (en_X7_fewest_0 p1 p2 h0 h1 h2 h3 h4 h5 h6 h7 h8 h9 h10 h11 h12 h13 h14 h15 h16 h19 h20 h21 h22 h23 h24 a) = mg_X7_fewest_0 p1 p2 h0 h1 h2 h3 h4 h5 h6 h7 h8 h9 h10 h11 h12 h13 h14 h15 h16 h19 h20 h21 h22 h23 h24 (fun b => k87 (en_X7_fewest_87 p1 p2 h0 h1 h2 h3 h4 h5 h6 h7 h8 h9 h10 h11 h12 h13 h14 h15 h16 h19 h20 h21 h22 h23 h24 b)) a := rfl
set_option maxRecDepth 100000 in
set_option maxHeartbeats 4000000 in
theorem sg_X7_fewest_0 {X : XDyn} {r0 : Rt} (C : XO X mX7_fewest) {k87 : XK} (q87 : XS X mX7_fewest r0 87 k87) : XS X mX7_fewest r0 0 (rg_X7_fewest_0 k87) := by
 unfold rg_X7_fewest_0
 exact s_iload_n (pc := 0) C dX7_fewest_0 rfl <|
    s_callS (pc := 1) C ct_X7_isAsked (n := 1) (rk := 1) (mp := []) ⟨rfl, by decide, rfl⟩ (by decide) (by decide) ⟨rfl, yi_X7_isAsked⟩ wd_807 wd_808 wd_73 wd_809 dX7_fewest_1 <|
    s_if_eq (pc := 4) C dX7_fewest_4 (by decide) (s_iconst (pc := 16) C dX7_fewest_16 <|
    s_ireturn (pc := 17) C rfl dX7_fewest_17)
    (s_iload_n (pc := 7) C dX7_fewest_7 rfl <|
    s_if_lt (pc := 8) C dX7_fewest_8 (by decide) (s_iconst (pc := 16) C dX7_fewest_16 <|
    s_ireturn (pc := 17) C rfl dX7_fewest_17)
    (s_iload_n (pc := 11) C dX7_fewest_11 rfl <|
    s_iconst (pc := 12) C dX7_fewest_12 <|
    s_icmp_le (pc := 13) C dX7_fewest_13 (by decide) (s_aload_n (pc := 18) C dX7_fewest_18 rfl <|
    s_get (pc := 19) C (ci := 7) (kf := 0) rfl inX7 (by decide) wd_312 dX7_fewest_19 <|
    s_callV (pc := 22) C ct_X3_movable (n := 1) (rk := 1) (mp := [1]) ⟨rfl, by decide, rfl⟩ (ci := 3) rfl rfl (by decide) (by decide) yi_X3_movable (by decide) wd_763 wd_428 wd_429 wd_74 wd_430 dX7_fewest_22 <|
    s_istore_n (pc := 25) C dX7_fewest_25 rfl <|
    s_aload_n (pc := 26) C dX7_fewest_26 rfl <|
    s_get (pc := 27) C (ci := 7) (kf := 0) rfl inX7 (by decide) wd_312 dX7_fewest_27 <|
    s_callV (pc := 30) C ct_X3_goers (n := 1) (rk := 1) (mp := [1]) ⟨rfl, by decide, rfl⟩ (ci := 3) rfl rfl (by decide) (by decide) yi_X3_goers (by decide) wd_780 wd_522 wd_523 wd_74 wd_524 dX7_fewest_30 <|
    s_istore (pc := 33) C dX7_fewest_33 <|
    s_aload_n (pc := 35) C dX7_fewest_35 rfl <|
    s_get (pc := 36) C (ci := 7) (kf := 3) rfl inX7 (by decide) wd_315 dX7_fewest_36 <|
    s_aload_n (pc := 39) C dX7_fewest_39 rfl <|
    s_get (pc := 40) C (ci := 7) (kf := 0) rfl inX7 (by decide) wd_312 dX7_fewest_40 <|
    s_iload_n (pc := 43) C dX7_fewest_43 rfl <|
    s_aload_n (pc := 44) C dX7_fewest_44 rfl <|
    s_get (pc := 45) C (ci := 7) (kf := 0) rfl inX7 (by decide) wd_312 dX7_fewest_45 <|
    s_get (pc := 48) C (ci := 3) (kf := 10) rfl inX3 (by decide) wd_130 dX7_fewest_48 <|
    s_callVg (pc := 51) C ct_X6_read (n := 4) (rk := 0) (mp := [17, 1]) ⟨rfl, by decide, rfl⟩ (ci := 6) rfl rfl (by decide) (by decide) yi_X6_read (by decide) wd_764 wd_432 wd_433 wd_76 wd_434 dX7_fewest_51 <|
    s_aload_n (pc := 54) C dX7_fewest_54 rfl <|
    s_get (pc := 55) C (ci := 7) (kf := 4) rfl inX7 (by decide) wd_316 dX7_fewest_55 <|
    s_aload_n (pc := 58) C dX7_fewest_58 rfl <|
    s_get (pc := 59) C (ci := 7) (kf := 3) rfl inX7 (by decide) wd_315 dX7_fewest_59 <|
    s_aload_n (pc := 62) C dX7_fewest_62 rfl <|
    s_get (pc := 63) C (ci := 7) (kf := 0) rfl inX7 (by decide) wd_312 dX7_fewest_63 <|
    s_iload_n (pc := 66) C dX7_fewest_66 rfl <|
    s_iload (pc := 67) C dX7_fewest_67 <|
    s_iconst (pc := 69) C dX7_fewest_69 <|
    s_ixor (pc := 70) C dX7_fewest_70 <|
    s_iand (pc := 71) C dX7_fewest_71 <|
    s_iload_n (pc := 72) C dX7_fewest_72 rfl <|
    s_iconst (pc := 73) C dX7_fewest_73 <|
    s_iadd (pc := 74) C dX7_fewest_74 <|
    s_callVg (pc := 75) C ct_X4_holds (n := 5) (rk := 1) (mp := [18, 17, 1]) ⟨rfl, by decide, rfl⟩ (ci := 4) rfl rfl (by decide) (by decide) yi_X4_holds (by decide) wd_819 wd_820 wd_821 wd_77 wd_822 dX7_fewest_75 <|
    s_if_ne (pc := 78) C dX7_fewest_78 (by decide) (s_iconst (pc := 84) C dX7_fewest_84 <|
    s_istore (pc := 85) C dX7_fewest_85 <|
    s_cut q87)
    (s_bipush (pc := 81) C dX7_fewest_81 (by decide) <|
    s_ireturn (pc := 83) C rfl dX7_fewest_83))
    (s_iconst (pc := 16) C dX7_fewest_16 <|
    s_ireturn (pc := 17) C rfl dX7_fewest_17)))
noncomputable def mg_X7_fewest_87 (p1 : Int) (p2 : Int) (h0 : Ob) (h1 : Ob) (h2 : Ob) (h3 : Ob) (h4 : Ob) (h5 : Ob) (h6 : Ob) (h7 : Ob) (h8 : Ob) (h9 : Ob) (h10 : Ob) (h11 : Ob) (h12 : Ob) (h13 : Ob) (h14 : Ob) (h15 : Ob) (h16 : Ob) (h19 : Ob) (h20 : Ob) (h21 : Ob) (h22 : Ob) (h23 : Ob) (h24 : Ob) (k97 : (Int × Int × Int × Int × Ob × Ob) → Option Rt) (a : Int × Int × Int × Ob × Ob) : Option Rt :=
 if xw a.2.2.1 > 8 then (RI (-2) [h0, h1, h2, h3, h4, h5, h6, h7, h8, h9, h10, h11, h12, h13, h14, h15, h16, a.2.2.2.1, a.2.2.2.2, h19, h20, h21, h22, h23, h24])
 else (k97 (a.1, a.2.1, a.2.2.1, 0, a.2.2.2.1, a.2.2.2.2))
set_option maxRecDepth 100000 in
set_option maxHeartbeats 4000000 in
theorem rq_X7_fewest_87 (p1 : Int) (p2 : Int) (h0 : Ob) (h1 : Ob) (h2 : Ob) (h3 : Ob) (h4 : Ob) (h5 : Ob) (h6 : Ob) (h7 : Ob) (h8 : Ob) (h9 : Ob) (h10 : Ob) (h11 : Ob) (h12 : Ob) (h13 : Ob) (h14 : Ob) (h15 : Ob) (h16 : Ob) (h19 : Ob) (h20 : Ob) (h21 : Ob) (h22 : Ob) (h23 : Ob) (h24 : Ob) (k97 : XK) (a : Int × Int × Int × Ob × Ob) : rg_X7_fewest_87 k97 (en_X7_fewest_87 p1 p2 h0 h1 h2 h3 h4 h5 h6 h7 h8 h9 h10 h11 h12 h13 h14 h15 h16 h19 h20 h21 h22 h23 h24 a) = mg_X7_fewest_87 p1 p2 h0 h1 h2 h3 h4 h5 h6 h7 h8 h9 h10 h11 h12 h13 h14 h15 h16 h19 h20 h21 h22 h23 h24 (fun b => k97 (en_X7_fewest_97 p1 p2 h0 h1 h2 h3 h4 h5 h6 h7 h8 h9 h10 h11 h12 h13 h14 h15 h16 h19 h20 h21 h22 h23 h24 b)) a := rfl
set_option maxRecDepth 100000 in
set_option maxHeartbeats 4000000 in
theorem sg_X7_fewest_87 {X : XDyn} {r0 : Rt} (C : XO X mX7_fewest) {k97 : XK} (q97 : XS X mX7_fewest r0 97 k97) : XS X mX7_fewest r0 87 (rg_X7_fewest_87 k97) := by
 unfold rg_X7_fewest_87
 exact s_iload (pc := 87) C dX7_fewest_87 <|
    s_bipush (pc := 89) C dX7_fewest_89 (by decide) <|
    s_icmp_gt (pc := 91) C dX7_fewest_91 (by decide) (s_bipush (pc := 176) C dX7_fewest_176 (by decide) <|
    s_ireturn (pc := 178) C rfl dX7_fewest_178)
    (s_iconst (pc := 94) C dX7_fewest_94 <|
    s_istore (pc := 95) C dX7_fewest_95 <|
    s_cut q97)
noncomputable def mg_X7_fewest_97 (p1 : Int) (p2 : Int) (h0 : Ob) (h1 : Ob) (h2 : Ob) (h3 : Ob) (h4 : Ob) (h5 : Ob) (h6 : Ob) (h7 : Ob) (h8 : Ob) (h9 : Ob) (h10 : Ob) (h11 : Ob) (h12 : Ob) (h13 : Ob) (h14 : Ob) (h15 : Ob) (h16 : Ob) (h19 : Ob) (h20 : Ob) (h21 : Ob) (h22 : Ob) (h23 : Ob) (h24 : Ob) (k87 : (Int × Int × Int × Ob × Ob) → Option Rt) (k164 : (Int × Int × Int × Int × Ob × Ob) → Option Rt) (a : Int × Int × Int × Int × Ob × Ob) : Option Rt :=
 if xw a.2.2.2.1 ≥ 256 then (k87 (a.1, a.2.1, (a.2.2.1 + 1), a.2.2.2.2.1, a.2.2.2.2.2))
 else (if xw (xand a.2.2.2.1 (xxor a.2.1 (-1))) = 0 then (if decide (0 ≤ a.2.2.2.1 ∧ a.2.2.2.1 < 256) then (
 if xw (bcn a.2.2.2.1) = xw a.2.2.1 then (if pd (GiG (pkA (pkF a.2.2.2.2.2 h1 (xand a.1 (xxor a.2.2.2.1 (-1)))) (p1 + 1)) a.2.2.2.2.1) then (
 if xw (bz (gi (pkA (pkF a.2.2.2.2.2 h1 (xand a.1 (xxor a.2.2.2.1 (-1)))) (p1 + 1)) a.2.2.2.2.1)) = 0 then (k164 (a.1, a.2.1, a.2.2.1, a.2.2.2.1, a.2.2.2.2.1, (giO xfu (pkA (pkF a.2.2.2.2.2 h1 (xand a.1 (xxor a.2.2.2.1 (-1)))) (p1 + 1)) a.2.2.2.2.1)))
 else (if xw p2 = 0 then (RI a.2.2.1 [h0, h1, h2, h3, h4, h5, h6, h7, h8, h9, h10, h11, h12, h13, h14, h15, h16, a.2.2.2.2.1, (giO xfu (pkA (pkF a.2.2.2.2.2 h1 (xand a.1 (xxor a.2.2.2.1 (-1)))) (p1 + 1)) a.2.2.2.2.1), h19, h20, h21, h22, h23, h24])
 else (RI a.2.2.2.1 [h0, h1, h2, h3, h4, h5, h6, h7, h8, h9, h10, h11, h12, h13, h14, h15, h16, a.2.2.2.2.1, (giO xfu (pkA (pkF a.2.2.2.2.2 h1 (xand a.1 (xxor a.2.2.2.1 (-1)))) (p1 + 1)) a.2.2.2.2.1), h19, h20, h21, h22, h23, h24]))) else none)
 else (k164 (a.1, a.2.1, a.2.2.1, a.2.2.2.1, a.2.2.2.2.1, a.2.2.2.2.2))) else none)
 else (k164 (a.1, a.2.1, a.2.2.1, a.2.2.2.1, a.2.2.2.2.1, a.2.2.2.2.2)))
set_option maxRecDepth 100000 in
set_option maxHeartbeats 4000000 in
theorem rq_X7_fewest_97 (p1 : Int) (p2 : Int) (h0 : Ob) (h1 : Ob) (h2 : Ob) (h3 : Ob) (h4 : Ob) (h5 : Ob) (h6 : Ob) (h7 : Ob) (h8 : Ob) (h9 : Ob) (h10 : Ob) (h11 : Ob) (h12 : Ob) (h13 : Ob) (h14 : Ob) (h15 : Ob) (h16 : Ob) (h19 : Ob) (h20 : Ob) (h21 : Ob) (h22 : Ob) (h23 : Ob) (h24 : Ob) (k87 : XK) (k164 : XK) (a : Int × Int × Int × Int × Ob × Ob) : rg_X7_fewest_97 k87 k164 (en_X7_fewest_97 p1 p2 h0 h1 h2 h3 h4 h5 h6 h7 h8 h9 h10 h11 h12 h13 h14 h15 h16 h19 h20 h21 h22 h23 h24 a) = mg_X7_fewest_97 p1 p2 h0 h1 h2 h3 h4 h5 h6 h7 h8 h9 h10 h11 h12 h13 h14 h15 h16 h19 h20 h21 h22 h23 h24 (fun b => k87 (en_X7_fewest_87 p1 p2 h0 h1 h2 h3 h4 h5 h6 h7 h8 h9 h10 h11 h12 h13 h14 h15 h16 h19 h20 h21 h22 h23 h24 b)) (fun b => k164 (en_X7_fewest_164 p1 p2 h0 h1 h2 h3 h4 h5 h6 h7 h8 h9 h10 h11 h12 h13 h14 h15 h16 h19 h20 h21 h22 h23 h24 b)) a := rfl
set_option maxRecDepth 100000 in
set_option maxHeartbeats 4000000 in
theorem sg_X7_fewest_97 {X : XDyn} {r0 : Rt} (C : XO X mX7_fewest) {k87 : XK} (q87 : XS X mX7_fewest r0 87 k87) {k164 : XK} (q164 : XS X mX7_fewest r0 164 k164) : XS X mX7_fewest r0 97 (rg_X7_fewest_97 k87 k164) := by
 unfold rg_X7_fewest_97
 exact s_iload (pc := 97) C dX7_fewest_97 <|
    s_sipush (pc := 99) C dX7_fewest_99 (by decide) <|
    s_icmp_ge (pc := 102) C dX7_fewest_102 (by decide) (s_iinc (pc := 170) C dX7_fewest_170 <|
    s_goto (pc := 173) C dX7_fewest_173 (by decide) <|
    s_cut q87)
    (s_iload (pc := 105) C dX7_fewest_105 <|
    s_iload (pc := 107) C dX7_fewest_107 <|
    s_iconst (pc := 109) C dX7_fewest_109 <|
    s_ixor (pc := 110) C dX7_fewest_110 <|
    s_iand (pc := 111) C dX7_fewest_111 <|
    s_if_ne (pc := 112) C dX7_fewest_112 (by decide) (s_cut q164)
    (s_iload (pc := 115) C dX7_fewest_115 <|
    s_callJg (pc := 117) C ct_X11_bitCount (n := 1) (rk := 1) (mp := []) ⟨rfl, by decide, rfl⟩ (by decide) (by decide) yi_X11_bitCount wd_829 wd_830 wd_84 wd_831 dX7_fewest_117 <|
    s_iload (pc := 120) C dX7_fewest_120 <|
    s_icmp_ne (pc := 122) C dX7_fewest_122 (by decide) (s_cut q164)
    (s_aload_n (pc := 125) C dX7_fewest_125 rfl <|
    s_get (pc := 126) C (ci := 7) (kf := 4) rfl inX7 (by decide) wd_316 dX7_fewest_126 <|
    s_aload_n (pc := 129) C dX7_fewest_129 rfl <|
    s_get (pc := 130) C (ci := 7) (kf := 3) rfl inX7 (by decide) wd_315 dX7_fewest_130 <|
    s_aload_n (pc := 133) C dX7_fewest_133 rfl <|
    s_get (pc := 134) C (ci := 7) (kf := 0) rfl inX7 (by decide) wd_312 dX7_fewest_134 <|
    s_iload_n (pc := 137) C dX7_fewest_137 rfl <|
    s_iload (pc := 138) C dX7_fewest_138 <|
    s_iconst (pc := 140) C dX7_fewest_140 <|
    s_ixor (pc := 141) C dX7_fewest_141 <|
    s_iand (pc := 142) C dX7_fewest_142 <|
    s_iload_n (pc := 143) C dX7_fewest_143 rfl <|
    s_iconst (pc := 144) C dX7_fewest_144 <|
    s_iadd (pc := 145) C dX7_fewest_145 <|
    s_callVg (pc := 146) C ct_X4_holds (n := 5) (rk := 1) (mp := [18, 17, 1]) ⟨rfl, by decide, rfl⟩ (ci := 4) rfl rfl (by decide) (by decide) yi_X4_holds (by decide) wd_819 wd_820 wd_821 wd_77 wd_822 dX7_fewest_146 <|
    s_if_eq (pc := 149) C dX7_fewest_149 (by decide) (s_cut q164)
    (s_iload_n (pc := 152) C dX7_fewest_152 rfl <|
    s_if_ne (pc := 153) C dX7_fewest_153 (by decide) (s_iload (pc := 161) C dX7_fewest_161 <|
    s_ireturn (pc := 163) C rfl dX7_fewest_163)
    (s_iload (pc := 156) C dX7_fewest_156 <|
    s_goto (pc := 158) C dX7_fewest_158 (by decide) <|
    s_ireturn (pc := 163) C rfl dX7_fewest_163)))))
noncomputable def mg_X7_fewest_164 (p1 : Int) (p2 : Int) (h0 : Ob) (h1 : Ob) (h2 : Ob) (h3 : Ob) (h4 : Ob) (h5 : Ob) (h6 : Ob) (h7 : Ob) (h8 : Ob) (h9 : Ob) (h10 : Ob) (h11 : Ob) (h12 : Ob) (h13 : Ob) (h14 : Ob) (h15 : Ob) (h16 : Ob) (h19 : Ob) (h20 : Ob) (h21 : Ob) (h22 : Ob) (h23 : Ob) (h24 : Ob) (k97 : (Int × Int × Int × Int × Ob × Ob) → Option Rt) (a : Int × Int × Int × Int × Ob × Ob) : Option Rt :=
 k97 (a.1, a.2.1, a.2.2.1, (a.2.2.2.1 + 1), a.2.2.2.2.1, a.2.2.2.2.2)
set_option maxRecDepth 100000 in
set_option maxHeartbeats 4000000 in
theorem rq_X7_fewest_164 (p1 : Int) (p2 : Int) (h0 : Ob) (h1 : Ob) (h2 : Ob) (h3 : Ob) (h4 : Ob) (h5 : Ob) (h6 : Ob) (h7 : Ob) (h8 : Ob) (h9 : Ob) (h10 : Ob) (h11 : Ob) (h12 : Ob) (h13 : Ob) (h14 : Ob) (h15 : Ob) (h16 : Ob) (h19 : Ob) (h20 : Ob) (h21 : Ob) (h22 : Ob) (h23 : Ob) (h24 : Ob) (k97 : XK) (a : Int × Int × Int × Int × Ob × Ob) : rg_X7_fewest_164 k97 (en_X7_fewest_164 p1 p2 h0 h1 h2 h3 h4 h5 h6 h7 h8 h9 h10 h11 h12 h13 h14 h15 h16 h19 h20 h21 h22 h23 h24 a) = mg_X7_fewest_164 p1 p2 h0 h1 h2 h3 h4 h5 h6 h7 h8 h9 h10 h11 h12 h13 h14 h15 h16 h19 h20 h21 h22 h23 h24 (fun b => k97 (en_X7_fewest_97 p1 p2 h0 h1 h2 h3 h4 h5 h6 h7 h8 h9 h10 h11 h12 h13 h14 h15 h16 h19 h20 h21 h22 h23 h24 b)) a := rfl
set_option maxRecDepth 100000 in
set_option maxHeartbeats 4000000 in
theorem sg_X7_fewest_164 {X : XDyn} {r0 : Rt} (C : XO X mX7_fewest) {k97 : XK} (q97 : XS X mX7_fewest r0 97 k97) : XS X mX7_fewest r0 164 (rg_X7_fewest_164 k97) := by
 unfold rg_X7_fewest_164
 exact s_iinc (pc := 164) C dX7_fewest_164 <|
    s_goto (pc := 167) C dX7_fewest_167 (by decide) <|
    s_cut q97
noncomputable def rw_X7_fewest_164 (f : Nat) (k87 : XK) (k97 : XK) : XK := rg_X7_fewest_164 k97
noncomputable def md_X7_fewest_164 (p1 : Int) (p2 : Int) (h0 : Ob) (h1 : Ob) (h2 : Ob) (h3 : Ob) (h4 : Ob) (h5 : Ob) (h6 : Ob) (h7 : Ob) (h8 : Ob) (h9 : Ob) (h10 : Ob) (h11 : Ob) (h12 : Ob) (h13 : Ob) (h14 : Ob) (h15 : Ob) (h16 : Ob) (h19 : Ob) (h20 : Ob) (h21 : Ob) (h22 : Ob) (h23 : Ob) (h24 : Ob) (f : Nat) (k87 : (Int × Int × Int × Ob × Ob) → Option Rt) (k97 : (Int × Int × Int × Int × Ob × Ob) → Option Rt) : Int × Int × Int × Int × Ob × Ob → Option Rt := mg_X7_fewest_164 p1 p2 h0 h1 h2 h3 h4 h5 h6 h7 h8 h9 h10 h11 h12 h13 h14 h15 h16 h19 h20 h21 h22 h23 h24 k97
theorem eq_X7_fewest_164 (p1 : Int) (p2 : Int) (h0 : Ob) (h1 : Ob) (h2 : Ob) (h3 : Ob) (h4 : Ob) (h5 : Ob) (h6 : Ob) (h7 : Ob) (h8 : Ob) (h9 : Ob) (h10 : Ob) (h11 : Ob) (h12 : Ob) (h13 : Ob) (h14 : Ob) (h15 : Ob) (h16 : Ob) (h19 : Ob) (h20 : Ob) (h21 : Ob) (h22 : Ob) (h23 : Ob) (h24 : Ob) (f : Nat) (k87 : XK) (k97 : XK) (a : Int × Int × Int × Int × Ob × Ob) : rw_X7_fewest_164 f k87 k97 (en_X7_fewest_164 p1 p2 h0 h1 h2 h3 h4 h5 h6 h7 h8 h9 h10 h11 h12 h13 h14 h15 h16 h19 h20 h21 h22 h23 h24 a) = md_X7_fewest_164 p1 p2 h0 h1 h2 h3 h4 h5 h6 h7 h8 h9 h10 h11 h12 h13 h14 h15 h16 h19 h20 h21 h22 h23 h24 f (fun b => k87 (en_X7_fewest_87 p1 p2 h0 h1 h2 h3 h4 h5 h6 h7 h8 h9 h10 h11 h12 h13 h14 h15 h16 h19 h20 h21 h22 h23 h24 b)) (fun b => k97 (en_X7_fewest_97 p1 p2 h0 h1 h2 h3 h4 h5 h6 h7 h8 h9 h10 h11 h12 h13 h14 h15 h16 h19 h20 h21 h22 h23 h24 b)) a :=
 (rq_X7_fewest_164 p1 p2 h0 h1 h2 h3 h4 h5 h6 h7 h8 h9 h10 h11 h12 h13 h14 h15 h16 h19 h20 h21 h22 h23 h24 k97 a).trans (congrFun (congr (rfl : mg_X7_fewest_164 p1 p2 h0 h1 h2 h3 h4 h5 h6 h7 h8 h9 h10 h11 h12 h13 h14 h15 h16 h19 h20 h21 h22 h23 h24 = mg_X7_fewest_164 p1 p2 h0 h1 h2 h3 h4 h5 h6 h7 h8 h9 h10 h11 h12 h13 h14 h15 h16 h19 h20 h21 h22 h23 h24) rfl) a)
theorem sd_X7_fewest_164 (f : Nat) {X : XDyn} {r0 : Rt} (C : XO X mX7_fewest) {k87 : XK} (q87 : XS X mX7_fewest r0 87 k87) {k97 : XK} (q97 : XS X mX7_fewest r0 97 k97) : XS X mX7_fewest r0 164 (rw_X7_fewest_164 f k87 k97) := sg_X7_fewest_164 C q97
noncomputable def rw_X7_fewest_97 (f : Nat) (k87 : XK) : XK := tlp (fun k97 => rg_X7_fewest_97 k87 (rw_X7_fewest_164 f k87 k97)) f
noncomputable def lb_X7_fewest_97 (p1 : Int) (p2 : Int) (h0 : Ob) (h1 : Ob) (h2 : Ob) (h3 : Ob) (h4 : Ob) (h5 : Ob) (h6 : Ob) (h7 : Ob) (h8 : Ob) (h9 : Ob) (h10 : Ob) (h11 : Ob) (h12 : Ob) (h13 : Ob) (h14 : Ob) (h15 : Ob) (h16 : Ob) (h19 : Ob) (h20 : Ob) (h21 : Ob) (h22 : Ob) (h23 : Ob) (h24 : Ob) (f : Nat) (k87 : (Int × Int × Int × Ob × Ob) → Option Rt) : ((Int × Int × Int × Int × Ob × Ob) → Option Rt) → Int × Int × Int × Int × Ob × Ob → Option Rt := fun k97 => mg_X7_fewest_97 p1 p2 h0 h1 h2 h3 h4 h5 h6 h7 h8 h9 h10 h11 h12 h13 h14 h15 h16 h19 h20 h21 h22 h23 h24 k87 (md_X7_fewest_164 p1 p2 h0 h1 h2 h3 h4 h5 h6 h7 h8 h9 h10 h11 h12 h13 h14 h15 h16 h19 h20 h21 h22 h23 h24 f k87 k97)
noncomputable def md_X7_fewest_97 (p1 : Int) (p2 : Int) (h0 : Ob) (h1 : Ob) (h2 : Ob) (h3 : Ob) (h4 : Ob) (h5 : Ob) (h6 : Ob) (h7 : Ob) (h8 : Ob) (h9 : Ob) (h10 : Ob) (h11 : Ob) (h12 : Ob) (h13 : Ob) (h14 : Ob) (h15 : Ob) (h16 : Ob) (h19 : Ob) (h20 : Ob) (h21 : Ob) (h22 : Ob) (h23 : Ob) (h24 : Ob) (f : Nat) (k87 : (Int × Int × Int × Ob × Ob) → Option Rt) : Int × Int × Int × Int × Ob × Ob → Option Rt := tlp (lb_X7_fewest_97 p1 p2 h0 h1 h2 h3 h4 h5 h6 h7 h8 h9 h10 h11 h12 h13 h14 h15 h16 h19 h20 h21 h22 h23 h24 f k87) f
theorem eq_X7_fewest_97 (p1 : Int) (p2 : Int) (h0 : Ob) (h1 : Ob) (h2 : Ob) (h3 : Ob) (h4 : Ob) (h5 : Ob) (h6 : Ob) (h7 : Ob) (h8 : Ob) (h9 : Ob) (h10 : Ob) (h11 : Ob) (h12 : Ob) (h13 : Ob) (h14 : Ob) (h15 : Ob) (h16 : Ob) (h19 : Ob) (h20 : Ob) (h21 : Ob) (h22 : Ob) (h23 : Ob) (h24 : Ob) (f : Nat) (k87 : XK) (a : Int × Int × Int × Int × Ob × Ob) : rw_X7_fewest_97 f k87 (en_X7_fewest_97 p1 p2 h0 h1 h2 h3 h4 h5 h6 h7 h8 h9 h10 h11 h12 h13 h14 h15 h16 h19 h20 h21 h22 h23 h24 a) = md_X7_fewest_97 p1 p2 h0 h1 h2 h3 h4 h5 h6 h7 h8 h9 h10 h11 h12 h13 h14 h15 h16 h19 h20 h21 h22 h23 h24 f (fun b => k87 (en_X7_fewest_87 p1 p2 h0 h1 h2 h3 h4 h5 h6 h7 h8 h9 h10 h11 h12 h13 h14 h15 h16 h19 h20 h21 h22 h23 h24 b)) a :=
 tlp_enc (en_X7_fewest_97 p1 p2 h0 h1 h2 h3 h4 h5 h6 h7 h8 h9 h10 h11 h12 h13 h14 h15 h16 h19 h20 h21 h22 h23 h24) (fun k97 a => (rq_X7_fewest_97 p1 p2 h0 h1 h2 h3 h4 h5 h6 h7 h8 h9 h10 h11 h12 h13 h14 h15 h16 h19 h20 h21 h22 h23 h24 k87 (rw_X7_fewest_164 f k87 k97) a).trans (congrFun (congr (congr (rfl : mg_X7_fewest_97 p1 p2 h0 h1 h2 h3 h4 h5 h6 h7 h8 h9 h10 h11 h12 h13 h14 h15 h16 h19 h20 h21 h22 h23 h24 = mg_X7_fewest_97 p1 p2 h0 h1 h2 h3 h4 h5 h6 h7 h8 h9 h10 h11 h12 h13 h14 h15 h16 h19 h20 h21 h22 h23 h24) rfl) (funext (eq_X7_fewest_164 p1 p2 h0 h1 h2 h3 h4 h5 h6 h7 h8 h9 h10 h11 h12 h13 h14 h15 h16 h19 h20 h21 h22 h23 h24 f k87 k97))) a)) f a
theorem sd_X7_fewest_97 (f : Nat) {X : XDyn} {r0 : Rt} (C : XO X mX7_fewest) {k87 : XK} (q87 : XS X mX7_fewest r0 87 k87) : XS X mX7_fewest r0 97 (rw_X7_fewest_97 f k87) := s_lp (fun k97 q97 => sg_X7_fewest_97 C q87 (sd_X7_fewest_164 f C q87 q97)) f
noncomputable def rw_X7_fewest_87 (f : Nat) : XK := tlp (fun k87 => rg_X7_fewest_87 (rw_X7_fewest_97 f k87)) f
noncomputable def lb_X7_fewest_87 (p1 : Int) (p2 : Int) (h0 : Ob) (h1 : Ob) (h2 : Ob) (h3 : Ob) (h4 : Ob) (h5 : Ob) (h6 : Ob) (h7 : Ob) (h8 : Ob) (h9 : Ob) (h10 : Ob) (h11 : Ob) (h12 : Ob) (h13 : Ob) (h14 : Ob) (h15 : Ob) (h16 : Ob) (h19 : Ob) (h20 : Ob) (h21 : Ob) (h22 : Ob) (h23 : Ob) (h24 : Ob) (f : Nat) : ((Int × Int × Int × Ob × Ob) → Option Rt) → Int × Int × Int × Ob × Ob → Option Rt := fun k87 => mg_X7_fewest_87 p1 p2 h0 h1 h2 h3 h4 h5 h6 h7 h8 h9 h10 h11 h12 h13 h14 h15 h16 h19 h20 h21 h22 h23 h24 (md_X7_fewest_97 p1 p2 h0 h1 h2 h3 h4 h5 h6 h7 h8 h9 h10 h11 h12 h13 h14 h15 h16 h19 h20 h21 h22 h23 h24 f k87)
noncomputable def md_X7_fewest_87 (p1 : Int) (p2 : Int) (h0 : Ob) (h1 : Ob) (h2 : Ob) (h3 : Ob) (h4 : Ob) (h5 : Ob) (h6 : Ob) (h7 : Ob) (h8 : Ob) (h9 : Ob) (h10 : Ob) (h11 : Ob) (h12 : Ob) (h13 : Ob) (h14 : Ob) (h15 : Ob) (h16 : Ob) (h19 : Ob) (h20 : Ob) (h21 : Ob) (h22 : Ob) (h23 : Ob) (h24 : Ob) (f : Nat) : Int × Int × Int × Ob × Ob → Option Rt := tlp (lb_X7_fewest_87 p1 p2 h0 h1 h2 h3 h4 h5 h6 h7 h8 h9 h10 h11 h12 h13 h14 h15 h16 h19 h20 h21 h22 h23 h24 f) f
theorem eq_X7_fewest_87 (p1 : Int) (p2 : Int) (h0 : Ob) (h1 : Ob) (h2 : Ob) (h3 : Ob) (h4 : Ob) (h5 : Ob) (h6 : Ob) (h7 : Ob) (h8 : Ob) (h9 : Ob) (h10 : Ob) (h11 : Ob) (h12 : Ob) (h13 : Ob) (h14 : Ob) (h15 : Ob) (h16 : Ob) (h19 : Ob) (h20 : Ob) (h21 : Ob) (h22 : Ob) (h23 : Ob) (h24 : Ob) (f : Nat) (a : Int × Int × Int × Ob × Ob) : rw_X7_fewest_87 f (en_X7_fewest_87 p1 p2 h0 h1 h2 h3 h4 h5 h6 h7 h8 h9 h10 h11 h12 h13 h14 h15 h16 h19 h20 h21 h22 h23 h24 a) = md_X7_fewest_87 p1 p2 h0 h1 h2 h3 h4 h5 h6 h7 h8 h9 h10 h11 h12 h13 h14 h15 h16 h19 h20 h21 h22 h23 h24 f a :=
 tlp_enc (en_X7_fewest_87 p1 p2 h0 h1 h2 h3 h4 h5 h6 h7 h8 h9 h10 h11 h12 h13 h14 h15 h16 h19 h20 h21 h22 h23 h24) (fun k87 a => (rq_X7_fewest_87 p1 p2 h0 h1 h2 h3 h4 h5 h6 h7 h8 h9 h10 h11 h12 h13 h14 h15 h16 h19 h20 h21 h22 h23 h24 (rw_X7_fewest_97 f k87) a).trans (congrFun (congr (rfl : mg_X7_fewest_87 p1 p2 h0 h1 h2 h3 h4 h5 h6 h7 h8 h9 h10 h11 h12 h13 h14 h15 h16 h19 h20 h21 h22 h23 h24 = mg_X7_fewest_87 p1 p2 h0 h1 h2 h3 h4 h5 h6 h7 h8 h9 h10 h11 h12 h13 h14 h15 h16 h19 h20 h21 h22 h23 h24) (funext (eq_X7_fewest_97 p1 p2 h0 h1 h2 h3 h4 h5 h6 h7 h8 h9 h10 h11 h12 h13 h14 h15 h16 h19 h20 h21 h22 h23 h24 f k87))) a)) f a
theorem sd_X7_fewest_87 (f : Nat) {X : XDyn} {r0 : Rt} (C : XO X mX7_fewest) : XS X mX7_fewest r0 87 (rw_X7_fewest_87 f) := s_lp (fun k87 q87 => sg_X7_fewest_87 C (sd_X7_fewest_97 f C q87)) f
noncomputable def rw_X7_fewest_0 (f : Nat) : XK := rg_X7_fewest_0 (rw_X7_fewest_87 f)
noncomputable def md_X7_fewest_0 (p1 : Int) (p2 : Int) (h0 : Ob) (h1 : Ob) (h2 : Ob) (h3 : Ob) (h4 : Ob) (h5 : Ob) (h6 : Ob) (h7 : Ob) (h8 : Ob) (h9 : Ob) (h10 : Ob) (h11 : Ob) (h12 : Ob) (h13 : Ob) (h14 : Ob) (h15 : Ob) (h16 : Ob) (h19 : Ob) (h20 : Ob) (h21 : Ob) (h22 : Ob) (h23 : Ob) (h24 : Ob) (f : Nat) : Ob × Ob → Option Rt := mg_X7_fewest_0 p1 p2 h0 h1 h2 h3 h4 h5 h6 h7 h8 h9 h10 h11 h12 h13 h14 h15 h16 h19 h20 h21 h22 h23 h24 (md_X7_fewest_87 p1 p2 h0 h1 h2 h3 h4 h5 h6 h7 h8 h9 h10 h11 h12 h13 h14 h15 h16 h19 h20 h21 h22 h23 h24 f)
theorem eq_X7_fewest_0 (p1 : Int) (p2 : Int) (h0 : Ob) (h1 : Ob) (h2 : Ob) (h3 : Ob) (h4 : Ob) (h5 : Ob) (h6 : Ob) (h7 : Ob) (h8 : Ob) (h9 : Ob) (h10 : Ob) (h11 : Ob) (h12 : Ob) (h13 : Ob) (h14 : Ob) (h15 : Ob) (h16 : Ob) (h19 : Ob) (h20 : Ob) (h21 : Ob) (h22 : Ob) (h23 : Ob) (h24 : Ob) (f : Nat) (a : Ob × Ob) : rw_X7_fewest_0 f (en_X7_fewest_0 p1 p2 h0 h1 h2 h3 h4 h5 h6 h7 h8 h9 h10 h11 h12 h13 h14 h15 h16 h19 h20 h21 h22 h23 h24 a) = md_X7_fewest_0 p1 p2 h0 h1 h2 h3 h4 h5 h6 h7 h8 h9 h10 h11 h12 h13 h14 h15 h16 h19 h20 h21 h22 h23 h24 f a :=
 (rq_X7_fewest_0 p1 p2 h0 h1 h2 h3 h4 h5 h6 h7 h8 h9 h10 h11 h12 h13 h14 h15 h16 h19 h20 h21 h22 h23 h24 (rw_X7_fewest_87 f) a).trans (congrFun (congr (rfl : mg_X7_fewest_0 p1 p2 h0 h1 h2 h3 h4 h5 h6 h7 h8 h9 h10 h11 h12 h13 h14 h15 h16 h19 h20 h21 h22 h23 h24 = mg_X7_fewest_0 p1 p2 h0 h1 h2 h3 h4 h5 h6 h7 h8 h9 h10 h11 h12 h13 h14 h15 h16 h19 h20 h21 h22 h23 h24) (funext (eq_X7_fewest_87 p1 p2 h0 h1 h2 h3 h4 h5 h6 h7 h8 h9 h10 h11 h12 h13 h14 h15 h16 h19 h20 h21 h22 h23 h24 f))) a)
theorem sd_X7_fewest_0 (f : Nat) {X : XDyn} {r0 : Rt} (C : XO X mX7_fewest) : XS X mX7_fewest r0 0 (rw_X7_fewest_0 f) := sg_X7_fewest_0 C (sd_X7_fewest_87 f C)
theorem ctr_X7_fewest (f : Nat) : XCt yX7_fewest mX7_fewest (xF mX7_fewest (rw_X7_fewest_0 f)) := xMet (by decide +kernel) rfl (fun _ _ C => sd_X7_fewest_0 f C)
theorem eqf_X7_fewest (f : Nat) (p1 : Int) (p2 : Int) (h0 : Ob) (h1 : Ob) (h2 : Ob) (h3 : Ob) (h4 : Ob) (h5 : Ob) (h6 : Ob) (h7 : Ob) (h8 : Ob) (h9 : Ob) (h10 : Ob) (h11 : Ob) (h12 : Ob) (h13 : Ob) (h14 : Ob) (h15 : Ob) (h16 : Ob) (h17 : Ob) (h18 : Ob) (h19 : Ob) (h20 : Ob) (h21 : Ob) (h22 : Ob) (h23 : Ob) (h24 : Ob) : xF mX7_fewest (rw_X7_fewest_0 f) [.inr (.inl (0, 0)), .inl p1, .inl p2] [h0, h1, h2, h3, h4, h5, h6, h7, h8, h9, h10, h11, h12, h13, h14, h15, h16, h17, h18, h19, h20, h21, h22, h23, h24] = md_X7_fewest_0 p1 p2 h0 h1 h2 h3 h4 h5 h6 h7 h8 h9 h10 h11 h12 h13 h14 h15 h16 h19 h20 h21 h22 h23 h24 f (h17, h18) := eq_X7_fewest_0 p1 p2 h0 h1 h2 h3 h4 h5 h6 h7 h8 h9 h10 h11 h12 h13 h14 h15 h16 h19 h20 h21 h22 h23 h24 f (h17, h18)
theorem yi_X7_fewest : yX7_fewest.cls = RX7 ∧ yX7_fewest.cls ≠ "java/lang/invoke/MethodHandle" ∧ yX7_fewest.cls ≠ "java/lang/invoke/VarHandle" ∧ (parseMethodDescriptor yX7_fewest.desc).map (fun d => d.parameters.length) = some 2 := ⟨rfl, by decide +kernel, by decide +kernel, by decide +kernel⟩
theorem dX7_three_0 : decode cX7_three 0 = .ok (.iload_n 1, 1) := by decide +kernel
theorem dX7_three_1 : decode cX7_three 1 = .ok (.invokestatic 293, 3) := by decide +kernel
theorem dX7_three_4 : decode cX7_three 4 = .ok (.ifCond .eq 17, 3) := by decide +kernel
theorem dX7_three_7 : decode cX7_three 7 = .ok (.iload_n 2, 1) := by decide +kernel
theorem dX7_three_8 : decode cX7_three 8 = .ok (.invokestatic 293, 3) := by decide +kernel
theorem dX7_three_11 : decode cX7_three 11 = .ok (.ifCond .eq 10, 3) := by decide +kernel
theorem dX7_three_14 : decode cX7_three 14 = .ok (.iload_n 3, 1) := by decide +kernel
theorem dX7_three_15 : decode cX7_three 15 = .ok (.invokestatic 293, 3) := by decide +kernel
theorem dX7_three_18 : decode cX7_three 18 = .ok (.ifCond .ne 5, 3) := by decide +kernel
theorem dX7_three_21 : decode cX7_three 21 = .ok (.iconst 0, 1) := by decide +kernel
theorem dX7_three_22 : decode cX7_three 22 = .ok (.ireturn, 1) := by decide +kernel
theorem dX7_three_23 : decode cX7_three 23 = .ok (.aload_n 0, 1) := by decide +kernel
theorem dX7_three_24 : decode cX7_three 24 = .ok (.getfield 29, 3) := by decide +kernel
theorem dX7_three_27 : decode cX7_three 27 = .ok (.aload_n 0, 1) := by decide +kernel
theorem dX7_three_28 : decode cX7_three 28 = .ok (.getfield 12, 3) := by decide +kernel
theorem dX7_three_31 : decode cX7_three 31 = .ok (.aload_n 0, 1) := by decide +kernel
theorem dX7_three_32 : decode cX7_three 32 = .ok (.getfield 12, 3) := by decide +kernel
theorem dX7_three_35 : decode cX7_three 35 = .ok (.invokevirtual 213, 3) := by decide +kernel
theorem dX7_three_38 : decode cX7_three 38 = .ok (.aload_n 0, 1) := by decide +kernel
theorem dX7_three_39 : decode cX7_three 39 = .ok (.getfield 12, 3) := by decide +kernel
theorem dX7_three_42 : decode cX7_three 42 = .ok (.getfield 256, 3) := by decide +kernel
theorem dX7_three_45 : decode cX7_three 45 = .ok (.invokevirtual 216, 3) := by decide +kernel
theorem dX7_three_48 : decode cX7_three 48 = .ok (.aload_n 0, 1) := by decide +kernel
theorem dX7_three_49 : decode cX7_three 49 = .ok (.getfield 36, 3) := by decide +kernel
theorem dX7_three_52 : decode cX7_three 52 = .ok (.aload_n 0, 1) := by decide +kernel
theorem dX7_three_53 : decode cX7_three 53 = .ok (.getfield 12, 3) := by decide +kernel
theorem dX7_three_56 : decode cX7_three 56 = .ok (.aload_n 0, 1) := by decide +kernel
theorem dX7_three_57 : decode cX7_three 57 = .ok (.getfield 12, 3) := by decide +kernel
theorem dX7_three_60 : decode cX7_three 60 = .ok (.invokevirtual 213, 3) := by decide +kernel
theorem dX7_three_63 : decode cX7_three 63 = .ok (.invokevirtual 296, 3) := by decide +kernel
theorem dX7_three_66 : decode cX7_three 66 = .ok (.aload_n 0, 1) := by decide +kernel
theorem dX7_three_67 : decode cX7_three 67 = .ok (.iload_n 1, 1) := by decide +kernel
theorem dX7_three_68 : decode cX7_three 68 = .ok (.invokevirtual 300, 3) := by decide +kernel
theorem dX7_three_71 : decode cX7_three 71 = .ok (.aload_n 0, 1) := by decide +kernel
theorem dX7_three_72 : decode cX7_three 72 = .ok (.iload_n 2, 1) := by decide +kernel
theorem dX7_three_73 : decode cX7_three 73 = .ok (.invokevirtual 300, 3) := by decide +kernel
theorem dX7_three_76 : decode cX7_three 76 = .ok (.aload_n 0, 1) := by decide +kernel
theorem dX7_three_77 : decode cX7_three 77 = .ok (.iload_n 3, 1) := by decide +kernel
theorem dX7_three_78 : decode cX7_three 78 = .ok (.invokevirtual 300, 3) := by decide +kernel
theorem dX7_three_81 : decode cX7_three 81 = .ok (.aload_n 0, 1) := by decide +kernel
theorem dX7_three_82 : decode cX7_three 82 = .ok (.getfield 36, 3) := by decide +kernel
theorem dX7_three_85 : decode cX7_three 85 = .ok (.aload_n 0, 1) := by decide +kernel
theorem dX7_three_86 : decode cX7_three 86 = .ok (.getfield 29, 3) := by decide +kernel
theorem dX7_three_89 : decode cX7_three 89 = .ok (.invokevirtual 303, 3) := by decide +kernel
theorem dX7_three_92 : decode cX7_three 92 = .ok (.ireturn, 1) := by decide +kernel
abbrev mX7_three : XM := (cX7_three, 4, RX7, (some .boolean), shw_M, 3)
noncomputable def rg_X7_three_0 : XK :=
 o_iload 1 <|
 o_callS 1 1 [] f_X7_isAskedOrNone <|
 o_if_eq (o_iconst 0 <|
 o_zreturn)
 (o_iload 2 <|
 o_callS 1 1 [] f_X7_isAskedOrNone <|
 o_if_eq (o_iconst 0 <|
 o_zreturn)
 (o_iload 3 <|
 o_callS 1 1 [] f_X7_isAskedOrNone <|
 o_if_ne (o_aload 0 <|
 o_get shw_M 7 3 <|
 o_aload 0 <|
 o_get shw_M 7 0 <|
 o_aload 0 <|
 o_get shw_M 7 0 <|
 o_callV 1 1 [1] f_X3_movable <|
 o_aload 0 <|
 o_get shw_M 7 0 <|
 o_get shw_M 3 10 <|
 o_callVg 4 0 [17, 1] g_X6_read v_X6_read <|
 o_aload 0 <|
 o_get shw_M 7 4 <|
 o_aload 0 <|
 o_get shw_M 7 0 <|
 o_aload 0 <|
 o_get shw_M 7 0 <|
 o_callV 1 1 [1] f_X3_movable <|
 o_callV 3 0 [18, 1] f_X4_fillWith <|
 o_aload 0 <|
 o_iload 1 <|
 o_callVg 2 0 [0, 1, 2, 3, 4, 5, 6, 7, 8, 9, 10, 11, 12, 13, 14, 15, 16, 17, 18, 19, 20, 21, 22, 23, 24] g_X7_addBlockOf v_X7_addBlockOf <|
 o_aload 0 <|
 o_iload 2 <|
 o_callVg 2 0 [0, 1, 2, 3, 4, 5, 6, 7, 8, 9, 10, 11, 12, 13, 14, 15, 16, 17, 18, 19, 20, 21, 22, 23, 24] g_X7_addBlockOf v_X7_addBlockOf <|
 o_aload 0 <|
 o_iload 3 <|
 o_callVg 2 0 [0, 1, 2, 3, 4, 5, 6, 7, 8, 9, 10, 11, 12, 13, 14, 15, 16, 17, 18, 19, 20, 21, 22, 23, 24] g_X7_addBlockOf v_X7_addBlockOf <|
 o_aload 0 <|
 o_get shw_M 7 4 <|
 o_aload 0 <|
 o_get shw_M 7 3 <|
 o_callVg 2 1 [18, 17] g_X4_goesInto v_X4_goesInto <|
 o_zreturn)
 (o_iconst 0 <|
 o_zreturn)))
def en_X7_three_0 (p1 : Int) (p2 : Int) (p3 : Int) (h0 : Ob) (h1 : Ob) (h2 : Ob) (h3 : Ob) (h4 : Ob) (h5 : Ob) (h6 : Ob) (h7 : Ob) (h8 : Ob) (h9 : Ob) (h10 : Ob) (h11 : Ob) (h12 : Ob) (h13 : Ob) (h14 : Ob) (h15 : Ob) (h16 : Ob) (h19 : Ob) (h20 : Ob) (h21 : Ob) (h22 : Ob) (h23 : Ob) (h24 : Ob) (a : Ob × Ob) : XSt := ([some (.inr (.inl (0, 0))), some (.inl p1), some (.inl p2), some (.inl p3)], [], [h0, h1, h2, h3, h4, h5, h6, h7, h8, h9, h10, h11, h12, h13, h14, h15, h16, a.1, a.2, h19, h20, h21, h22, h23, h24])
noncomputable def mg_X7_three_0 (p1 : Int) (p2 : Int) (p3 : Int) (h0 : Ob) (h1 : Ob) (h2 : Ob) (h3 : Ob) (h4 : Ob) (h5 : Ob) (h6 : Ob) (h7 : Ob) (h8 : Ob) (h9 : Ob) (h10 : Ob) (h11 : Ob) (h12 : Ob) (h13 : Ob) (h14 : Ob) (h15 : Ob) (h16 : Ob) (h19 : Ob) (h20 : Ob) (h21 : Ob) (h22 : Ob) (h23 : Ob) (h24 : Ob) (a : Ob × Ob) : Option Rt :=
 if xw (bz (ask0 p1)) = 0 then (RI 0 [h0, h1, h2, h3, h4, h5, h6, h7, h8, h9, h10, h11, h12, h13, h14, h15, h16, a.1, a.2, h19, h20, h21, h22, h23, h24])
 else (if xw (bz (ask0 p2)) = 0 then (RI 0 [h0, h1, h2, h3, h4, h5, h6, h7, h8, h9, h10, h11, h12, h13, h14, h15, h16, a.1, a.2, h19, h20, h21, h22, h23, h24])
 else (if xw (bz (ask0 p3)) = 0 then (RI 0 [h0, h1, h2, h3, h4, h5, h6, h7, h8, h9, h10, h11, h12, h13, h14, h15, h16, a.1, a.2, h19, h20, h21, h22, h23, h24])
 else (if pd (RdG h1 (h1 0 10)) then (
 if decide (0 ≤ xw ((pkF a.2 h1 (movS h1)) 0 2)) then (
 if decide (0 ≤ xw ((abO (pkF a.2 h1 (movS h1)) p1) 0 2)) then (
 if decide (0 ≤ xw ((abO (abO (pkF a.2 h1 (movS h1)) p1) p2) 0 2)) then (
 if pd (GiG (abO (abO (abO (pkF a.2 h1 (movS h1)) p1) p2) p3) (rdO a.1 (rnl h1 (movS h1) (h1 0 10)))) then (
 if xb (bz (gi (abO (abO (abO (pkF a.2 h1 (movS h1)) p1) p2) p3) (rdO a.1 (rnl h1 (movS h1) (h1 0 10))))) then RI (bz (gi (abO (abO (abO (pkF a.2 h1 (movS h1)) p1) p2) p3) (rdO a.1 (rnl h1 (movS h1) (h1 0 10))))) [h0, h1, h2, h3, h4, h5, h6, h7, h8, h9, h10, h11, h12, h13, h14, h15, h16, (rdO a.1 (rnl h1 (movS h1) (h1 0 10))), (giO xfu (abO (abO (abO (pkF a.2 h1 (movS h1)) p1) p2) p3) (rdO a.1 (rnl h1 (movS h1) (h1 0 10)))), h19, h20, h21, h22, h23, h24] else none) else none) else none) else none) else none) else none)))
set_option maxRecDepth 100000 in
set_option maxHeartbeats 4000000 in
theorem rq_X7_three_0 (p1 : Int) (p2 : Int) (p3 : Int) (h0 : Ob) (h1 : Ob) (h2 : Ob) (h3 : Ob) (h4 : Ob) (h5 : Ob) (h6 : Ob) (h7 : Ob) (h8 : Ob) (h9 : Ob) (h10 : Ob) (h11 : Ob) (h12 : Ob) (h13 : Ob) (h14 : Ob) (h15 : Ob) (h16 : Ob) (h19 : Ob) (h20 : Ob) (h21 : Ob) (h22 : Ob) (h23 : Ob) (h24 : Ob) (a : Ob × Ob) : rg_X7_three_0 (en_X7_three_0 p1 p2 p3 h0 h1 h2 h3 h4 h5 h6 h7 h8 h9 h10 h11 h12 h13 h14 h15 h16 h19 h20 h21 h22 h23 h24 a) = mg_X7_three_0 p1 p2 p3 h0 h1 h2 h3 h4 h5 h6 h7 h8 h9 h10 h11 h12 h13 h14 h15 h16 h19 h20 h21 h22 h23 h24 a := rfl
set_option maxRecDepth 100000 in
set_option maxHeartbeats 4000000 in
theorem sg_X7_three_0 {X : XDyn} {r0 : Rt} (C : XO X mX7_three) : XS X mX7_three r0 0 (rg_X7_three_0) := by
 unfold rg_X7_three_0
 exact s_iload_n (pc := 0) C dX7_three_0 rfl <|
    s_callS (pc := 1) C ct_X7_isAskedOrNone (n := 1) (rk := 1) (mp := []) ⟨rfl, by decide, rfl⟩ (by decide) (by decide) ⟨rfl, yi_X7_isAskedOrNone⟩ wd_839 wd_840 wd_73 wd_841 dX7_three_1 <|
    s_if_eq (pc := 4) C dX7_three_4 (by decide) (s_iconst (pc := 21) C dX7_three_21 <|
    s_zreturn (pc := 22) C rfl dX7_three_22)
    (s_iload_n (pc := 7) C dX7_three_7 rfl <|
    s_callS (pc := 8) C ct_X7_isAskedOrNone (n := 1) (rk := 1) (mp := []) ⟨rfl, by decide, rfl⟩ (by decide) (by decide) ⟨rfl, yi_X7_isAskedOrNone⟩ wd_839 wd_840 wd_73 wd_841 dX7_three_8 <|
    s_if_eq (pc := 11) C dX7_three_11 (by decide) (s_iconst (pc := 21) C dX7_three_21 <|
    s_zreturn (pc := 22) C rfl dX7_three_22)
    (s_iload_n (pc := 14) C dX7_three_14 rfl <|
    s_callS (pc := 15) C ct_X7_isAskedOrNone (n := 1) (rk := 1) (mp := []) ⟨rfl, by decide, rfl⟩ (by decide) (by decide) ⟨rfl, yi_X7_isAskedOrNone⟩ wd_839 wd_840 wd_73 wd_841 dX7_three_15 <|
    s_if_ne (pc := 18) C dX7_three_18 (by decide) (s_aload_n (pc := 23) C dX7_three_23 rfl <|
    s_get (pc := 24) C (ci := 7) (kf := 3) rfl inX7 (by decide) wd_315 dX7_three_24 <|
    s_aload_n (pc := 27) C dX7_three_27 rfl <|
    s_get (pc := 28) C (ci := 7) (kf := 0) rfl inX7 (by decide) wd_312 dX7_three_28 <|
    s_aload_n (pc := 31) C dX7_three_31 rfl <|
    s_get (pc := 32) C (ci := 7) (kf := 0) rfl inX7 (by decide) wd_312 dX7_three_32 <|
    s_callV (pc := 35) C ct_X3_movable (n := 1) (rk := 1) (mp := [1]) ⟨rfl, by decide, rfl⟩ (ci := 3) rfl rfl (by decide) (by decide) yi_X3_movable (by decide) wd_763 wd_428 wd_429 wd_74 wd_430 dX7_three_35 <|
    s_aload_n (pc := 38) C dX7_three_38 rfl <|
    s_get (pc := 39) C (ci := 7) (kf := 0) rfl inX7 (by decide) wd_312 dX7_three_39 <|
    s_get (pc := 42) C (ci := 3) (kf := 10) rfl inX3 (by decide) wd_130 dX7_three_42 <|
    s_callVg (pc := 45) C ct_X6_read (n := 4) (rk := 0) (mp := [17, 1]) ⟨rfl, by decide, rfl⟩ (ci := 6) rfl rfl (by decide) (by decide) yi_X6_read (by decide) wd_764 wd_432 wd_433 wd_76 wd_434 dX7_three_45 <|
    s_aload_n (pc := 48) C dX7_three_48 rfl <|
    s_get (pc := 49) C (ci := 7) (kf := 4) rfl inX7 (by decide) wd_316 dX7_three_49 <|
    s_aload_n (pc := 52) C dX7_three_52 rfl <|
    s_get (pc := 53) C (ci := 7) (kf := 0) rfl inX7 (by decide) wd_312 dX7_three_53 <|
    s_aload_n (pc := 56) C dX7_three_56 rfl <|
    s_get (pc := 57) C (ci := 7) (kf := 0) rfl inX7 (by decide) wd_312 dX7_three_57 <|
    s_callV (pc := 60) C ct_X3_movable (n := 1) (rk := 1) (mp := [1]) ⟨rfl, by decide, rfl⟩ (ci := 3) rfl rfl (by decide) (by decide) yi_X3_movable (by decide) wd_763 wd_428 wd_429 wd_74 wd_430 dX7_three_60 <|
    s_callV (pc := 63) C ct_X4_fillWith (n := 3) (rk := 0) (mp := [18, 1]) ⟨rfl, by decide, rfl⟩ (ci := 4) rfl rfl (by decide) (by decide) yi_X4_fillWith (by decide) wd_842 wd_448 wd_449 wd_77 wd_450 dX7_three_63 <|
    s_aload_n (pc := 66) C dX7_three_66 rfl <|
    s_iload_n (pc := 67) C dX7_three_67 rfl <|
    s_callVg (pc := 68) C ct_X7_addBlockOf (n := 2) (rk := 0) (mp := [0, 1, 2, 3, 4, 5, 6, 7, 8, 9, 10, 11, 12, 13, 14, 15, 16, 17, 18, 19, 20, 21, 22, 23, 24]) ⟨rfl, by decide, rfl⟩ (ci := 7) rfl rfl (by decide) (by decide) yi_X7_addBlockOf (by decide) wd_843 wd_845 wd_16 wd_73 wd_846 dX7_three_68 <|
    s_aload_n (pc := 71) C dX7_three_71 rfl <|
    s_iload_n (pc := 72) C dX7_three_72 rfl <|
    s_callVg (pc := 73) C ct_X7_addBlockOf (n := 2) (rk := 0) (mp := [0, 1, 2, 3, 4, 5, 6, 7, 8, 9, 10, 11, 12, 13, 14, 15, 16, 17, 18, 19, 20, 21, 22, 23, 24]) ⟨rfl, by decide, rfl⟩ (ci := 7) rfl rfl (by decide) (by decide) yi_X7_addBlockOf (by decide) wd_843 wd_845 wd_16 wd_73 wd_846 dX7_three_73 <|
    s_aload_n (pc := 76) C dX7_three_76 rfl <|
    s_iload_n (pc := 77) C dX7_three_77 rfl <|
    s_callVg (pc := 78) C ct_X7_addBlockOf (n := 2) (rk := 0) (mp := [0, 1, 2, 3, 4, 5, 6, 7, 8, 9, 10, 11, 12, 13, 14, 15, 16, 17, 18, 19, 20, 21, 22, 23, 24]) ⟨rfl, by decide, rfl⟩ (ci := 7) rfl rfl (by decide) (by decide) yi_X7_addBlockOf (by decide) wd_843 wd_845 wd_16 wd_73 wd_846 dX7_three_78 <|
    s_aload_n (pc := 81) C dX7_three_81 rfl <|
    s_get (pc := 82) C (ci := 7) (kf := 4) rfl inX7 (by decide) wd_316 dX7_three_82 <|
    s_aload_n (pc := 85) C dX7_three_85 rfl <|
    s_get (pc := 86) C (ci := 7) (kf := 3) rfl inX7 (by decide) wd_315 dX7_three_86 <|
    s_callVg (pc := 89) C ct_X4_goesInto (n := 2) (rk := 1) (mp := [18, 17]) ⟨rfl, by decide, rfl⟩ (ci := 4) rfl rfl (by decide) (by decide) yi_X4_goesInto (by decide) wd_848 wd_458 wd_459 wd_77 wd_460 dX7_three_89 <|
    s_zreturn (pc := 92) C rfl dX7_three_92)
    (s_iconst (pc := 21) C dX7_three_21 <|
    s_zreturn (pc := 22) C rfl dX7_three_22)))
noncomputable def rw_X7_three_0 : XK := rg_X7_three_0
noncomputable def md_X7_three_0 (p1 : Int) (p2 : Int) (p3 : Int) (h0 : Ob) (h1 : Ob) (h2 : Ob) (h3 : Ob) (h4 : Ob) (h5 : Ob) (h6 : Ob) (h7 : Ob) (h8 : Ob) (h9 : Ob) (h10 : Ob) (h11 : Ob) (h12 : Ob) (h13 : Ob) (h14 : Ob) (h15 : Ob) (h16 : Ob) (h19 : Ob) (h20 : Ob) (h21 : Ob) (h22 : Ob) (h23 : Ob) (h24 : Ob) : Ob × Ob → Option Rt := mg_X7_three_0 p1 p2 p3 h0 h1 h2 h3 h4 h5 h6 h7 h8 h9 h10 h11 h12 h13 h14 h15 h16 h19 h20 h21 h22 h23 h24
theorem eq_X7_three_0 (p1 : Int) (p2 : Int) (p3 : Int) (h0 : Ob) (h1 : Ob) (h2 : Ob) (h3 : Ob) (h4 : Ob) (h5 : Ob) (h6 : Ob) (h7 : Ob) (h8 : Ob) (h9 : Ob) (h10 : Ob) (h11 : Ob) (h12 : Ob) (h13 : Ob) (h14 : Ob) (h15 : Ob) (h16 : Ob) (h19 : Ob) (h20 : Ob) (h21 : Ob) (h22 : Ob) (h23 : Ob) (h24 : Ob) (a : Ob × Ob) : rw_X7_three_0 (en_X7_three_0 p1 p2 p3 h0 h1 h2 h3 h4 h5 h6 h7 h8 h9 h10 h11 h12 h13 h14 h15 h16 h19 h20 h21 h22 h23 h24 a) = md_X7_three_0 p1 p2 p3 h0 h1 h2 h3 h4 h5 h6 h7 h8 h9 h10 h11 h12 h13 h14 h15 h16 h19 h20 h21 h22 h23 h24 a :=
 rq_X7_three_0 p1 p2 p3 h0 h1 h2 h3 h4 h5 h6 h7 h8 h9 h10 h11 h12 h13 h14 h15 h16 h19 h20 h21 h22 h23 h24 a
theorem sd_X7_three_0 {X : XDyn} {r0 : Rt} (C : XO X mX7_three) : XS X mX7_three r0 0 (rw_X7_three_0) := sg_X7_three_0 C
theorem ctr_X7_three : XCt yX7_three mX7_three (xF mX7_three (rw_X7_three_0)) := xMet (by decide +kernel) rfl (fun _ _ C => sd_X7_three_0 C)
theorem eqf_X7_three (p1 : Int) (p2 : Int) (p3 : Int) (h0 : Ob) (h1 : Ob) (h2 : Ob) (h3 : Ob) (h4 : Ob) (h5 : Ob) (h6 : Ob) (h7 : Ob) (h8 : Ob) (h9 : Ob) (h10 : Ob) (h11 : Ob) (h12 : Ob) (h13 : Ob) (h14 : Ob) (h15 : Ob) (h16 : Ob) (h17 : Ob) (h18 : Ob) (h19 : Ob) (h20 : Ob) (h21 : Ob) (h22 : Ob) (h23 : Ob) (h24 : Ob) : xF mX7_three (rw_X7_three_0) [.inr (.inl (0, 0)), .inl p1, .inl p2, .inl p3] [h0, h1, h2, h3, h4, h5, h6, h7, h8, h9, h10, h11, h12, h13, h14, h15, h16, h17, h18, h19, h20, h21, h22, h23, h24] = md_X7_three_0 p1 p2 p3 h0 h1 h2 h3 h4 h5 h6 h7 h8 h9 h10 h11 h12 h13 h14 h15 h16 h19 h20 h21 h22 h23 h24 (h17, h18) := eq_X7_three_0 p1 p2 p3 h0 h1 h2 h3 h4 h5 h6 h7 h8 h9 h10 h11 h12 h13 h14 h15 h16 h19 h20 h21 h22 h23 h24 (h17, h18)
theorem yi_X7_three : yX7_three.cls = RX7 ∧ yX7_three.cls ≠ "java/lang/invoke/MethodHandle" ∧ yX7_three.cls ≠ "java/lang/invoke/VarHandle" ∧ (parseMethodDescriptor yX7_three.desc).map (fun d => d.parameters.length) = some 3 := ⟨rfl, by decide +kernel, by decide +kernel, by decide +kernel⟩
theorem dX7_cheapest_0 : decode cX7_cheapest 0 = .ok (.iload_n 1, 1) := by decide +kernel
theorem dX7_cheapest_1 : decode cX7_cheapest 1 = .ok (.invokestatic 266, 3) := by decide +kernel
theorem dX7_cheapest_4 : decode cX7_cheapest 4 = .ok (.ifCond .eq 12, 3) := by decide +kernel
theorem dX7_cheapest_7 : decode cX7_cheapest 7 = .ok (.iload_n 2, 1) := by decide +kernel
theorem dX7_cheapest_8 : decode cX7_cheapest 8 = .ok (.ifCond .lt 8, 3) := by decide +kernel
theorem dX7_cheapest_11 : decode cX7_cheapest 11 = .ok (.iload_n 2, 1) := by decide +kernel
theorem dX7_cheapest_12 : decode cX7_cheapest 12 = .ok (.iconst 1, 1) := by decide +kernel
theorem dX7_cheapest_13 : decode cX7_cheapest 13 = .ok (.if_icmp .le 5, 3) := by decide +kernel
theorem dX7_cheapest_16 : decode cX7_cheapest 16 = .ok (.iconst (-1), 1) := by decide +kernel
theorem dX7_cheapest_17 : decode cX7_cheapest 17 = .ok (.ireturn, 1) := by decide +kernel
theorem dX7_cheapest_18 : decode cX7_cheapest 18 = .ok (.aload_n 0, 1) := by decide +kernel
theorem dX7_cheapest_19 : decode cX7_cheapest 19 = .ok (.getfield 12, 3) := by decide +kernel
theorem dX7_cheapest_22 : decode cX7_cheapest 22 = .ok (.invokevirtual 213, 3) := by decide +kernel
theorem dX7_cheapest_25 : decode cX7_cheapest 25 = .ok (.istore_n 3, 1) := by decide +kernel
theorem dX7_cheapest_26 : decode cX7_cheapest 26 = .ok (.aload_n 0, 1) := by decide +kernel
theorem dX7_cheapest_27 : decode cX7_cheapest 27 = .ok (.iload_n 3, 1) := by decide +kernel
theorem dX7_cheapest_28 : decode cX7_cheapest 28 = .ok (.iload_n 1, 1) := by decide +kernel
theorem dX7_cheapest_29 : decode cX7_cheapest 29 = .ok (.iconst 1, 1) := by decide +kernel
theorem dX7_cheapest_30 : decode cX7_cheapest 30 = .ok (.iadd, 1) := by decide +kernel
theorem dX7_cheapest_31 : decode cX7_cheapest 31 = .ok (.invokevirtual 307, 3) := by decide +kernel
theorem dX7_cheapest_34 : decode cX7_cheapest 34 = .ok (.ifCond .ne 6, 3) := by decide +kernel
theorem dX7_cheapest_37 : decode cX7_cheapest 37 = .ok (.bipush (-2), 2) := by decide +kernel
theorem dX7_cheapest_39 : decode cX7_cheapest 39 = .ok (.ireturn, 1) := by decide +kernel
theorem dX7_cheapest_40 : decode cX7_cheapest 40 = .ok (.iload_n 3, 1) := by decide +kernel
theorem dX7_cheapest_41 : decode cX7_cheapest 41 = .ok (.istore 4, 2) := by decide +kernel
theorem dX7_cheapest_43 : decode cX7_cheapest 43 = .ok (.iconst 0, 1) := by decide +kernel
theorem dX7_cheapest_44 : decode cX7_cheapest 44 = .ok (.istore 5, 2) := by decide +kernel
theorem dX7_cheapest_46 : decode cX7_cheapest 46 = .ok (.iload 5, 2) := by decide +kernel
theorem dX7_cheapest_48 : decode cX7_cheapest 48 = .ok (.iload_n 3, 1) := by decide +kernel
theorem dX7_cheapest_49 : decode cX7_cheapest 49 = .ok (.if_icmp .ge 55, 3) := by decide +kernel
theorem dX7_cheapest_52 : decode cX7_cheapest 52 = .ok (.iload 5, 2) := by decide +kernel
theorem dX7_cheapest_54 : decode cX7_cheapest 54 = .ok (.iload_n 3, 1) := by decide +kernel
theorem dX7_cheapest_55 : decode cX7_cheapest 55 = .ok (.iconst (-1), 1) := by decide +kernel
theorem dX7_cheapest_56 : decode cX7_cheapest 56 = .ok (.ixor, 1) := by decide +kernel
theorem dX7_cheapest_57 : decode cX7_cheapest 57 = .ok (.iand, 1) := by decide +kernel
theorem dX7_cheapest_58 : decode cX7_cheapest 58 = .ok (.ifCond .ne 40, 3) := by decide +kernel
theorem dX7_cheapest_61 : decode cX7_cheapest 61 = .ok (.aload_n 0, 1) := by decide +kernel
theorem dX7_cheapest_62 : decode cX7_cheapest 62 = .ok (.getfield 12, 3) := by decide +kernel
theorem dX7_cheapest_65 : decode cX7_cheapest 65 = .ok (.iload 5, 2) := by decide +kernel
theorem dX7_cheapest_67 : decode cX7_cheapest 67 = .ok (.invokevirtual 310, 3) := by decide +kernel
theorem dX7_cheapest_70 : decode cX7_cheapest 70 = .ok (.aload_n 0, 1) := by decide +kernel
theorem dX7_cheapest_71 : decode cX7_cheapest 71 = .ok (.getfield 12, 3) := by decide +kernel
theorem dX7_cheapest_74 : decode cX7_cheapest 74 = .ok (.iload 4, 2) := by decide +kernel
theorem dX7_cheapest_76 : decode cX7_cheapest 76 = .ok (.invokevirtual 310, 3) := by decide +kernel
theorem dX7_cheapest_79 : decode cX7_cheapest 79 = .ok (.if_icmp .ge 19, 3) := by decide +kernel
theorem dX7_cheapest_82 : decode cX7_cheapest 82 = .ok (.aload_n 0, 1) := by decide +kernel
theorem dX7_cheapest_83 : decode cX7_cheapest 83 = .ok (.iload 5, 2) := by decide +kernel
theorem dX7_cheapest_85 : decode cX7_cheapest 85 = .ok (.iload_n 1, 1) := by decide +kernel
theorem dX7_cheapest_86 : decode cX7_cheapest 86 = .ok (.iconst 1, 1) := by decide +kernel
theorem dX7_cheapest_87 : decode cX7_cheapest 87 = .ok (.iadd, 1) := by decide +kernel
theorem dX7_cheapest_88 : decode cX7_cheapest 88 = .ok (.invokevirtual 307, 3) := by decide +kernel
theorem dX7_cheapest_91 : decode cX7_cheapest 91 = .ok (.ifCond .eq 7, 3) := by decide +kernel
theorem dX7_cheapest_94 : decode cX7_cheapest 94 = .ok (.iload 5, 2) := by decide +kernel
theorem dX7_cheapest_96 : decode cX7_cheapest 96 = .ok (.istore 4, 2) := by decide +kernel
theorem dX7_cheapest_98 : decode cX7_cheapest 98 = .ok (.iinc 5 1, 3) := by decide +kernel
theorem dX7_cheapest_101 : decode cX7_cheapest 101 = .ok (.goto (-55), 3) := by decide +kernel
theorem dX7_cheapest_104 : decode cX7_cheapest 104 = .ok (.iload_n 2, 1) := by decide +kernel
theorem dX7_cheapest_105 : decode cX7_cheapest 105 = .ok (.ifCond .ne 15, 3) := by decide +kernel
theorem dX7_cheapest_108 : decode cX7_cheapest 108 = .ok (.aload_n 0, 1) := by decide +kernel
theorem dX7_cheapest_109 : decode cX7_cheapest 109 = .ok (.getfield 12, 3) := by decide +kernel
theorem dX7_cheapest_112 : decode cX7_cheapest 112 = .ok (.iload 4, 2) := by decide +kernel
theorem dX7_cheapest_114 : decode cX7_cheapest 114 = .ok (.invokevirtual 310, 3) := by decide +kernel
theorem dX7_cheapest_117 : decode cX7_cheapest 117 = .ok (.goto 5, 3) := by decide +kernel
theorem dX7_cheapest_120 : decode cX7_cheapest 120 = .ok (.iload 4, 2) := by decide +kernel
theorem dX7_cheapest_122 : decode cX7_cheapest 122 = .ok (.ireturn, 1) := by decide +kernel
abbrev mX7_cheapest : XM := (cX7_cheapest, 6, RX7, (some .int), shw_M, 5)
noncomputable def rg_X7_cheapest_0 (k46 : XK) : XK :=
 o_iload 1 <|
 o_callS 1 1 [] f_X7_isAsked <|
 o_if_eq (o_iconst (-1) <|
 o_ireturn)
 (o_iload 2 <|
 o_if_lt (o_iconst (-1) <|
 o_ireturn)
 (o_iload 2 <|
 o_iconst 1 <|
 o_icmp_le (o_aload 0 <|
 o_get shw_M 7 0 <|
 o_callV 1 1 [1] f_X3_movable <|
 o_istore 3 <|
 o_aload 0 <|
 o_iload 3 <|
 o_iload 1 <|
 o_iconst 1 <|
 o_iadd <|
 o_callVg 3 1 [0, 1, 2, 3, 4, 5, 6, 7, 8, 9, 10, 11, 12, 13, 14, 15, 16, 17, 18, 19, 20, 21, 22, 23, 24] g_X7_findPlaces v_X7_findPlaces <|
 o_if_ne (o_iload 3 <|
 o_istore 4 <|
 o_iconst 0 <|
 o_istore 5 <|
 o_cut [] k46)
 (o_iconst (-2) <|
 o_ireturn))
 (o_iconst (-1) <|
 o_ireturn)))
def en_X7_cheapest_0 (p1 : Int) (p2 : Int) (h0 : Ob) (h1 : Ob) (h2 : Ob) (h3 : Ob) (h4 : Ob) (h5 : Ob) (h6 : Ob) (h7 : Ob) (h8 : Ob) (h9 : Ob) (h10 : Ob) (h11 : Ob) (h12 : Ob) (h13 : Ob) (h14 : Ob) (h15 : Ob) (h16 : Ob) (h19 : Ob) (h20 : Ob) (h21 : Ob) (h22 : Ob) (h23 : Ob) (h24 : Ob) (a : Ob × Ob) : XSt := ([some (.inr (.inl (0, 0))), some (.inl p1), some (.inl p2), none, none, none], [], [h0, h1, h2, h3, h4, h5, h6, h7, h8, h9, h10, h11, h12, h13, h14, h15, h16, a.1, a.2, h19, h20, h21, h22, h23, h24])
noncomputable def rg_X7_cheapest_46 (k98 : XK) : XK :=
 o_iload 5 <|
 o_iload 3 <|
 o_icmp_ge (o_iload 2 <|
 o_if_ne (o_iload 4 <|
 o_ireturn)
 (o_aload 0 <|
 o_get shw_M 7 0 <|
 o_iload 4 <|
 o_callV 2 1 [1] f_X3_cellsOf <|
 o_ireturn))
 (o_iload 5 <|
 o_iload 3 <|
 o_iconst (-1) <|
 o_ixor <|
 o_iand <|
 o_if_ne (o_cut [] k98)
 (o_aload 0 <|
 o_get shw_M 7 0 <|
 o_iload 5 <|
 o_callV 2 1 [1] f_X3_cellsOf <|
 o_aload 0 <|
 o_get shw_M 7 0 <|
 o_iload 4 <|
 o_callV 2 1 [1] f_X3_cellsOf <|
 o_icmp_ge (o_cut [] k98)
 (o_aload 0 <|
 o_iload 5 <|
 o_iload 1 <|
 o_iconst 1 <|
 o_iadd <|
 o_callVg 3 1 [0, 1, 2, 3, 4, 5, 6, 7, 8, 9, 10, 11, 12, 13, 14, 15, 16, 17, 18, 19, 20, 21, 22, 23, 24] g_X7_findPlaces v_X7_findPlaces <|
 o_if_eq (o_cut [] k98)
 (o_iload 5 <|
 o_istore 4 <|
 o_cut [] k98))))
def en_X7_cheapest_46 (p1 : Int) (p2 : Int) (h0 : Ob) (h1 : Ob) (h2 : Ob) (h3 : Ob) (h4 : Ob) (h5 : Ob) (h6 : Ob) (h7 : Ob) (h8 : Ob) (h9 : Ob) (h10 : Ob) (h11 : Ob) (h12 : Ob) (h13 : Ob) (h14 : Ob) (h15 : Ob) (h16 : Ob) (h19 : Ob) (h20 : Ob) (h21 : Ob) (h22 : Ob) (h23 : Ob) (h24 : Ob) (a : Int × Int × Int × Ob × Ob) : XSt := ([some (.inr (.inl (0, 0))), some (.inl p1), some (.inl p2), some (.inl a.1), some (.inl a.2.1), some (.inl a.2.2.1)], [], [h0, h1, h2, h3, h4, h5, h6, h7, h8, h9, h10, h11, h12, h13, h14, h15, h16, a.2.2.2.1, a.2.2.2.2, h19, h20, h21, h22, h23, h24])
noncomputable def rg_X7_cheapest_98 (k46 : XK) : XK :=
 o_iinc 5 1 <|
 o_cut [] k46
def en_X7_cheapest_98 (p1 : Int) (p2 : Int) (h0 : Ob) (h1 : Ob) (h2 : Ob) (h3 : Ob) (h4 : Ob) (h5 : Ob) (h6 : Ob) (h7 : Ob) (h8 : Ob) (h9 : Ob) (h10 : Ob) (h11 : Ob) (h12 : Ob) (h13 : Ob) (h14 : Ob) (h15 : Ob) (h16 : Ob) (h19 : Ob) (h20 : Ob) (h21 : Ob) (h22 : Ob) (h23 : Ob) (h24 : Ob) (a : Int × Int × Int × Ob × Ob) : XSt := ([some (.inr (.inl (0, 0))), some (.inl p1), some (.inl p2), some (.inl a.1), some (.inl a.2.1), some (.inl a.2.2.1)], [], [h0, h1, h2, h3, h4, h5, h6, h7, h8, h9, h10, h11, h12, h13, h14, h15, h16, a.2.2.2.1, a.2.2.2.2, h19, h20, h21, h22, h23, h24])
noncomputable def mg_X7_cheapest_0 (p1 : Int) (p2 : Int) (h0 : Ob) (h1 : Ob) (h2 : Ob) (h3 : Ob) (h4 : Ob) (h5 : Ob) (h6 : Ob) (h7 : Ob) (h8 : Ob) (h9 : Ob) (h10 : Ob) (h11 : Ob) (h12 : Ob) (h13 : Ob) (h14 : Ob) (h15 : Ob) (h16 : Ob) (h19 : Ob) (h20 : Ob) (h21 : Ob) (h22 : Ob) (h23 : Ob) (h24 : Ob) (k46 : (Int × Int × Int × Ob × Ob) → Option Rt) (a : Ob × Ob) : Option Rt :=
 if xw (bz (ask p1)) = 0 then (RI (-1) [h0, h1, h2, h3, h4, h5, h6, h7, h8, h9, h10, h11, h12, h13, h14, h15, h16, a.1, a.2, h19, h20, h21, h22, h23, h24])
 else (if xw p2 < 0 then (RI (-1) [h0, h1, h2, h3, h4, h5, h6, h7, h8, h9, h10, h11, h12, h13, h14, h15, h16, a.1, a.2, h19, h20, h21, h22, h23, h24])
 else (if xw p2 ≤ 1 then (if pd (RdG h1 (h1 0 10)) && pd (GiG (pkA (pkF a.2 h1 (movS h1)) (p1 + 1)) (rdO a.1 (rnl h1 (movS h1) (h1 0 10)))) then (
 if xw (bz (gi (pkA (pkF a.2 h1 (movS h1)) (p1 + 1)) (rdO a.1 (rnl h1 (movS h1) (h1 0 10))))) = 0 then (RI (-2) [h0, h1, h2, h3, h4, h5, h6, h7, h8, h9, h10, h11, h12, h13, h14, h15, h16, (rdO a.1 (rnl h1 (movS h1) (h1 0 10))), (giO xfu (pkA (pkF a.2 h1 (movS h1)) (p1 + 1)) (rdO a.1 (rnl h1 (movS h1) (h1 0 10)))), h19, h20, h21, h22, h23, h24])
 else (k46 ((movS h1), (movS h1), 0, (rdO a.1 (rnl h1 (movS h1) (h1 0 10))), (giO xfu (pkA (pkF a.2 h1 (movS h1)) (p1 + 1)) (rdO a.1 (rnl h1 (movS h1) (h1 0 10))))))) else none)
 else (RI (-1) [h0, h1, h2, h3, h4, h5, h6, h7, h8, h9, h10, h11, h12, h13, h14, h15, h16, a.1, a.2, h19, h20, h21, h22, h23, h24])))
set_option maxRecDepth 100000 in
set_option maxHeartbeats 4000000 in
theorem rq_X7_cheapest_0 (p1 : Int) (p2 : Int) (h0 : Ob) (h1 : Ob) (h2 : Ob) (h3 : Ob) (h4 : Ob) (h5 : Ob) (h6 : Ob) (h7 : Ob) (h8 : Ob) (h9 : Ob) (h10 : Ob) (h11 : Ob) (h12 : Ob) (h13 : Ob) (h14 : Ob) (h15 : Ob) (h16 : Ob) (h19 : Ob) (h20 : Ob) (h21 : Ob) (h22 : Ob) (h23 : Ob) (h24 : Ob) (k46 : XK) (a : Ob × Ob) : rg_X7_cheapest_0 k46 (en_X7_cheapest_0 p1 p2 h0 h1 h2 h3 h4 h5 h6 h7 h8 h9 h10 h11 h12 h13 h14 h15 h16 h19 h20 h21 h22 h23 h24 a) = mg_X7_cheapest_0 p1 p2 h0 h1 h2 h3 h4 h5 h6 h7 h8 h9 h10 h11 h12 h13 h14 h15 h16 h19 h20 h21 h22 h23 h24 (fun b => k46 (en_X7_cheapest_46 p1 p2 h0 h1 h2 h3 h4 h5 h6 h7 h8 h9 h10 h11 h12 h13 h14 h15 h16 h19 h20 h21 h22 h23 h24 b)) a := rfl
set_option maxRecDepth 100000 in
set_option maxHeartbeats 4000000 in
theorem sg_X7_cheapest_0 {X : XDyn} {r0 : Rt} (C : XO X mX7_cheapest) {k46 : XK} (q46 : XS X mX7_cheapest r0 46 k46) : XS X mX7_cheapest r0 0 (rg_X7_cheapest_0 k46) := by
 unfold rg_X7_cheapest_0
 exact s_iload_n (pc := 0) C dX7_cheapest_0 rfl <|
    s_callS (pc := 1) C ct_X7_isAsked (n := 1) (rk := 1) (mp := []) ⟨rfl, by decide, rfl⟩ (by decide) (by decide) ⟨rfl, yi_X7_isAsked⟩ wd_807 wd_808 wd_73 wd_809 dX7_cheapest_1 <|
    s_if_eq (pc := 4) C dX7_cheapest_4 (by decide) (s_iconst (pc := 16) C dX7_cheapest_16 <|
    s_ireturn (pc := 17) C rfl dX7_cheapest_17)
    (s_iload_n (pc := 7) C dX7_cheapest_7 rfl <|
    s_if_lt (pc := 8) C dX7_cheapest_8 (by decide) (s_iconst (pc := 16) C dX7_cheapest_16 <|
    s_ireturn (pc := 17) C rfl dX7_cheapest_17)
    (s_iload_n (pc := 11) C dX7_cheapest_11 rfl <|
    s_iconst (pc := 12) C dX7_cheapest_12 <|
    s_icmp_le (pc := 13) C dX7_cheapest_13 (by decide) (s_aload_n (pc := 18) C dX7_cheapest_18 rfl <|
    s_get (pc := 19) C (ci := 7) (kf := 0) rfl inX7 (by decide) wd_312 dX7_cheapest_19 <|
    s_callV (pc := 22) C ct_X3_movable (n := 1) (rk := 1) (mp := [1]) ⟨rfl, by decide, rfl⟩ (ci := 3) rfl rfl (by decide) (by decide) yi_X3_movable (by decide) wd_763 wd_428 wd_429 wd_74 wd_430 dX7_cheapest_22 <|
    s_istore_n (pc := 25) C dX7_cheapest_25 rfl <|
    s_aload_n (pc := 26) C dX7_cheapest_26 rfl <|
    s_iload_n (pc := 27) C dX7_cheapest_27 rfl <|
    s_iload_n (pc := 28) C dX7_cheapest_28 rfl <|
    s_iconst (pc := 29) C dX7_cheapest_29 <|
    s_iadd (pc := 30) C dX7_cheapest_30 <|
    s_callVg (pc := 31) C ct_X7_findPlaces (n := 3) (rk := 1) (mp := [0, 1, 2, 3, 4, 5, 6, 7, 8, 9, 10, 11, 12, 13, 14, 15, 16, 17, 18, 19, 20, 21, 22, 23, 24]) ⟨rfl, by decide, rfl⟩ (ci := 7) rfl rfl (by decide) (by decide) yi_X7_findPlaces (by decide) wd_853 wd_855 wd_17 wd_73 wd_856 dX7_cheapest_31 <|
    s_if_ne (pc := 34) C dX7_cheapest_34 (by decide) (s_iload_n (pc := 40) C dX7_cheapest_40 rfl <|
    s_istore (pc := 41) C dX7_cheapest_41 <|
    s_iconst (pc := 43) C dX7_cheapest_43 <|
    s_istore (pc := 44) C dX7_cheapest_44 <|
    s_cut q46)
    (s_bipush (pc := 37) C dX7_cheapest_37 (by decide) <|
    s_ireturn (pc := 39) C rfl dX7_cheapest_39))
    (s_iconst (pc := 16) C dX7_cheapest_16 <|
    s_ireturn (pc := 17) C rfl dX7_cheapest_17)))
noncomputable def mg_X7_cheapest_46 (p1 : Int) (p2 : Int) (h0 : Ob) (h1 : Ob) (h2 : Ob) (h3 : Ob) (h4 : Ob) (h5 : Ob) (h6 : Ob) (h7 : Ob) (h8 : Ob) (h9 : Ob) (h10 : Ob) (h11 : Ob) (h12 : Ob) (h13 : Ob) (h14 : Ob) (h15 : Ob) (h16 : Ob) (h19 : Ob) (h20 : Ob) (h21 : Ob) (h22 : Ob) (h23 : Ob) (h24 : Ob) (k98 : (Int × Int × Int × Ob × Ob) → Option Rt) (a : Int × Int × Int × Ob × Ob) : Option Rt :=
 if xw a.2.2.1 ≥ xw a.1 then (if xw p2 = 0 then (RI (cof h1 a.2.1) [h0, h1, h2, h3, h4, h5, h6, h7, h8, h9, h10, h11, h12, h13, h14, h15, h16, a.2.2.2.1, a.2.2.2.2, h19, h20, h21, h22, h23, h24])
 else (RI a.2.1 [h0, h1, h2, h3, h4, h5, h6, h7, h8, h9, h10, h11, h12, h13, h14, h15, h16, a.2.2.2.1, a.2.2.2.2, h19, h20, h21, h22, h23, h24]))
 else (if xw (xand a.2.2.1 (xxor a.1 (-1))) = 0 then (if xw (cof h1 a.2.2.1) ≥ xw (cof h1 a.2.1) then (k98 (a.1, a.2.1, a.2.2.1, a.2.2.2.1, a.2.2.2.2))
 else (if pd (RdG h1 (h1 0 10)) && pd (GiG (pkA (pkF a.2.2.2.2 h1 a.2.2.1) (p1 + 1)) (rdO a.2.2.2.1 (rnl h1 a.2.2.1 (h1 0 10)))) then (
 if xw (bz (gi (pkA (pkF a.2.2.2.2 h1 a.2.2.1) (p1 + 1)) (rdO a.2.2.2.1 (rnl h1 a.2.2.1 (h1 0 10))))) = 0 then (k98 (a.1, a.2.1, a.2.2.1, (rdO a.2.2.2.1 (rnl h1 a.2.2.1 (h1 0 10))), (giO xfu (pkA (pkF a.2.2.2.2 h1 a.2.2.1) (p1 + 1)) (rdO a.2.2.2.1 (rnl h1 a.2.2.1 (h1 0 10))))))
 else (k98 (a.1, a.2.2.1, a.2.2.1, (rdO a.2.2.2.1 (rnl h1 a.2.2.1 (h1 0 10))), (giO xfu (pkA (pkF a.2.2.2.2 h1 a.2.2.1) (p1 + 1)) (rdO a.2.2.2.1 (rnl h1 a.2.2.1 (h1 0 10))))))) else none))
 else (k98 (a.1, a.2.1, a.2.2.1, a.2.2.2.1, a.2.2.2.2)))
set_option maxRecDepth 100000 in
set_option maxHeartbeats 4000000 in
theorem rq_X7_cheapest_46 (p1 : Int) (p2 : Int) (h0 : Ob) (h1 : Ob) (h2 : Ob) (h3 : Ob) (h4 : Ob) (h5 : Ob) (h6 : Ob) (h7 : Ob) (h8 : Ob) (h9 : Ob) (h10 : Ob) (h11 : Ob) (h12 : Ob) (h13 : Ob) (h14 : Ob) (h15 : Ob) (h16 : Ob) (h19 : Ob) (h20 : Ob) (h21 : Ob) (h22 : Ob) (h23 : Ob) (h24 : Ob) (k98 : XK) (a : Int × Int × Int × Ob × Ob) : rg_X7_cheapest_46 k98 (en_X7_cheapest_46 p1 p2 h0 h1 h2 h3 h4 h5 h6 h7 h8 h9 h10 h11 h12 h13 h14 h15 h16 h19 h20 h21 h22 h23 h24 a) = mg_X7_cheapest_46 p1 p2 h0 h1 h2 h3 h4 h5 h6 h7 h8 h9 h10 h11 h12 h13 h14 h15 h16 h19 h20 h21 h22 h23 h24 (fun b => k98 (en_X7_cheapest_98 p1 p2 h0 h1 h2 h3 h4 h5 h6 h7 h8 h9 h10 h11 h12 h13 h14 h15 h16 h19 h20 h21 h22 h23 h24 b)) a := rfl
set_option maxRecDepth 100000 in
set_option maxHeartbeats 4000000 in
theorem sg_X7_cheapest_46 {X : XDyn} {r0 : Rt} (C : XO X mX7_cheapest) {k98 : XK} (q98 : XS X mX7_cheapest r0 98 k98) : XS X mX7_cheapest r0 46 (rg_X7_cheapest_46 k98) := by
 unfold rg_X7_cheapest_46
 exact s_iload (pc := 46) C dX7_cheapest_46 <|
    s_iload_n (pc := 48) C dX7_cheapest_48 rfl <|
    s_icmp_ge (pc := 49) C dX7_cheapest_49 (by decide) (s_iload_n (pc := 104) C dX7_cheapest_104 rfl <|
    s_if_ne (pc := 105) C dX7_cheapest_105 (by decide) (s_iload (pc := 120) C dX7_cheapest_120 <|
    s_ireturn (pc := 122) C rfl dX7_cheapest_122)
    (s_aload_n (pc := 108) C dX7_cheapest_108 rfl <|
    s_get (pc := 109) C (ci := 7) (kf := 0) rfl inX7 (by decide) wd_312 dX7_cheapest_109 <|
    s_iload (pc := 112) C dX7_cheapest_112 <|
    s_callV (pc := 114) C ct_X3_cellsOf (n := 2) (rk := 1) (mp := [1]) ⟨rfl, by decide, rfl⟩ (ci := 3) rfl rfl (by decide) (by decide) yi_X3_cellsOf (by decide) wd_857 wd_858 wd_859 wd_74 wd_860 dX7_cheapest_114 <|
    s_goto (pc := 117) C dX7_cheapest_117 (by decide) <|
    s_ireturn (pc := 122) C rfl dX7_cheapest_122))
    (s_iload (pc := 52) C dX7_cheapest_52 <|
    s_iload_n (pc := 54) C dX7_cheapest_54 rfl <|
    s_iconst (pc := 55) C dX7_cheapest_55 <|
    s_ixor (pc := 56) C dX7_cheapest_56 <|
    s_iand (pc := 57) C dX7_cheapest_57 <|
    s_if_ne (pc := 58) C dX7_cheapest_58 (by decide) (s_cut q98)
    (s_aload_n (pc := 61) C dX7_cheapest_61 rfl <|
    s_get (pc := 62) C (ci := 7) (kf := 0) rfl inX7 (by decide) wd_312 dX7_cheapest_62 <|
    s_iload (pc := 65) C dX7_cheapest_65 <|
    s_callV (pc := 67) C ct_X3_cellsOf (n := 2) (rk := 1) (mp := [1]) ⟨rfl, by decide, rfl⟩ (ci := 3) rfl rfl (by decide) (by decide) yi_X3_cellsOf (by decide) wd_857 wd_858 wd_859 wd_74 wd_860 dX7_cheapest_67 <|
    s_aload_n (pc := 70) C dX7_cheapest_70 rfl <|
    s_get (pc := 71) C (ci := 7) (kf := 0) rfl inX7 (by decide) wd_312 dX7_cheapest_71 <|
    s_iload (pc := 74) C dX7_cheapest_74 <|
    s_callV (pc := 76) C ct_X3_cellsOf (n := 2) (rk := 1) (mp := [1]) ⟨rfl, by decide, rfl⟩ (ci := 3) rfl rfl (by decide) (by decide) yi_X3_cellsOf (by decide) wd_857 wd_858 wd_859 wd_74 wd_860 dX7_cheapest_76 <|
    s_icmp_ge (pc := 79) C dX7_cheapest_79 (by decide) (s_cut q98)
    (s_aload_n (pc := 82) C dX7_cheapest_82 rfl <|
    s_iload (pc := 83) C dX7_cheapest_83 <|
    s_iload_n (pc := 85) C dX7_cheapest_85 rfl <|
    s_iconst (pc := 86) C dX7_cheapest_86 <|
    s_iadd (pc := 87) C dX7_cheapest_87 <|
    s_callVg (pc := 88) C ct_X7_findPlaces (n := 3) (rk := 1) (mp := [0, 1, 2, 3, 4, 5, 6, 7, 8, 9, 10, 11, 12, 13, 14, 15, 16, 17, 18, 19, 20, 21, 22, 23, 24]) ⟨rfl, by decide, rfl⟩ (ci := 7) rfl rfl (by decide) (by decide) yi_X7_findPlaces (by decide) wd_853 wd_855 wd_17 wd_73 wd_856 dX7_cheapest_88 <|
    s_if_eq (pc := 91) C dX7_cheapest_91 (by decide) (s_cut q98)
    (s_iload (pc := 94) C dX7_cheapest_94 <|
    s_istore (pc := 96) C dX7_cheapest_96 <|
    s_cut q98))))
noncomputable def mg_X7_cheapest_98 (p1 : Int) (p2 : Int) (h0 : Ob) (h1 : Ob) (h2 : Ob) (h3 : Ob) (h4 : Ob) (h5 : Ob) (h6 : Ob) (h7 : Ob) (h8 : Ob) (h9 : Ob) (h10 : Ob) (h11 : Ob) (h12 : Ob) (h13 : Ob) (h14 : Ob) (h15 : Ob) (h16 : Ob) (h19 : Ob) (h20 : Ob) (h21 : Ob) (h22 : Ob) (h23 : Ob) (h24 : Ob) (k46 : (Int × Int × Int × Ob × Ob) → Option Rt) (a : Int × Int × Int × Ob × Ob) : Option Rt :=
 k46 (a.1, a.2.1, (a.2.2.1 + 1), a.2.2.2.1, a.2.2.2.2)
set_option maxRecDepth 100000 in
set_option maxHeartbeats 4000000 in
theorem rq_X7_cheapest_98 (p1 : Int) (p2 : Int) (h0 : Ob) (h1 : Ob) (h2 : Ob) (h3 : Ob) (h4 : Ob) (h5 : Ob) (h6 : Ob) (h7 : Ob) (h8 : Ob) (h9 : Ob) (h10 : Ob) (h11 : Ob) (h12 : Ob) (h13 : Ob) (h14 : Ob) (h15 : Ob) (h16 : Ob) (h19 : Ob) (h20 : Ob) (h21 : Ob) (h22 : Ob) (h23 : Ob) (h24 : Ob) (k46 : XK) (a : Int × Int × Int × Ob × Ob) : rg_X7_cheapest_98 k46 (en_X7_cheapest_98 p1 p2 h0 h1 h2 h3 h4 h5 h6 h7 h8 h9 h10 h11 h12 h13 h14 h15 h16 h19 h20 h21 h22 h23 h24 a) = mg_X7_cheapest_98 p1 p2 h0 h1 h2 h3 h4 h5 h6 h7 h8 h9 h10 h11 h12 h13 h14 h15 h16 h19 h20 h21 h22 h23 h24 (fun b => k46 (en_X7_cheapest_46 p1 p2 h0 h1 h2 h3 h4 h5 h6 h7 h8 h9 h10 h11 h12 h13 h14 h15 h16 h19 h20 h21 h22 h23 h24 b)) a := rfl
set_option maxRecDepth 100000 in
set_option maxHeartbeats 4000000 in
theorem sg_X7_cheapest_98 {X : XDyn} {r0 : Rt} (C : XO X mX7_cheapest) {k46 : XK} (q46 : XS X mX7_cheapest r0 46 k46) : XS X mX7_cheapest r0 98 (rg_X7_cheapest_98 k46) := by
 unfold rg_X7_cheapest_98
 exact s_iinc (pc := 98) C dX7_cheapest_98 <|
    s_goto (pc := 101) C dX7_cheapest_101 (by decide) <|
    s_cut q46
noncomputable def rw_X7_cheapest_98 (f : Nat) (k46 : XK) : XK := rg_X7_cheapest_98 k46
noncomputable def md_X7_cheapest_98 (p1 : Int) (p2 : Int) (h0 : Ob) (h1 : Ob) (h2 : Ob) (h3 : Ob) (h4 : Ob) (h5 : Ob) (h6 : Ob) (h7 : Ob) (h8 : Ob) (h9 : Ob) (h10 : Ob) (h11 : Ob) (h12 : Ob) (h13 : Ob) (h14 : Ob) (h15 : Ob) (h16 : Ob) (h19 : Ob) (h20 : Ob) (h21 : Ob) (h22 : Ob) (h23 : Ob) (h24 : Ob) (f : Nat) (k46 : (Int × Int × Int × Ob × Ob) → Option Rt) : Int × Int × Int × Ob × Ob → Option Rt := mg_X7_cheapest_98 p1 p2 h0 h1 h2 h3 h4 h5 h6 h7 h8 h9 h10 h11 h12 h13 h14 h15 h16 h19 h20 h21 h22 h23 h24 k46
theorem eq_X7_cheapest_98 (p1 : Int) (p2 : Int) (h0 : Ob) (h1 : Ob) (h2 : Ob) (h3 : Ob) (h4 : Ob) (h5 : Ob) (h6 : Ob) (h7 : Ob) (h8 : Ob) (h9 : Ob) (h10 : Ob) (h11 : Ob) (h12 : Ob) (h13 : Ob) (h14 : Ob) (h15 : Ob) (h16 : Ob) (h19 : Ob) (h20 : Ob) (h21 : Ob) (h22 : Ob) (h23 : Ob) (h24 : Ob) (f : Nat) (k46 : XK) (a : Int × Int × Int × Ob × Ob) : rw_X7_cheapest_98 f k46 (en_X7_cheapest_98 p1 p2 h0 h1 h2 h3 h4 h5 h6 h7 h8 h9 h10 h11 h12 h13 h14 h15 h16 h19 h20 h21 h22 h23 h24 a) = md_X7_cheapest_98 p1 p2 h0 h1 h2 h3 h4 h5 h6 h7 h8 h9 h10 h11 h12 h13 h14 h15 h16 h19 h20 h21 h22 h23 h24 f (fun b => k46 (en_X7_cheapest_46 p1 p2 h0 h1 h2 h3 h4 h5 h6 h7 h8 h9 h10 h11 h12 h13 h14 h15 h16 h19 h20 h21 h22 h23 h24 b)) a :=
 (rq_X7_cheapest_98 p1 p2 h0 h1 h2 h3 h4 h5 h6 h7 h8 h9 h10 h11 h12 h13 h14 h15 h16 h19 h20 h21 h22 h23 h24 k46 a).trans (congrFun (congr (rfl : mg_X7_cheapest_98 p1 p2 h0 h1 h2 h3 h4 h5 h6 h7 h8 h9 h10 h11 h12 h13 h14 h15 h16 h19 h20 h21 h22 h23 h24 = mg_X7_cheapest_98 p1 p2 h0 h1 h2 h3 h4 h5 h6 h7 h8 h9 h10 h11 h12 h13 h14 h15 h16 h19 h20 h21 h22 h23 h24) rfl) a)
theorem sd_X7_cheapest_98 (f : Nat) {X : XDyn} {r0 : Rt} (C : XO X mX7_cheapest) {k46 : XK} (q46 : XS X mX7_cheapest r0 46 k46) : XS X mX7_cheapest r0 98 (rw_X7_cheapest_98 f k46) := sg_X7_cheapest_98 C q46
noncomputable def rw_X7_cheapest_46 (f : Nat) : XK := tlp (fun k46 => rg_X7_cheapest_46 (rw_X7_cheapest_98 f k46)) f
noncomputable def lb_X7_cheapest_46 (p1 : Int) (p2 : Int) (h0 : Ob) (h1 : Ob) (h2 : Ob) (h3 : Ob) (h4 : Ob) (h5 : Ob) (h6 : Ob) (h7 : Ob) (h8 : Ob) (h9 : Ob) (h10 : Ob) (h11 : Ob) (h12 : Ob) (h13 : Ob) (h14 : Ob) (h15 : Ob) (h16 : Ob) (h19 : Ob) (h20 : Ob) (h21 : Ob) (h22 : Ob) (h23 : Ob) (h24 : Ob) (f : Nat) : ((Int × Int × Int × Ob × Ob) → Option Rt) → Int × Int × Int × Ob × Ob → Option Rt := fun k46 => mg_X7_cheapest_46 p1 p2 h0 h1 h2 h3 h4 h5 h6 h7 h8 h9 h10 h11 h12 h13 h14 h15 h16 h19 h20 h21 h22 h23 h24 (md_X7_cheapest_98 p1 p2 h0 h1 h2 h3 h4 h5 h6 h7 h8 h9 h10 h11 h12 h13 h14 h15 h16 h19 h20 h21 h22 h23 h24 f k46)
noncomputable def md_X7_cheapest_46 (p1 : Int) (p2 : Int) (h0 : Ob) (h1 : Ob) (h2 : Ob) (h3 : Ob) (h4 : Ob) (h5 : Ob) (h6 : Ob) (h7 : Ob) (h8 : Ob) (h9 : Ob) (h10 : Ob) (h11 : Ob) (h12 : Ob) (h13 : Ob) (h14 : Ob) (h15 : Ob) (h16 : Ob) (h19 : Ob) (h20 : Ob) (h21 : Ob) (h22 : Ob) (h23 : Ob) (h24 : Ob) (f : Nat) : Int × Int × Int × Ob × Ob → Option Rt := tlp (lb_X7_cheapest_46 p1 p2 h0 h1 h2 h3 h4 h5 h6 h7 h8 h9 h10 h11 h12 h13 h14 h15 h16 h19 h20 h21 h22 h23 h24 f) f
theorem eq_X7_cheapest_46 (p1 : Int) (p2 : Int) (h0 : Ob) (h1 : Ob) (h2 : Ob) (h3 : Ob) (h4 : Ob) (h5 : Ob) (h6 : Ob) (h7 : Ob) (h8 : Ob) (h9 : Ob) (h10 : Ob) (h11 : Ob) (h12 : Ob) (h13 : Ob) (h14 : Ob) (h15 : Ob) (h16 : Ob) (h19 : Ob) (h20 : Ob) (h21 : Ob) (h22 : Ob) (h23 : Ob) (h24 : Ob) (f : Nat) (a : Int × Int × Int × Ob × Ob) : rw_X7_cheapest_46 f (en_X7_cheapest_46 p1 p2 h0 h1 h2 h3 h4 h5 h6 h7 h8 h9 h10 h11 h12 h13 h14 h15 h16 h19 h20 h21 h22 h23 h24 a) = md_X7_cheapest_46 p1 p2 h0 h1 h2 h3 h4 h5 h6 h7 h8 h9 h10 h11 h12 h13 h14 h15 h16 h19 h20 h21 h22 h23 h24 f a :=
 tlp_enc (en_X7_cheapest_46 p1 p2 h0 h1 h2 h3 h4 h5 h6 h7 h8 h9 h10 h11 h12 h13 h14 h15 h16 h19 h20 h21 h22 h23 h24) (fun k46 a => (rq_X7_cheapest_46 p1 p2 h0 h1 h2 h3 h4 h5 h6 h7 h8 h9 h10 h11 h12 h13 h14 h15 h16 h19 h20 h21 h22 h23 h24 (rw_X7_cheapest_98 f k46) a).trans (congrFun (congr (rfl : mg_X7_cheapest_46 p1 p2 h0 h1 h2 h3 h4 h5 h6 h7 h8 h9 h10 h11 h12 h13 h14 h15 h16 h19 h20 h21 h22 h23 h24 = mg_X7_cheapest_46 p1 p2 h0 h1 h2 h3 h4 h5 h6 h7 h8 h9 h10 h11 h12 h13 h14 h15 h16 h19 h20 h21 h22 h23 h24) (funext (eq_X7_cheapest_98 p1 p2 h0 h1 h2 h3 h4 h5 h6 h7 h8 h9 h10 h11 h12 h13 h14 h15 h16 h19 h20 h21 h22 h23 h24 f k46))) a)) f a
theorem sd_X7_cheapest_46 (f : Nat) {X : XDyn} {r0 : Rt} (C : XO X mX7_cheapest) : XS X mX7_cheapest r0 46 (rw_X7_cheapest_46 f) := s_lp (fun k46 q46 => sg_X7_cheapest_46 C (sd_X7_cheapest_98 f C q46)) f
noncomputable def rw_X7_cheapest_0 (f : Nat) : XK := rg_X7_cheapest_0 (rw_X7_cheapest_46 f)
noncomputable def md_X7_cheapest_0 (p1 : Int) (p2 : Int) (h0 : Ob) (h1 : Ob) (h2 : Ob) (h3 : Ob) (h4 : Ob) (h5 : Ob) (h6 : Ob) (h7 : Ob) (h8 : Ob) (h9 : Ob) (h10 : Ob) (h11 : Ob) (h12 : Ob) (h13 : Ob) (h14 : Ob) (h15 : Ob) (h16 : Ob) (h19 : Ob) (h20 : Ob) (h21 : Ob) (h22 : Ob) (h23 : Ob) (h24 : Ob) (f : Nat) : Ob × Ob → Option Rt := mg_X7_cheapest_0 p1 p2 h0 h1 h2 h3 h4 h5 h6 h7 h8 h9 h10 h11 h12 h13 h14 h15 h16 h19 h20 h21 h22 h23 h24 (md_X7_cheapest_46 p1 p2 h0 h1 h2 h3 h4 h5 h6 h7 h8 h9 h10 h11 h12 h13 h14 h15 h16 h19 h20 h21 h22 h23 h24 f)
theorem eq_X7_cheapest_0 (p1 : Int) (p2 : Int) (h0 : Ob) (h1 : Ob) (h2 : Ob) (h3 : Ob) (h4 : Ob) (h5 : Ob) (h6 : Ob) (h7 : Ob) (h8 : Ob) (h9 : Ob) (h10 : Ob) (h11 : Ob) (h12 : Ob) (h13 : Ob) (h14 : Ob) (h15 : Ob) (h16 : Ob) (h19 : Ob) (h20 : Ob) (h21 : Ob) (h22 : Ob) (h23 : Ob) (h24 : Ob) (f : Nat) (a : Ob × Ob) : rw_X7_cheapest_0 f (en_X7_cheapest_0 p1 p2 h0 h1 h2 h3 h4 h5 h6 h7 h8 h9 h10 h11 h12 h13 h14 h15 h16 h19 h20 h21 h22 h23 h24 a) = md_X7_cheapest_0 p1 p2 h0 h1 h2 h3 h4 h5 h6 h7 h8 h9 h10 h11 h12 h13 h14 h15 h16 h19 h20 h21 h22 h23 h24 f a :=
 (rq_X7_cheapest_0 p1 p2 h0 h1 h2 h3 h4 h5 h6 h7 h8 h9 h10 h11 h12 h13 h14 h15 h16 h19 h20 h21 h22 h23 h24 (rw_X7_cheapest_46 f) a).trans (congrFun (congr (rfl : mg_X7_cheapest_0 p1 p2 h0 h1 h2 h3 h4 h5 h6 h7 h8 h9 h10 h11 h12 h13 h14 h15 h16 h19 h20 h21 h22 h23 h24 = mg_X7_cheapest_0 p1 p2 h0 h1 h2 h3 h4 h5 h6 h7 h8 h9 h10 h11 h12 h13 h14 h15 h16 h19 h20 h21 h22 h23 h24) (funext (eq_X7_cheapest_46 p1 p2 h0 h1 h2 h3 h4 h5 h6 h7 h8 h9 h10 h11 h12 h13 h14 h15 h16 h19 h20 h21 h22 h23 h24 f))) a)
theorem sd_X7_cheapest_0 (f : Nat) {X : XDyn} {r0 : Rt} (C : XO X mX7_cheapest) : XS X mX7_cheapest r0 0 (rw_X7_cheapest_0 f) := sg_X7_cheapest_0 C (sd_X7_cheapest_46 f C)
theorem ctr_X7_cheapest (f : Nat) : XCt yX7_cheapest mX7_cheapest (xF mX7_cheapest (rw_X7_cheapest_0 f)) := xMet (by decide +kernel) rfl (fun _ _ C => sd_X7_cheapest_0 f C)
theorem eqf_X7_cheapest (f : Nat) (p1 : Int) (p2 : Int) (h0 : Ob) (h1 : Ob) (h2 : Ob) (h3 : Ob) (h4 : Ob) (h5 : Ob) (h6 : Ob) (h7 : Ob) (h8 : Ob) (h9 : Ob) (h10 : Ob) (h11 : Ob) (h12 : Ob) (h13 : Ob) (h14 : Ob) (h15 : Ob) (h16 : Ob) (h17 : Ob) (h18 : Ob) (h19 : Ob) (h20 : Ob) (h21 : Ob) (h22 : Ob) (h23 : Ob) (h24 : Ob) : xF mX7_cheapest (rw_X7_cheapest_0 f) [.inr (.inl (0, 0)), .inl p1, .inl p2] [h0, h1, h2, h3, h4, h5, h6, h7, h8, h9, h10, h11, h12, h13, h14, h15, h16, h17, h18, h19, h20, h21, h22, h23, h24] = md_X7_cheapest_0 p1 p2 h0 h1 h2 h3 h4 h5 h6 h7 h8 h9 h10 h11 h12 h13 h14 h15 h16 h19 h20 h21 h22 h23 h24 f (h17, h18) := eq_X7_cheapest_0 p1 p2 h0 h1 h2 h3 h4 h5 h6 h7 h8 h9 h10 h11 h12 h13 h14 h15 h16 h19 h20 h21 h22 h23 h24 f (h17, h18)
theorem yi_X7_cheapest : yX7_cheapest.cls = RX7 ∧ yX7_cheapest.cls ≠ "java/lang/invoke/MethodHandle" ∧ yX7_cheapest.cls ≠ "java/lang/invoke/VarHandle" ∧ (parseMethodDescriptor yX7_cheapest.desc).map (fun d => d.parameters.length) = some 2 := ⟨rfl, by decide +kernel, by decide +kernel, by decide +kernel⟩
