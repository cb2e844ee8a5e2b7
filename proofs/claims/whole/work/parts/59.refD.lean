theorem dX8_start_0 : decode cX8_start 0 = .ok (.iload_n 1, 1) := by decide +kernel
theorem dX8_start_1 : decode cX8_start 1 = .ok (.i2l, 1) := by decide +kernel
theorem dX8_start_2 : decode cX8_start 2 = .ok (.ldc2_w 71, 3) := by decide +kernel
theorem dX8_start_5 : decode cX8_start 5 = .ok (.ldc2_w 73, 3) := by decide +kernel
theorem dX8_start_8 : decode cX8_start 8 = .ok (.invokestatic 75, 3) := by decide +kernel
theorem dX8_start_11 : decode cX8_start 11 = .ok (.ifCond .eq 16, 3) := by decide +kernel
theorem dX8_start_14 : decode cX8_start 14 = .ok (.iload_n 2, 1) := by decide +kernel
theorem dX8_start_15 : decode cX8_start 15 = .ok (.i2l, 1) := by decide +kernel
theorem dX8_start_16 : decode cX8_start 16 = .ok (.iload_n 1, 1) := by decide +kernel
theorem dX8_start_17 : decode cX8_start 17 = .ok (.i2l, 1) := by decide +kernel
theorem dX8_start_18 : decode cX8_start 18 = .ok (.ldc2_w 73, 3) := by decide +kernel
theorem dX8_start_21 : decode cX8_start 21 = .ok (.invokestatic 75, 3) := by decide +kernel
theorem dX8_start_24 : decode cX8_start 24 = .ok (.ifCond .ne 5, 3) := by decide +kernel
theorem dX8_start_27 : decode cX8_start 27 = .ok (.iconst 0, 1) := by decide +kernel
theorem dX8_start_28 : decode cX8_start 28 = .ok (.ireturn, 1) := by decide +kernel
theorem dX8_start_29 : decode cX8_start 29 = .ok (.aload_n 0, 1) := by decide +kernel
theorem dX8_start_30 : decode cX8_start 30 = .ok (.iload_n 1, 1) := by decide +kernel
theorem dX8_start_31 : decode cX8_start 31 = .ok (.iload_n 2, 1) := by decide +kernel
theorem dX8_start_32 : decode cX8_start 32 = .ok (.invokevirtual 59, 3) := by decide +kernel
theorem dX8_start_35 : decode cX8_start 35 = .ok (.iconst 1, 1) := by decide +kernel
theorem dX8_start_36 : decode cX8_start 36 = .ok (.ireturn, 1) := by decide +kernel
abbrev mX8_start : XM := (cX8_start, 3, RX8, (some .boolean), shw_8, 1)
noncomputable def rg_X8_start_0 : XK :=
 o_iload 1 <|
 o_i2l <|
 o_lconst 8 <|
 o_lconst 200 <|
 o_callSg 3 1 [] g_X8_in v_X8_in <|
 o_if_eq (o_iconst 0 <|
 o_zreturn)
 (o_iload 2 <|
 o_i2l <|
 o_iload 1 <|
 o_i2l <|
 o_lconst 200 <|
 o_callSg 3 1 [] g_X8_in v_X8_in <|
 o_if_ne (o_aload 0 <|
 o_iload 1 <|
 o_iload 2 <|
 o_callV 3 0 [0] f_X8_begins <|
 o_iconst 1 <|
 o_zreturn)
 (o_iconst 0 <|
 o_zreturn))
def en_X8_start_0 (p1 : Int) (p2 : Int) (a : Ob) : XSt := ([some (.inr (.inl (0, 0))), some (.inl p1), some (.inl p2)], [], [a])
noncomputable def mg_X8_start_0 (p1 : Int) (p2 : Int) (a : Ob) : Option Rt :=
 if xlr (xw p1) && (xlr (8 : Int) && xlr (200 : Int)) then (
 if xw (bz (inn (xw p1) (8 : Int) (200 : Int))) = 0 then (RI 0 [a])
 else (if xlr (xw p2) && (xlr (xw p1) && xlr (200 : Int)) then (
 if xw (bz (inn (xw p2) (xw p1) (200 : Int))) = 0 then (RI 0 [a])
 else (RI 1 [(bgM a p1 p2)])) else none)) else none
set_option maxRecDepth 100000 in
set_option maxHeartbeats 4000000 in
theorem rq_X8_start_0 (p1 : Int) (p2 : Int) (a : Ob) : rg_X8_start_0 (en_X8_start_0 p1 p2 a) = mg_X8_start_0 p1 p2 a := rfl
set_option maxRecDepth 100000 in
set_option maxHeartbeats 4000000 in
theorem sg_X8_start_0 {X : XDyn} {r0 : Rt} (C : XO X mX8_start) : XS X mX8_start r0 0 (rg_X8_start_0) := by
 unfold rg_X8_start_0
 exact s_iload_n (pc := 0) C dX8_start_0 rfl <|
    s_i2l (pc := 1) C dX8_start_1 <|
    s_ldc2 (pc := 2) C dX8_start_2 wd_952 rfl <|
    s_ldc2 (pc := 5) C dX8_start_5 wd_953 rfl <|
    s_callSg (pc := 8) C ct_X8_in (n := 3) (rk := 1) (mp := []) ⟨rfl, by decide, rfl⟩ (by decide) (by decide) ⟨rfl, yi_X8_in⟩ wd_954 wd_955 wd_81 wd_956 dX8_start_8 <|
    s_if_eq (pc := 11) C dX8_start_11 (by decide) (s_iconst (pc := 27) C dX8_start_27 <|
    s_zreturn (pc := 28) C rfl dX8_start_28)
    (s_iload_n (pc := 14) C dX8_start_14 rfl <|
    s_i2l (pc := 15) C dX8_start_15 <|
    s_iload_n (pc := 16) C dX8_start_16 rfl <|
    s_i2l (pc := 17) C dX8_start_17 <|
    s_ldc2 (pc := 18) C dX8_start_18 wd_953 rfl <|
    s_callSg (pc := 21) C ct_X8_in (n := 3) (rk := 1) (mp := []) ⟨rfl, by decide, rfl⟩ (by decide) (by decide) ⟨rfl, yi_X8_in⟩ wd_954 wd_955 wd_81 wd_956 dX8_start_21 <|
    s_if_ne (pc := 24) C dX8_start_24 (by decide) (s_aload_n (pc := 29) C dX8_start_29 rfl <|
    s_iload_n (pc := 30) C dX8_start_30 rfl <|
    s_iload_n (pc := 31) C dX8_start_31 rfl <|
    s_callV (pc := 32) C ct_X8_begins (n := 3) (rk := 0) (mp := [0]) ⟨rfl, by decide, rfl⟩ (ci := 8) rfl rfl (by decide) (by decide) yi_X8_begins (by decide) wd_867 wd_869 wd_18 wd_81 wd_870 dX8_start_32 <|
    s_iconst (pc := 35) C dX8_start_35 <|
    s_zreturn (pc := 36) C rfl dX8_start_36)
    (s_iconst (pc := 27) C dX8_start_27 <|
    s_zreturn (pc := 28) C rfl dX8_start_28))
noncomputable def rw_X8_start_0 : XK := rg_X8_start_0
noncomputable def md_X8_start_0 (p1 : Int) (p2 : Int) : Ob → Option Rt := mg_X8_start_0 p1 p2
theorem eq_X8_start_0 (p1 : Int) (p2 : Int) (a : Ob) : rw_X8_start_0 (en_X8_start_0 p1 p2 a) = md_X8_start_0 p1 p2 a :=
 rq_X8_start_0 p1 p2 a
theorem sd_X8_start_0 {X : XDyn} {r0 : Rt} (C : XO X mX8_start) : XS X mX8_start r0 0 (rw_X8_start_0) := sg_X8_start_0 C
theorem ctr_X8_start : XCt yX8_start mX8_start (xF mX8_start (rw_X8_start_0)) := xMet (by decide +kernel) rfl (fun _ _ C => sd_X8_start_0 C)
theorem eqf_X8_start (p1 : Int) (p2 : Int) (h0 : Ob) : xF mX8_start (rw_X8_start_0) [.inr (.inl (0, 0)), .inl p1, .inl p2] [h0] = md_X8_start_0 p1 p2 h0 := eq_X8_start_0 p1 p2 h0
theorem yi_X8_start : yX8_start.cls = RX8 ∧ yX8_start.cls ≠ "java/lang/invoke/MethodHandle" ∧ yX8_start.cls ≠ "java/lang/invoke/VarHandle" ∧ (parseMethodDescriptor yX8_start.desc).map (fun d => d.parameters.length) = some 2 := ⟨rfl, by decide +kernel, by decide +kernel, by decide +kernel⟩
theorem dX8_make_0 : decode cX8_make 0 = .ok (.iconst 0, 1) := by decide +kernel
theorem dX8_make_1 : decode cX8_make 1 = .ok (.istore_n 3, 1) := by decide +kernel
theorem dX8_make_2 : decode cX8_make 2 = .ok (.iload_n 3, 1) := by decide +kernel
theorem dX8_make_3 : decode cX8_make 3 = .ok (.bipush 8, 2) := by decide +kernel
theorem dX8_make_5 : decode cX8_make 5 = .ok (.if_icmp .ge 20, 3) := by decide +kernel
theorem dX8_make_8 : decode cX8_make 8 = .ok (.aload_n 0, 1) := by decide +kernel
theorem dX8_make_9 : decode cX8_make 9 = .ok (.getfield 7, 3) := by decide +kernel
theorem dX8_make_12 : decode cX8_make 12 = .ok (.iconst 5, 1) := by decide +kernel
theorem dX8_make_13 : decode cX8_make 13 = .ok (.iload_n 3, 1) := by decide +kernel
theorem dX8_make_14 : decode cX8_make 14 = .ok (.iadd, 1) := by decide +kernel
theorem dX8_make_15 : decode cX8_make 15 = .ok (.iaload, 1) := by decide +kernel
theorem dX8_make_16 : decode cX8_make 16 = .ok (.ifCond .eq 9, 3) := by decide +kernel
theorem dX8_make_19 : decode cX8_make 19 = .ok (.iinc 3 1, 3) := by decide +kernel
theorem dX8_make_22 : decode cX8_make 22 = .ok (.goto (-20), 3) := by decide +kernel
theorem dX8_make_25 : decode cX8_make 25 = .ok (.iload_n 3, 1) := by decide +kernel
theorem dX8_make_26 : decode cX8_make 26 = .ok (.bipush 8, 2) := by decide +kernel
theorem dX8_make_28 : decode cX8_make 28 = .ok (.if_icmp .eq 27, 3) := by decide +kernel
theorem dX8_make_31 : decode cX8_make 31 = .ok (.iload_n 1, 1) := by decide +kernel
theorem dX8_make_32 : decode cX8_make 32 = .ok (.i2l, 1) := by decide +kernel
theorem dX8_make_33 : decode cX8_make 33 = .ok (.lconst 1, 1) := by decide +kernel
theorem dX8_make_34 : decode cX8_make 34 = .ok (.ldc2_w 204, 3) := by decide +kernel
theorem dX8_make_37 : decode cX8_make 37 = .ok (.invokestatic 75, 3) := by decide +kernel
theorem dX8_make_40 : decode cX8_make 40 = .ok (.ifCond .eq 15, 3) := by decide +kernel
theorem dX8_make_43 : decode cX8_make 43 = .ok (.iload_n 2, 1) := by decide +kernel
theorem dX8_make_44 : decode cX8_make 44 = .ok (.i2l, 1) := by decide +kernel
theorem dX8_make_45 : decode cX8_make 45 = .ok (.lconst 0, 1) := by decide +kernel
theorem dX8_make_46 : decode cX8_make 46 = .ok (.ldc2_w 206, 3) := by decide +kernel
theorem dX8_make_49 : decode cX8_make 49 = .ok (.invokestatic 75, 3) := by decide +kernel
theorem dX8_make_52 : decode cX8_make 52 = .ok (.ifCond .ne 5, 3) := by decide +kernel
theorem dX8_make_55 : decode cX8_make 55 = .ok (.iconst (-1), 1) := by decide +kernel
theorem dX8_make_56 : decode cX8_make 56 = .ok (.ireturn, 1) := by decide +kernel
theorem dX8_make_57 : decode cX8_make 57 = .ok (.aload_n 0, 1) := by decide +kernel
theorem dX8_make_58 : decode cX8_make 58 = .ok (.invokevirtual 208, 3) := by decide +kernel
theorem dX8_make_61 : decode cX8_make 61 = .ok (.aload_n 0, 1) := by decide +kernel
theorem dX8_make_62 : decode cX8_make 62 = .ok (.iload_n 1, 1) := by decide +kernel
theorem dX8_make_63 : decode cX8_make 63 = .ok (.iconst 1, 1) := by decide +kernel
theorem dX8_make_64 : decode cX8_make 64 = .ok (.iadd, 1) := by decide +kernel
theorem dX8_make_65 : decode cX8_make 65 = .ok (.iconst (-1), 1) := by decide +kernel
theorem dX8_make_66 : decode cX8_make 66 = .ok (.invokevirtual 211, 3) := by decide +kernel
theorem dX8_make_69 : decode cX8_make 69 = .ok (.istore 4, 2) := by decide +kernel
theorem dX8_make_71 : decode cX8_make 71 = .ok (.iload 4, 2) := by decide +kernel
theorem dX8_make_73 : decode cX8_make 73 = .ok (.ifCond .ge 10, 3) := by decide +kernel
theorem dX8_make_76 : decode cX8_make 76 = .ok (.aload_n 0, 1) := by decide +kernel
theorem dX8_make_77 : decode cX8_make 77 = .ok (.invokevirtual 215, 3) := by decide +kernel
theorem dX8_make_80 : decode cX8_make 80 = .ok (.bipush (-2), 2) := by decide +kernel
theorem dX8_make_82 : decode cX8_make 82 = .ok (.ireturn, 1) := by decide +kernel
theorem dX8_make_83 : decode cX8_make 83 = .ok (.aload_n 0, 1) := by decide +kernel
theorem dX8_make_84 : decode cX8_make 84 = .ok (.iload_n 3, 1) := by decide +kernel
theorem dX8_make_85 : decode cX8_make 85 = .ok (.iload 4, 2) := by decide +kernel
theorem dX8_make_87 : decode cX8_make 87 = .ok (.invokevirtual 218, 3) := by decide +kernel
theorem dX8_make_90 : decode cX8_make 90 = .ok (.aload_n 0, 1) := by decide +kernel
theorem dX8_make_91 : decode cX8_make 91 = .ok (.getfield 7, 3) := by decide +kernel
theorem dX8_make_94 : decode cX8_make 94 = .ok (.bipush 21, 2) := by decide +kernel
theorem dX8_make_96 : decode cX8_make 96 = .ok (.iload_n 3, 1) := by decide +kernel
theorem dX8_make_97 : decode cX8_make 97 = .ok (.iadd, 1) := by decide +kernel
theorem dX8_make_98 : decode cX8_make 98 = .ok (.iload_n 1, 1) := by decide +kernel
theorem dX8_make_99 : decode cX8_make 99 = .ok (.iastore, 1) := by decide +kernel
theorem dX8_make_100 : decode cX8_make 100 = .ok (.aload_n 0, 1) := by decide +kernel
theorem dX8_make_101 : decode cX8_make 101 = .ok (.getfield 7, 3) := by decide +kernel
theorem dX8_make_104 : decode cX8_make 104 = .ok (.bipush 29, 2) := by decide +kernel
theorem dX8_make_106 : decode cX8_make 106 = .ok (.iload_n 3, 1) := by decide +kernel
theorem dX8_make_107 : decode cX8_make 107 = .ok (.iadd, 1) := by decide +kernel
theorem dX8_make_108 : decode cX8_make 108 = .ok (.iconst 0, 1) := by decide +kernel
theorem dX8_make_109 : decode cX8_make 109 = .ok (.iastore, 1) := by decide +kernel
theorem dX8_make_110 : decode cX8_make 110 = .ok (.aload_n 0, 1) := by decide +kernel
theorem dX8_make_111 : decode cX8_make 111 = .ok (.getfield 7, 3) := by decide +kernel
theorem dX8_make_114 : decode cX8_make 114 = .ok (.bipush 37, 2) := by decide +kernel
theorem dX8_make_116 : decode cX8_make 116 = .ok (.iload_n 3, 1) := by decide +kernel
theorem dX8_make_117 : decode cX8_make 117 = .ok (.iadd, 1) := by decide +kernel
theorem dX8_make_118 : decode cX8_make 118 = .ok (.iload_n 1, 1) := by decide +kernel
theorem dX8_make_119 : decode cX8_make 119 = .ok (.iastore, 1) := by decide +kernel
theorem dX8_make_120 : decode cX8_make 120 = .ok (.aload_n 0, 1) := by decide +kernel
theorem dX8_make_121 : decode cX8_make 121 = .ok (.getfield 7, 3) := by decide +kernel
theorem dX8_make_124 : decode cX8_make 124 = .ok (.bipush 45, 2) := by decide +kernel
theorem dX8_make_126 : decode cX8_make 126 = .ok (.iload_n 3, 1) := by decide +kernel
theorem dX8_make_127 : decode cX8_make 127 = .ok (.iadd, 1) := by decide +kernel
theorem dX8_make_128 : decode cX8_make 128 = .ok (.iload_n 2, 1) := by decide +kernel
theorem dX8_make_129 : decode cX8_make 129 = .ok (.iastore, 1) := by decide +kernel
theorem dX8_make_130 : decode cX8_make 130 = .ok (.aload_n 0, 1) := by decide +kernel
theorem dX8_make_131 : decode cX8_make 131 = .ok (.getfield 7, 3) := by decide +kernel
theorem dX8_make_134 : decode cX8_make 134 = .ok (.bipush 53, 2) := by decide +kernel
theorem dX8_make_136 : decode cX8_make 136 = .ok (.iload_n 3, 1) := by decide +kernel
theorem dX8_make_137 : decode cX8_make 137 = .ok (.iadd, 1) := by decide +kernel
theorem dX8_make_138 : decode cX8_make 138 = .ok (.iconst 0, 1) := by decide +kernel
theorem dX8_make_139 : decode cX8_make 139 = .ok (.iastore, 1) := by decide +kernel
theorem dX8_make_140 : decode cX8_make 140 = .ok (.aload_n 0, 1) := by decide +kernel
theorem dX8_make_141 : decode cX8_make 141 = .ok (.invokevirtual 221, 3) := by decide +kernel
theorem dX8_make_144 : decode cX8_make 144 = .ok (.aload_n 0, 1) := by decide +kernel
theorem dX8_make_145 : decode cX8_make 145 = .ok (.iload_n 3, 1) := by decide +kernel
theorem dX8_make_146 : decode cX8_make 146 = .ok (.invokevirtual 224, 3) := by decide +kernel
theorem dX8_make_149 : decode cX8_make 149 = .ok (.iload_n 3, 1) := by decide +kernel
theorem dX8_make_150 : decode cX8_make 150 = .ok (.ireturn, 1) := by decide +kernel
abbrev mX8_make : XM := (cX8_make, 5, RX8, (some .int), shw_8, 7)
noncomputable def rg_X8_make_0 (k2 : XK) : XK :=
 o_iconst 0 <|
 o_istore 3 <|
 o_cut [] k2
def en_X8_make_0 (p1 : Int) (p2 : Int) (a : Ob) : XSt := ([some (.inr (.inl (0, 0))), some (.inl p1), some (.inl p2), none, none], [], [a])
noncomputable def rg_X8_make_2 (k25 : XK) (k2 : XK) : XK :=
 o_iload 3 <|
 o_iconst 8 <|
 o_icmp_ge (o_cut [] k25)
 (o_aload 0 <|
 o_get shw_8 8 0 <|
 o_iconst 5 <|
 o_iload 3 <|
 o_iadd <|
 o_iald shw_8 <|
 o_if_eq (o_cut [] k25)
 (o_iinc 3 1 <|
 o_cut [] k2))
def en_X8_make_2 (p1 : Int) (p2 : Int) (a : Int × Ob) : XSt := ([some (.inr (.inl (0, 0))), some (.inl p1), some (.inl p2), some (.inl a.1), none], [], [a.2])
noncomputable def rg_X8_make_25 : XK :=
 o_iload 3 <|
 o_iconst 8 <|
 o_icmp_eq (o_iconst (-1) <|
 o_ireturn)
 (o_iload 1 <|
 o_i2l <|
 o_lconst 1 <|
 o_lconst 60 <|
 o_callSg 3 1 [] g_X8_in v_X8_in <|
 o_if_eq (o_iconst (-1) <|
 o_ireturn)
 (o_iload 2 <|
 o_i2l <|
 o_lconst 0 <|
 o_lconst 9 <|
 o_callSg 3 1 [] g_X8_in v_X8_in <|
 o_if_ne (o_aload 0 <|
 o_callVg 1 0 [0] g_X8_keepsAside v_X8_keepsAside <|
 o_aload 0 <|
 o_iload 1 <|
 o_iconst 1 <|
 o_iadd <|
 o_iconst (-1) <|
 o_callVg 3 1 [0] g_X8_fits v_X8_fits <|
 o_istore 4 <|
 o_iload 4 <|
 o_if_ge (o_aload 0 <|
 o_iload 3 <|
 o_iload 4 <|
 o_callVg 3 0 [0] g_X8_fills v_X8_fills <|
 o_aload 0 <|
 o_get shw_8 8 0 <|
 o_iconst 21 <|
 o_iload 3 <|
 o_iadd <|
 o_iload 1 <|
 o_iast shw_8 <|
 o_aload 0 <|
 o_get shw_8 8 0 <|
 o_iconst 29 <|
 o_iload 3 <|
 o_iadd <|
 o_iconst 0 <|
 o_iast shw_8 <|
 o_aload 0 <|
 o_get shw_8 8 0 <|
 o_iconst 37 <|
 o_iload 3 <|
 o_iadd <|
 o_iload 1 <|
 o_iast shw_8 <|
 o_aload 0 <|
 o_get shw_8 8 0 <|
 o_iconst 45 <|
 o_iload 3 <|
 o_iadd <|
 o_iload 2 <|
 o_iast shw_8 <|
 o_aload 0 <|
 o_get shw_8 8 0 <|
 o_iconst 53 <|
 o_iload 3 <|
 o_iadd <|
 o_iconst 0 <|
 o_iast shw_8 <|
 o_aload 0 <|
 o_callVg 1 0 [0] g_X8_keepsAct v_X8_keepsAct <|
 o_aload 0 <|
 o_iload 3 <|
 o_callVg 2 0 [0] g_X8_touches v_X8_touches <|
 o_iload 3 <|
 o_ireturn)
 (o_aload 0 <|
 o_callVg 1 0 [0] g_X8_laysBack v_X8_laysBack <|
 o_iconst (-2) <|
 o_ireturn))
 (o_iconst (-1) <|
 o_ireturn)))
def en_X8_make_25 (p1 : Int) (p2 : Int) (a : Int × Ob) : XSt := ([some (.inr (.inl (0, 0))), some (.inl p1), some (.inl p2), some (.inl a.1), none], [], [a.2])
noncomputable def mg_X8_make_0 (p1 : Int) (p2 : Int) (k2 : (Int × Ob) → Option Rt) (a : Ob) : Option Rt :=
 k2 (0, a)
set_option maxRecDepth 100000 in
set_option maxHeartbeats 4000000 in
theorem rq_X8_make_0 (p1 : Int) (p2 : Int) (k2 : XK) (a : Ob) : rg_X8_make_0 k2 (en_X8_make_0 p1 p2 a) = mg_X8_make_0 p1 p2 (fun b => k2 (en_X8_make_2 p1 p2 b)) a := rfl
set_option maxRecDepth 100000 in
set_option maxHeartbeats 4000000 in
theorem sg_X8_make_0 {X : XDyn} {r0 : Rt} (C : XO X mX8_make) {k2 : XK} (q2 : XS X mX8_make r0 2 k2) : XS X mX8_make r0 0 (rg_X8_make_0 k2) := by
 unfold rg_X8_make_0
 exact s_iconst (pc := 0) C dX8_make_0 <|
    s_istore_n (pc := 1) C dX8_make_1 rfl <|
    s_cut q2
noncomputable def mg_X8_make_2 (p1 : Int) (p2 : Int) (k25 : (Int × Ob) → Option Rt) (k2 : (Int × Ob) → Option Rt) (a : Int × Ob) : Option Rt :=
 if xw a.1 ≥ 8 then (k25 (a.1, a.2))
 else (if xin (5 + a.1) 735 then (
 if xw (a.2 1 (xw (5 + a.1)).toNat) = 0 then (k25 (a.1, a.2))
 else (k2 ((a.1 + 1), a.2))) else none)
set_option maxRecDepth 100000 in
set_option maxHeartbeats 4000000 in
theorem rq_X8_make_2 (p1 : Int) (p2 : Int) (k25 : XK) (k2 : XK) (a : Int × Ob) : rg_X8_make_2 k25 k2 (en_X8_make_2 p1 p2 a) = mg_X8_make_2 p1 p2 (fun b => k25 (en_X8_make_25 p1 p2 b)) (fun b => k2 (en_X8_make_2 p1 p2 b)) a := rfl
set_option maxRecDepth 100000 in
set_option maxHeartbeats 4000000 in
theorem sg_X8_make_2 {X : XDyn} {r0 : Rt} (C : XO X mX8_make) {k25 : XK} (q25 : XS X mX8_make r0 25 k25) {k2 : XK} (q2 : XS X mX8_make r0 2 k2) : XS X mX8_make r0 2 (rg_X8_make_2 k25 k2) := by
 unfold rg_X8_make_2
 exact s_iload_n (pc := 2) C dX8_make_2 rfl <|
    s_bipush (pc := 3) C dX8_make_3 (by decide) <|
    s_icmp_ge (pc := 5) C dX8_make_5 (by decide) (s_cut q25)
    (s_aload_n (pc := 8) C dX8_make_8 rfl <|
    s_get (pc := 9) C (ci := 8) (kf := 0) rfl inX8 (by decide) wd_871 dX8_make_9 <|
    s_iconst (pc := 12) C dX8_make_12 <|
    s_iload_n (pc := 13) C dX8_make_13 rfl <|
    s_iadd (pc := 14) C dX8_make_14 <|
    s_iald (pc := 15) C dX8_make_15 <|
    s_if_eq (pc := 16) C dX8_make_16 (by decide) (s_cut q25)
    (s_iinc (pc := 19) C dX8_make_19 <|
    s_goto (pc := 22) C dX8_make_22 (by decide) <|
    s_cut q2))
noncomputable def mg_X8_make_25 (p1 : Int) (p2 : Int) (a : Int × Ob) : Option Rt :=
 if xw a.1 = 8 then (RI (-1) [a.2])
 else (if xlr (xw p1) && (xlr (1 : Int) && xlr (60 : Int)) then (
 if xw (bz (inn (xw p1) (1 : Int) (60 : Int))) = 0 then (RI (-1) [a.2])
 else (if xlr (xw p2) && (xlr (0 : Int) && xlr (9 : Int)) then (
 if xw (bz (inn (xw p2) (0 : Int) (9 : Int))) = 0 then (RI (-1) [a.2])
 else (if oqV (ov_X8_keepsAside a.2) then (
 if oqI (ov_X8_fits (p1 + 1) ((-1) : Int) (oqO (ov_X8_keepsAside a.2) 0)) then (
 if xw (oqR (ov_X8_fits (p1 + 1) ((-1) : Int) (oqO (ov_X8_keepsAside a.2) 0))) ≥ 0 then (if oqV (ov_X8_fills a.1 (oqR (ov_X8_fits (p1 + 1) ((-1) : Int) (oqO (ov_X8_keepsAside a.2) 0))) (oqO (ov_X8_fits (p1 + 1) ((-1) : Int) (oqO (ov_X8_keepsAside a.2) 0)) 0)) then (
 if xin (21 + a.1) 735 then (
 if xin (29 + a.1) 735 then (
 if xin (37 + a.1) 735 then (
 if xin (45 + a.1) 735 then (
 if xin (53 + a.1) 735 then (
 if oqV (ov_X8_keepsAct (xset (xset (xset (xset (xset (oqO (ov_X8_fills a.1 (oqR (ov_X8_fits (p1 + 1) ((-1) : Int) (oqO (ov_X8_keepsAside a.2) 0))) (oqO (ov_X8_fits (p1 + 1) ((-1) : Int) (oqO (ov_X8_keepsAside a.2) 0)) 0)) 0) 1 (xw (21 + a.1)).toNat p1) 1 (xw (29 + a.1)).toNat 0) 1 (xw (37 + a.1)).toNat p1) 1 (xw (45 + a.1)).toNat p2) 1 (xw (53 + a.1)).toNat 0)) then (
 if oqV (ov_X8_touches a.1 (oqO (ov_X8_keepsAct (xset (xset (xset (xset (xset (oqO (ov_X8_fills a.1 (oqR (ov_X8_fits (p1 + 1) ((-1) : Int) (oqO (ov_X8_keepsAside a.2) 0))) (oqO (ov_X8_fits (p1 + 1) ((-1) : Int) (oqO (ov_X8_keepsAside a.2) 0)) 0)) 0) 1 (xw (21 + a.1)).toNat p1) 1 (xw (29 + a.1)).toNat 0) 1 (xw (37 + a.1)).toNat p1) 1 (xw (45 + a.1)).toNat p2) 1 (xw (53 + a.1)).toNat 0)) 0)) then (
 RI a.1 [(oqO (ov_X8_touches a.1 (oqO (ov_X8_keepsAct (xset (xset (xset (xset (xset (oqO (ov_X8_fills a.1 (oqR (ov_X8_fits (p1 + 1) ((-1) : Int) (oqO (ov_X8_keepsAside a.2) 0))) (oqO (ov_X8_fits (p1 + 1) ((-1) : Int) (oqO (ov_X8_keepsAside a.2) 0)) 0)) 0) 1 (xw (21 + a.1)).toNat p1) 1 (xw (29 + a.1)).toNat 0) 1 (xw (37 + a.1)).toNat p1) 1 (xw (45 + a.1)).toNat p2) 1 (xw (53 + a.1)).toNat 0)) 0)) 0)]) else none) else none) else none) else none) else none) else none) else none) else none)
 else (if oqV (ov_X8_laysBack (oqO (ov_X8_fits (p1 + 1) ((-1) : Int) (oqO (ov_X8_keepsAside a.2) 0)) 0)) then (
 RI (-2) [(oqO (ov_X8_laysBack (oqO (ov_X8_fits (p1 + 1) ((-1) : Int) (oqO (ov_X8_keepsAside a.2) 0)) 0)) 0)]) else none)) else none) else none)) else none)) else none)
set_option maxRecDepth 100000 in
set_option maxHeartbeats 4000000 in
theorem rq_X8_make_25 (p1 : Int) (p2 : Int) (a : Int × Ob) : rg_X8_make_25 (en_X8_make_25 p1 p2 a) = mg_X8_make_25 p1 p2 a := rfl
set_option maxRecDepth 100000 in
set_option maxHeartbeats 4000000 in
theorem sg_X8_make_25 {X : XDyn} {r0 : Rt} (C : XO X mX8_make) : XS X mX8_make r0 25 (rg_X8_make_25) := by
 unfold rg_X8_make_25
 exact s_iload_n (pc := 25) C dX8_make_25 rfl <|
    s_bipush (pc := 26) C dX8_make_26 (by decide) <|
    s_icmp_eq (pc := 28) C dX8_make_28 (by decide) (s_iconst (pc := 55) C dX8_make_55 <|
    s_ireturn (pc := 56) C rfl dX8_make_56)
    (s_iload_n (pc := 31) C dX8_make_31 rfl <|
    s_i2l (pc := 32) C dX8_make_32 <|
    s_lconst (pc := 33) C dX8_make_33 rfl <|
    s_ldc2 (pc := 34) C dX8_make_34 wd_965 rfl <|
    s_callSg (pc := 37) C ct_X8_in (n := 3) (rk := 1) (mp := []) ⟨rfl, by decide, rfl⟩ (by decide) (by decide) ⟨rfl, yi_X8_in⟩ wd_954 wd_955 wd_81 wd_956 dX8_make_37 <|
    s_if_eq (pc := 40) C dX8_make_40 (by decide) (s_iconst (pc := 55) C dX8_make_55 <|
    s_ireturn (pc := 56) C rfl dX8_make_56)
    (s_iload_n (pc := 43) C dX8_make_43 rfl <|
    s_i2l (pc := 44) C dX8_make_44 <|
    s_lconst (pc := 45) C dX8_make_45 rfl <|
    s_ldc2 (pc := 46) C dX8_make_46 wd_966 rfl <|
    s_callSg (pc := 49) C ct_X8_in (n := 3) (rk := 1) (mp := []) ⟨rfl, by decide, rfl⟩ (by decide) (by decide) ⟨rfl, yi_X8_in⟩ wd_954 wd_955 wd_81 wd_956 dX8_make_49 <|
    s_if_ne (pc := 52) C dX8_make_52 (by decide) (s_aload_n (pc := 57) C dX8_make_57 rfl <|
    s_callVg (pc := 58) C ct_X8_keepsAside (n := 1) (rk := 0) (mp := [0]) ⟨rfl, by decide, rfl⟩ (ci := 8) rfl rfl (by decide) (by decide) yi_X8_keepsAside (by decide) wd_967 wd_969 wd_19 wd_81 wd_970 dX8_make_58 <|
    s_aload_n (pc := 61) C dX8_make_61 rfl <|
    s_iload_n (pc := 62) C dX8_make_62 rfl <|
    s_iconst (pc := 63) C dX8_make_63 <|
    s_iadd (pc := 64) C dX8_make_64 <|
    s_iconst (pc := 65) C dX8_make_65 <|
    s_callVg (pc := 66) C ct_X8_fits (n := 3) (rk := 1) (mp := [0]) ⟨rfl, by decide, rfl⟩ (ci := 8) rfl rfl (by decide) (by decide) yi_X8_fits (by decide) wd_971 wd_973 wd_20 wd_81 wd_974 dX8_make_66 <|
    s_istore (pc := 69) C dX8_make_69 <|
    s_iload (pc := 71) C dX8_make_71 <|
    s_if_ge (pc := 73) C dX8_make_73 (by decide) (s_aload_n (pc := 83) C dX8_make_83 rfl <|
    s_iload_n (pc := 84) C dX8_make_84 rfl <|
    s_iload (pc := 85) C dX8_make_85 <|
    s_callVg (pc := 87) C ct_X8_fills (n := 3) (rk := 0) (mp := [0]) ⟨rfl, by decide, rfl⟩ (ci := 8) rfl rfl (by decide) (by decide) yi_X8_fills (by decide) wd_1105 wd_1107 wd_52 wd_81 wd_1108 dX8_make_87 <|
    s_aload_n (pc := 90) C dX8_make_90 rfl <|
    s_get (pc := 91) C (ci := 8) (kf := 0) rfl inX8 (by decide) wd_871 dX8_make_91 <|
    s_bipush (pc := 94) C dX8_make_94 (by decide) <|
    s_iload_n (pc := 96) C dX8_make_96 rfl <|
    s_iadd (pc := 97) C dX8_make_97 <|
    s_iload_n (pc := 98) C dX8_make_98 rfl <|
    s_iast (pc := 99) C dX8_make_99 <|
    s_aload_n (pc := 100) C dX8_make_100 rfl <|
    s_get (pc := 101) C (ci := 8) (kf := 0) rfl inX8 (by decide) wd_871 dX8_make_101 <|
    s_bipush (pc := 104) C dX8_make_104 (by decide) <|
    s_iload_n (pc := 106) C dX8_make_106 rfl <|
    s_iadd (pc := 107) C dX8_make_107 <|
    s_iconst (pc := 108) C dX8_make_108 <|
    s_iast (pc := 109) C dX8_make_109 <|
    s_aload_n (pc := 110) C dX8_make_110 rfl <|
    s_get (pc := 111) C (ci := 8) (kf := 0) rfl inX8 (by decide) wd_871 dX8_make_111 <|
    s_bipush (pc := 114) C dX8_make_114 (by decide) <|
    s_iload_n (pc := 116) C dX8_make_116 rfl <|
    s_iadd (pc := 117) C dX8_make_117 <|
    s_iload_n (pc := 118) C dX8_make_118 rfl <|
    s_iast (pc := 119) C dX8_make_119 <|
    s_aload_n (pc := 120) C dX8_make_120 rfl <|
    s_get (pc := 121) C (ci := 8) (kf := 0) rfl inX8 (by decide) wd_871 dX8_make_121 <|
    s_bipush (pc := 124) C dX8_make_124 (by decide) <|
    s_iload_n (pc := 126) C dX8_make_126 rfl <|
    s_iadd (pc := 127) C dX8_make_127 <|
    s_iload_n (pc := 128) C dX8_make_128 rfl <|
    s_iast (pc := 129) C dX8_make_129 <|
    s_aload_n (pc := 130) C dX8_make_130 rfl <|
    s_get (pc := 131) C (ci := 8) (kf := 0) rfl inX8 (by decide) wd_871 dX8_make_131 <|
    s_bipush (pc := 134) C dX8_make_134 (by decide) <|
    s_iload_n (pc := 136) C dX8_make_136 rfl <|
    s_iadd (pc := 137) C dX8_make_137 <|
    s_iconst (pc := 138) C dX8_make_138 <|
    s_iast (pc := 139) C dX8_make_139 <|
    s_aload_n (pc := 140) C dX8_make_140 rfl <|
    s_callVg (pc := 141) C ct_X8_keepsAct (n := 1) (rk := 0) (mp := [0]) ⟨rfl, by decide, rfl⟩ (ci := 8) rfl rfl (by decide) (by decide) yi_X8_keepsAct (by decide) wd_1113 wd_1115 wd_54 wd_81 wd_1116 dX8_make_141 <|
    s_aload_n (pc := 144) C dX8_make_144 rfl <|
    s_iload_n (pc := 145) C dX8_make_145 rfl <|
    s_callVg (pc := 146) C ct_X8_touches (n := 2) (rk := 0) (mp := [0]) ⟨rfl, by decide, rfl⟩ (ci := 8) rfl rfl (by decide) (by decide) yi_X8_touches (by decide) wd_1117 wd_1119 wd_55 wd_81 wd_1120 dX8_make_146 <|
    s_iload_n (pc := 149) C dX8_make_149 rfl <|
    s_ireturn (pc := 150) C rfl dX8_make_150)
    (s_aload_n (pc := 76) C dX8_make_76 rfl <|
    s_callVg (pc := 77) C ct_X8_laysBack (n := 1) (rk := 0) (mp := [0]) ⟨rfl, by decide, rfl⟩ (ci := 8) rfl rfl (by decide) (by decide) yi_X8_laysBack (by decide) wd_1101 wd_1103 wd_51 wd_81 wd_1104 dX8_make_77 <|
    s_bipush (pc := 80) C dX8_make_80 (by decide) <|
    s_ireturn (pc := 82) C rfl dX8_make_82))
    (s_iconst (pc := 55) C dX8_make_55 <|
    s_ireturn (pc := 56) C rfl dX8_make_56)))
noncomputable def rw_X8_make_25 (f : Nat) : XK := rg_X8_make_25
noncomputable def md_X8_make_25 (p1 : Int) (p2 : Int) (f : Nat) : Int × Ob → Option Rt := mg_X8_make_25 p1 p2
theorem eq_X8_make_25 (p1 : Int) (p2 : Int) (f : Nat) (a : Int × Ob) : rw_X8_make_25 f (en_X8_make_25 p1 p2 a) = md_X8_make_25 p1 p2 f a :=
 rq_X8_make_25 p1 p2 a
theorem sd_X8_make_25 (f : Nat) {X : XDyn} {r0 : Rt} (C : XO X mX8_make) : XS X mX8_make r0 25 (rw_X8_make_25 f) := sg_X8_make_25 C
noncomputable def rw_X8_make_2 (f : Nat) : XK := tlp (fun k2 => rg_X8_make_2 (rw_X8_make_25 f) k2) f
noncomputable def lb_X8_make_2 (p1 : Int) (p2 : Int) (f : Nat) : ((Int × Ob) → Option Rt) → Int × Ob → Option Rt := fun k2 => mg_X8_make_2 p1 p2 (md_X8_make_25 p1 p2 f) k2
noncomputable def md_X8_make_2 (p1 : Int) (p2 : Int) (f : Nat) : Int × Ob → Option Rt := tlp (lb_X8_make_2 p1 p2 f) f
theorem eq_X8_make_2 (p1 : Int) (p2 : Int) (f : Nat) (a : Int × Ob) : rw_X8_make_2 f (en_X8_make_2 p1 p2 a) = md_X8_make_2 p1 p2 f a :=
 tlp_enc (en_X8_make_2 p1 p2) (fun k2 a => (rq_X8_make_2 p1 p2 (rw_X8_make_25 f) k2 a).trans (congrFun (congr (congr (rfl : mg_X8_make_2 p1 p2 = mg_X8_make_2 p1 p2) (funext (eq_X8_make_25 p1 p2 f))) rfl) a)) f a
theorem sd_X8_make_2 (f : Nat) {X : XDyn} {r0 : Rt} (C : XO X mX8_make) : XS X mX8_make r0 2 (rw_X8_make_2 f) := s_lp (fun k2 q2 => sg_X8_make_2 C (sd_X8_make_25 f C) q2) f
noncomputable def rw_X8_make_0 (f : Nat) : XK := rg_X8_make_0 (rw_X8_make_2 f)
noncomputable def md_X8_make_0 (p1 : Int) (p2 : Int) (f : Nat) : Ob → Option Rt := mg_X8_make_0 p1 p2 (md_X8_make_2 p1 p2 f)
theorem eq_X8_make_0 (p1 : Int) (p2 : Int) (f : Nat) (a : Ob) : rw_X8_make_0 f (en_X8_make_0 p1 p2 a) = md_X8_make_0 p1 p2 f a :=
 (rq_X8_make_0 p1 p2 (rw_X8_make_2 f) a).trans (congrFun (congr (rfl : mg_X8_make_0 p1 p2 = mg_X8_make_0 p1 p2) (funext (eq_X8_make_2 p1 p2 f))) a)
theorem sd_X8_make_0 (f : Nat) {X : XDyn} {r0 : Rt} (C : XO X mX8_make) : XS X mX8_make r0 0 (rw_X8_make_0 f) := sg_X8_make_0 C (sd_X8_make_2 f C)
theorem ctr_X8_make (f : Nat) : XCt yX8_make mX8_make (xF mX8_make (rw_X8_make_0 f)) := xMet (by decide +kernel) rfl (fun _ _ C => sd_X8_make_0 f C)
theorem eqf_X8_make (f : Nat) (p1 : Int) (p2 : Int) (h0 : Ob) : xF mX8_make (rw_X8_make_0 f) [.inr (.inl (0, 0)), .inl p1, .inl p2] [h0] = md_X8_make_0 p1 p2 f h0 := eq_X8_make_0 p1 p2 f h0
theorem yi_X8_make : yX8_make.cls = RX8 ∧ yX8_make.cls ≠ "java/lang/invoke/MethodHandle" ∧ yX8_make.cls ≠ "java/lang/invoke/VarHandle" ∧ (parseMethodDescriptor yX8_make.desc).map (fun d => d.parameters.length) = some 2 := ⟨rfl, by decide +kernel, by decide +kernel, by decide +kernel⟩
theorem dX8_put_0 : decode cX8_put 0 = .ok (.aload_n 0, 1) := by decide +kernel
theorem dX8_put_1 : decode cX8_put 1 = .ok (.iload_n 1, 1) := by decide +kernel
theorem dX8_put_2 : decode cX8_put 2 = .ok (.invokevirtual 83, 3) := by decide +kernel
theorem dX8_put_5 : decode cX8_put 5 = .ok (.ifCond .eq 24, 3) := by decide +kernel
theorem dX8_put_8 : decode cX8_put 8 = .ok (.iload_n 2, 1) := by decide +kernel
theorem dX8_put_9 : decode cX8_put 9 = .ok (.i2l, 1) := by decide +kernel
theorem dX8_put_10 : decode cX8_put 10 = .ok (.lconst 0, 1) := by decide +kernel
theorem dX8_put_11 : decode cX8_put 11 = .ok (.aload_n 0, 1) := by decide +kernel
theorem dX8_put_12 : decode cX8_put 12 = .ok (.getfield 7, 3) := by decide +kernel
theorem dX8_put_15 : decode cX8_put 15 = .ok (.bipush 21, 2) := by decide +kernel
theorem dX8_put_17 : decode cX8_put 17 = .ok (.iload_n 1, 1) := by decide +kernel
theorem dX8_put_18 : decode cX8_put 18 = .ok (.iadd, 1) := by decide +kernel
theorem dX8_put_19 : decode cX8_put 19 = .ok (.iaload, 1) := by decide +kernel
theorem dX8_put_20 : decode cX8_put 20 = .ok (.iconst 1, 1) := by decide +kernel
theorem dX8_put_21 : decode cX8_put 21 = .ok (.isub, 1) := by decide +kernel
theorem dX8_put_22 : decode cX8_put 22 = .ok (.i2l, 1) := by decide +kernel
theorem dX8_put_23 : decode cX8_put 23 = .ok (.invokestatic 75, 3) := by decide +kernel
theorem dX8_put_26 : decode cX8_put 26 = .ok (.ifCond .ne 5, 3) := by decide +kernel
theorem dX8_put_29 : decode cX8_put 29 = .ok (.iconst 0, 1) := by decide +kernel
theorem dX8_put_30 : decode cX8_put 30 = .ok (.ireturn, 1) := by decide +kernel
theorem dX8_put_31 : decode cX8_put 31 = .ok (.aload_n 0, 1) := by decide +kernel
theorem dX8_put_32 : decode cX8_put 32 = .ok (.invokevirtual 208, 3) := by decide +kernel
theorem dX8_put_35 : decode cX8_put 35 = .ok (.aload_n 0, 1) := by decide +kernel
theorem dX8_put_36 : decode cX8_put 36 = .ok (.getfield 7, 3) := by decide +kernel
theorem dX8_put_39 : decode cX8_put 39 = .ok (.bipush 75, 2) := by decide +kernel
theorem dX8_put_41 : decode cX8_put 41 = .ok (.bipush 60, 2) := by decide +kernel
theorem dX8_put_43 : decode cX8_put 43 = .ok (.iload_n 1, 1) := by decide +kernel
theorem dX8_put_44 : decode cX8_put 44 = .ok (.imul, 1) := by decide +kernel
theorem dX8_put_45 : decode cX8_put 45 = .ok (.iadd, 1) := by decide +kernel
theorem dX8_put_46 : decode cX8_put 46 = .ok (.iload_n 2, 1) := by decide +kernel
theorem dX8_put_47 : decode cX8_put 47 = .ok (.iadd, 1) := by decide +kernel
theorem dX8_put_48 : decode cX8_put 48 = .ok (.iaload, 1) := by decide +kernel
theorem dX8_put_49 : decode cX8_put 49 = .ok (.istore 4, 2) := by decide +kernel
theorem dX8_put_51 : decode cX8_put 51 = .ok (.aload_n 0, 1) := by decide +kernel
theorem dX8_put_52 : decode cX8_put 52 = .ok (.getfield 7, 3) := by decide +kernel
theorem dX8_put_55 : decode cX8_put 55 = .ok (.bipush 75, 2) := by decide +kernel
theorem dX8_put_57 : decode cX8_put 57 = .ok (.bipush 60, 2) := by decide +kernel
theorem dX8_put_59 : decode cX8_put 59 = .ok (.iload_n 1, 1) := by decide +kernel
theorem dX8_put_60 : decode cX8_put 60 = .ok (.imul, 1) := by decide +kernel
theorem dX8_put_61 : decode cX8_put 61 = .ok (.iadd, 1) := by decide +kernel
theorem dX8_put_62 : decode cX8_put 62 = .ok (.iload_n 2, 1) := by decide +kernel
theorem dX8_put_63 : decode cX8_put 63 = .ok (.iadd, 1) := by decide +kernel
theorem dX8_put_64 : decode cX8_put 64 = .ok (.iload_n 3, 1) := by decide +kernel
theorem dX8_put_65 : decode cX8_put 65 = .ok (.iastore, 1) := by decide +kernel
theorem dX8_put_66 : decode cX8_put 66 = .ok (.aload_n 0, 1) := by decide +kernel
theorem dX8_put_67 : decode cX8_put 67 = .ok (.invokevirtual 221, 3) := by decide +kernel
theorem dX8_put_70 : decode cX8_put 70 = .ok (.aload_n 0, 1) := by decide +kernel
theorem dX8_put_71 : decode cX8_put 71 = .ok (.iload_n 1, 1) := by decide +kernel
theorem dX8_put_72 : decode cX8_put 72 = .ok (.invokevirtual 224, 3) := by decide +kernel
theorem dX8_put_75 : decode cX8_put 75 = .ok (.iload 4, 2) := by decide +kernel
theorem dX8_put_77 : decode cX8_put 77 = .ok (.ireturn, 1) := by decide +kernel
abbrev mX8_put : XM := (cX8_put, 5, RX8, (some .int), shw_8, 2)
noncomputable def rg_X8_put_0 : XK :=
 o_aload 0 <|
 o_iload 1 <|
 o_callV 2 1 [0] f_X8_isFull <|
 o_if_eq (o_iconst 0 <|
 o_ireturn)
 (o_iload 2 <|
 o_i2l <|
 o_lconst 0 <|
 o_aload 0 <|
 o_get shw_8 8 0 <|
 o_iconst 21 <|
 o_iload 1 <|
 o_iadd <|
 o_iald shw_8 <|
 o_iconst 1 <|
 o_isub <|
 o_i2l <|
 o_callSg 3 1 [] g_X8_in v_X8_in <|
 o_if_ne (o_aload 0 <|
 o_callVg 1 0 [0] g_X8_keepsAside v_X8_keepsAside <|
 o_aload 0 <|
 o_get shw_8 8 0 <|
 o_iconst 75 <|
 o_iconst 60 <|
 o_iload 1 <|
 o_imul <|
 o_iadd <|
 o_iload 2 <|
 o_iadd <|
 o_iald shw_8 <|
 o_istore 4 <|
 o_aload 0 <|
 o_get shw_8 8 0 <|
 o_iconst 75 <|
 o_iconst 60 <|
 o_iload 1 <|
 o_imul <|
 o_iadd <|
 o_iload 2 <|
 o_iadd <|
 o_iload 3 <|
 o_iast shw_8 <|
 o_aload 0 <|
 o_callVg 1 0 [0] g_X8_keepsAct v_X8_keepsAct <|
 o_aload 0 <|
 o_iload 1 <|
 o_callVg 2 0 [0] g_X8_touches v_X8_touches <|
 o_iload 4 <|
 o_ireturn)
 (o_iconst 0 <|
 o_ireturn))
def en_X8_put_0 (p1 : Int) (p2 : Int) (p3 : Int) (a : Ob) : XSt := ([some (.inr (.inl (0, 0))), some (.inl p1), some (.inl p2), some (.inl p3), none], [], [a])
noncomputable def mg_X8_put_0 (p1 : Int) (p2 : Int) (p3 : Int) (a : Ob) : Option Rt :=
 if xw (bz (fulM a p1)) = 0 then (RI 0 [a])
 else (if xin (21 + p1) 735 then (
 if xlr (xw p2) && (xlr (0 : Int) && xlr (xw ((a 1 (xw (21 + p1)).toNat) - 1))) then (
 if xw (bz (inn (xw p2) (0 : Int) (xw ((a 1 (xw (21 + p1)).toNat) - 1)))) = 0 then (RI 0 [a])
 else (if oqV (ov_X8_keepsAside a) then (
 if xin ((75 + (60 * p1)) + p2) 735 then (
 if xin ((75 + (60 * p1)) + p2) 735 then (
 if oqV (ov_X8_keepsAct (xset (oqO (ov_X8_keepsAside a) 0) 1 (xw ((75 + (60 * p1)) + p2)).toNat p3)) then (
 if oqV (ov_X8_touches p1 (oqO (ov_X8_keepsAct (xset (oqO (ov_X8_keepsAside a) 0) 1 (xw ((75 + (60 * p1)) + p2)).toNat p3)) 0)) then (
 RI ((oqO (ov_X8_keepsAside a) 0) 1 (xw ((75 + (60 * p1)) + p2)).toNat) [(oqO (ov_X8_touches p1 (oqO (ov_X8_keepsAct (xset (oqO (ov_X8_keepsAside a) 0) 1 (xw ((75 + (60 * p1)) + p2)).toNat p3)) 0)) 0)]) else none) else none) else none) else none) else none)) else none) else none)
set_option maxRecDepth 100000 in
set_option maxHeartbeats 4000000 in
theorem rq_X8_put_0 (p1 : Int) (p2 : Int) (p3 : Int) (a : Ob) : rg_X8_put_0 (en_X8_put_0 p1 p2 p3 a) = mg_X8_put_0 p1 p2 p3 a := rfl
set_option maxRecDepth 100000 in
set_option maxHeartbeats 4000000 in
theorem sg_X8_put_0 {X : XDyn} {r0 : Rt} (C : XO X mX8_put) : XS X mX8_put r0 0 (rg_X8_put_0) := by
 unfold rg_X8_put_0
 exact s_aload_n (pc := 0) C dX8_put_0 rfl <|
    s_iload_n (pc := 1) C dX8_put_1 rfl <|
    s_callV (pc := 2) C ct_X8_isFull (n := 2) (rk := 1) (mp := [0]) ⟨rfl, by decide, rfl⟩ (ci := 8) rfl rfl (by decide) (by decide) yi_X8_isFull (by decide) wd_987 wd_989 wd_24 wd_81 wd_990 dX8_put_2 <|
    s_if_eq (pc := 5) C dX8_put_5 (by decide) (s_iconst (pc := 29) C dX8_put_29 <|
    s_ireturn (pc := 30) C rfl dX8_put_30)
    (s_iload_n (pc := 8) C dX8_put_8 rfl <|
    s_i2l (pc := 9) C dX8_put_9 <|
    s_lconst (pc := 10) C dX8_put_10 rfl <|
    s_aload_n (pc := 11) C dX8_put_11 rfl <|
    s_get (pc := 12) C (ci := 8) (kf := 0) rfl inX8 (by decide) wd_871 dX8_put_12 <|
    s_bipush (pc := 15) C dX8_put_15 (by decide) <|
    s_iload_n (pc := 17) C dX8_put_17 rfl <|
    s_iadd (pc := 18) C dX8_put_18 <|
    s_iald (pc := 19) C dX8_put_19 <|
    s_iconst (pc := 20) C dX8_put_20 <|
    s_isub (pc := 21) C dX8_put_21 <|
    s_i2l (pc := 22) C dX8_put_22 <|
    s_callSg (pc := 23) C ct_X8_in (n := 3) (rk := 1) (mp := []) ⟨rfl, by decide, rfl⟩ (by decide) (by decide) ⟨rfl, yi_X8_in⟩ wd_954 wd_955 wd_81 wd_956 dX8_put_23 <|
    s_if_ne (pc := 26) C dX8_put_26 (by decide) (s_aload_n (pc := 31) C dX8_put_31 rfl <|
    s_callVg (pc := 32) C ct_X8_keepsAside (n := 1) (rk := 0) (mp := [0]) ⟨rfl, by decide, rfl⟩ (ci := 8) rfl rfl (by decide) (by decide) yi_X8_keepsAside (by decide) wd_967 wd_969 wd_19 wd_81 wd_970 dX8_put_32 <|
    s_aload_n (pc := 35) C dX8_put_35 rfl <|
    s_get (pc := 36) C (ci := 8) (kf := 0) rfl inX8 (by decide) wd_871 dX8_put_36 <|
    s_bipush (pc := 39) C dX8_put_39 (by decide) <|
    s_bipush (pc := 41) C dX8_put_41 (by decide) <|
    s_iload_n (pc := 43) C dX8_put_43 rfl <|
    s_imul (pc := 44) C dX8_put_44 <|
    s_iadd (pc := 45) C dX8_put_45 <|
    s_iload_n (pc := 46) C dX8_put_46 rfl <|
    s_iadd (pc := 47) C dX8_put_47 <|
    s_iald (pc := 48) C dX8_put_48 <|
    s_istore (pc := 49) C dX8_put_49 <|
    s_aload_n (pc := 51) C dX8_put_51 rfl <|
    s_get (pc := 52) C (ci := 8) (kf := 0) rfl inX8 (by decide) wd_871 dX8_put_52 <|
    s_bipush (pc := 55) C dX8_put_55 (by decide) <|
    s_bipush (pc := 57) C dX8_put_57 (by decide) <|
    s_iload_n (pc := 59) C dX8_put_59 rfl <|
    s_imul (pc := 60) C dX8_put_60 <|
    s_iadd (pc := 61) C dX8_put_61 <|
    s_iload_n (pc := 62) C dX8_put_62 rfl <|
    s_iadd (pc := 63) C dX8_put_63 <|
    s_iload_n (pc := 64) C dX8_put_64 rfl <|
    s_iast (pc := 65) C dX8_put_65 <|
    s_aload_n (pc := 66) C dX8_put_66 rfl <|
    s_callVg (pc := 67) C ct_X8_keepsAct (n := 1) (rk := 0) (mp := [0]) ⟨rfl, by decide, rfl⟩ (ci := 8) rfl rfl (by decide) (by decide) yi_X8_keepsAct (by decide) wd_1113 wd_1115 wd_54 wd_81 wd_1116 dX8_put_67 <|
    s_aload_n (pc := 70) C dX8_put_70 rfl <|
    s_iload_n (pc := 71) C dX8_put_71 rfl <|
    s_callVg (pc := 72) C ct_X8_touches (n := 2) (rk := 0) (mp := [0]) ⟨rfl, by decide, rfl⟩ (ci := 8) rfl rfl (by decide) (by decide) yi_X8_touches (by decide) wd_1117 wd_1119 wd_55 wd_81 wd_1120 dX8_put_72 <|
    s_iload (pc := 75) C dX8_put_75 <|
    s_ireturn (pc := 77) C rfl dX8_put_77)
    (s_iconst (pc := 29) C dX8_put_29 <|
    s_ireturn (pc := 30) C rfl dX8_put_30))
noncomputable def rw_X8_put_0 : XK := rg_X8_put_0
noncomputable def md_X8_put_0 (p1 : Int) (p2 : Int) (p3 : Int) : Ob → Option Rt := mg_X8_put_0 p1 p2 p3
theorem eq_X8_put_0 (p1 : Int) (p2 : Int) (p3 : Int) (a : Ob) : rw_X8_put_0 (en_X8_put_0 p1 p2 p3 a) = md_X8_put_0 p1 p2 p3 a :=
 rq_X8_put_0 p1 p2 p3 a
theorem sd_X8_put_0 {X : XDyn} {r0 : Rt} (C : XO X mX8_put) : XS X mX8_put r0 0 (rw_X8_put_0) := sg_X8_put_0 C
theorem ctr_X8_put : XCt yX8_put mX8_put (xF mX8_put (rw_X8_put_0)) := xMet (by decide +kernel) rfl (fun _ _ C => sd_X8_put_0 C)
theorem eqf_X8_put (p1 : Int) (p2 : Int) (p3 : Int) (h0 : Ob) : xF mX8_put (rw_X8_put_0) [.inr (.inl (0, 0)), .inl p1, .inl p2, .inl p3] [h0] = md_X8_put_0 p1 p2 p3 h0 := eq_X8_put_0 p1 p2 p3 h0
theorem yi_X8_put : yX8_put.cls = RX8 ∧ yX8_put.cls ≠ "java/lang/invoke/MethodHandle" ∧ yX8_put.cls ≠ "java/lang/invoke/VarHandle" ∧ (parseMethodDescriptor yX8_put.desc).map (fun d => d.parameters.length) = some 3 := ⟨rfl, by decide +kernel, by decide +kernel, by decide +kernel⟩
theorem dX8_set_0 : decode cX8_set 0 = .ok (.aload_n 0, 1) := by decide +kernel
theorem dX8_set_1 : decode cX8_set 1 = .ok (.iload_n 1, 1) := by decide +kernel
theorem dX8_set_2 : decode cX8_set 2 = .ok (.invokevirtual 97, 3) := by decide +kernel
theorem dX8_set_5 : decode cX8_set 5 = .ok (.ifCond .eq 24, 3) := by decide +kernel
theorem dX8_set_8 : decode cX8_set 8 = .ok (.iload_n 2, 1) := by decide +kernel
theorem dX8_set_9 : decode cX8_set 9 = .ok (.i2l, 1) := by decide +kernel
theorem dX8_set_10 : decode cX8_set 10 = .ok (.lconst 0, 1) := by decide +kernel
theorem dX8_set_11 : decode cX8_set 11 = .ok (.aload_n 0, 1) := by decide +kernel
theorem dX8_set_12 : decode cX8_set 12 = .ok (.getfield 7, 3) := by decide +kernel
theorem dX8_set_15 : decode cX8_set 15 = .ok (.bipush 69, 2) := by decide +kernel
theorem dX8_set_17 : decode cX8_set 17 = .ok (.iload_n 1, 1) := by decide +kernel
theorem dX8_set_18 : decode cX8_set 18 = .ok (.iadd, 1) := by decide +kernel
theorem dX8_set_19 : decode cX8_set 19 = .ok (.iaload, 1) := by decide +kernel
theorem dX8_set_20 : decode cX8_set 20 = .ok (.iconst 1, 1) := by decide +kernel
theorem dX8_set_21 : decode cX8_set 21 = .ok (.isub, 1) := by decide +kernel
theorem dX8_set_22 : decode cX8_set 22 = .ok (.i2l, 1) := by decide +kernel
theorem dX8_set_23 : decode cX8_set 23 = .ok (.invokestatic 75, 3) := by decide +kernel
theorem dX8_set_26 : decode cX8_set 26 = .ok (.ifCond .ne 5, 3) := by decide +kernel
theorem dX8_set_29 : decode cX8_set 29 = .ok (.iconst 0, 1) := by decide +kernel
theorem dX8_set_30 : decode cX8_set 30 = .ok (.ireturn, 1) := by decide +kernel
theorem dX8_set_31 : decode cX8_set 31 = .ok (.aload_n 0, 1) := by decide +kernel
theorem dX8_set_32 : decode cX8_set 32 = .ok (.invokevirtual 208, 3) := by decide +kernel
theorem dX8_set_35 : decode cX8_set 35 = .ok (.aload_n 0, 1) := by decide +kernel
theorem dX8_set_36 : decode cX8_set 36 = .ok (.getfield 7, 3) := by decide +kernel
theorem dX8_set_39 : decode cX8_set 39 = .ok (.bipush 75, 2) := by decide +kernel
theorem dX8_set_41 : decode cX8_set 41 = .ok (.bipush 60, 2) := by decide +kernel
theorem dX8_set_43 : decode cX8_set 43 = .ok (.bipush 8, 2) := by decide +kernel
theorem dX8_set_45 : decode cX8_set 45 = .ok (.iload_n 1, 1) := by decide +kernel
theorem dX8_set_46 : decode cX8_set 46 = .ok (.iadd, 1) := by decide +kernel
theorem dX8_set_47 : decode cX8_set 47 = .ok (.imul, 1) := by decide +kernel
theorem dX8_set_48 : decode cX8_set 48 = .ok (.iadd, 1) := by decide +kernel
theorem dX8_set_49 : decode cX8_set 49 = .ok (.iload_n 2, 1) := by decide +kernel
theorem dX8_set_50 : decode cX8_set 50 = .ok (.iadd, 1) := by decide +kernel
theorem dX8_set_51 : decode cX8_set 51 = .ok (.iaload, 1) := by decide +kernel
theorem dX8_set_52 : decode cX8_set 52 = .ok (.istore 4, 2) := by decide +kernel
theorem dX8_set_54 : decode cX8_set 54 = .ok (.aload_n 0, 1) := by decide +kernel
theorem dX8_set_55 : decode cX8_set 55 = .ok (.getfield 7, 3) := by decide +kernel
theorem dX8_set_58 : decode cX8_set 58 = .ok (.bipush 75, 2) := by decide +kernel
theorem dX8_set_60 : decode cX8_set 60 = .ok (.bipush 60, 2) := by decide +kernel
theorem dX8_set_62 : decode cX8_set 62 = .ok (.bipush 8, 2) := by decide +kernel
theorem dX8_set_64 : decode cX8_set 64 = .ok (.iload_n 1, 1) := by decide +kernel
theorem dX8_set_65 : decode cX8_set 65 = .ok (.iadd, 1) := by decide +kernel
theorem dX8_set_66 : decode cX8_set 66 = .ok (.imul, 1) := by decide +kernel
theorem dX8_set_67 : decode cX8_set 67 = .ok (.iadd, 1) := by decide +kernel
theorem dX8_set_68 : decode cX8_set 68 = .ok (.iload_n 2, 1) := by decide +kernel
theorem dX8_set_69 : decode cX8_set 69 = .ok (.iadd, 1) := by decide +kernel
theorem dX8_set_70 : decode cX8_set 70 = .ok (.iload_n 3, 1) := by decide +kernel
theorem dX8_set_71 : decode cX8_set 71 = .ok (.iastore, 1) := by decide +kernel
theorem dX8_set_72 : decode cX8_set 72 = .ok (.aload_n 0, 1) := by decide +kernel
theorem dX8_set_73 : decode cX8_set 73 = .ok (.invokevirtual 221, 3) := by decide +kernel
theorem dX8_set_76 : decode cX8_set 76 = .ok (.iload 4, 2) := by decide +kernel
theorem dX8_set_78 : decode cX8_set 78 = .ok (.ireturn, 1) := by decide +kernel
abbrev mX8_set : XM := (cX8_set, 5, RX8, (some .int), shw_8, 1)
noncomputable def rg_X8_set_0 : XK :=
 o_aload 0 <|
 o_iload 1 <|
 o_callV 2 1 [0] f_X8_isIsland <|
 o_if_eq (o_iconst 0 <|
 o_ireturn)
 (o_iload 2 <|
 o_i2l <|
 o_lconst 0 <|
 o_aload 0 <|
 o_get shw_8 8 0 <|
 o_iconst 69 <|
 o_iload 1 <|
 o_iadd <|
 o_iald shw_8 <|
 o_iconst 1 <|
 o_isub <|
 o_i2l <|
 o_callSg 3 1 [] g_X8_in v_X8_in <|
 o_if_ne (o_aload 0 <|
 o_callVg 1 0 [0] g_X8_keepsAside v_X8_keepsAside <|
 o_aload 0 <|
 o_get shw_8 8 0 <|
 o_iconst 75 <|
 o_iconst 60 <|
 o_iconst 8 <|
 o_iload 1 <|
 o_iadd <|
 o_imul <|
 o_iadd <|
 o_iload 2 <|
 o_iadd <|
 o_iald shw_8 <|
 o_istore 4 <|
 o_aload 0 <|
 o_get shw_8 8 0 <|
 o_iconst 75 <|
 o_iconst 60 <|
 o_iconst 8 <|
 o_iload 1 <|
 o_iadd <|
 o_imul <|
 o_iadd <|
 o_iload 2 <|
 o_iadd <|
 o_iload 3 <|
 o_iast shw_8 <|
 o_aload 0 <|
 o_callVg 1 0 [0] g_X8_keepsAct v_X8_keepsAct <|
 o_iload 4 <|
 o_ireturn)
 (o_iconst 0 <|
 o_ireturn))
def en_X8_set_0 (p1 : Int) (p2 : Int) (p3 : Int) (a : Ob) : XSt := ([some (.inr (.inl (0, 0))), some (.inl p1), some (.inl p2), some (.inl p3), none], [], [a])
noncomputable def mg_X8_set_0 (p1 : Int) (p2 : Int) (p3 : Int) (a : Ob) : Option Rt :=
 if xw (bz (islM a p1)) = 0 then (RI 0 [a])
 else (if xin (69 + p1) 735 then (
 if xlr (xw p2) && (xlr (0 : Int) && xlr (xw ((a 1 (xw (69 + p1)).toNat) - 1))) then (
 if xw (bz (inn (xw p2) (0 : Int) (xw ((a 1 (xw (69 + p1)).toNat) - 1)))) = 0 then (RI 0 [a])
 else (if oqV (ov_X8_keepsAside a) then (
 if xin ((75 + (60 * (8 + p1))) + p2) 735 then (
 if xin ((75 + (60 * (8 + p1))) + p2) 735 then (
 if oqV (ov_X8_keepsAct (xset (oqO (ov_X8_keepsAside a) 0) 1 (xw ((75 + (60 * (8 + p1))) + p2)).toNat p3)) then (
 RI ((oqO (ov_X8_keepsAside a) 0) 1 (xw ((75 + (60 * (8 + p1))) + p2)).toNat) [(oqO (ov_X8_keepsAct (xset (oqO (ov_X8_keepsAside a) 0) 1 (xw ((75 + (60 * (8 + p1))) + p2)).toNat p3)) 0)]) else none) else none) else none) else none)) else none) else none)
set_option maxRecDepth 100000 in
set_option maxHeartbeats 4000000 in
theorem rq_X8_set_0 (p1 : Int) (p2 : Int) (p3 : Int) (a : Ob) : rg_X8_set_0 (en_X8_set_0 p1 p2 p3 a) = mg_X8_set_0 p1 p2 p3 a := rfl
set_option maxRecDepth 100000 in
set_option maxHeartbeats 4000000 in
theorem sg_X8_set_0 {X : XDyn} {r0 : Rt} (C : XO X mX8_set) : XS X mX8_set r0 0 (rg_X8_set_0) := by
 unfold rg_X8_set_0
 exact s_aload_n (pc := 0) C dX8_set_0 rfl <|
    s_iload_n (pc := 1) C dX8_set_1 rfl <|
    s_callV (pc := 2) C ct_X8_isIsland (n := 2) (rk := 1) (mp := [0]) ⟨rfl, by decide, rfl⟩ (ci := 8) rfl rfl (by decide) (by decide) yi_X8_isIsland (by decide) wd_998 wd_1000 wd_26 wd_81 wd_1001 dX8_set_2 <|
    s_if_eq (pc := 5) C dX8_set_5 (by decide) (s_iconst (pc := 29) C dX8_set_29 <|
    s_ireturn (pc := 30) C rfl dX8_set_30)
    (s_iload_n (pc := 8) C dX8_set_8 rfl <|
    s_i2l (pc := 9) C dX8_set_9 <|
    s_lconst (pc := 10) C dX8_set_10 rfl <|
    s_aload_n (pc := 11) C dX8_set_11 rfl <|
    s_get (pc := 12) C (ci := 8) (kf := 0) rfl inX8 (by decide) wd_871 dX8_set_12 <|
    s_bipush (pc := 15) C dX8_set_15 (by decide) <|
    s_iload_n (pc := 17) C dX8_set_17 rfl <|
    s_iadd (pc := 18) C dX8_set_18 <|
    s_iald (pc := 19) C dX8_set_19 <|
    s_iconst (pc := 20) C dX8_set_20 <|
    s_isub (pc := 21) C dX8_set_21 <|
    s_i2l (pc := 22) C dX8_set_22 <|
    s_callSg (pc := 23) C ct_X8_in (n := 3) (rk := 1) (mp := []) ⟨rfl, by decide, rfl⟩ (by decide) (by decide) ⟨rfl, yi_X8_in⟩ wd_954 wd_955 wd_81 wd_956 dX8_set_23 <|
    s_if_ne (pc := 26) C dX8_set_26 (by decide) (s_aload_n (pc := 31) C dX8_set_31 rfl <|
    s_callVg (pc := 32) C ct_X8_keepsAside (n := 1) (rk := 0) (mp := [0]) ⟨rfl, by decide, rfl⟩ (ci := 8) rfl rfl (by decide) (by decide) yi_X8_keepsAside (by decide) wd_967 wd_969 wd_19 wd_81 wd_970 dX8_set_32 <|
    s_aload_n (pc := 35) C dX8_set_35 rfl <|
    s_get (pc := 36) C (ci := 8) (kf := 0) rfl inX8 (by decide) wd_871 dX8_set_36 <|
    s_bipush (pc := 39) C dX8_set_39 (by decide) <|
    s_bipush (pc := 41) C dX8_set_41 (by decide) <|
    s_bipush (pc := 43) C dX8_set_43 (by decide) <|
    s_iload_n (pc := 45) C dX8_set_45 rfl <|
    s_iadd (pc := 46) C dX8_set_46 <|
    s_imul (pc := 47) C dX8_set_47 <|
    s_iadd (pc := 48) C dX8_set_48 <|
    s_iload_n (pc := 49) C dX8_set_49 rfl <|
    s_iadd (pc := 50) C dX8_set_50 <|
    s_iald (pc := 51) C dX8_set_51 <|
    s_istore (pc := 52) C dX8_set_52 <|
    s_aload_n (pc := 54) C dX8_set_54 rfl <|
    s_get (pc := 55) C (ci := 8) (kf := 0) rfl inX8 (by decide) wd_871 dX8_set_55 <|
    s_bipush (pc := 58) C dX8_set_58 (by decide) <|
    s_bipush (pc := 60) C dX8_set_60 (by decide) <|
    s_bipush (pc := 62) C dX8_set_62 (by decide) <|
    s_iload_n (pc := 64) C dX8_set_64 rfl <|
    s_iadd (pc := 65) C dX8_set_65 <|
    s_imul (pc := 66) C dX8_set_66 <|
    s_iadd (pc := 67) C dX8_set_67 <|
    s_iload_n (pc := 68) C dX8_set_68 rfl <|
    s_iadd (pc := 69) C dX8_set_69 <|
    s_iload_n (pc := 70) C dX8_set_70 rfl <|
    s_iast (pc := 71) C dX8_set_71 <|
    s_aload_n (pc := 72) C dX8_set_72 rfl <|
    s_callVg (pc := 73) C ct_X8_keepsAct (n := 1) (rk := 0) (mp := [0]) ⟨rfl, by decide, rfl⟩ (ci := 8) rfl rfl (by decide) (by decide) yi_X8_keepsAct (by decide) wd_1113 wd_1115 wd_54 wd_81 wd_1116 dX8_set_73 <|
    s_iload (pc := 76) C dX8_set_76 <|
    s_ireturn (pc := 78) C rfl dX8_set_78)
    (s_iconst (pc := 29) C dX8_set_29 <|
    s_ireturn (pc := 30) C rfl dX8_set_30))
noncomputable def rw_X8_set_0 : XK := rg_X8_set_0
noncomputable def md_X8_set_0 (p1 : Int) (p2 : Int) (p3 : Int) : Ob → Option Rt := mg_X8_set_0 p1 p2 p3
theorem eq_X8_set_0 (p1 : Int) (p2 : Int) (p3 : Int) (a : Ob) : rw_X8_set_0 (en_X8_set_0 p1 p2 p3 a) = md_X8_set_0 p1 p2 p3 a :=
 rq_X8_set_0 p1 p2 p3 a
theorem sd_X8_set_0 {X : XDyn} {r0 : Rt} (C : XO X mX8_set) : XS X mX8_set r0 0 (rw_X8_set_0) := sg_X8_set_0 C
theorem ctr_X8_set : XCt yX8_set mX8_set (xF mX8_set (rw_X8_set_0)) := xMet (by decide +kernel) rfl (fun _ _ C => sd_X8_set_0 C)
theorem eqf_X8_set (p1 : Int) (p2 : Int) (p3 : Int) (h0 : Ob) : xF mX8_set (rw_X8_set_0) [.inr (.inl (0, 0)), .inl p1, .inl p2, .inl p3] [h0] = md_X8_set_0 p1 p2 p3 h0 := eq_X8_set_0 p1 p2 p3 h0
theorem yi_X8_set : yX8_set.cls = RX8 ∧ yX8_set.cls ≠ "java/lang/invoke/MethodHandle" ∧ yX8_set.cls ≠ "java/lang/invoke/VarHandle" ∧ (parseMethodDescriptor yX8_set.desc).map (fun d => d.parameters.length) = some 3 := ⟨rfl, by decide +kernel, by decide +kernel, by decide +kernel⟩
theorem dX8_touch_0 : decode cX8_touch 0 = .ok (.aload_n 0, 1) := by decide +kernel
theorem dX8_touch_1 : decode cX8_touch 1 = .ok (.iload_n 1, 1) := by decide +kernel
theorem dX8_touch_2 : decode cX8_touch 2 = .ok (.invokevirtual 227, 3) := by decide +kernel
theorem dX8_touch_5 : decode cX8_touch 5 = .ok (.ifCond .ne 5, 3) := by decide +kernel
theorem dX8_touch_8 : decode cX8_touch 8 = .ok (.iconst 0, 1) := by decide +kernel
theorem dX8_touch_9 : decode cX8_touch 9 = .ok (.ireturn, 1) := by decide +kernel
theorem dX8_touch_10 : decode cX8_touch 10 = .ok (.aload_n 0, 1) := by decide +kernel
theorem dX8_touch_11 : decode cX8_touch 11 = .ok (.invokevirtual 208, 3) := by decide +kernel
theorem dX8_touch_14 : decode cX8_touch 14 = .ok (.aload_n 0, 1) := by decide +kernel
theorem dX8_touch_15 : decode cX8_touch 15 = .ok (.invokevirtual 221, 3) := by decide +kernel
theorem dX8_touch_18 : decode cX8_touch 18 = .ok (.aload_n 0, 1) := by decide +kernel
theorem dX8_touch_19 : decode cX8_touch 19 = .ok (.iload_n 1, 1) := by decide +kernel
theorem dX8_touch_20 : decode cX8_touch 20 = .ok (.invokevirtual 224, 3) := by decide +kernel
theorem dX8_touch_23 : decode cX8_touch 23 = .ok (.iconst 1, 1) := by decide +kernel
theorem dX8_touch_24 : decode cX8_touch 24 = .ok (.ireturn, 1) := by decide +kernel
abbrev mX8_touch : XM := (cX8_touch, 2, RX8, (some .boolean), shw_8, 2)
noncomputable def rg_X8_touch_0 : XK :=
 o_aload 0 <|
 o_iload 1 <|
 o_callV 2 1 [0] f_X8_isThere <|
 o_if_ne (o_aload 0 <|
 o_callVg 1 0 [0] g_X8_keepsAside v_X8_keepsAside <|
 o_aload 0 <|
 o_callVg 1 0 [0] g_X8_keepsAct v_X8_keepsAct <|
 o_aload 0 <|
 o_iload 1 <|
 o_callVg 2 0 [0] g_X8_touches v_X8_touches <|
 o_iconst 1 <|
 o_zreturn)
 (o_iconst 0 <|
 o_zreturn)
def en_X8_touch_0 (p1 : Int) (a : Ob) : XSt := ([some (.inr (.inl (0, 0))), some (.inl p1)], [], [a])
noncomputable def mg_X8_touch_0 (p1 : Int) (a : Ob) : Option Rt :=
 if xw (bz (thrM a p1)) = 0 then (RI 0 [a])
 else (if oqV (ov_X8_keepsAside a) then (
 if oqV (ov_X8_keepsAct (oqO (ov_X8_keepsAside a) 0)) then (
 if oqV (ov_X8_touches p1 (oqO (ov_X8_keepsAct (oqO (ov_X8_keepsAside a) 0)) 0)) then (
 RI 1 [(oqO (ov_X8_touches p1 (oqO (ov_X8_keepsAct (oqO (ov_X8_keepsAside a) 0)) 0)) 0)]) else none) else none) else none)
set_option maxRecDepth 100000 in
set_option maxHeartbeats 4000000 in
theorem rq_X8_touch_0 (p1 : Int) (a : Ob) : rg_X8_touch_0 (en_X8_touch_0 p1 a) = mg_X8_touch_0 p1 a := rfl
set_option maxRecDepth 100000 in
set_option maxHeartbeats 4000000 in
theorem sg_X8_touch_0 {X : XDyn} {r0 : Rt} (C : XO X mX8_touch) : XS X mX8_touch r0 0 (rg_X8_touch_0) := by
 unfold rg_X8_touch_0
 exact s_aload_n (pc := 0) C dX8_touch_0 rfl <|
    s_iload_n (pc := 1) C dX8_touch_1 rfl <|
    s_callV (pc := 2) C ct_X8_isThere (n := 2) (rk := 1) (mp := [0]) ⟨rfl, by decide, rfl⟩ (ci := 8) rfl rfl (by decide) (by decide) yi_X8_isThere (by decide) wd_1133 wd_1135 wd_56 wd_81 wd_1136 dX8_touch_2 <|
    s_if_ne (pc := 5) C dX8_touch_5 (by decide) (s_aload_n (pc := 10) C dX8_touch_10 rfl <|
    s_callVg (pc := 11) C ct_X8_keepsAside (n := 1) (rk := 0) (mp := [0]) ⟨rfl, by decide, rfl⟩ (ci := 8) rfl rfl (by decide) (by decide) yi_X8_keepsAside (by decide) wd_967 wd_969 wd_19 wd_81 wd_970 dX8_touch_11 <|
    s_aload_n (pc := 14) C dX8_touch_14 rfl <|
    s_callVg (pc := 15) C ct_X8_keepsAct (n := 1) (rk := 0) (mp := [0]) ⟨rfl, by decide, rfl⟩ (ci := 8) rfl rfl (by decide) (by decide) yi_X8_keepsAct (by decide) wd_1113 wd_1115 wd_54 wd_81 wd_1116 dX8_touch_15 <|
    s_aload_n (pc := 18) C dX8_touch_18 rfl <|
    s_iload_n (pc := 19) C dX8_touch_19 rfl <|
    s_callVg (pc := 20) C ct_X8_touches (n := 2) (rk := 0) (mp := [0]) ⟨rfl, by decide, rfl⟩ (ci := 8) rfl rfl (by decide) (by decide) yi_X8_touches (by decide) wd_1117 wd_1119 wd_55 wd_81 wd_1120 dX8_touch_20 <|
    s_iconst (pc := 23) C dX8_touch_23 <|
    s_zreturn (pc := 24) C rfl dX8_touch_24)
    (s_iconst (pc := 8) C dX8_touch_8 <|
    s_zreturn (pc := 9) C rfl dX8_touch_9)
noncomputable def rw_X8_touch_0 : XK := rg_X8_touch_0
noncomputable def md_X8_touch_0 (p1 : Int) : Ob → Option Rt := mg_X8_touch_0 p1
theorem eq_X8_touch_0 (p1 : Int) (a : Ob) : rw_X8_touch_0 (en_X8_touch_0 p1 a) = md_X8_touch_0 p1 a :=
 rq_X8_touch_0 p1 a
theorem sd_X8_touch_0 {X : XDyn} {r0 : Rt} (C : XO X mX8_touch) : XS X mX8_touch r0 0 (rw_X8_touch_0) := sg_X8_touch_0 C
theorem ctr_X8_touch : XCt yX8_touch mX8_touch (xF mX8_touch (rw_X8_touch_0)) := xMet (by decide +kernel) rfl (fun _ _ C => sd_X8_touch_0 C)
theorem eqf_X8_touch (p1 : Int) (h0 : Ob) : xF mX8_touch (rw_X8_touch_0) [.inr (.inl (0, 0)), .inl p1] [h0] = md_X8_touch_0 p1 h0 := eq_X8_touch_0 p1 h0
theorem yi_X8_touch : yX8_touch.cls = RX8 ∧ yX8_touch.cls ≠ "java/lang/invoke/MethodHandle" ∧ yX8_touch.cls ≠ "java/lang/invoke/VarHandle" ∧ (parseMethodDescriptor yX8_touch.desc).map (fun d => d.parameters.length) = some 1 := ⟨rfl, by decide +kernel, by decide +kernel, by decide +kernel⟩
theorem dX8_lock_0 : decode cX8_lock 0 = .ok (.aload_n 0, 1) := by decide +kernel
theorem dX8_lock_1 : decode cX8_lock 1 = .ok (.iload_n 1, 1) := by decide +kernel
theorem dX8_lock_2 : decode cX8_lock 2 = .ok (.invokevirtual 83, 3) := by decide +kernel
theorem dX8_lock_5 : decode cX8_lock 5 = .ok (.ifCond .eq 17, 3) := by decide +kernel
theorem dX8_lock_8 : decode cX8_lock 8 = .ok (.aload_n 0, 1) := by decide +kernel
theorem dX8_lock_9 : decode cX8_lock 9 = .ok (.getfield 7, 3) := by decide +kernel
theorem dX8_lock_12 : decode cX8_lock 12 = .ok (.bipush 29, 2) := by decide +kernel
theorem dX8_lock_14 : decode cX8_lock 14 = .ok (.iload_n 1, 1) := by decide +kernel
theorem dX8_lock_15 : decode cX8_lock 15 = .ok (.iadd, 1) := by decide +kernel
theorem dX8_lock_16 : decode cX8_lock 16 = .ok (.iaload, 1) := by decide +kernel
theorem dX8_lock_17 : decode cX8_lock 17 = .ok (.bipush 7, 2) := by decide +kernel
theorem dX8_lock_19 : decode cX8_lock 19 = .ok (.if_icmp .ne 5, 3) := by decide +kernel
theorem dX8_lock_22 : decode cX8_lock 22 = .ok (.iconst (-1), 1) := by decide +kernel
theorem dX8_lock_23 : decode cX8_lock 23 = .ok (.ireturn, 1) := by decide +kernel
theorem dX8_lock_24 : decode cX8_lock 24 = .ok (.aload_n 0, 1) := by decide +kernel
theorem dX8_lock_25 : decode cX8_lock 25 = .ok (.invokevirtual 208, 3) := by decide +kernel
theorem dX8_lock_28 : decode cX8_lock 28 = .ok (.aload_n 0, 1) := by decide +kernel
theorem dX8_lock_29 : decode cX8_lock 29 = .ok (.getfield 7, 3) := by decide +kernel
theorem dX8_lock_32 : decode cX8_lock 32 = .ok (.bipush 29, 2) := by decide +kernel
theorem dX8_lock_34 : decode cX8_lock 34 = .ok (.iload_n 1, 1) := by decide +kernel
theorem dX8_lock_35 : decode cX8_lock 35 = .ok (.iadd, 1) := by decide +kernel
theorem dX8_lock_36 : decode cX8_lock 36 = .ok (.dup2, 1) := by decide +kernel
theorem dX8_lock_37 : decode cX8_lock 37 = .ok (.iaload, 1) := by decide +kernel
theorem dX8_lock_38 : decode cX8_lock 38 = .ok (.iconst 1, 1) := by decide +kernel
theorem dX8_lock_39 : decode cX8_lock 39 = .ok (.iadd, 1) := by decide +kernel
theorem dX8_lock_40 : decode cX8_lock 40 = .ok (.iastore, 1) := by decide +kernel
theorem dX8_lock_41 : decode cX8_lock 41 = .ok (.aload_n 0, 1) := by decide +kernel
theorem dX8_lock_42 : decode cX8_lock 42 = .ok (.invokevirtual 221, 3) := by decide +kernel
theorem dX8_lock_45 : decode cX8_lock 45 = .ok (.aload_n 0, 1) := by decide +kernel
theorem dX8_lock_46 : decode cX8_lock 46 = .ok (.iload_n 1, 1) := by decide +kernel
theorem dX8_lock_47 : decode cX8_lock 47 = .ok (.invokevirtual 224, 3) := by decide +kernel
theorem dX8_lock_50 : decode cX8_lock 50 = .ok (.aload_n 0, 1) := by decide +kernel
theorem dX8_lock_51 : decode cX8_lock 51 = .ok (.getfield 7, 3) := by decide +kernel
theorem dX8_lock_54 : decode cX8_lock 54 = .ok (.bipush 29, 2) := by decide +kernel
theorem dX8_lock_56 : decode cX8_lock 56 = .ok (.iload_n 1, 1) := by decide +kernel
theorem dX8_lock_57 : decode cX8_lock 57 = .ok (.iadd, 1) := by decide +kernel
theorem dX8_lock_58 : decode cX8_lock 58 = .ok (.iaload, 1) := by decide +kernel
theorem dX8_lock_59 : decode cX8_lock 59 = .ok (.ireturn, 1) := by decide +kernel
abbrev mX8_lock : XM := (cX8_lock, 2, RX8, (some .int), shw_8, 2)
noncomputable def rg_X8_lock_0 : XK :=
 o_aload 0 <|
 o_iload 1 <|
 o_callV 2 1 [0] f_X8_isFull <|
 o_if_eq (o_iconst (-1) <|
 o_ireturn)
 (o_aload 0 <|
 o_get shw_8 8 0 <|
 o_iconst 29 <|
 o_iload 1 <|
 o_iadd <|
 o_iald shw_8 <|
 o_iconst 7 <|
 o_icmp_ne (o_aload 0 <|
 o_callVg 1 0 [0] g_X8_keepsAside v_X8_keepsAside <|
 o_aload 0 <|
 o_get shw_8 8 0 <|
 o_iconst 29 <|
 o_iload 1 <|
 o_iadd <|
 o_dup2 <|
 o_iald shw_8 <|
 o_iconst 1 <|
 o_iadd <|
 o_iast shw_8 <|
 o_aload 0 <|
 o_callVg 1 0 [0] g_X8_keepsAct v_X8_keepsAct <|
 o_aload 0 <|
 o_iload 1 <|
 o_callVg 2 0 [0] g_X8_touches v_X8_touches <|
 o_aload 0 <|
 o_get shw_8 8 0 <|
 o_iconst 29 <|
 o_iload 1 <|
 o_iadd <|
 o_iald shw_8 <|
 o_ireturn)
 (o_iconst (-1) <|
 o_ireturn))
def en_X8_lock_0 (p1 : Int) (a : Ob) : XSt := ([some (.inr (.inl (0, 0))), some (.inl p1)], [], [a])
noncomputable def mg_X8_lock_0 (p1 : Int) (a : Ob) : Option Rt :=
 if xw (bz (fulM a p1)) = 0 then (RI (-1) [a])
 else (if xin (29 + p1) 735 then (
 if xw (a 1 (xw (29 + p1)).toNat) = 7 then (RI (-1) [a])
 else (if oqV (ov_X8_keepsAside a) then (
 if xin (29 + p1) 735 then (
 if xin (29 + p1) 735 then (
 if oqV (ov_X8_keepsAct (xset (oqO (ov_X8_keepsAside a) 0) 1 (xw (29 + p1)).toNat (((oqO (ov_X8_keepsAside a) 0) 1 (xw (29 + p1)).toNat) + 1))) then (
 if oqV (ov_X8_touches p1 (oqO (ov_X8_keepsAct (xset (oqO (ov_X8_keepsAside a) 0) 1 (xw (29 + p1)).toNat (((oqO (ov_X8_keepsAside a) 0) 1 (xw (29 + p1)).toNat) + 1))) 0)) then (
 if xin (29 + p1) 735 then (
 RI ((oqO (ov_X8_touches p1 (oqO (ov_X8_keepsAct (xset (oqO (ov_X8_keepsAside a) 0) 1 (xw (29 + p1)).toNat (((oqO (ov_X8_keepsAside a) 0) 1 (xw (29 + p1)).toNat) + 1))) 0)) 0) 1 (xw (29 + p1)).toNat) [(oqO (ov_X8_touches p1 (oqO (ov_X8_keepsAct (xset (oqO (ov_X8_keepsAside a) 0) 1 (xw (29 + p1)).toNat (((oqO (ov_X8_keepsAside a) 0) 1 (xw (29 + p1)).toNat) + 1))) 0)) 0)]) else none) else none) else none) else none) else none) else none)) else none)
set_option maxRecDepth 100000 in
set_option maxHeartbeats 4000000 in
theorem rq_X8_lock_0 (p1 : Int) (a : Ob) : rg_X8_lock_0 (en_X8_lock_0 p1 a) = mg_X8_lock_0 p1 a := rfl
set_option maxRecDepth 100000 in
set_option maxHeartbeats 4000000 in
theorem sg_X8_lock_0 {X : XDyn} {r0 : Rt} (C : XO X mX8_lock) : XS X mX8_lock r0 0 (rg_X8_lock_0) := by
 unfold rg_X8_lock_0
 exact s_aload_n (pc := 0) C dX8_lock_0 rfl <|
    s_iload_n (pc := 1) C dX8_lock_1 rfl <|
    s_callV (pc := 2) C ct_X8_isFull (n := 2) (rk := 1) (mp := [0]) ⟨rfl, by decide, rfl⟩ (ci := 8) rfl rfl (by decide) (by decide) yi_X8_isFull (by decide) wd_987 wd_989 wd_24 wd_81 wd_990 dX8_lock_2 <|
    s_if_eq (pc := 5) C dX8_lock_5 (by decide) (s_iconst (pc := 22) C dX8_lock_22 <|
    s_ireturn (pc := 23) C rfl dX8_lock_23)
    (s_aload_n (pc := 8) C dX8_lock_8 rfl <|
    s_get (pc := 9) C (ci := 8) (kf := 0) rfl inX8 (by decide) wd_871 dX8_lock_9 <|
    s_bipush (pc := 12) C dX8_lock_12 (by decide) <|
    s_iload_n (pc := 14) C dX8_lock_14 rfl <|
    s_iadd (pc := 15) C dX8_lock_15 <|
    s_iald (pc := 16) C dX8_lock_16 <|
    s_bipush (pc := 17) C dX8_lock_17 (by decide) <|
    s_icmp_ne (pc := 19) C dX8_lock_19 (by decide) (s_aload_n (pc := 24) C dX8_lock_24 rfl <|
    s_callVg (pc := 25) C ct_X8_keepsAside (n := 1) (rk := 0) (mp := [0]) ⟨rfl, by decide, rfl⟩ (ci := 8) rfl rfl (by decide) (by decide) yi_X8_keepsAside (by decide) wd_967 wd_969 wd_19 wd_81 wd_970 dX8_lock_25 <|
    s_aload_n (pc := 28) C dX8_lock_28 rfl <|
    s_get (pc := 29) C (ci := 8) (kf := 0) rfl inX8 (by decide) wd_871 dX8_lock_29 <|
    s_bipush (pc := 32) C dX8_lock_32 (by decide) <|
    s_iload_n (pc := 34) C dX8_lock_34 rfl <|
    s_iadd (pc := 35) C dX8_lock_35 <|
    s_dup2 (pc := 36) C dX8_lock_36 <|
    s_iald (pc := 37) C dX8_lock_37 <|
    s_iconst (pc := 38) C dX8_lock_38 <|
    s_iadd (pc := 39) C dX8_lock_39 <|
    s_iast (pc := 40) C dX8_lock_40 <|
    s_aload_n (pc := 41) C dX8_lock_41 rfl <|
    s_callVg (pc := 42) C ct_X8_keepsAct (n := 1) (rk := 0) (mp := [0]) ⟨rfl, by decide, rfl⟩ (ci := 8) rfl rfl (by decide) (by decide) yi_X8_keepsAct (by decide) wd_1113 wd_1115 wd_54 wd_81 wd_1116 dX8_lock_42 <|
    s_aload_n (pc := 45) C dX8_lock_45 rfl <|
    s_iload_n (pc := 46) C dX8_lock_46 rfl <|
    s_callVg (pc := 47) C ct_X8_touches (n := 2) (rk := 0) (mp := [0]) ⟨rfl, by decide, rfl⟩ (ci := 8) rfl rfl (by decide) (by decide) yi_X8_touches (by decide) wd_1117 wd_1119 wd_55 wd_81 wd_1120 dX8_lock_47 <|
    s_aload_n (pc := 50) C dX8_lock_50 rfl <|
    s_get (pc := 51) C (ci := 8) (kf := 0) rfl inX8 (by decide) wd_871 dX8_lock_51 <|
    s_bipush (pc := 54) C dX8_lock_54 (by decide) <|
    s_iload_n (pc := 56) C dX8_lock_56 rfl <|
    s_iadd (pc := 57) C dX8_lock_57 <|
    s_iald (pc := 58) C dX8_lock_58 <|
    s_ireturn (pc := 59) C rfl dX8_lock_59)
    (s_iconst (pc := 22) C dX8_lock_22 <|
    s_ireturn (pc := 23) C rfl dX8_lock_23))
noncomputable def rw_X8_lock_0 : XK := rg_X8_lock_0
noncomputable def md_X8_lock_0 (p1 : Int) : Ob → Option Rt := mg_X8_lock_0 p1
theorem eq_X8_lock_0 (p1 : Int) (a : Ob) : rw_X8_lock_0 (en_X8_lock_0 p1 a) = md_X8_lock_0 p1 a :=
 rq_X8_lock_0 p1 a
theorem sd_X8_lock_0 {X : XDyn} {r0 : Rt} (C : XO X mX8_lock) : XS X mX8_lock r0 0 (rw_X8_lock_0) := sg_X8_lock_0 C
theorem ctr_X8_lock : XCt yX8_lock mX8_lock (xF mX8_lock (rw_X8_lock_0)) := xMet (by decide +kernel) rfl (fun _ _ C => sd_X8_lock_0 C)
theorem eqf_X8_lock (p1 : Int) (h0 : Ob) : xF mX8_lock (rw_X8_lock_0) [.inr (.inl (0, 0)), .inl p1] [h0] = md_X8_lock_0 p1 h0 := eq_X8_lock_0 p1 h0
theorem yi_X8_lock : yX8_lock.cls = RX8 ∧ yX8_lock.cls ≠ "java/lang/invoke/MethodHandle" ∧ yX8_lock.cls ≠ "java/lang/invoke/VarHandle" ∧ (parseMethodDescriptor yX8_lock.desc).map (fun d => d.parameters.length) = some 1 := ⟨rfl, by decide +kernel, by decide +kernel, by decide +kernel⟩
theorem dX8_unlock_0 : decode cX8_unlock 0 = .ok (.iload_n 1, 1) := by decide +kernel
theorem dX8_unlock_1 : decode cX8_unlock 1 = .ok (.invokestatic 79, 3) := by decide +kernel
theorem dX8_unlock_4 : decode cX8_unlock 4 = .ok (.ifCond .eq 15, 3) := by decide +kernel
theorem dX8_unlock_7 : decode cX8_unlock 7 = .ok (.aload_n 0, 1) := by decide +kernel
theorem dX8_unlock_8 : decode cX8_unlock 8 = .ok (.getfield 7, 3) := by decide +kernel
theorem dX8_unlock_11 : decode cX8_unlock 11 = .ok (.bipush 29, 2) := by decide +kernel
theorem dX8_unlock_13 : decode cX8_unlock 13 = .ok (.iload_n 1, 1) := by decide +kernel
theorem dX8_unlock_14 : decode cX8_unlock 14 = .ok (.iadd, 1) := by decide +kernel
theorem dX8_unlock_15 : decode cX8_unlock 15 = .ok (.iaload, 1) := by decide +kernel
theorem dX8_unlock_16 : decode cX8_unlock 16 = .ok (.ifCond .ne 5, 3) := by decide +kernel
theorem dX8_unlock_19 : decode cX8_unlock 19 = .ok (.iconst (-1), 1) := by decide +kernel
theorem dX8_unlock_20 : decode cX8_unlock 20 = .ok (.ireturn, 1) := by decide +kernel
theorem dX8_unlock_21 : decode cX8_unlock 21 = .ok (.aload_n 0, 1) := by decide +kernel
theorem dX8_unlock_22 : decode cX8_unlock 22 = .ok (.invokevirtual 208, 3) := by decide +kernel
theorem dX8_unlock_25 : decode cX8_unlock 25 = .ok (.aload_n 0, 1) := by decide +kernel
theorem dX8_unlock_26 : decode cX8_unlock 26 = .ok (.getfield 7, 3) := by decide +kernel
theorem dX8_unlock_29 : decode cX8_unlock 29 = .ok (.bipush 29, 2) := by decide +kernel
theorem dX8_unlock_31 : decode cX8_unlock 31 = .ok (.iload_n 1, 1) := by decide +kernel
theorem dX8_unlock_32 : decode cX8_unlock 32 = .ok (.iadd, 1) := by decide +kernel
theorem dX8_unlock_33 : decode cX8_unlock 33 = .ok (.dup2, 1) := by decide +kernel
theorem dX8_unlock_34 : decode cX8_unlock 34 = .ok (.iaload, 1) := by decide +kernel
theorem dX8_unlock_35 : decode cX8_unlock 35 = .ok (.iconst 1, 1) := by decide +kernel
theorem dX8_unlock_36 : decode cX8_unlock 36 = .ok (.isub, 1) := by decide +kernel
theorem dX8_unlock_37 : decode cX8_unlock 37 = .ok (.iastore, 1) := by decide +kernel
theorem dX8_unlock_38 : decode cX8_unlock 38 = .ok (.aload_n 0, 1) := by decide +kernel
theorem dX8_unlock_39 : decode cX8_unlock 39 = .ok (.invokevirtual 221, 3) := by decide +kernel
theorem dX8_unlock_42 : decode cX8_unlock 42 = .ok (.aload_n 0, 1) := by decide +kernel
theorem dX8_unlock_43 : decode cX8_unlock 43 = .ok (.getfield 7, 3) := by decide +kernel
theorem dX8_unlock_46 : decode cX8_unlock 46 = .ok (.bipush 29, 2) := by decide +kernel
theorem dX8_unlock_48 : decode cX8_unlock 48 = .ok (.iload_n 1, 1) := by decide +kernel
theorem dX8_unlock_49 : decode cX8_unlock 49 = .ok (.iadd, 1) := by decide +kernel
theorem dX8_unlock_50 : decode cX8_unlock 50 = .ok (.iaload, 1) := by decide +kernel
theorem dX8_unlock_51 : decode cX8_unlock 51 = .ok (.ireturn, 1) := by decide +kernel
abbrev mX8_unlock : XM := (cX8_unlock, 2, RX8, (some .int), shw_8, 1)
noncomputable def rg_X8_unlock_0 : XK :=
 o_iload 1 <|
 o_callS 1 1 [] f_X8_isHandle <|
 o_if_eq (o_iconst (-1) <|
 o_ireturn)
 (o_aload 0 <|
 o_get shw_8 8 0 <|
 o_iconst 29 <|
 o_iload 1 <|
 o_iadd <|
 o_iald shw_8 <|
 o_if_ne (o_aload 0 <|
 o_callVg 1 0 [0] g_X8_keepsAside v_X8_keepsAside <|
 o_aload 0 <|
 o_get shw_8 8 0 <|
 o_iconst 29 <|
 o_iload 1 <|
 o_iadd <|
 o_dup2 <|
 o_iald shw_8 <|
 o_iconst 1 <|
 o_isub <|
 o_iast shw_8 <|
 o_aload 0 <|
 o_callVg 1 0 [0] g_X8_keepsAct v_X8_keepsAct <|
 o_aload 0 <|
 o_get shw_8 8 0 <|
 o_iconst 29 <|
 o_iload 1 <|
 o_iadd <|
 o_iald shw_8 <|
 o_ireturn)
 (o_iconst (-1) <|
 o_ireturn))
def en_X8_unlock_0 (p1 : Int) (a : Ob) : XSt := ([some (.inr (.inl (0, 0))), some (.inl p1)], [], [a])
noncomputable def mg_X8_unlock_0 (p1 : Int) (a : Ob) : Option Rt :=
 if xw (bz (hdl p1)) = 0 then (RI (-1) [a])
 else (if xin (29 + p1) 735 then (
 if xw (a 1 (xw (29 + p1)).toNat) = 0 then (RI (-1) [a])
 else (if oqV (ov_X8_keepsAside a) then (
 if xin (29 + p1) 735 then (
 if xin (29 + p1) 735 then (
 if oqV (ov_X8_keepsAct (xset (oqO (ov_X8_keepsAside a) 0) 1 (xw (29 + p1)).toNat (((oqO (ov_X8_keepsAside a) 0) 1 (xw (29 + p1)).toNat) - 1))) then (
 if xin (29 + p1) 735 then (
 RI ((oqO (ov_X8_keepsAct (xset (oqO (ov_X8_keepsAside a) 0) 1 (xw (29 + p1)).toNat (((oqO (ov_X8_keepsAside a) 0) 1 (xw (29 + p1)).toNat) - 1))) 0) 1 (xw (29 + p1)).toNat) [(oqO (ov_X8_keepsAct (xset (oqO (ov_X8_keepsAside a) 0) 1 (xw (29 + p1)).toNat (((oqO (ov_X8_keepsAside a) 0) 1 (xw (29 + p1)).toNat) - 1))) 0)]) else none) else none) else none) else none) else none)) else none)
set_option maxRecDepth 100000 in
set_option maxHeartbeats 4000000 in
theorem rq_X8_unlock_0 (p1 : Int) (a : Ob) : rg_X8_unlock_0 (en_X8_unlock_0 p1 a) = mg_X8_unlock_0 p1 a := rfl
set_option maxRecDepth 100000 in
set_option maxHeartbeats 4000000 in
theorem sg_X8_unlock_0 {X : XDyn} {r0 : Rt} (C : XO X mX8_unlock) : XS X mX8_unlock r0 0 (rg_X8_unlock_0) := by
 unfold rg_X8_unlock_0
 exact s_iload_n (pc := 0) C dX8_unlock_0 rfl <|
    s_callS (pc := 1) C ct_X8_isHandle (n := 1) (rk := 1) (mp := []) ⟨rfl, by decide, rfl⟩ (by decide) (by decide) ⟨rfl, yi_X8_isHandle⟩ wd_991 wd_992 wd_81 wd_993 dX8_unlock_1 <|
    s_if_eq (pc := 4) C dX8_unlock_4 (by decide) (s_iconst (pc := 19) C dX8_unlock_19 <|
    s_ireturn (pc := 20) C rfl dX8_unlock_20)
    (s_aload_n (pc := 7) C dX8_unlock_7 rfl <|
    s_get (pc := 8) C (ci := 8) (kf := 0) rfl inX8 (by decide) wd_871 dX8_unlock_8 <|
    s_bipush (pc := 11) C dX8_unlock_11 (by decide) <|
    s_iload_n (pc := 13) C dX8_unlock_13 rfl <|
    s_iadd (pc := 14) C dX8_unlock_14 <|
    s_iald (pc := 15) C dX8_unlock_15 <|
    s_if_ne (pc := 16) C dX8_unlock_16 (by decide) (s_aload_n (pc := 21) C dX8_unlock_21 rfl <|
    s_callVg (pc := 22) C ct_X8_keepsAside (n := 1) (rk := 0) (mp := [0]) ⟨rfl, by decide, rfl⟩ (ci := 8) rfl rfl (by decide) (by decide) yi_X8_keepsAside (by decide) wd_967 wd_969 wd_19 wd_81 wd_970 dX8_unlock_22 <|
    s_aload_n (pc := 25) C dX8_unlock_25 rfl <|
    s_get (pc := 26) C (ci := 8) (kf := 0) rfl inX8 (by decide) wd_871 dX8_unlock_26 <|
    s_bipush (pc := 29) C dX8_unlock_29 (by decide) <|
    s_iload_n (pc := 31) C dX8_unlock_31 rfl <|
    s_iadd (pc := 32) C dX8_unlock_32 <|
    s_dup2 (pc := 33) C dX8_unlock_33 <|
    s_iald (pc := 34) C dX8_unlock_34 <|
    s_iconst (pc := 35) C dX8_unlock_35 <|
    s_isub (pc := 36) C dX8_unlock_36 <|
    s_iast (pc := 37) C dX8_unlock_37 <|
    s_aload_n (pc := 38) C dX8_unlock_38 rfl <|
    s_callVg (pc := 39) C ct_X8_keepsAct (n := 1) (rk := 0) (mp := [0]) ⟨rfl, by decide, rfl⟩ (ci := 8) rfl rfl (by decide) (by decide) yi_X8_keepsAct (by decide) wd_1113 wd_1115 wd_54 wd_81 wd_1116 dX8_unlock_39 <|
    s_aload_n (pc := 42) C dX8_unlock_42 rfl <|
    s_get (pc := 43) C (ci := 8) (kf := 0) rfl inX8 (by decide) wd_871 dX8_unlock_43 <|
    s_bipush (pc := 46) C dX8_unlock_46 (by decide) <|
    s_iload_n (pc := 48) C dX8_unlock_48 rfl <|
    s_iadd (pc := 49) C dX8_unlock_49 <|
    s_iald (pc := 50) C dX8_unlock_50 <|
    s_ireturn (pc := 51) C rfl dX8_unlock_51)
    (s_iconst (pc := 19) C dX8_unlock_19 <|
    s_ireturn (pc := 20) C rfl dX8_unlock_20))
noncomputable def rw_X8_unlock_0 : XK := rg_X8_unlock_0
noncomputable def md_X8_unlock_0 (p1 : Int) : Ob → Option Rt := mg_X8_unlock_0 p1
theorem eq_X8_unlock_0 (p1 : Int) (a : Ob) : rw_X8_unlock_0 (en_X8_unlock_0 p1 a) = md_X8_unlock_0 p1 a :=
 rq_X8_unlock_0 p1 a
theorem sd_X8_unlock_0 {X : XDyn} {r0 : Rt} (C : XO X mX8_unlock) : XS X mX8_unlock r0 0 (rw_X8_unlock_0) := sg_X8_unlock_0 C
theorem ctr_X8_unlock : XCt yX8_unlock mX8_unlock (xF mX8_unlock (rw_X8_unlock_0)) := xMet (by decide +kernel) rfl (fun _ _ C => sd_X8_unlock_0 C)
theorem eqf_X8_unlock (p1 : Int) (h0 : Ob) : xF mX8_unlock (rw_X8_unlock_0) [.inr (.inl (0, 0)), .inl p1] [h0] = md_X8_unlock_0 p1 h0 := eq_X8_unlock_0 p1 h0
theorem yi_X8_unlock : yX8_unlock.cls = RX8 ∧ yX8_unlock.cls ≠ "java/lang/invoke/MethodHandle" ∧ yX8_unlock.cls ≠ "java/lang/invoke/VarHandle" ∧ (parseMethodDescriptor yX8_unlock.desc).map (fun d => d.parameters.length) = some 1 := ⟨rfl, by decide +kernel, by decide +kernel, by decide +kernel⟩
theorem dX8_highest_0 : decode cX8_highest 0 = .ok (.aload_n 0, 1) := by decide +kernel
theorem dX8_highest_1 : decode cX8_highest 1 = .ok (.invokevirtual 109, 3) := by decide +kernel
theorem dX8_highest_4 : decode cX8_highest 4 = .ok (.aload_n 0, 1) := by decide +kernel
theorem dX8_highest_5 : decode cX8_highest 5 = .ok (.aload_n 0, 1) := by decide +kernel
theorem dX8_highest_6 : decode cX8_highest 6 = .ok (.getfield 7, 3) := by decide +kernel
theorem dX8_highest_9 : decode cX8_highest 9 = .ok (.bipush 13, 2) := by decide +kernel
theorem dX8_highest_11 : decode cX8_highest 11 = .ok (.iload_n 1, 1) := by decide +kernel
theorem dX8_highest_12 : decode cX8_highest 12 = .ok (.iadd, 1) := by decide +kernel
theorem dX8_highest_13 : decode cX8_highest 13 = .ok (.iaload, 1) := by decide +kernel
theorem dX8_highest_14 : decode cX8_highest 14 = .ok (.aload_n 0, 1) := by decide +kernel
theorem dX8_highest_15 : decode cX8_highest 15 = .ok (.iload_n 1, 1) := by decide +kernel
theorem dX8_highest_16 : decode cX8_highest 16 = .ok (.invokevirtual 93, 3) := by decide +kernel
theorem dX8_highest_19 : decode cX8_highest 19 = .ok (.iconst 0, 1) := by decide +kernel
theorem dX8_highest_20 : decode cX8_highest 20 = .ok (.invokevirtual 89, 3) := by decide +kernel
theorem dX8_highest_23 : decode cX8_highest 23 = .ok (.iconst 0, 1) := by decide +kernel
theorem dX8_highest_24 : decode cX8_highest 24 = .ok (.istore 4, 2) := by decide +kernel
theorem dX8_highest_26 : decode cX8_highest 26 = .ok (.iconst (-1), 1) := by decide +kernel
theorem dX8_highest_27 : decode cX8_highest 27 = .ok (.istore 5, 2) := by decide +kernel
theorem dX8_highest_29 : decode cX8_highest 29 = .ok (.iconst 0, 1) := by decide +kernel
theorem dX8_highest_30 : decode cX8_highest 30 = .ok (.istore 6, 2) := by decide +kernel
theorem dX8_highest_32 : decode cX8_highest 32 = .ok (.iload 6, 2) := by decide +kernel
theorem dX8_highest_34 : decode cX8_highest 34 = .ok (.aload_n 0, 1) := by decide +kernel
theorem dX8_highest_35 : decode cX8_highest 35 = .ok (.getfield 7, 3) := by decide +kernel
theorem dX8_highest_38 : decode cX8_highest 38 = .ok (.iconst 0, 1) := by decide +kernel
theorem dX8_highest_39 : decode cX8_highest 39 = .ok (.iaload, 1) := by decide +kernel
theorem dX8_highest_40 : decode cX8_highest 40 = .ok (.if_icmp .ge 77, 3) := by decide +kernel
theorem dX8_highest_43 : decode cX8_highest 43 = .ok (.aload_n 0, 1) := by decide +kernel
theorem dX8_highest_44 : decode cX8_highest 44 = .ok (.getfield 19, 3) := by decide +kernel
theorem dX8_highest_47 : decode cX8_highest 47 = .ok (.iload 6, 2) := by decide +kernel
theorem dX8_highest_49 : decode cX8_highest 49 = .ok (.iaload, 1) := by decide +kernel
theorem dX8_highest_50 : decode cX8_highest 50 = .ok (.ifCond .ne 21, 3) := by decide +kernel
theorem dX8_highest_53 : decode cX8_highest 53 = .ok (.iload 6, 2) := by decide +kernel
theorem dX8_highest_55 : decode cX8_highest 55 = .ok (.iload_n 2, 1) := by decide +kernel
theorem dX8_highest_56 : decode cX8_highest 56 = .ok (.if_icmp .lt 11, 3) := by decide +kernel
theorem dX8_highest_59 : decode cX8_highest 59 = .ok (.iload 6, 2) := by decide +kernel
theorem dX8_highest_61 : decode cX8_highest 61 = .ok (.iload_n 2, 1) := by decide +kernel
theorem dX8_highest_62 : decode cX8_highest 62 = .ok (.iload_n 3, 1) := by decide +kernel
theorem dX8_highest_63 : decode cX8_highest 63 = .ok (.iadd, 1) := by decide +kernel
theorem dX8_highest_64 : decode cX8_highest 64 = .ok (.if_icmp .lt 7, 3) := by decide +kernel
theorem dX8_highest_67 : decode cX8_highest 67 = .ok (.iconst 1, 1) := by decide +kernel
theorem dX8_highest_68 : decode cX8_highest 68 = .ok (.goto 4, 3) := by decide +kernel
theorem dX8_highest_71 : decode cX8_highest 71 = .ok (.iconst 0, 1) := by decide +kernel
theorem dX8_highest_72 : decode cX8_highest 72 = .ok (.istore 7, 2) := by decide +kernel
theorem dX8_highest_74 : decode cX8_highest 74 = .ok (.iload 7, 2) := by decide +kernel
theorem dX8_highest_76 : decode cX8_highest 76 = .ok (.ifCond .eq 10, 3) := by decide +kernel
theorem dX8_highest_79 : decode cX8_highest 79 = .ok (.iload 4, 2) := by decide +kernel
theorem dX8_highest_81 : decode cX8_highest 81 = .ok (.iconst 1, 1) := by decide +kernel
theorem dX8_highest_82 : decode cX8_highest 82 = .ok (.iadd, 1) := by decide +kernel
theorem dX8_highest_83 : decode cX8_highest 83 = .ok (.goto 4, 3) := by decide +kernel
theorem dX8_highest_86 : decode cX8_highest 86 = .ok (.iconst 0, 1) := by decide +kernel
theorem dX8_highest_87 : decode cX8_highest 87 = .ok (.istore 4, 2) := by decide +kernel
theorem dX8_highest_89 : decode cX8_highest 89 = .ok (.iload 4, 2) := by decide +kernel
theorem dX8_highest_91 : decode cX8_highest 91 = .ok (.aload_n 0, 1) := by decide +kernel
theorem dX8_highest_92 : decode cX8_highest 92 = .ok (.iload_n 1, 1) := by decide +kernel
theorem dX8_highest_93 : decode cX8_highest 93 = .ok (.invokevirtual 93, 3) := by decide +kernel
theorem dX8_highest_96 : decode cX8_highest 96 = .ok (.if_icmp .lt 15, 3) := by decide +kernel
theorem dX8_highest_99 : decode cX8_highest 99 = .ok (.iload 6, 2) := by decide +kernel
theorem dX8_highest_101 : decode cX8_highest 101 = .ok (.iconst 1, 1) := by decide +kernel
theorem dX8_highest_102 : decode cX8_highest 102 = .ok (.iadd, 1) := by decide +kernel
theorem dX8_highest_103 : decode cX8_highest 103 = .ok (.aload_n 0, 1) := by decide +kernel
theorem dX8_highest_104 : decode cX8_highest 104 = .ok (.iload_n 1, 1) := by decide +kernel
theorem dX8_highest_105 : decode cX8_highest 105 = .ok (.invokevirtual 93, 3) := by decide +kernel
theorem dX8_highest_108 : decode cX8_highest 108 = .ok (.isub, 1) := by decide +kernel
theorem dX8_highest_109 : decode cX8_highest 109 = .ok (.istore 5, 2) := by decide +kernel
theorem dX8_highest_111 : decode cX8_highest 111 = .ok (.iinc 6 1, 3) := by decide +kernel
theorem dX8_highest_114 : decode cX8_highest 114 = .ok (.goto (-82), 3) := by decide +kernel
theorem dX8_highest_117 : decode cX8_highest 117 = .ok (.iload 5, 2) := by decide +kernel
theorem dX8_highest_119 : decode cX8_highest 119 = .ok (.ireturn, 1) := by decide +kernel
abbrev mX8_highest : XM := (cX8_highest, 8, RX8, (some .int), shw_8, 3)
noncomputable def rg_X8_highest_0 (k32 : XK) : XK :=
 o_aload 0 <|
 o_callVg 1 0 [0] g_X8_fillsOwners v_X8_fillsOwners <|
 o_aload 0 <|
 o_aload 0 <|
 o_get shw_8 8 0 <|
 o_iconst 13 <|
 o_iload 1 <|
 o_iadd <|
 o_iald shw_8 <|
 o_aload 0 <|
 o_iload 1 <|
 o_callVg 2 1 [0] g_X8_lengthOf v_X8_lengthOf <|
 o_iconst 0 <|
 o_callVg 4 0 [0] g_X8_lays v_X8_lays <|
 o_iconst 0 <|
 o_istore 4 <|
 o_iconst (-1) <|
 o_istore 5 <|
 o_iconst 0 <|
 o_istore 6 <|
 o_cut [] k32
def en_X8_highest_0 (p1 : Int) (p2 : Int) (p3 : Int) (a : Ob) : XSt := ([some (.inr (.inl (0, 0))), some (.inl p1), some (.inl p2), some (.inl p3), none, none, none, none], [], [a])
noncomputable def rg_X8_highest_32 (k71 : XK) (k67 : XK) : XK :=
 o_iload 6 <|
 o_aload 0 <|
 o_get shw_8 8 0 <|
 o_iconst 0 <|
 o_iald shw_8 <|
 o_icmp_ge (o_iload 5 <|
 o_ireturn)
 (o_aload 0 <|
 o_get shw_8 8 5 <|
 o_iload 6 <|
 o_iald shw_8 <|
 o_if_ne (o_cut [] k71)
 (o_iload 6 <|
 o_iload 2 <|
 o_icmp_lt (o_cut [] k67)
 (o_iload 6 <|
 o_iload 2 <|
 o_iload 3 <|
 o_iadd <|
 o_icmp_lt (o_cut [] k71)
 (o_cut [] k67))))
def en_X8_highest_32 (p1 : Int) (p2 : Int) (p3 : Int) (a : Int × Int × Int × Ob) : XSt := ([some (.inr (.inl (0, 0))), some (.inl p1), some (.inl p2), some (.inl p3), some (.inl a.1), some (.inl a.2.1), some (.inl a.2.2.1), none], [], [a.2.2.2])
noncomputable def rg_X8_highest_67 (k72 : XK) : XK :=
 o_iconst 1 <|
 o_cut [] k72
def en_X8_highest_67 (p1 : Int) (p2 : Int) (p3 : Int) (a : Int × Int × Int × Ob) : XSt := ([some (.inr (.inl (0, 0))), some (.inl p1), some (.inl p2), some (.inl p3), some (.inl a.1), some (.inl a.2.1), some (.inl a.2.2.1), none], [], [a.2.2.2])
noncomputable def rg_X8_highest_71 (k72 : XK) : XK :=
 o_iconst 0 <|
 o_cut [] k72
def en_X8_highest_71 (p1 : Int) (p2 : Int) (p3 : Int) (a : Int × Int × Int × Ob) : XSt := ([some (.inr (.inl (0, 0))), some (.inl p1), some (.inl p2), some (.inl p3), some (.inl a.1), some (.inl a.2.1), some (.inl a.2.2.1), none], [], [a.2.2.2])
noncomputable def rg_X8_highest_72 (k87 : XK) : XK :=
 o_istore 7 <|
 o_iload 7 <|
 o_if_eq (o_iconst 0 <|
 o_cut [4, 7] k87)
 (o_iload 4 <|
 o_iconst 1 <|
 o_iadd <|
 o_cut [4, 7] k87)
def en_X8_highest_72 (p1 : Int) (p2 : Int) (p3 : Int) (a : Int × Int × Int × Int × Ob) : XSt := ([some (.inr (.inl (0, 0))), some (.inl p1), some (.inl p2), some (.inl p3), some (.inl a.1), some (.inl a.2.1), some (.inl a.2.2.1), none], [.inl a.2.2.2.1], [a.2.2.2.2])
noncomputable def rg_X8_highest_87 (k111 : XK) : XK :=
 o_istore 4 <|
 o_iload 4 <|
 o_aload 0 <|
 o_iload 1 <|
 o_callVg 2 1 [0] g_X8_lengthOf v_X8_lengthOf <|
 o_icmp_lt (o_cut [] k111)
 (o_iload 6 <|
 o_iconst 1 <|
 o_iadd <|
 o_aload 0 <|
 o_iload 1 <|
 o_callVg 2 1 [0] g_X8_lengthOf v_X8_lengthOf <|
 o_isub <|
 o_istore 5 <|
 o_cut [] k111)
def en_X8_highest_87 (p1 : Int) (p2 : Int) (p3 : Int) (a : Int × Int × Int × Ob) : XSt := ([some (.inr (.inl (0, 0))), some (.inl p1), some (.inl p2), some (.inl p3), none, some (.inl a.1), some (.inl a.2.1), none], [.inl a.2.2.1], [a.2.2.2])
noncomputable def rg_X8_highest_111 (k32 : XK) : XK :=
 o_iinc 6 1 <|
 o_cut [] k32
def en_X8_highest_111 (p1 : Int) (p2 : Int) (p3 : Int) (a : Int × Int × Int × Ob) : XSt := ([some (.inr (.inl (0, 0))), some (.inl p1), some (.inl p2), some (.inl p3), some (.inl a.1), some (.inl a.2.1), some (.inl a.2.2.1), none], [], [a.2.2.2])
noncomputable def mg_X8_highest_0 (p1 : Int) (p2 : Int) (p3 : Int) (k32 : (Int × Int × Int × Ob) → Option Rt) (a : Ob) : Option Rt :=
 if oqV (ov_X8_fillsOwners a) then (
 if xin (13 + p1) 735 then (
 if hdl p1 then (
 if decide (0 ≤ xw ((oqO (ov_X8_fillsOwners a) 0) 1 (xw (13 + p1)).toNat) ∧ 0 ≤ xw (lenM (oqO (ov_X8_fillsOwners a) 0) p1) ∧ xw ((oqO (ov_X8_fillsOwners a) 0) 1 (xw (13 + p1)).toNat) + xw (lenM (oqO (ov_X8_fillsOwners a) 0) p1) ≤ 200) then (
 k32 (0, (-1), 0, (laM (oqO (ov_X8_fillsOwners a) 0) ((oqO (ov_X8_fillsOwners a) 0) 1 (xw (13 + p1)).toNat) (lenM (oqO (ov_X8_fillsOwners a) 0) p1) (0 : Int)))) else none) else none) else none) else none
set_option maxRecDepth 100000 in
set_option maxHeartbeats 4000000 in
theorem rq_X8_highest_0 (p1 : Int) (p2 : Int) (p3 : Int) (k32 : XK) (a : Ob) : rg_X8_highest_0 k32 (en_X8_highest_0 p1 p2 p3 a) = mg_X8_highest_0 p1 p2 p3 (fun b => k32 (en_X8_highest_32 p1 p2 p3 b)) a := rfl
set_option maxRecDepth 100000 in
set_option maxHeartbeats 4000000 in
theorem sg_X8_highest_0 {X : XDyn} {r0 : Rt} (C : XO X mX8_highest) {k32 : XK} (q32 : XS X mX8_highest r0 32 k32) : XS X mX8_highest r0 0 (rg_X8_highest_0 k32) := by
 unfold rg_X8_highest_0
 exact s_aload_n (pc := 0) C dX8_highest_0 rfl <|
    s_callVg (pc := 1) C ct_X8_fillsOwners (n := 1) (rk := 0) (mp := [0]) ⟨rfl, by decide, rfl⟩ (ci := 8) rfl rfl (by decide) (by decide) yi_X8_fillsOwners (by decide) wd_979 wd_981 wd_22 wd_81 wd_982 dX8_highest_1 <|
    s_aload_n (pc := 4) C dX8_highest_4 rfl <|
    s_aload_n (pc := 5) C dX8_highest_5 rfl <|
    s_get (pc := 6) C (ci := 8) (kf := 0) rfl inX8 (by decide) wd_871 dX8_highest_6 <|
    s_bipush (pc := 9) C dX8_highest_9 (by decide) <|
    s_iload_n (pc := 11) C dX8_highest_11 rfl <|
    s_iadd (pc := 12) C dX8_highest_12 <|
    s_iald (pc := 13) C dX8_highest_13 <|
    s_aload_n (pc := 14) C dX8_highest_14 rfl <|
    s_iload_n (pc := 15) C dX8_highest_15 rfl <|
    s_callVg (pc := 16) C ct_X8_lengthOf (n := 2) (rk := 1) (mp := [0]) ⟨rfl, by decide, rfl⟩ (ci := 8) rfl rfl (by decide) (by decide) yi_X8_lengthOf (by decide) wd_994 wd_996 wd_25 wd_81 wd_997 dX8_highest_16 <|
    s_iconst (pc := 19) C dX8_highest_19 <|
    s_callVg (pc := 20) C ct_X8_lays (n := 4) (rk := 0) (mp := [0]) ⟨rfl, by decide, rfl⟩ (ci := 8) rfl rfl (by decide) (by decide) yi_X8_lays (by decide) wd_983 wd_985 wd_23 wd_81 wd_986 dX8_highest_20 <|
    s_iconst (pc := 23) C dX8_highest_23 <|
    s_istore (pc := 24) C dX8_highest_24 <|
    s_iconst (pc := 26) C dX8_highest_26 <|
    s_istore (pc := 27) C dX8_highest_27 <|
    s_iconst (pc := 29) C dX8_highest_29 <|
    s_istore (pc := 30) C dX8_highest_30 <|
    s_cut q32
noncomputable def mg_X8_highest_32 (p1 : Int) (p2 : Int) (p3 : Int) (k71 : (Int × Int × Int × Ob) → Option Rt) (k67 : (Int × Int × Int × Ob) → Option Rt) (a : Int × Int × Int × Ob) : Option Rt :=
 if xw a.2.2.1 ≥ xw (a.2.2.2 1 0) then (RI a.2.1 [a.2.2.2])
 else (if xin a.2.2.1 200 then (
 if xw (a.2.2.2 4 (xw a.2.2.1).toNat) = 0 then (if xw a.2.2.1 < xw p2 then (k67 (a.1, a.2.1, a.2.2.1, a.2.2.2))
 else (if xw a.2.2.1 < xw (p2 + p3) then (k71 (a.1, a.2.1, a.2.2.1, a.2.2.2))
 else (k67 (a.1, a.2.1, a.2.2.1, a.2.2.2))))
 else (k71 (a.1, a.2.1, a.2.2.1, a.2.2.2))) else none)
set_option maxRecDepth 100000 in
set_option maxHeartbeats 4000000 in
theorem rq_X8_highest_32 (p1 : Int) (p2 : Int) (p3 : Int) (k71 : XK) (k67 : XK) (a : Int × Int × Int × Ob) : rg_X8_highest_32 k71 k67 (en_X8_highest_32 p1 p2 p3 a) = mg_X8_highest_32 p1 p2 p3 (fun b => k71 (en_X8_highest_71 p1 p2 p3 b)) (fun b => k67 (en_X8_highest_67 p1 p2 p3 b)) a := rfl
set_option maxRecDepth 100000 in
set_option maxHeartbeats 4000000 in
theorem sg_X8_highest_32 {X : XDyn} {r0 : Rt} (C : XO X mX8_highest) {k71 : XK} (q71 : XS X mX8_highest r0 71 k71) {k67 : XK} (q67 : XS X mX8_highest r0 67 k67) : XS X mX8_highest r0 32 (rg_X8_highest_32 k71 k67) := by
 unfold rg_X8_highest_32
 exact s_iload (pc := 32) C dX8_highest_32 <|
    s_aload_n (pc := 34) C dX8_highest_34 rfl <|
    s_get (pc := 35) C (ci := 8) (kf := 0) rfl inX8 (by decide) wd_871 dX8_highest_35 <|
    s_iconst (pc := 38) C dX8_highest_38 <|
    s_iald (pc := 39) C dX8_highest_39 <|
    s_icmp_ge (pc := 40) C dX8_highest_40 (by decide) (s_iload (pc := 117) C dX8_highest_117 <|
    s_ireturn (pc := 119) C rfl dX8_highest_119)
    (s_aload_n (pc := 43) C dX8_highest_43 rfl <|
    s_get (pc := 44) C (ci := 8) (kf := 5) rfl inX8 (by decide) wd_876 dX8_highest_44 <|
    s_iload (pc := 47) C dX8_highest_47 <|
    s_iald (pc := 49) C dX8_highest_49 <|
    s_if_ne (pc := 50) C dX8_highest_50 (by decide) (s_cut q71)
    (s_iload (pc := 53) C dX8_highest_53 <|
    s_iload_n (pc := 55) C dX8_highest_55 rfl <|
    s_icmp_lt (pc := 56) C dX8_highest_56 (by decide) (s_cut q67)
    (s_iload (pc := 59) C dX8_highest_59 <|
    s_iload_n (pc := 61) C dX8_highest_61 rfl <|
    s_iload_n (pc := 62) C dX8_highest_62 rfl <|
    s_iadd (pc := 63) C dX8_highest_63 <|
    s_icmp_lt (pc := 64) C dX8_highest_64 (by decide) (s_cut q71)
    (s_cut q67))))
noncomputable def mg_X8_highest_67 (p1 : Int) (p2 : Int) (p3 : Int) (k72 : (Int × Int × Int × Int × Ob) → Option Rt) (a : Int × Int × Int × Ob) : Option Rt :=
 k72 (a.1, a.2.1, a.2.2.1, 1, a.2.2.2)
set_option maxRecDepth 100000 in
set_option maxHeartbeats 4000000 in
theorem rq_X8_highest_67 (p1 : Int) (p2 : Int) (p3 : Int) (k72 : XK) (a : Int × Int × Int × Ob) : rg_X8_highest_67 k72 (en_X8_highest_67 p1 p2 p3 a) = mg_X8_highest_67 p1 p2 p3 (fun b => k72 (en_X8_highest_72 p1 p2 p3 b)) a := rfl
set_option maxRecDepth 100000 in
set_option maxHeartbeats 4000000 in
theorem sg_X8_highest_67 {X : XDyn} {r0 : Rt} (C : XO X mX8_highest) {k72 : XK} (q72 : XS X mX8_highest r0 72 k72) : XS X mX8_highest r0 67 (rg_X8_highest_67 k72) := by
 unfold rg_X8_highest_67
 exact s_iconst (pc := 67) C dX8_highest_67 <|
    s_goto (pc := 68) C dX8_highest_68 (by decide) <|
    s_cut q72
noncomputable def mg_X8_highest_71 (p1 : Int) (p2 : Int) (p3 : Int) (k72 : (Int × Int × Int × Int × Ob) → Option Rt) (a : Int × Int × Int × Ob) : Option Rt :=
 k72 (a.1, a.2.1, a.2.2.1, 0, a.2.2.2)
set_option maxRecDepth 100000 in
set_option maxHeartbeats 4000000 in
theorem rq_X8_highest_71 (p1 : Int) (p2 : Int) (p3 : Int) (k72 : XK) (a : Int × Int × Int × Ob) : rg_X8_highest_71 k72 (en_X8_highest_71 p1 p2 p3 a) = mg_X8_highest_71 p1 p2 p3 (fun b => k72 (en_X8_highest_72 p1 p2 p3 b)) a := rfl
set_option maxRecDepth 100000 in
set_option maxHeartbeats 4000000 in
theorem sg_X8_highest_71 {X : XDyn} {r0 : Rt} (C : XO X mX8_highest) {k72 : XK} (q72 : XS X mX8_highest r0 72 k72) : XS X mX8_highest r0 71 (rg_X8_highest_71 k72) := by
 unfold rg_X8_highest_71
 exact s_iconst (pc := 71) C dX8_highest_71 <|
    s_cut q72
noncomputable def mg_X8_highest_72 (p1 : Int) (p2 : Int) (p3 : Int) (k87 : (Int × Int × Int × Ob) → Option Rt) (a : Int × Int × Int × Int × Ob) : Option Rt :=
 if xw a.2.2.2.1 = 0 then (k87 (a.2.1, a.2.2.1, 0, a.2.2.2.2))
 else (k87 (a.2.1, a.2.2.1, (a.1 + 1), a.2.2.2.2))
set_option maxRecDepth 100000 in
set_option maxHeartbeats 4000000 in
theorem rq_X8_highest_72 (p1 : Int) (p2 : Int) (p3 : Int) (k87 : XK) (a : Int × Int × Int × Int × Ob) : rg_X8_highest_72 k87 (en_X8_highest_72 p1 p2 p3 a) = mg_X8_highest_72 p1 p2 p3 (fun b => k87 (en_X8_highest_87 p1 p2 p3 b)) a := rfl
set_option maxRecDepth 100000 in
set_option maxHeartbeats 4000000 in
theorem sg_X8_highest_72 {X : XDyn} {r0 : Rt} (C : XO X mX8_highest) {k87 : XK} (q87 : XS X mX8_highest r0 87 k87) : XS X mX8_highest r0 72 (rg_X8_highest_72 k87) := by
 unfold rg_X8_highest_72
 exact s_istore (pc := 72) C dX8_highest_72 <|
    s_iload (pc := 74) C dX8_highest_74 <|
    s_if_eq (pc := 76) C dX8_highest_76 (by decide) (s_iconst (pc := 86) C dX8_highest_86 <|
    s_cut q87)
    (s_iload (pc := 79) C dX8_highest_79 <|
    s_iconst (pc := 81) C dX8_highest_81 <|
    s_iadd (pc := 82) C dX8_highest_82 <|
    s_goto (pc := 83) C dX8_highest_83 (by decide) <|
    s_cut q87)
noncomputable def mg_X8_highest_87 (p1 : Int) (p2 : Int) (p3 : Int) (k111 : (Int × Int × Int × Ob) → Option Rt) (a : Int × Int × Int × Ob) : Option Rt :=
 if hdl p1 then (
 if xw a.2.2.1 < xw (lenM a.2.2.2 p1) then (k111 (a.2.2.1, a.1, a.2.1, a.2.2.2))
 else (if hdl p1 then (
 k111 (a.2.2.1, ((a.2.1 + 1) - (lenM a.2.2.2 p1)), a.2.1, a.2.2.2)) else none)) else none
set_option maxRecDepth 100000 in
set_option maxHeartbeats 4000000 in
theorem rq_X8_highest_87 (p1 : Int) (p2 : Int) (p3 : Int) (k111 : XK) (a : Int × Int × Int × Ob) : rg_X8_highest_87 k111 (en_X8_highest_87 p1 p2 p3 a) = mg_X8_highest_87 p1 p2 p3 (fun b => k111 (en_X8_highest_111 p1 p2 p3 b)) a := rfl
set_option maxRecDepth 100000 in
set_option maxHeartbeats 4000000 in
theorem sg_X8_highest_87 {X : XDyn} {r0 : Rt} (C : XO X mX8_highest) {k111 : XK} (q111 : XS X mX8_highest r0 111 k111) : XS X mX8_highest r0 87 (rg_X8_highest_87 k111) := by
 unfold rg_X8_highest_87
 exact s_istore (pc := 87) C dX8_highest_87 <|
    s_iload (pc := 89) C dX8_highest_89 <|
    s_aload_n (pc := 91) C dX8_highest_91 rfl <|
    s_iload_n (pc := 92) C dX8_highest_92 rfl <|
    s_callVg (pc := 93) C ct_X8_lengthOf (n := 2) (rk := 1) (mp := [0]) ⟨rfl, by decide, rfl⟩ (ci := 8) rfl rfl (by decide) (by decide) yi_X8_lengthOf (by decide) wd_994 wd_996 wd_25 wd_81 wd_997 dX8_highest_93 <|
    s_icmp_lt (pc := 96) C dX8_highest_96 (by decide) (s_cut q111)
    (s_iload (pc := 99) C dX8_highest_99 <|
    s_iconst (pc := 101) C dX8_highest_101 <|
    s_iadd (pc := 102) C dX8_highest_102 <|
    s_aload_n (pc := 103) C dX8_highest_103 rfl <|
    s_iload_n (pc := 104) C dX8_highest_104 rfl <|
    s_callVg (pc := 105) C ct_X8_lengthOf (n := 2) (rk := 1) (mp := [0]) ⟨rfl, by decide, rfl⟩ (ci := 8) rfl rfl (by decide) (by decide) yi_X8_lengthOf (by decide) wd_994 wd_996 wd_25 wd_81 wd_997 dX8_highest_105 <|
    s_isub (pc := 108) C dX8_highest_108 <|
    s_istore (pc := 109) C dX8_highest_109 <|
    s_cut q111)
noncomputable def mg_X8_highest_111 (p1 : Int) (p2 : Int) (p3 : Int) (k32 : (Int × Int × Int × Ob) → Option Rt) (a : Int × Int × Int × Ob) : Option Rt :=
 k32 (a.1, a.2.1, (a.2.2.1 + 1), a.2.2.2)
set_option maxRecDepth 100000 in
set_option maxHeartbeats 4000000 in
theorem rq_X8_highest_111 (p1 : Int) (p2 : Int) (p3 : Int) (k32 : XK) (a : Int × Int × Int × Ob) : rg_X8_highest_111 k32 (en_X8_highest_111 p1 p2 p3 a) = mg_X8_highest_111 p1 p2 p3 (fun b => k32 (en_X8_highest_32 p1 p2 p3 b)) a := rfl
set_option maxRecDepth 100000 in
set_option maxHeartbeats 4000000 in
theorem sg_X8_highest_111 {X : XDyn} {r0 : Rt} (C : XO X mX8_highest) {k32 : XK} (q32 : XS X mX8_highest r0 32 k32) : XS X mX8_highest r0 111 (rg_X8_highest_111 k32) := by
 unfold rg_X8_highest_111
 exact s_iinc (pc := 111) C dX8_highest_111 <|
    s_goto (pc := 114) C dX8_highest_114 (by decide) <|
    s_cut q32
noncomputable def rw_X8_highest_111 (f : Nat) (k32 : XK) : XK := rg_X8_highest_111 k32
noncomputable def md_X8_highest_111 (p1 : Int) (p2 : Int) (p3 : Int) (f : Nat) (k32 : (Int × Int × Int × Ob) → Option Rt) : Int × Int × Int × Ob → Option Rt := mg_X8_highest_111 p1 p2 p3 k32
theorem eq_X8_highest_111 (p1 : Int) (p2 : Int) (p3 : Int) (f : Nat) (k32 : XK) (a : Int × Int × Int × Ob) : rw_X8_highest_111 f k32 (en_X8_highest_111 p1 p2 p3 a) = md_X8_highest_111 p1 p2 p3 f (fun b => k32 (en_X8_highest_32 p1 p2 p3 b)) a :=
 (rq_X8_highest_111 p1 p2 p3 k32 a).trans (congrFun (congr (rfl : mg_X8_highest_111 p1 p2 p3 = mg_X8_highest_111 p1 p2 p3) rfl) a)
theorem sd_X8_highest_111 (f : Nat) {X : XDyn} {r0 : Rt} (C : XO X mX8_highest) {k32 : XK} (q32 : XS X mX8_highest r0 32 k32) : XS X mX8_highest r0 111 (rw_X8_highest_111 f k32) := sg_X8_highest_111 C q32
noncomputable def rw_X8_highest_87 (f : Nat) (k32 : XK) : XK := rg_X8_highest_87 (rw_X8_highest_111 f k32)
noncomputable def md_X8_highest_87 (p1 : Int) (p2 : Int) (p3 : Int) (f : Nat) (k32 : (Int × Int × Int × Ob) → Option Rt) : Int × Int × Int × Ob → Option Rt := mg_X8_highest_87 p1 p2 p3 (md_X8_highest_111 p1 p2 p3 f k32)
theorem eq_X8_highest_87 (p1 : Int) (p2 : Int) (p3 : Int) (f : Nat) (k32 : XK) (a : Int × Int × Int × Ob) : rw_X8_highest_87 f k32 (en_X8_highest_87 p1 p2 p3 a) = md_X8_highest_87 p1 p2 p3 f (fun b => k32 (en_X8_highest_32 p1 p2 p3 b)) a :=
 (rq_X8_highest_87 p1 p2 p3 (rw_X8_highest_111 f k32) a).trans (congrFun (congr (rfl : mg_X8_highest_87 p1 p2 p3 = mg_X8_highest_87 p1 p2 p3) (funext (eq_X8_highest_111 p1 p2 p3 f k32))) a)
theorem sd_X8_highest_87 (f : Nat) {X : XDyn} {r0 : Rt} (C : XO X mX8_highest) {k32 : XK} (q32 : XS X mX8_highest r0 32 k32) : XS X mX8_highest r0 87 (rw_X8_highest_87 f k32) := sg_X8_highest_87 C (sd_X8_highest_111 f C q32)
noncomputable def rw_X8_highest_72 (f : Nat) (k32 : XK) : XK := rg_X8_highest_72 (rw_X8_highest_87 f k32)
noncomputable def md_X8_highest_72 (p1 : Int) (p2 : Int) (p3 : Int) (f : Nat) (k32 : (Int × Int × Int × Ob) → Option Rt) : Int × Int × Int × Int × Ob → Option Rt := mg_X8_highest_72 p1 p2 p3 (md_X8_highest_87 p1 p2 p3 f k32)
theorem eq_X8_highest_72 (p1 : Int) (p2 : Int) (p3 : Int) (f : Nat) (k32 : XK) (a : Int × Int × Int × Int × Ob) : rw_X8_highest_72 f k32 (en_X8_highest_72 p1 p2 p3 a) = md_X8_highest_72 p1 p2 p3 f (fun b => k32 (en_X8_highest_32 p1 p2 p3 b)) a :=
 (rq_X8_highest_72 p1 p2 p3 (rw_X8_highest_87 f k32) a).trans (congrFun (congr (rfl : mg_X8_highest_72 p1 p2 p3 = mg_X8_highest_72 p1 p2 p3) (funext (eq_X8_highest_87 p1 p2 p3 f k32))) a)
theorem sd_X8_highest_72 (f : Nat) {X : XDyn} {r0 : Rt} (C : XO X mX8_highest) {k32 : XK} (q32 : XS X mX8_highest r0 32 k32) : XS X mX8_highest r0 72 (rw_X8_highest_72 f k32) := sg_X8_highest_72 C (sd_X8_highest_87 f C q32)
noncomputable def rw_X8_highest_71 (f : Nat) (k32 : XK) : XK := rg_X8_highest_71 (rw_X8_highest_72 f k32)
noncomputable def md_X8_highest_71 (p1 : Int) (p2 : Int) (p3 : Int) (f : Nat) (k32 : (Int × Int × Int × Ob) → Option Rt) : Int × Int × Int × Ob → Option Rt := mg_X8_highest_71 p1 p2 p3 (md_X8_highest_72 p1 p2 p3 f k32)
theorem eq_X8_highest_71 (p1 : Int) (p2 : Int) (p3 : Int) (f : Nat) (k32 : XK) (a : Int × Int × Int × Ob) : rw_X8_highest_71 f k32 (en_X8_highest_71 p1 p2 p3 a) = md_X8_highest_71 p1 p2 p3 f (fun b => k32 (en_X8_highest_32 p1 p2 p3 b)) a :=
 (rq_X8_highest_71 p1 p2 p3 (rw_X8_highest_72 f k32) a).trans (congrFun (congr (rfl : mg_X8_highest_71 p1 p2 p3 = mg_X8_highest_71 p1 p2 p3) (funext (eq_X8_highest_72 p1 p2 p3 f k32))) a)
theorem sd_X8_highest_71 (f : Nat) {X : XDyn} {r0 : Rt} (C : XO X mX8_highest) {k32 : XK} (q32 : XS X mX8_highest r0 32 k32) : XS X mX8_highest r0 71 (rw_X8_highest_71 f k32) := sg_X8_highest_71 C (sd_X8_highest_72 f C q32)
noncomputable def rw_X8_highest_67 (f : Nat) (k32 : XK) : XK := rg_X8_highest_67 (rw_X8_highest_72 f k32)
noncomputable def md_X8_highest_67 (p1 : Int) (p2 : Int) (p3 : Int) (f : Nat) (k32 : (Int × Int × Int × Ob) → Option Rt) : Int × Int × Int × Ob → Option Rt := mg_X8_highest_67 p1 p2 p3 (md_X8_highest_72 p1 p2 p3 f k32)
theorem eq_X8_highest_67 (p1 : Int) (p2 : Int) (p3 : Int) (f : Nat) (k32 : XK) (a : Int × Int × Int × Ob) : rw_X8_highest_67 f k32 (en_X8_highest_67 p1 p2 p3 a) = md_X8_highest_67 p1 p2 p3 f (fun b => k32 (en_X8_highest_32 p1 p2 p3 b)) a :=
 (rq_X8_highest_67 p1 p2 p3 (rw_X8_highest_72 f k32) a).trans (congrFun (congr (rfl : mg_X8_highest_67 p1 p2 p3 = mg_X8_highest_67 p1 p2 p3) (funext (eq_X8_highest_72 p1 p2 p3 f k32))) a)
theorem sd_X8_highest_67 (f : Nat) {X : XDyn} {r0 : Rt} (C : XO X mX8_highest) {k32 : XK} (q32 : XS X mX8_highest r0 32 k32) : XS X mX8_highest r0 67 (rw_X8_highest_67 f k32) := sg_X8_highest_67 C (sd_X8_highest_72 f C q32)
noncomputable def rw_X8_highest_32 (f : Nat) : XK := tlp (fun k32 => rg_X8_highest_32 (rw_X8_highest_71 f k32) (rw_X8_highest_67 f k32)) f
noncomputable def lb_X8_highest_32 (p1 : Int) (p2 : Int) (p3 : Int) (f : Nat) : ((Int × Int × Int × Ob) → Option Rt) → Int × Int × Int × Ob → Option Rt := fun k32 => mg_X8_highest_32 p1 p2 p3 (md_X8_highest_71 p1 p2 p3 f k32) (md_X8_highest_67 p1 p2 p3 f k32)
noncomputable def md_X8_highest_32 (p1 : Int) (p2 : Int) (p3 : Int) (f : Nat) : Int × Int × Int × Ob → Option Rt := tlp (lb_X8_highest_32 p1 p2 p3 f) f
theorem eq_X8_highest_32 (p1 : Int) (p2 : Int) (p3 : Int) (f : Nat) (a : Int × Int × Int × Ob) : rw_X8_highest_32 f (en_X8_highest_32 p1 p2 p3 a) = md_X8_highest_32 p1 p2 p3 f a :=
 tlp_enc (en_X8_highest_32 p1 p2 p3) (fun k32 a => (rq_X8_highest_32 p1 p2 p3 (rw_X8_highest_71 f k32) (rw_X8_highest_67 f k32) a).trans (congrFun (congr (congr (rfl : mg_X8_highest_32 p1 p2 p3 = mg_X8_highest_32 p1 p2 p3) (funext (eq_X8_highest_71 p1 p2 p3 f k32))) (funext (eq_X8_highest_67 p1 p2 p3 f k32))) a)) f a
theorem sd_X8_highest_32 (f : Nat) {X : XDyn} {r0 : Rt} (C : XO X mX8_highest) : XS X mX8_highest r0 32 (rw_X8_highest_32 f) := s_lp (fun k32 q32 => sg_X8_highest_32 C (sd_X8_highest_71 f C q32) (sd_X8_highest_67 f C q32)) f
noncomputable def rw_X8_highest_0 (f : Nat) : XK := rg_X8_highest_0 (rw_X8_highest_32 f)
noncomputable def md_X8_highest_0 (p1 : Int) (p2 : Int) (p3 : Int) (f : Nat) : Ob → Option Rt := mg_X8_highest_0 p1 p2 p3 (md_X8_highest_32 p1 p2 p3 f)
theorem eq_X8_highest_0 (p1 : Int) (p2 : Int) (p3 : Int) (f : Nat) (a : Ob) : rw_X8_highest_0 f (en_X8_highest_0 p1 p2 p3 a) = md_X8_highest_0 p1 p2 p3 f a :=
 (rq_X8_highest_0 p1 p2 p3 (rw_X8_highest_32 f) a).trans (congrFun (congr (rfl : mg_X8_highest_0 p1 p2 p3 = mg_X8_highest_0 p1 p2 p3) (funext (eq_X8_highest_32 p1 p2 p3 f))) a)
theorem sd_X8_highest_0 (f : Nat) {X : XDyn} {r0 : Rt} (C : XO X mX8_highest) : XS X mX8_highest r0 0 (rw_X8_highest_0 f) := sg_X8_highest_0 C (sd_X8_highest_32 f C)
theorem ctr_X8_highest (f : Nat) : XCt yX8_highest mX8_highest (xF mX8_highest (rw_X8_highest_0 f)) := xMet (by decide +kernel) rfl (fun _ _ C => sd_X8_highest_0 f C)
theorem eqf_X8_highest (f : Nat) (p1 : Int) (p2 : Int) (p3 : Int) (h0 : Ob) : xF mX8_highest (rw_X8_highest_0 f) [.inr (.inl (0, 0)), .inl p1, .inl p2, .inl p3] [h0] = md_X8_highest_0 p1 p2 p3 f h0 := eq_X8_highest_0 p1 p2 p3 f h0
theorem yi_X8_highest : yX8_highest.cls = RX8 ∧ yX8_highest.cls ≠ "java/lang/invoke/MethodHandle" ∧ yX8_highest.cls ≠ "java/lang/invoke/VarHandle" ∧ (parseMethodDescriptor yX8_highest.desc).map (fun d => d.parameters.length) = some 3 := ⟨rfl, by decide +kernel, by decide +kernel, by decide +kernel⟩
noncomputable def ov_X8_highest (p1 p2 p3 : Int) (h0 : Ob) : Option Rt := xop (md_X8_highest_0 p1 p2 p3 xfu h0)
theorem ov_X8_highest_e (p1 p2 p3 : Int) (h0 : Ob) : ov_X8_highest p1 p2 p3 h0 = md_X8_highest_0 p1 p2 p3 xfu h0 := xop_eq _
theorem sp_X8_highest (p1 p2 p3 : Int) (h0 : Ob) (hg : oqI (ov_X8_highest p1 p2 p3 h0) = true) : md_X8_highest_0 p1 p2 p3 xfu h0 = RI (oqR (ov_X8_highest p1 p2 p3 h0)) [(oqO (ov_X8_highest p1 p2 p3 h0) 0)] := (ov_X8_highest_e p1 p2 p3 h0).symm.trans (oqI_eq hg)
noncomputable def g_X8_highest : List AV → List Ob → Bool
  | [.inr (.inl (0, 0)), .inl p1, .inl p2, .inl p3], [h0] => oqI (ov_X8_highest p1 p2 p3 h0)
  | _, _ => false
noncomputable def v_X8_highest : List AV → List Ob → Rt
  | [.inr (.inl (0, 0)), .inl p1, .inl p2, .inl p3], [h0] => (some (.inl (oqR (ov_X8_highest p1 p2 p3 h0))), [(oqO (ov_X8_highest p1 p2 p3 h0) 0)])
  | _, _ => (none, [])
theorem ct_X8_highest : XCt yX8_highest mX8_highest (fun as μ => if g_X8_highest as μ then some (v_X8_highest as μ) else none) := (ctr_X8_highest xfu).of (fun as μ r h => by
  split at h
  · rename_i hg
    unfold g_X8_highest at hg
    split at hg
    · rw [← h]
      exact (eqf_X8_highest xfu _ _ _ _).trans (sp_X8_highest _ _ _ _ hg)
    · cases hg
  · cases h)
theorem dX8_high_0 : decode cX8_high 0 = .ok (.aload_n 0, 1) := by decide +kernel
theorem dX8_high_1 : decode cX8_high 1 = .ok (.iload_n 1, 1) := by decide +kernel
theorem dX8_high_2 : decode cX8_high 2 = .ok (.invokevirtual 86, 3) := by decide +kernel
theorem dX8_high_5 : decode cX8_high 5 = .ok (.ifCond .ne 5, 3) := by decide +kernel
theorem dX8_high_8 : decode cX8_high 8 = .ok (.iconst (-1), 1) := by decide +kernel
theorem dX8_high_9 : decode cX8_high 9 = .ok (.ireturn, 1) := by decide +kernel
theorem dX8_high_10 : decode cX8_high 10 = .ok (.aload_n 0, 1) := by decide +kernel
theorem dX8_high_11 : decode cX8_high 11 = .ok (.invokevirtual 208, 3) := by decide +kernel
theorem dX8_high_14 : decode cX8_high 14 = .ok (.aload_n 0, 1) := by decide +kernel
theorem dX8_high_15 : decode cX8_high 15 = .ok (.getfield 7, 3) := by decide +kernel
theorem dX8_high_18 : decode cX8_high 18 = .ok (.bipush 13, 2) := by decide +kernel
theorem dX8_high_20 : decode cX8_high 20 = .ok (.iload_n 1, 1) := by decide +kernel
theorem dX8_high_21 : decode cX8_high 21 = .ok (.iadd, 1) := by decide +kernel
theorem dX8_high_22 : decode cX8_high 22 = .ok (.aload_n 0, 1) := by decide +kernel
theorem dX8_high_23 : decode cX8_high 23 = .ok (.iload_n 1, 1) := by decide +kernel
theorem dX8_high_24 : decode cX8_high 24 = .ok (.iconst 0, 1) := by decide +kernel
theorem dX8_high_25 : decode cX8_high 25 = .ok (.iconst 0, 1) := by decide +kernel
theorem dX8_high_26 : decode cX8_high 26 = .ok (.invokevirtual 230, 3) := by decide +kernel
theorem dX8_high_29 : decode cX8_high 29 = .ok (.iastore, 1) := by decide +kernel
theorem dX8_high_30 : decode cX8_high 30 = .ok (.aload_n 0, 1) := by decide +kernel
theorem dX8_high_31 : decode cX8_high 31 = .ok (.getfield 7, 3) := by decide +kernel
theorem dX8_high_34 : decode cX8_high 34 = .ok (.bipush 29, 2) := by decide +kernel
theorem dX8_high_36 : decode cX8_high 36 = .ok (.iload_n 1, 1) := by decide +kernel
theorem dX8_high_37 : decode cX8_high 37 = .ok (.iadd, 1) := by decide +kernel
theorem dX8_high_38 : decode cX8_high 38 = .ok (.iconst 1, 1) := by decide +kernel
theorem dX8_high_39 : decode cX8_high 39 = .ok (.iastore, 1) := by decide +kernel
theorem dX8_high_40 : decode cX8_high 40 = .ok (.aload_n 0, 1) := by decide +kernel
theorem dX8_high_41 : decode cX8_high 41 = .ok (.invokevirtual 221, 3) := by decide +kernel
theorem dX8_high_44 : decode cX8_high 44 = .ok (.aload_n 0, 1) := by decide +kernel
theorem dX8_high_45 : decode cX8_high 45 = .ok (.iload_n 1, 1) := by decide +kernel
theorem dX8_high_46 : decode cX8_high 46 = .ok (.invokevirtual 224, 3) := by decide +kernel
theorem dX8_high_49 : decode cX8_high 49 = .ok (.aload_n 0, 1) := by decide +kernel
theorem dX8_high_50 : decode cX8_high 50 = .ok (.getfield 7, 3) := by decide +kernel
theorem dX8_high_53 : decode cX8_high 53 = .ok (.bipush 13, 2) := by decide +kernel
theorem dX8_high_55 : decode cX8_high 55 = .ok (.iload_n 1, 1) := by decide +kernel
theorem dX8_high_56 : decode cX8_high 56 = .ok (.iadd, 1) := by decide +kernel
theorem dX8_high_57 : decode cX8_high 57 = .ok (.iaload, 1) := by decide +kernel
theorem dX8_high_58 : decode cX8_high 58 = .ok (.ireturn, 1) := by decide +kernel
abbrev mX8_high : XM := (cX8_high, 2, RX8, (some .int), shw_8, 4)
noncomputable def rg_X8_high_0 : XK :=
 o_aload 0 <|
 o_iload 1 <|
 o_callV 2 1 [0] f_X8_isLoose <|
 o_if_ne (o_aload 0 <|
 o_callVg 1 0 [0] g_X8_keepsAside v_X8_keepsAside <|
 o_aload 0 <|
 o_get shw_8 8 0 <|
 o_iconst 13 <|
 o_iload 1 <|
 o_iadd <|
 o_aload 0 <|
 o_iload 1 <|
 o_iconst 0 <|
 o_iconst 0 <|
 o_callVg 4 1 [0] g_X8_highest v_X8_highest <|
 o_iast shw_8 <|
 o_aload 0 <|
 o_get shw_8 8 0 <|
 o_iconst 29 <|
 o_iload 1 <|
 o_iadd <|
 o_iconst 1 <|
 o_iast shw_8 <|
 o_aload 0 <|
 o_callVg 1 0 [0] g_X8_keepsAct v_X8_keepsAct <|
 o_aload 0 <|
 o_iload 1 <|
 o_callVg 2 0 [0] g_X8_touches v_X8_touches <|
 o_aload 0 <|
 o_get shw_8 8 0 <|
 o_iconst 13 <|
 o_iload 1 <|
 o_iadd <|
 o_iald shw_8 <|
 o_ireturn)
 (o_iconst (-1) <|
 o_ireturn)
def en_X8_high_0 (p1 : Int) (a : Ob) : XSt := ([some (.inr (.inl (0, 0))), some (.inl p1)], [], [a])
noncomputable def mg_X8_high_0 (p1 : Int) (a : Ob) : Option Rt :=
 if xw (bz (looM a p1)) = 0 then (RI (-1) [a])
 else (if oqV (ov_X8_keepsAside a) then (
 if oqI (ov_X8_highest p1 (0 : Int) (0 : Int) (oqO (ov_X8_keepsAside a) 0)) then (
 if xin (13 + p1) 735 then (
 if xin (29 + p1) 735 then (
 if oqV (ov_X8_keepsAct (xset (xset (oqO (ov_X8_highest p1 (0 : Int) (0 : Int) (oqO (ov_X8_keepsAside a) 0)) 0) 1 (xw (13 + p1)).toNat (oqR (ov_X8_highest p1 (0 : Int) (0 : Int) (oqO (ov_X8_keepsAside a) 0)))) 1 (xw (29 + p1)).toNat 1)) then (
 if oqV (ov_X8_touches p1 (oqO (ov_X8_keepsAct (xset (xset (oqO (ov_X8_highest p1 (0 : Int) (0 : Int) (oqO (ov_X8_keepsAside a) 0)) 0) 1 (xw (13 + p1)).toNat (oqR (ov_X8_highest p1 (0 : Int) (0 : Int) (oqO (ov_X8_keepsAside a) 0)))) 1 (xw (29 + p1)).toNat 1)) 0)) then (
 if xin (13 + p1) 735 then (
 RI ((oqO (ov_X8_touches p1 (oqO (ov_X8_keepsAct (xset (xset (oqO (ov_X8_highest p1 (0 : Int) (0 : Int) (oqO (ov_X8_keepsAside a) 0)) 0) 1 (xw (13 + p1)).toNat (oqR (ov_X8_highest p1 (0 : Int) (0 : Int) (oqO (ov_X8_keepsAside a) 0)))) 1 (xw (29 + p1)).toNat 1)) 0)) 0) 1 (xw (13 + p1)).toNat) [(oqO (ov_X8_touches p1 (oqO (ov_X8_keepsAct (xset (xset (oqO (ov_X8_highest p1 (0 : Int) (0 : Int) (oqO (ov_X8_keepsAside a) 0)) 0) 1 (xw (13 + p1)).toNat (oqR (ov_X8_highest p1 (0 : Int) (0 : Int) (oqO (ov_X8_keepsAside a) 0)))) 1 (xw (29 + p1)).toNat 1)) 0)) 0)]) else none) else none) else none) else none) else none) else none) else none)
set_option maxRecDepth 100000 in
set_option maxHeartbeats 4000000 in
theorem rq_X8_high_0 (p1 : Int) (a : Ob) : rg_X8_high_0 (en_X8_high_0 p1 a) = mg_X8_high_0 p1 a := rfl
set_option maxRecDepth 100000 in
set_option maxHeartbeats 4000000 in
theorem sg_X8_high_0 {X : XDyn} {r0 : Rt} (C : XO X mX8_high) : XS X mX8_high r0 0 (rg_X8_high_0) := by
 unfold rg_X8_high_0
 exact s_aload_n (pc := 0) C dX8_high_0 rfl <|
    s_iload_n (pc := 1) C dX8_high_1 rfl <|
    s_callV (pc := 2) C ct_X8_isLoose (n := 2) (rk := 1) (mp := [0]) ⟨rfl, by decide, rfl⟩ (ci := 8) rfl rfl (by decide) (by decide) yi_X8_isLoose (by decide) wd_1081 wd_1083 wd_46 wd_81 wd_1084 dX8_high_2 <|
    s_if_ne (pc := 5) C dX8_high_5 (by decide) (s_aload_n (pc := 10) C dX8_high_10 rfl <|
    s_callVg (pc := 11) C ct_X8_keepsAside (n := 1) (rk := 0) (mp := [0]) ⟨rfl, by decide, rfl⟩ (ci := 8) rfl rfl (by decide) (by decide) yi_X8_keepsAside (by decide) wd_967 wd_969 wd_19 wd_81 wd_970 dX8_high_11 <|
    s_aload_n (pc := 14) C dX8_high_14 rfl <|
    s_get (pc := 15) C (ci := 8) (kf := 0) rfl inX8 (by decide) wd_871 dX8_high_15 <|
    s_bipush (pc := 18) C dX8_high_18 (by decide) <|
    s_iload_n (pc := 20) C dX8_high_20 rfl <|
    s_iadd (pc := 21) C dX8_high_21 <|
    s_aload_n (pc := 22) C dX8_high_22 rfl <|
    s_iload_n (pc := 23) C dX8_high_23 rfl <|
    s_iconst (pc := 24) C dX8_high_24 <|
    s_iconst (pc := 25) C dX8_high_25 <|
    s_callVg (pc := 26) C ct_X8_highest (n := 4) (rk := 1) (mp := [0]) ⟨rfl, by decide, rfl⟩ (ci := 8) rfl rfl (by decide) (by decide) yi_X8_highest (by decide) wd_1149 wd_1151 wd_57 wd_81 wd_1152 dX8_high_26 <|
    s_iast (pc := 29) C dX8_high_29 <|
    s_aload_n (pc := 30) C dX8_high_30 rfl <|
    s_get (pc := 31) C (ci := 8) (kf := 0) rfl inX8 (by decide) wd_871 dX8_high_31 <|
    s_bipush (pc := 34) C dX8_high_34 (by decide) <|
    s_iload_n (pc := 36) C dX8_high_36 rfl <|
    s_iadd (pc := 37) C dX8_high_37 <|
    s_iconst (pc := 38) C dX8_high_38 <|
    s_iast (pc := 39) C dX8_high_39 <|
    s_aload_n (pc := 40) C dX8_high_40 rfl <|
    s_callVg (pc := 41) C ct_X8_keepsAct (n := 1) (rk := 0) (mp := [0]) ⟨rfl, by decide, rfl⟩ (ci := 8) rfl rfl (by decide) (by decide) yi_X8_keepsAct (by decide) wd_1113 wd_1115 wd_54 wd_81 wd_1116 dX8_high_41 <|
    s_aload_n (pc := 44) C dX8_high_44 rfl <|
    s_iload_n (pc := 45) C dX8_high_45 rfl <|
    s_callVg (pc := 46) C ct_X8_touches (n := 2) (rk := 0) (mp := [0]) ⟨rfl, by decide, rfl⟩ (ci := 8) rfl rfl (by decide) (by decide) yi_X8_touches (by decide) wd_1117 wd_1119 wd_55 wd_81 wd_1120 dX8_high_46 <|
    s_aload_n (pc := 49) C dX8_high_49 rfl <|
    s_get (pc := 50) C (ci := 8) (kf := 0) rfl inX8 (by decide) wd_871 dX8_high_50 <|
    s_bipush (pc := 53) C dX8_high_53 (by decide) <|
    s_iload_n (pc := 55) C dX8_high_55 rfl <|
    s_iadd (pc := 56) C dX8_high_56 <|
    s_iald (pc := 57) C dX8_high_57 <|
    s_ireturn (pc := 58) C rfl dX8_high_58)
    (s_iconst (pc := 8) C dX8_high_8 <|
    s_ireturn (pc := 9) C rfl dX8_high_9)
noncomputable def rw_X8_high_0 : XK := rg_X8_high_0
noncomputable def md_X8_high_0 (p1 : Int) : Ob → Option Rt := mg_X8_high_0 p1
theorem eq_X8_high_0 (p1 : Int) (a : Ob) : rw_X8_high_0 (en_X8_high_0 p1 a) = md_X8_high_0 p1 a :=
 rq_X8_high_0 p1 a
theorem sd_X8_high_0 {X : XDyn} {r0 : Rt} (C : XO X mX8_high) : XS X mX8_high r0 0 (rw_X8_high_0) := sg_X8_high_0 C
theorem ctr_X8_high : XCt yX8_high mX8_high (xF mX8_high (rw_X8_high_0)) := xMet (by decide +kernel) rfl (fun _ _ C => sd_X8_high_0 C)
theorem eqf_X8_high (p1 : Int) (h0 : Ob) : xF mX8_high (rw_X8_high_0) [.inr (.inl (0, 0)), .inl p1] [h0] = md_X8_high_0 p1 h0 := eq_X8_high_0 p1 h0
theorem yi_X8_high : yX8_high.cls = RX8 ∧ yX8_high.cls ≠ "java/lang/invoke/MethodHandle" ∧ yX8_high.cls ≠ "java/lang/invoke/VarHandle" ∧ (parseMethodDescriptor yX8_high.desc).map (fun d => d.parameters.length) = some 1 := ⟨rfl, by decide +kernel, by decide +kernel, by decide +kernel⟩
theorem dX8_mark_0 : decode cX8_mark 0 = .ok (.aload_n 0, 1) := by decide +kernel
theorem dX8_mark_1 : decode cX8_mark 1 = .ok (.iload_n 1, 1) := by decide +kernel
theorem dX8_mark_2 : decode cX8_mark 2 = .ok (.invokevirtual 227, 3) := by decide +kernel
theorem dX8_mark_5 : decode cX8_mark 5 = .ok (.ifCond .eq 24, 3) := by decide +kernel
theorem dX8_mark_8 : decode cX8_mark 8 = .ok (.aload_n 0, 1) := by decide +kernel
theorem dX8_mark_9 : decode cX8_mark 9 = .ok (.getfield 7, 3) := by decide +kernel
theorem dX8_mark_12 : decode cX8_mark 12 = .ok (.bipush 53, 2) := by decide +kernel
theorem dX8_mark_14 : decode cX8_mark 14 = .ok (.iload_n 1, 1) := by decide +kernel
theorem dX8_mark_15 : decode cX8_mark 15 = .ok (.iadd, 1) := by decide +kernel
theorem dX8_mark_16 : decode cX8_mark 16 = .ok (.iaload, 1) := by decide +kernel
theorem dX8_mark_17 : decode cX8_mark 17 = .ok (.iload_n 2, 1) := by decide +kernel
theorem dX8_mark_18 : decode cX8_mark 18 = .ok (.ifCond .eq 7, 3) := by decide +kernel
theorem dX8_mark_21 : decode cX8_mark 21 = .ok (.iconst 1, 1) := by decide +kernel
theorem dX8_mark_22 : decode cX8_mark 22 = .ok (.goto 4, 3) := by decide +kernel
theorem dX8_mark_25 : decode cX8_mark 25 = .ok (.iconst 0, 1) := by decide +kernel
theorem dX8_mark_26 : decode cX8_mark 26 = .ok (.if_icmp .ne 5, 3) := by decide +kernel
theorem dX8_mark_29 : decode cX8_mark 29 = .ok (.iconst 0, 1) := by decide +kernel
theorem dX8_mark_30 : decode cX8_mark 30 = .ok (.ireturn, 1) := by decide +kernel
theorem dX8_mark_31 : decode cX8_mark 31 = .ok (.aload_n 0, 1) := by decide +kernel
theorem dX8_mark_32 : decode cX8_mark 32 = .ok (.invokevirtual 208, 3) := by decide +kernel
theorem dX8_mark_35 : decode cX8_mark 35 = .ok (.aload_n 0, 1) := by decide +kernel
theorem dX8_mark_36 : decode cX8_mark 36 = .ok (.getfield 7, 3) := by decide +kernel
theorem dX8_mark_39 : decode cX8_mark 39 = .ok (.bipush 53, 2) := by decide +kernel
theorem dX8_mark_41 : decode cX8_mark 41 = .ok (.iload_n 1, 1) := by decide +kernel
theorem dX8_mark_42 : decode cX8_mark 42 = .ok (.iadd, 1) := by decide +kernel
theorem dX8_mark_43 : decode cX8_mark 43 = .ok (.iload_n 2, 1) := by decide +kernel
theorem dX8_mark_44 : decode cX8_mark 44 = .ok (.ifCond .eq 7, 3) := by decide +kernel
theorem dX8_mark_47 : decode cX8_mark 47 = .ok (.iconst 1, 1) := by decide +kernel
theorem dX8_mark_48 : decode cX8_mark 48 = .ok (.goto 4, 3) := by decide +kernel
theorem dX8_mark_51 : decode cX8_mark 51 = .ok (.iconst 0, 1) := by decide +kernel
theorem dX8_mark_52 : decode cX8_mark 52 = .ok (.iastore, 1) := by decide +kernel
theorem dX8_mark_53 : decode cX8_mark 53 = .ok (.aload_n 0, 1) := by decide +kernel
theorem dX8_mark_54 : decode cX8_mark 54 = .ok (.invokevirtual 221, 3) := by decide +kernel
theorem dX8_mark_57 : decode cX8_mark 57 = .ok (.iconst 1, 1) := by decide +kernel
theorem dX8_mark_58 : decode cX8_mark 58 = .ok (.ireturn, 1) := by decide +kernel
abbrev mX8_mark : XM := (cX8_mark, 3, RX8, (some .boolean), shw_8, 2)
noncomputable def rg_X8_mark_0 (k26 : XK) : XK :=
 o_aload 0 <|
 o_iload 1 <|
 o_callV 2 1 [0] f_X8_isThere <|
 o_if_eq (o_iconst 0 <|
 o_zreturn)
 (o_aload 0 <|
 o_get shw_8 8 0 <|
 o_iconst 53 <|
 o_iload 1 <|
 o_iadd <|
 o_iald shw_8 <|
 o_iload 2 <|
 o_if_eq (o_iconst 0 <|
 o_cut [] k26)
 (o_iconst 1 <|
 o_cut [] k26))
def en_X8_mark_0 (p1 : Int) (p2 : Int) (a : Ob) : XSt := ([some (.inr (.inl (0, 0))), some (.inl p1), some (.inl p2)], [], [a])
noncomputable def rg_X8_mark_26 (k52 : XK) : XK :=
 o_icmp_ne (o_aload 0 <|
 o_callVg 1 0 [0] g_X8_keepsAside v_X8_keepsAside <|
 o_aload 0 <|
 o_get shw_8 8 0 <|
 o_iconst 53 <|
 o_iload 1 <|
 o_iadd <|
 o_iload 2 <|
 o_if_eq (o_iconst 0 <|
 o_cut [] k52)
 (o_iconst 1 <|
 o_cut [] k52))
 (o_iconst 0 <|
 o_zreturn)
def en_X8_mark_26 (p1 : Int) (p2 : Int) (a : Int × Int × Ob) : XSt := ([some (.inr (.inl (0, 0))), some (.inl p1), some (.inl p2)], [.inl a.2.1, .inl a.1], [a.2.2])
noncomputable def rg_X8_mark_52 : XK :=
 o_iast shw_8 <|
 o_aload 0 <|
 o_callVg 1 0 [0] g_X8_keepsAct v_X8_keepsAct <|
 o_iconst 1 <|
 o_zreturn
def en_X8_mark_52 (p1 : Int) (p2 : Int) (a : Int × Int × Ob) : XSt := ([some (.inr (.inl (0, 0))), some (.inl p1), some (.inl p2)], [.inl a.2.1, .inl a.1, .inr (.inl (0, 1))], [a.2.2])
noncomputable def mg_X8_mark_0 (p1 : Int) (p2 : Int) (k26 : (Int × Int × Ob) → Option Rt) (a : Ob) : Option Rt :=
 if xw (bz (thrM a p1)) = 0 then (RI 0 [a])
 else (if xin (53 + p1) 735 then (
 if xw p2 = 0 then (k26 ((a 1 (xw (53 + p1)).toNat), 0, a))
 else (k26 ((a 1 (xw (53 + p1)).toNat), 1, a))) else none)
set_option maxRecDepth 100000 in
set_option maxHeartbeats 4000000 in
theorem rq_X8_mark_0 (p1 : Int) (p2 : Int) (k26 : XK) (a : Ob) : rg_X8_mark_0 k26 (en_X8_mark_0 p1 p2 a) = mg_X8_mark_0 p1 p2 (fun b => k26 (en_X8_mark_26 p1 p2 b)) a := rfl
set_option maxRecDepth 100000 in
set_option maxHeartbeats 4000000 in
theorem sg_X8_mark_0 {X : XDyn} {r0 : Rt} (C : XO X mX8_mark) {k26 : XK} (q26 : XS X mX8_mark r0 26 k26) : XS X mX8_mark r0 0 (rg_X8_mark_0 k26) := by
 unfold rg_X8_mark_0
 exact s_aload_n (pc := 0) C dX8_mark_0 rfl <|
    s_iload_n (pc := 1) C dX8_mark_1 rfl <|
    s_callV (pc := 2) C ct_X8_isThere (n := 2) (rk := 1) (mp := [0]) ⟨rfl, by decide, rfl⟩ (ci := 8) rfl rfl (by decide) (by decide) yi_X8_isThere (by decide) wd_1133 wd_1135 wd_56 wd_81 wd_1136 dX8_mark_2 <|
    s_if_eq (pc := 5) C dX8_mark_5 (by decide) (s_iconst (pc := 29) C dX8_mark_29 <|
    s_zreturn (pc := 30) C rfl dX8_mark_30)
    (s_aload_n (pc := 8) C dX8_mark_8 rfl <|
    s_get (pc := 9) C (ci := 8) (kf := 0) rfl inX8 (by decide) wd_871 dX8_mark_9 <|
    s_bipush (pc := 12) C dX8_mark_12 (by decide) <|
    s_iload_n (pc := 14) C dX8_mark_14 rfl <|
    s_iadd (pc := 15) C dX8_mark_15 <|
    s_iald (pc := 16) C dX8_mark_16 <|
    s_iload_n (pc := 17) C dX8_mark_17 rfl <|
    s_if_eq (pc := 18) C dX8_mark_18 (by decide) (s_iconst (pc := 25) C dX8_mark_25 <|
    s_cut q26)
    (s_iconst (pc := 21) C dX8_mark_21 <|
    s_goto (pc := 22) C dX8_mark_22 (by decide) <|
    s_cut q26))
noncomputable def mg_X8_mark_26 (p1 : Int) (p2 : Int) (k52 : (Int × Int × Ob) → Option Rt) (a : Int × Int × Ob) : Option Rt :=
 if xw a.1 = xw a.2.1 then (RI 0 [a.2.2])
 else (if oqV (ov_X8_keepsAside a.2.2) then (
 if xw p2 = 0 then (k52 ((53 + p1), 0, (oqO (ov_X8_keepsAside a.2.2) 0)))
 else (k52 ((53 + p1), 1, (oqO (ov_X8_keepsAside a.2.2) 0)))) else none)
set_option maxRecDepth 100000 in
set_option maxHeartbeats 4000000 in
theorem rq_X8_mark_26 (p1 : Int) (p2 : Int) (k52 : XK) (a : Int × Int × Ob) : rg_X8_mark_26 k52 (en_X8_mark_26 p1 p2 a) = mg_X8_mark_26 p1 p2 (fun b => k52 (en_X8_mark_52 p1 p2 b)) a := rfl
set_option maxRecDepth 100000 in
set_option maxHeartbeats 4000000 in
theorem sg_X8_mark_26 {X : XDyn} {r0 : Rt} (C : XO X mX8_mark) {k52 : XK} (q52 : XS X mX8_mark r0 52 k52) : XS X mX8_mark r0 26 (rg_X8_mark_26 k52) := by
 unfold rg_X8_mark_26
 exact s_icmp_ne (pc := 26) C dX8_mark_26 (by decide) (s_aload_n (pc := 31) C dX8_mark_31 rfl <|
    s_callVg (pc := 32) C ct_X8_keepsAside (n := 1) (rk := 0) (mp := [0]) ⟨rfl, by decide, rfl⟩ (ci := 8) rfl rfl (by decide) (by decide) yi_X8_keepsAside (by decide) wd_967 wd_969 wd_19 wd_81 wd_970 dX8_mark_32 <|
    s_aload_n (pc := 35) C dX8_mark_35 rfl <|
    s_get (pc := 36) C (ci := 8) (kf := 0) rfl inX8 (by decide) wd_871 dX8_mark_36 <|
    s_bipush (pc := 39) C dX8_mark_39 (by decide) <|
    s_iload_n (pc := 41) C dX8_mark_41 rfl <|
    s_iadd (pc := 42) C dX8_mark_42 <|
    s_iload_n (pc := 43) C dX8_mark_43 rfl <|
    s_if_eq (pc := 44) C dX8_mark_44 (by decide) (s_iconst (pc := 51) C dX8_mark_51 <|
    s_cut q52)
    (s_iconst (pc := 47) C dX8_mark_47 <|
    s_goto (pc := 48) C dX8_mark_48 (by decide) <|
    s_cut q52))
    (s_iconst (pc := 29) C dX8_mark_29 <|
    s_zreturn (pc := 30) C rfl dX8_mark_30)
noncomputable def mg_X8_mark_52 (p1 : Int) (p2 : Int) (a : Int × Int × Ob) : Option Rt :=
 if xin a.1 735 then (
 if oqV (ov_X8_keepsAct (xset a.2.2 1 (xw a.1).toNat a.2.1)) then (
 RI 1 [(oqO (ov_X8_keepsAct (xset a.2.2 1 (xw a.1).toNat a.2.1)) 0)]) else none) else none
set_option maxRecDepth 100000 in
set_option maxHeartbeats 4000000 in
theorem rq_X8_mark_52 (p1 : Int) (p2 : Int) (a : Int × Int × Ob) : rg_X8_mark_52 (en_X8_mark_52 p1 p2 a) = mg_X8_mark_52 p1 p2 a := rfl
set_option maxRecDepth 100000 in
set_option maxHeartbeats 4000000 in
theorem sg_X8_mark_52 {X : XDyn} {r0 : Rt} (C : XO X mX8_mark) : XS X mX8_mark r0 52 (rg_X8_mark_52) := by
 unfold rg_X8_mark_52
 exact s_iast (pc := 52) C dX8_mark_52 <|
    s_aload_n (pc := 53) C dX8_mark_53 rfl <|
    s_callVg (pc := 54) C ct_X8_keepsAct (n := 1) (rk := 0) (mp := [0]) ⟨rfl, by decide, rfl⟩ (ci := 8) rfl rfl (by decide) (by decide) yi_X8_keepsAct (by decide) wd_1113 wd_1115 wd_54 wd_81 wd_1116 dX8_mark_54 <|
    s_iconst (pc := 57) C dX8_mark_57 <|
    s_zreturn (pc := 58) C rfl dX8_mark_58
noncomputable def rw_X8_mark_52 : XK := rg_X8_mark_52
noncomputable def md_X8_mark_52 (p1 : Int) (p2 : Int) : Int × Int × Ob → Option Rt := mg_X8_mark_52 p1 p2
theorem eq_X8_mark_52 (p1 : Int) (p2 : Int) (a : Int × Int × Ob) : rw_X8_mark_52 (en_X8_mark_52 p1 p2 a) = md_X8_mark_52 p1 p2 a :=
 rq_X8_mark_52 p1 p2 a
theorem sd_X8_mark_52 {X : XDyn} {r0 : Rt} (C : XO X mX8_mark) : XS X mX8_mark r0 52 (rw_X8_mark_52) := sg_X8_mark_52 C
noncomputable def rw_X8_mark_26 : XK := rg_X8_mark_26 (rw_X8_mark_52)
noncomputable def md_X8_mark_26 (p1 : Int) (p2 : Int) : Int × Int × Ob → Option Rt := mg_X8_mark_26 p1 p2 (md_X8_mark_52 p1 p2)
theorem eq_X8_mark_26 (p1 : Int) (p2 : Int) (a : Int × Int × Ob) : rw_X8_mark_26 (en_X8_mark_26 p1 p2 a) = md_X8_mark_26 p1 p2 a :=
 (rq_X8_mark_26 p1 p2 (rw_X8_mark_52) a).trans (congrFun (congr (rfl : mg_X8_mark_26 p1 p2 = mg_X8_mark_26 p1 p2) (funext (eq_X8_mark_52 p1 p2))) a)
theorem sd_X8_mark_26 {X : XDyn} {r0 : Rt} (C : XO X mX8_mark) : XS X mX8_mark r0 26 (rw_X8_mark_26) := sg_X8_mark_26 C (sd_X8_mark_52 C)
noncomputable def rw_X8_mark_0 : XK := rg_X8_mark_0 (rw_X8_mark_26)
noncomputable def md_X8_mark_0 (p1 : Int) (p2 : Int) : Ob → Option Rt := mg_X8_mark_0 p1 p2 (md_X8_mark_26 p1 p2)
theorem eq_X8_mark_0 (p1 : Int) (p2 : Int) (a : Ob) : rw_X8_mark_0 (en_X8_mark_0 p1 p2 a) = md_X8_mark_0 p1 p2 a :=
 (rq_X8_mark_0 p1 p2 (rw_X8_mark_26) a).trans (congrFun (congr (rfl : mg_X8_mark_0 p1 p2 = mg_X8_mark_0 p1 p2) (funext (eq_X8_mark_26 p1 p2))) a)
theorem sd_X8_mark_0 {X : XDyn} {r0 : Rt} (C : XO X mX8_mark) : XS X mX8_mark r0 0 (rw_X8_mark_0) := sg_X8_mark_0 C (sd_X8_mark_26 C)
theorem ctr_X8_mark : XCt yX8_mark mX8_mark (xF mX8_mark (rw_X8_mark_0)) := xMet (by decide +kernel) rfl (fun _ _ C => sd_X8_mark_0 C)
theorem eqf_X8_mark (p1 : Int) (p2 : Int) (h0 : Ob) : xF mX8_mark (rw_X8_mark_0) [.inr (.inl (0, 0)), .inl p1, .inl p2] [h0] = md_X8_mark_0 p1 p2 h0 := eq_X8_mark_0 p1 p2 h0
theorem yi_X8_mark : yX8_mark.cls = RX8 ∧ yX8_mark.cls ≠ "java/lang/invoke/MethodHandle" ∧ yX8_mark.cls ≠ "java/lang/invoke/VarHandle" ∧ (parseMethodDescriptor yX8_mark.desc).map (fun d => d.parameters.length) = some 2 := ⟨rfl, by decide +kernel, by decide +kernel, by decide +kernel⟩
theorem dX8_drop_0 : decode cX8_drop 0 = .ok (.aload_n 0, 1) := by decide +kernel
theorem dX8_drop_1 : decode cX8_drop 1 = .ok (.iload_n 1, 1) := by decide +kernel
theorem dX8_drop_2 : decode cX8_drop 2 = .ok (.invokevirtual 227, 3) := by decide +kernel
theorem dX8_drop_5 : decode cX8_drop 5 = .ok (.ifCond .eq 15, 3) := by decide +kernel
theorem dX8_drop_8 : decode cX8_drop 8 = .ok (.aload_n 0, 1) := by decide +kernel
theorem dX8_drop_9 : decode cX8_drop 9 = .ok (.getfield 7, 3) := by decide +kernel
theorem dX8_drop_12 : decode cX8_drop 12 = .ok (.bipush 29, 2) := by decide +kernel
theorem dX8_drop_14 : decode cX8_drop 14 = .ok (.iload_n 1, 1) := by decide +kernel
theorem dX8_drop_15 : decode cX8_drop 15 = .ok (.iadd, 1) := by decide +kernel
theorem dX8_drop_16 : decode cX8_drop 16 = .ok (.iaload, 1) := by decide +kernel
theorem dX8_drop_17 : decode cX8_drop 17 = .ok (.ifCond .le 5, 3) := by decide +kernel
theorem dX8_drop_20 : decode cX8_drop 20 = .ok (.iconst 0, 1) := by decide +kernel
theorem dX8_drop_21 : decode cX8_drop 21 = .ok (.ireturn, 1) := by decide +kernel
theorem dX8_drop_22 : decode cX8_drop 22 = .ok (.aload_n 0, 1) := by decide +kernel
theorem dX8_drop_23 : decode cX8_drop 23 = .ok (.invokevirtual 208, 3) := by decide +kernel
theorem dX8_drop_26 : decode cX8_drop 26 = .ok (.aload_n 0, 1) := by decide +kernel
theorem dX8_drop_27 : decode cX8_drop 27 = .ok (.getfield 7, 3) := by decide +kernel
theorem dX8_drop_30 : decode cX8_drop 30 = .ok (.iconst 5, 1) := by decide +kernel
theorem dX8_drop_31 : decode cX8_drop 31 = .ok (.iload_n 1, 1) := by decide +kernel
theorem dX8_drop_32 : decode cX8_drop 32 = .ok (.iadd, 1) := by decide +kernel
theorem dX8_drop_33 : decode cX8_drop 33 = .ok (.iconst 0, 1) := by decide +kernel
theorem dX8_drop_34 : decode cX8_drop 34 = .ok (.iastore, 1) := by decide +kernel
theorem dX8_drop_35 : decode cX8_drop 35 = .ok (.aload_n 0, 1) := by decide +kernel
theorem dX8_drop_36 : decode cX8_drop 36 = .ok (.invokevirtual 221, 3) := by decide +kernel
theorem dX8_drop_39 : decode cX8_drop 39 = .ok (.iconst 1, 1) := by decide +kernel
theorem dX8_drop_40 : decode cX8_drop 40 = .ok (.ireturn, 1) := by decide +kernel
abbrev mX8_drop : XM := (cX8_drop, 2, RX8, (some .boolean), shw_8, 2)
noncomputable def rg_X8_drop_0 : XK :=
 o_aload 0 <|
 o_iload 1 <|
 o_callV 2 1 [0] f_X8_isThere <|
 o_if_eq (o_iconst 0 <|
 o_zreturn)
 (o_aload 0 <|
 o_get shw_8 8 0 <|
 o_iconst 29 <|
 o_iload 1 <|
 o_iadd <|
 o_iald shw_8 <|
 o_if_le (o_aload 0 <|
 o_callVg 1 0 [0] g_X8_keepsAside v_X8_keepsAside <|
 o_aload 0 <|
 o_get shw_8 8 0 <|
 o_iconst 5 <|
 o_iload 1 <|
 o_iadd <|
 o_iconst 0 <|
 o_iast shw_8 <|
 o_aload 0 <|
 o_callVg 1 0 [0] g_X8_keepsAct v_X8_keepsAct <|
 o_iconst 1 <|
 o_zreturn)
 (o_iconst 0 <|
 o_zreturn))
def en_X8_drop_0 (p1 : Int) (a : Ob) : XSt := ([some (.inr (.inl (0, 0))), some (.inl p1)], [], [a])
noncomputable def mg_X8_drop_0 (p1 : Int) (a : Ob) : Option Rt :=
 if xw (bz (thrM a p1)) = 0 then (RI 0 [a])
 else (if xin (29 + p1) 735 then (
 if xw (a 1 (xw (29 + p1)).toNat) ≤ 0 then (if oqV (ov_X8_keepsAside a) then (
 if xin (5 + p1) 735 then (
 if oqV (ov_X8_keepsAct (xset (oqO (ov_X8_keepsAside a) 0) 1 (xw (5 + p1)).toNat 0)) then (
 RI 1 [(oqO (ov_X8_keepsAct (xset (oqO (ov_X8_keepsAside a) 0) 1 (xw (5 + p1)).toNat 0)) 0)]) else none) else none) else none)
 else (RI 0 [a])) else none)
set_option maxRecDepth 100000 in
set_option maxHeartbeats 4000000 in
theorem rq_X8_drop_0 (p1 : Int) (a : Ob) : rg_X8_drop_0 (en_X8_drop_0 p1 a) = mg_X8_drop_0 p1 a := rfl
set_option maxRecDepth 100000 in
set_option maxHeartbeats 4000000 in
theorem sg_X8_drop_0 {X : XDyn} {r0 : Rt} (C : XO X mX8_drop) : XS X mX8_drop r0 0 (rg_X8_drop_0) := by
 unfold rg_X8_drop_0
 exact s_aload_n (pc := 0) C dX8_drop_0 rfl <|
    s_iload_n (pc := 1) C dX8_drop_1 rfl <|
    s_callV (pc := 2) C ct_X8_isThere (n := 2) (rk := 1) (mp := [0]) ⟨rfl, by decide, rfl⟩ (ci := 8) rfl rfl (by decide) (by decide) yi_X8_isThere (by decide) wd_1133 wd_1135 wd_56 wd_81 wd_1136 dX8_drop_2 <|
    s_if_eq (pc := 5) C dX8_drop_5 (by decide) (s_iconst (pc := 20) C dX8_drop_20 <|
    s_zreturn (pc := 21) C rfl dX8_drop_21)
    (s_aload_n (pc := 8) C dX8_drop_8 rfl <|
    s_get (pc := 9) C (ci := 8) (kf := 0) rfl inX8 (by decide) wd_871 dX8_drop_9 <|
    s_bipush (pc := 12) C dX8_drop_12 (by decide) <|
    s_iload_n (pc := 14) C dX8_drop_14 rfl <|
    s_iadd (pc := 15) C dX8_drop_15 <|
    s_iald (pc := 16) C dX8_drop_16 <|
    s_if_le (pc := 17) C dX8_drop_17 (by decide) (s_aload_n (pc := 22) C dX8_drop_22 rfl <|
    s_callVg (pc := 23) C ct_X8_keepsAside (n := 1) (rk := 0) (mp := [0]) ⟨rfl, by decide, rfl⟩ (ci := 8) rfl rfl (by decide) (by decide) yi_X8_keepsAside (by decide) wd_967 wd_969 wd_19 wd_81 wd_970 dX8_drop_23 <|
    s_aload_n (pc := 26) C dX8_drop_26 rfl <|
    s_get (pc := 27) C (ci := 8) (kf := 0) rfl inX8 (by decide) wd_871 dX8_drop_27 <|
    s_iconst (pc := 30) C dX8_drop_30 <|
    s_iload_n (pc := 31) C dX8_drop_31 rfl <|
    s_iadd (pc := 32) C dX8_drop_32 <|
    s_iconst (pc := 33) C dX8_drop_33 <|
    s_iast (pc := 34) C dX8_drop_34 <|
    s_aload_n (pc := 35) C dX8_drop_35 rfl <|
    s_callVg (pc := 36) C ct_X8_keepsAct (n := 1) (rk := 0) (mp := [0]) ⟨rfl, by decide, rfl⟩ (ci := 8) rfl rfl (by decide) (by decide) yi_X8_keepsAct (by decide) wd_1113 wd_1115 wd_54 wd_81 wd_1116 dX8_drop_36 <|
    s_iconst (pc := 39) C dX8_drop_39 <|
    s_zreturn (pc := 40) C rfl dX8_drop_40)
    (s_iconst (pc := 20) C dX8_drop_20 <|
    s_zreturn (pc := 21) C rfl dX8_drop_21))
noncomputable def rw_X8_drop_0 : XK := rg_X8_drop_0
noncomputable def md_X8_drop_0 (p1 : Int) : Ob → Option Rt := mg_X8_drop_0 p1
theorem eq_X8_drop_0 (p1 : Int) (a : Ob) : rw_X8_drop_0 (en_X8_drop_0 p1 a) = md_X8_drop_0 p1 a :=
 rq_X8_drop_0 p1 a
theorem sd_X8_drop_0 {X : XDyn} {r0 : Rt} (C : XO X mX8_drop) : XS X mX8_drop r0 0 (rw_X8_drop_0) := sg_X8_drop_0 C
theorem ctr_X8_drop : XCt yX8_drop mX8_drop (xF mX8_drop (rw_X8_drop_0)) := xMet (by decide +kernel) rfl (fun _ _ C => sd_X8_drop_0 C)
theorem eqf_X8_drop (p1 : Int) (h0 : Ob) : xF mX8_drop (rw_X8_drop_0) [.inr (.inl (0, 0)), .inl p1] [h0] = md_X8_drop_0 p1 h0 := eq_X8_drop_0 p1 h0
theorem yi_X8_drop : yX8_drop.cls = RX8 ∧ yX8_drop.cls ≠ "java/lang/invoke/MethodHandle" ∧ yX8_drop.cls ≠ "java/lang/invoke/VarHandle" ∧ (parseMethodDescriptor yX8_drop.desc).map (fun d => d.parameters.length) = some 1 := ⟨rfl, by decide +kernel, by decide +kernel, by decide +kernel⟩
theorem dX8_least_0 : decode cX8_least 0 = .ok (.aload_n 0, 1) := by decide +kernel
theorem dX8_least_1 : decode cX8_least 1 = .ok (.iload_n 1, 1) := by decide +kernel
theorem dX8_least_2 : decode cX8_least 2 = .ok (.invokevirtual 83, 3) := by decide +kernel
theorem dX8_least_5 : decode cX8_least 5 = .ok (.ifCond .eq 35, 3) := by decide +kernel
theorem dX8_least_8 : decode cX8_least 8 = .ok (.iload_n 2, 1) := by decide +kernel
theorem dX8_least_9 : decode cX8_least 9 = .ok (.i2l, 1) := by decide +kernel
theorem dX8_least_10 : decode cX8_least 10 = .ok (.lconst 1, 1) := by decide +kernel
theorem dX8_least_11 : decode cX8_least 11 = .ok (.aload_n 0, 1) := by decide +kernel
theorem dX8_least_12 : decode cX8_least 12 = .ok (.getfield 7, 3) := by decide +kernel
theorem dX8_least_15 : decode cX8_least 15 = .ok (.bipush 21, 2) := by decide +kernel
theorem dX8_least_17 : decode cX8_least 17 = .ok (.iload_n 1, 1) := by decide +kernel
theorem dX8_least_18 : decode cX8_least 18 = .ok (.iadd, 1) := by decide +kernel
theorem dX8_least_19 : decode cX8_least 19 = .ok (.iaload, 1) := by decide +kernel
theorem dX8_least_20 : decode cX8_least 20 = .ok (.i2l, 1) := by decide +kernel
theorem dX8_least_21 : decode cX8_least 21 = .ok (.invokestatic 75, 3) := by decide +kernel
theorem dX8_least_24 : decode cX8_least 24 = .ok (.ifCond .eq 16, 3) := by decide +kernel
theorem dX8_least_27 : decode cX8_least 27 = .ok (.aload_n 0, 1) := by decide +kernel
theorem dX8_least_28 : decode cX8_least 28 = .ok (.getfield 7, 3) := by decide +kernel
theorem dX8_least_31 : decode cX8_least 31 = .ok (.bipush 37, 2) := by decide +kernel
theorem dX8_least_33 : decode cX8_least 33 = .ok (.iload_n 1, 1) := by decide +kernel
theorem dX8_least_34 : decode cX8_least 34 = .ok (.iadd, 1) := by decide +kernel
theorem dX8_least_35 : decode cX8_least 35 = .ok (.iaload, 1) := by decide +kernel
theorem dX8_least_36 : decode cX8_least 36 = .ok (.iload_n 2, 1) := by decide +kernel
theorem dX8_least_37 : decode cX8_least 37 = .ok (.if_icmp .ne 5, 3) := by decide +kernel
theorem dX8_least_40 : decode cX8_least 40 = .ok (.iconst (-1), 1) := by decide +kernel
theorem dX8_least_41 : decode cX8_least 41 = .ok (.ireturn, 1) := by decide +kernel
theorem dX8_least_42 : decode cX8_least 42 = .ok (.aload_n 0, 1) := by decide +kernel
theorem dX8_least_43 : decode cX8_least 43 = .ok (.invokevirtual 208, 3) := by decide +kernel
theorem dX8_least_46 : decode cX8_least 46 = .ok (.aload_n 0, 1) := by decide +kernel
theorem dX8_least_47 : decode cX8_least 47 = .ok (.getfield 7, 3) := by decide +kernel
theorem dX8_least_50 : decode cX8_least 50 = .ok (.bipush 37, 2) := by decide +kernel
theorem dX8_least_52 : decode cX8_least 52 = .ok (.iload_n 1, 1) := by decide +kernel
theorem dX8_least_53 : decode cX8_least 53 = .ok (.iadd, 1) := by decide +kernel
theorem dX8_least_54 : decode cX8_least 54 = .ok (.iaload, 1) := by decide +kernel
theorem dX8_least_55 : decode cX8_least 55 = .ok (.istore_n 3, 1) := by decide +kernel
theorem dX8_least_56 : decode cX8_least 56 = .ok (.aload_n 0, 1) := by decide +kernel
theorem dX8_least_57 : decode cX8_least 57 = .ok (.getfield 7, 3) := by decide +kernel
theorem dX8_least_60 : decode cX8_least 60 = .ok (.bipush 37, 2) := by decide +kernel
theorem dX8_least_62 : decode cX8_least 62 = .ok (.iload_n 1, 1) := by decide +kernel
theorem dX8_least_63 : decode cX8_least 63 = .ok (.iadd, 1) := by decide +kernel
theorem dX8_least_64 : decode cX8_least 64 = .ok (.iload_n 2, 1) := by decide +kernel
theorem dX8_least_65 : decode cX8_least 65 = .ok (.iastore, 1) := by decide +kernel
theorem dX8_least_66 : decode cX8_least 66 = .ok (.aload_n 0, 1) := by decide +kernel
theorem dX8_least_67 : decode cX8_least 67 = .ok (.invokevirtual 221, 3) := by decide +kernel
theorem dX8_least_70 : decode cX8_least 70 = .ok (.iload_n 3, 1) := by decide +kernel
theorem dX8_least_71 : decode cX8_least 71 = .ok (.ireturn, 1) := by decide +kernel
abbrev mX8_least : XM := (cX8_least, 4, RX8, (some .int), shw_8, 2)
noncomputable def rg_X8_least_0 : XK :=
 o_aload 0 <|
 o_iload 1 <|
 o_callV 2 1 [0] f_X8_isFull <|
 o_if_eq (o_iconst (-1) <|
 o_ireturn)
 (o_iload 2 <|
 o_i2l <|
 o_lconst 1 <|
 o_aload 0 <|
 o_get shw_8 8 0 <|
 o_iconst 21 <|
 o_iload 1 <|
 o_iadd <|
 o_iald shw_8 <|
 o_i2l <|
 o_callSg 3 1 [] g_X8_in v_X8_in <|
 o_if_eq (o_iconst (-1) <|
 o_ireturn)
 (o_aload 0 <|
 o_get shw_8 8 0 <|
 o_iconst 37 <|
 o_iload 1 <|
 o_iadd <|
 o_iald shw_8 <|
 o_iload 2 <|
 o_icmp_ne (o_aload 0 <|
 o_callVg 1 0 [0] g_X8_keepsAside v_X8_keepsAside <|
 o_aload 0 <|
 o_get shw_8 8 0 <|
 o_iconst 37 <|
 o_iload 1 <|
 o_iadd <|
 o_iald shw_8 <|
 o_istore 3 <|
 o_aload 0 <|
 o_get shw_8 8 0 <|
 o_iconst 37 <|
 o_iload 1 <|
 o_iadd <|
 o_iload 2 <|
 o_iast shw_8 <|
 o_aload 0 <|
 o_callVg 1 0 [0] g_X8_keepsAct v_X8_keepsAct <|
 o_iload 3 <|
 o_ireturn)
 (o_iconst (-1) <|
 o_ireturn)))
def en_X8_least_0 (p1 : Int) (p2 : Int) (a : Ob) : XSt := ([some (.inr (.inl (0, 0))), some (.inl p1), some (.inl p2), none], [], [a])
noncomputable def mg_X8_least_0 (p1 : Int) (p2 : Int) (a : Ob) : Option Rt :=
 if xw (bz (fulM a p1)) = 0 then (RI (-1) [a])
 else (if xin (21 + p1) 735 then (
 if xlr (xw p2) && (xlr (1 : Int) && xlr (xw (a 1 (xw (21 + p1)).toNat))) then (
 if xw (bz (inn (xw p2) (1 : Int) (xw (a 1 (xw (21 + p1)).toNat)))) = 0 then (RI (-1) [a])
 else (if xin (37 + p1) 735 then (
 if xw (a 1 (xw (37 + p1)).toNat) = xw p2 then (RI (-1) [a])
 else (if oqV (ov_X8_keepsAside a) then (
 if xin (37 + p1) 735 then (
 if xin (37 + p1) 735 then (
 if oqV (ov_X8_keepsAct (xset (oqO (ov_X8_keepsAside a) 0) 1 (xw (37 + p1)).toNat p2)) then (
 RI ((oqO (ov_X8_keepsAside a) 0) 1 (xw (37 + p1)).toNat) [(oqO (ov_X8_keepsAct (xset (oqO (ov_X8_keepsAside a) 0) 1 (xw (37 + p1)).toNat p2)) 0)]) else none) else none) else none) else none)) else none)) else none) else none)
set_option maxRecDepth 100000 in
set_option maxHeartbeats 4000000 in
theorem rq_X8_least_0 (p1 : Int) (p2 : Int) (a : Ob) : rg_X8_least_0 (en_X8_least_0 p1 p2 a) = mg_X8_least_0 p1 p2 a := rfl
set_option maxRecDepth 100000 in
set_option maxHeartbeats 4000000 in
theorem sg_X8_least_0 {X : XDyn} {r0 : Rt} (C : XO X mX8_least) : XS X mX8_least r0 0 (rg_X8_least_0) := by
 unfold rg_X8_least_0
 exact s_aload_n (pc := 0) C dX8_least_0 rfl <|
    s_iload_n (pc := 1) C dX8_least_1 rfl <|
    s_callV (pc := 2) C ct_X8_isFull (n := 2) (rk := 1) (mp := [0]) ⟨rfl, by decide, rfl⟩ (ci := 8) rfl rfl (by decide) (by decide) yi_X8_isFull (by decide) wd_987 wd_989 wd_24 wd_81 wd_990 dX8_least_2 <|
    s_if_eq (pc := 5) C dX8_least_5 (by decide) (s_iconst (pc := 40) C dX8_least_40 <|
    s_ireturn (pc := 41) C rfl dX8_least_41)
    (s_iload_n (pc := 8) C dX8_least_8 rfl <|
    s_i2l (pc := 9) C dX8_least_9 <|
    s_lconst (pc := 10) C dX8_least_10 rfl <|
    s_aload_n (pc := 11) C dX8_least_11 rfl <|
    s_get (pc := 12) C (ci := 8) (kf := 0) rfl inX8 (by decide) wd_871 dX8_least_12 <|
    s_bipush (pc := 15) C dX8_least_15 (by decide) <|
    s_iload_n (pc := 17) C dX8_least_17 rfl <|
    s_iadd (pc := 18) C dX8_least_18 <|
    s_iald (pc := 19) C dX8_least_19 <|
    s_i2l (pc := 20) C dX8_least_20 <|
    s_callSg (pc := 21) C ct_X8_in (n := 3) (rk := 1) (mp := []) ⟨rfl, by decide, rfl⟩ (by decide) (by decide) ⟨rfl, yi_X8_in⟩ wd_954 wd_955 wd_81 wd_956 dX8_least_21 <|
    s_if_eq (pc := 24) C dX8_least_24 (by decide) (s_iconst (pc := 40) C dX8_least_40 <|
    s_ireturn (pc := 41) C rfl dX8_least_41)
    (s_aload_n (pc := 27) C dX8_least_27 rfl <|
    s_get (pc := 28) C (ci := 8) (kf := 0) rfl inX8 (by decide) wd_871 dX8_least_28 <|
    s_bipush (pc := 31) C dX8_least_31 (by decide) <|
    s_iload_n (pc := 33) C dX8_least_33 rfl <|
    s_iadd (pc := 34) C dX8_least_34 <|
    s_iald (pc := 35) C dX8_least_35 <|
    s_iload_n (pc := 36) C dX8_least_36 rfl <|
    s_icmp_ne (pc := 37) C dX8_least_37 (by decide) (s_aload_n (pc := 42) C dX8_least_42 rfl <|
    s_callVg (pc := 43) C ct_X8_keepsAside (n := 1) (rk := 0) (mp := [0]) ⟨rfl, by decide, rfl⟩ (ci := 8) rfl rfl (by decide) (by decide) yi_X8_keepsAside (by decide) wd_967 wd_969 wd_19 wd_81 wd_970 dX8_least_43 <|
    s_aload_n (pc := 46) C dX8_least_46 rfl <|
    s_get (pc := 47) C (ci := 8) (kf := 0) rfl inX8 (by decide) wd_871 dX8_least_47 <|
    s_bipush (pc := 50) C dX8_least_50 (by decide) <|
    s_iload_n (pc := 52) C dX8_least_52 rfl <|
    s_iadd (pc := 53) C dX8_least_53 <|
    s_iald (pc := 54) C dX8_least_54 <|
    s_istore_n (pc := 55) C dX8_least_55 rfl <|
    s_aload_n (pc := 56) C dX8_least_56 rfl <|
    s_get (pc := 57) C (ci := 8) (kf := 0) rfl inX8 (by decide) wd_871 dX8_least_57 <|
    s_bipush (pc := 60) C dX8_least_60 (by decide) <|
    s_iload_n (pc := 62) C dX8_least_62 rfl <|
    s_iadd (pc := 63) C dX8_least_63 <|
    s_iload_n (pc := 64) C dX8_least_64 rfl <|
    s_iast (pc := 65) C dX8_least_65 <|
    s_aload_n (pc := 66) C dX8_least_66 rfl <|
    s_callVg (pc := 67) C ct_X8_keepsAct (n := 1) (rk := 0) (mp := [0]) ⟨rfl, by decide, rfl⟩ (ci := 8) rfl rfl (by decide) (by decide) yi_X8_keepsAct (by decide) wd_1113 wd_1115 wd_54 wd_81 wd_1116 dX8_least_67 <|
    s_iload_n (pc := 70) C dX8_least_70 rfl <|
    s_ireturn (pc := 71) C rfl dX8_least_71)
    (s_iconst (pc := 40) C dX8_least_40 <|
    s_ireturn (pc := 41) C rfl dX8_least_41)))
noncomputable def rw_X8_least_0 : XK := rg_X8_least_0
noncomputable def md_X8_least_0 (p1 : Int) (p2 : Int) : Ob → Option Rt := mg_X8_least_0 p1 p2
theorem eq_X8_least_0 (p1 : Int) (p2 : Int) (a : Ob) : rw_X8_least_0 (en_X8_least_0 p1 p2 a) = md_X8_least_0 p1 p2 a :=
 rq_X8_least_0 p1 p2 a
theorem sd_X8_least_0 {X : XDyn} {r0 : Rt} (C : XO X mX8_least) : XS X mX8_least r0 0 (rw_X8_least_0) := sg_X8_least_0 C
theorem ctr_X8_least : XCt yX8_least mX8_least (xF mX8_least (rw_X8_least_0)) := xMet (by decide +kernel) rfl (fun _ _ C => sd_X8_least_0 C)
theorem eqf_X8_least (p1 : Int) (p2 : Int) (h0 : Ob) : xF mX8_least (rw_X8_least_0) [.inr (.inl (0, 0)), .inl p1, .inl p2] [h0] = md_X8_least_0 p1 p2 h0 := eq_X8_least_0 p1 p2 h0
theorem yi_X8_least : yX8_least.cls = RX8 ∧ yX8_least.cls ≠ "java/lang/invoke/MethodHandle" ∧ yX8_least.cls ≠ "java/lang/invoke/VarHandle" ∧ (parseMethodDescriptor yX8_least.desc).map (fun d => d.parameters.length) = some 2 := ⟨rfl, by decide +kernel, by decide +kernel, by decide +kernel⟩
theorem dX8_purge_0 : decode cX8_purge 0 = .ok (.aload_n 0, 1) := by decide +kernel
theorem dX8_purge_1 : decode cX8_purge 1 = .ok (.iload_n 1, 1) := by decide +kernel
theorem dX8_purge_2 : decode cX8_purge 2 = .ok (.invokevirtual 158, 3) := by decide +kernel
theorem dX8_purge_5 : decode cX8_purge 5 = .ok (.ifCond .ne 5, 3) := by decide +kernel
theorem dX8_purge_8 : decode cX8_purge 8 = .ok (.iconst 0, 1) := by decide +kernel
theorem dX8_purge_9 : decode cX8_purge 9 = .ok (.ireturn, 1) := by decide +kernel
theorem dX8_purge_10 : decode cX8_purge 10 = .ok (.aload_n 0, 1) := by decide +kernel
theorem dX8_purge_11 : decode cX8_purge 11 = .ok (.invokevirtual 208, 3) := by decide +kernel
theorem dX8_purge_14 : decode cX8_purge 14 = .ok (.aload_n 0, 1) := by decide +kernel
theorem dX8_purge_15 : decode cX8_purge 15 = .ok (.iload_n 1, 1) := by decide +kernel
theorem dX8_purge_16 : decode cX8_purge 16 = .ok (.invokevirtual 195, 3) := by decide +kernel
theorem dX8_purge_19 : decode cX8_purge 19 = .ok (.aload_n 0, 1) := by decide +kernel
theorem dX8_purge_20 : decode cX8_purge 20 = .ok (.invokevirtual 221, 3) := by decide +kernel
theorem dX8_purge_23 : decode cX8_purge 23 = .ok (.iconst 1, 1) := by decide +kernel
theorem dX8_purge_24 : decode cX8_purge 24 = .ok (.ireturn, 1) := by decide +kernel
abbrev mX8_purge : XM := (cX8_purge, 2, RX8, (some .boolean), shw_8, 4)
noncomputable def rg_X8_purge_0 : XK :=
 o_aload 0 <|
 o_iload 1 <|
 o_callV 2 1 [0] f_X8_canGo <|
 o_if_ne (o_aload 0 <|
 o_callVg 1 0 [0] g_X8_keepsAside v_X8_keepsAside <|
 o_aload 0 <|
 o_iload 1 <|
 o_callVg 2 0 [0] g_X8_empties v_X8_empties <|
 o_aload 0 <|
 o_callVg 1 0 [0] g_X8_keepsAct v_X8_keepsAct <|
 o_iconst 1 <|
 o_zreturn)
 (o_iconst 0 <|
 o_zreturn)
def en_X8_purge_0 (p1 : Int) (a : Ob) : XSt := ([some (.inr (.inl (0, 0))), some (.inl p1)], [], [a])
noncomputable def mg_X8_purge_0 (p1 : Int) (a : Ob) : Option Rt :=
 if xw (bz (cgoM a p1)) = 0 then (RI 0 [a])
 else (if oqV (ov_X8_keepsAside a) then (
 if oqV (ov_X8_empties p1 (oqO (ov_X8_keepsAside a) 0)) then (
 if oqV (ov_X8_keepsAct (oqO (ov_X8_empties p1 (oqO (ov_X8_keepsAside a) 0)) 0)) then (
 RI 1 [(oqO (ov_X8_keepsAct (oqO (ov_X8_empties p1 (oqO (ov_X8_keepsAside a) 0)) 0)) 0)]) else none) else none) else none)
set_option maxRecDepth 100000 in
set_option maxHeartbeats 4000000 in
theorem rq_X8_purge_0 (p1 : Int) (a : Ob) : rg_X8_purge_0 (en_X8_purge_0 p1 a) = mg_X8_purge_0 p1 a := rfl
set_option maxRecDepth 100000 in
set_option maxHeartbeats 4000000 in
theorem sg_X8_purge_0 {X : XDyn} {r0 : Rt} (C : XO X mX8_purge) : XS X mX8_purge r0 0 (rg_X8_purge_0) := by
 unfold rg_X8_purge_0
 exact s_aload_n (pc := 0) C dX8_purge_0 rfl <|
    s_iload_n (pc := 1) C dX8_purge_1 rfl <|
    s_callV (pc := 2) C ct_X8_canGo (n := 2) (rk := 1) (mp := [0]) ⟨rfl, by decide, rfl⟩ (ci := 8) rfl rfl (by decide) (by decide) yi_X8_canGo (by decide) wd_1085 wd_1087 wd_47 wd_81 wd_1088 dX8_purge_2 <|
    s_if_ne (pc := 5) C dX8_purge_5 (by decide) (s_aload_n (pc := 10) C dX8_purge_10 rfl <|
    s_callVg (pc := 11) C ct_X8_keepsAside (n := 1) (rk := 0) (mp := [0]) ⟨rfl, by decide, rfl⟩ (ci := 8) rfl rfl (by decide) (by decide) yi_X8_keepsAside (by decide) wd_967 wd_969 wd_19 wd_81 wd_970 dX8_purge_11 <|
    s_aload_n (pc := 14) C dX8_purge_14 rfl <|
    s_iload_n (pc := 15) C dX8_purge_15 rfl <|
    s_callVg (pc := 16) C ct_X8_empties (n := 2) (rk := 0) (mp := [0]) ⟨rfl, by decide, rfl⟩ (ci := 8) rfl rfl (by decide) (by decide) yi_X8_empties (by decide) wd_1097 wd_1099 wd_50 wd_81 wd_1100 dX8_purge_16 <|
    s_aload_n (pc := 19) C dX8_purge_19 rfl <|
    s_callVg (pc := 20) C ct_X8_keepsAct (n := 1) (rk := 0) (mp := [0]) ⟨rfl, by decide, rfl⟩ (ci := 8) rfl rfl (by decide) (by decide) yi_X8_keepsAct (by decide) wd_1113 wd_1115 wd_54 wd_81 wd_1116 dX8_purge_20 <|
    s_iconst (pc := 23) C dX8_purge_23 <|
    s_zreturn (pc := 24) C rfl dX8_purge_24)
    (s_iconst (pc := 8) C dX8_purge_8 <|
    s_zreturn (pc := 9) C rfl dX8_purge_9)
noncomputable def rw_X8_purge_0 : XK := rg_X8_purge_0
noncomputable def md_X8_purge_0 (p1 : Int) : Ob → Option Rt := mg_X8_purge_0 p1
theorem eq_X8_purge_0 (p1 : Int) (a : Ob) : rw_X8_purge_0 (en_X8_purge_0 p1 a) = md_X8_purge_0 p1 a :=
 rq_X8_purge_0 p1 a
theorem sd_X8_purge_0 {X : XDyn} {r0 : Rt} (C : XO X mX8_purge) : XS X mX8_purge r0 0 (rw_X8_purge_0) := sg_X8_purge_0 C
theorem ctr_X8_purge : XCt yX8_purge mX8_purge (xF mX8_purge (rw_X8_purge_0)) := xMet (by decide +kernel) rfl (fun _ _ C => sd_X8_purge_0 C)
theorem eqf_X8_purge (p1 : Int) (h0 : Ob) : xF mX8_purge (rw_X8_purge_0) [.inr (.inl (0, 0)), .inl p1] [h0] = md_X8_purge_0 p1 h0 := eq_X8_purge_0 p1 h0
theorem yi_X8_purge : yX8_purge.cls = RX8 ∧ yX8_purge.cls ≠ "java/lang/invoke/MethodHandle" ∧ yX8_purge.cls ≠ "java/lang/invoke/VarHandle" ∧ (parseMethodDescriptor yX8_purge.desc).map (fun d => d.parameters.length) = some 1 := ⟨rfl, by decide +kernel, by decide +kernel, by decide +kernel⟩
theorem dX8_remake_0 : decode cX8_remake 0 = .ok (.iload_n 1, 1) := by decide +kernel
theorem dX8_remake_1 : decode cX8_remake 1 = .ok (.invokestatic 79, 3) := by decide +kernel
theorem dX8_remake_4 : decode cX8_remake 4 = .ok (.ifCond .eq 15, 3) := by decide +kernel
theorem dX8_remake_7 : decode cX8_remake 7 = .ok (.aload_n 0, 1) := by decide +kernel
theorem dX8_remake_8 : decode cX8_remake 8 = .ok (.getfield 7, 3) := by decide +kernel
theorem dX8_remake_11 : decode cX8_remake 11 = .ok (.iconst 5, 1) := by decide +kernel
theorem dX8_remake_12 : decode cX8_remake 12 = .ok (.iload_n 1, 1) := by decide +kernel
theorem dX8_remake_13 : decode cX8_remake 13 = .ok (.iadd, 1) := by decide +kernel
theorem dX8_remake_14 : decode cX8_remake 14 = .ok (.iaload, 1) := by decide +kernel
theorem dX8_remake_15 : decode cX8_remake 15 = .ok (.iconst 2, 1) := by decide +kernel
theorem dX8_remake_16 : decode cX8_remake 16 = .ok (.if_icmp .eq 5, 3) := by decide +kernel
theorem dX8_remake_19 : decode cX8_remake 19 = .ok (.iconst (-1), 1) := by decide +kernel
theorem dX8_remake_20 : decode cX8_remake 20 = .ok (.ireturn, 1) := by decide +kernel
theorem dX8_remake_21 : decode cX8_remake 21 = .ok (.aload_n 0, 1) := by decide +kernel
theorem dX8_remake_22 : decode cX8_remake 22 = .ok (.invokevirtual 208, 3) := by decide +kernel
theorem dX8_remake_25 : decode cX8_remake 25 = .ok (.aload_n 0, 1) := by decide +kernel
theorem dX8_remake_26 : decode cX8_remake 26 = .ok (.aload_n 0, 1) := by decide +kernel
theorem dX8_remake_27 : decode cX8_remake 27 = .ok (.getfield 7, 3) := by decide +kernel
theorem dX8_remake_30 : decode cX8_remake 30 = .ok (.bipush 21, 2) := by decide +kernel
theorem dX8_remake_32 : decode cX8_remake 32 = .ok (.iload_n 1, 1) := by decide +kernel
theorem dX8_remake_33 : decode cX8_remake 33 = .ok (.iadd, 1) := by decide +kernel
theorem dX8_remake_34 : decode cX8_remake 34 = .ok (.iaload, 1) := by decide +kernel
theorem dX8_remake_35 : decode cX8_remake 35 = .ok (.iconst 1, 1) := by decide +kernel
theorem dX8_remake_36 : decode cX8_remake 36 = .ok (.iadd, 1) := by decide +kernel
theorem dX8_remake_37 : decode cX8_remake 37 = .ok (.iconst (-1), 1) := by decide +kernel
theorem dX8_remake_38 : decode cX8_remake 38 = .ok (.invokevirtual 211, 3) := by decide +kernel
theorem dX8_remake_41 : decode cX8_remake 41 = .ok (.istore_n 2, 1) := by decide +kernel
theorem dX8_remake_42 : decode cX8_remake 42 = .ok (.iload_n 2, 1) := by decide +kernel
theorem dX8_remake_43 : decode cX8_remake 43 = .ok (.ifCond .ge 10, 3) := by decide +kernel
theorem dX8_remake_46 : decode cX8_remake 46 = .ok (.aload_n 0, 1) := by decide +kernel
theorem dX8_remake_47 : decode cX8_remake 47 = .ok (.invokevirtual 215, 3) := by decide +kernel
theorem dX8_remake_50 : decode cX8_remake 50 = .ok (.bipush (-2), 2) := by decide +kernel
theorem dX8_remake_52 : decode cX8_remake 52 = .ok (.ireturn, 1) := by decide +kernel
theorem dX8_remake_53 : decode cX8_remake 53 = .ok (.aload_n 0, 1) := by decide +kernel
theorem dX8_remake_54 : decode cX8_remake 54 = .ok (.iload_n 1, 1) := by decide +kernel
theorem dX8_remake_55 : decode cX8_remake 55 = .ok (.iload_n 2, 1) := by decide +kernel
theorem dX8_remake_56 : decode cX8_remake 56 = .ok (.invokevirtual 218, 3) := by decide +kernel
theorem dX8_remake_59 : decode cX8_remake 59 = .ok (.aload_n 0, 1) := by decide +kernel
theorem dX8_remake_60 : decode cX8_remake 60 = .ok (.getfield 7, 3) := by decide +kernel
theorem dX8_remake_63 : decode cX8_remake 63 = .ok (.iconst 4, 1) := by decide +kernel
theorem dX8_remake_64 : decode cX8_remake 64 = .ok (.dup2, 1) := by decide +kernel
theorem dX8_remake_65 : decode cX8_remake 65 = .ok (.iaload, 1) := by decide +kernel
theorem dX8_remake_66 : decode cX8_remake 66 = .ok (.aload_n 0, 1) := by decide +kernel
theorem dX8_remake_67 : decode cX8_remake 67 = .ok (.getfield 7, 3) := by decide +kernel
theorem dX8_remake_70 : decode cX8_remake 70 = .ok (.bipush 45, 2) := by decide +kernel
theorem dX8_remake_72 : decode cX8_remake 72 = .ok (.iload_n 1, 1) := by decide +kernel
theorem dX8_remake_73 : decode cX8_remake 73 = .ok (.iadd, 1) := by decide +kernel
theorem dX8_remake_74 : decode cX8_remake 74 = .ok (.iaload, 1) := by decide +kernel
theorem dX8_remake_75 : decode cX8_remake 75 = .ok (.iadd, 1) := by decide +kernel
theorem dX8_remake_76 : decode cX8_remake 76 = .ok (.iastore, 1) := by decide +kernel
theorem dX8_remake_77 : decode cX8_remake 77 = .ok (.aload_n 0, 1) := by decide +kernel
theorem dX8_remake_78 : decode cX8_remake 78 = .ok (.invokevirtual 221, 3) := by decide +kernel
theorem dX8_remake_81 : decode cX8_remake 81 = .ok (.aload_n 0, 1) := by decide +kernel
theorem dX8_remake_82 : decode cX8_remake 82 = .ok (.iload_n 1, 1) := by decide +kernel
theorem dX8_remake_83 : decode cX8_remake 83 = .ok (.invokevirtual 224, 3) := by decide +kernel
theorem dX8_remake_86 : decode cX8_remake 86 = .ok (.iload_n 2, 1) := by decide +kernel
theorem dX8_remake_87 : decode cX8_remake 87 = .ok (.ireturn, 1) := by decide +kernel
abbrev mX8_remake : XM := (cX8_remake, 3, RX8, (some .int), shw_8, 7)
noncomputable def rg_X8_remake_0 : XK :=
 o_iload 1 <|
 o_callS 1 1 [] f_X8_isHandle <|
 o_if_eq (o_iconst (-1) <|
 o_ireturn)
 (o_aload 0 <|
 o_get shw_8 8 0 <|
 o_iconst 5 <|
 o_iload 1 <|
 o_iadd <|
 o_iald shw_8 <|
 o_iconst 2 <|
 o_icmp_eq (o_aload 0 <|
 o_callVg 1 0 [0] g_X8_keepsAside v_X8_keepsAside <|
 o_aload 0 <|
 o_aload 0 <|
 o_get shw_8 8 0 <|
 o_iconst 21 <|
 o_iload 1 <|
 o_iadd <|
 o_iald shw_8 <|
 o_iconst 1 <|
 o_iadd <|
 o_iconst (-1) <|
 o_callVg 3 1 [0] g_X8_fits v_X8_fits <|
 o_istore 2 <|
 o_iload 2 <|
 o_if_ge (o_aload 0 <|
 o_iload 1 <|
 o_iload 2 <|
 o_callVg 3 0 [0] g_X8_fills v_X8_fills <|
 o_aload 0 <|
 o_get shw_8 8 0 <|
 o_iconst 4 <|
 o_dup2 <|
 o_iald shw_8 <|
 o_aload 0 <|
 o_get shw_8 8 0 <|
 o_iconst 45 <|
 o_iload 1 <|
 o_iadd <|
 o_iald shw_8 <|
 o_iadd <|
 o_iast shw_8 <|
 o_aload 0 <|
 o_callVg 1 0 [0] g_X8_keepsAct v_X8_keepsAct <|
 o_aload 0 <|
 o_iload 1 <|
 o_callVg 2 0 [0] g_X8_touches v_X8_touches <|
 o_iload 2 <|
 o_ireturn)
 (o_aload 0 <|
 o_callVg 1 0 [0] g_X8_laysBack v_X8_laysBack <|
 o_iconst (-2) <|
 o_ireturn))
 (o_iconst (-1) <|
 o_ireturn))
def en_X8_remake_0 (p1 : Int) (a : Ob) : XSt := ([some (.inr (.inl (0, 0))), some (.inl p1), none], [], [a])
noncomputable def mg_X8_remake_0 (p1 : Int) (a : Ob) : Option Rt :=
 if xw (bz (hdl p1)) = 0 then (RI (-1) [a])
 else (if xin (5 + p1) 735 then (
 if xw (a 1 (xw (5 + p1)).toNat) = 2 then (if oqV (ov_X8_keepsAside a) then (
 if xin (21 + p1) 735 then (
 if oqI (ov_X8_fits (((oqO (ov_X8_keepsAside a) 0) 1 (xw (21 + p1)).toNat) + 1) ((-1) : Int) (oqO (ov_X8_keepsAside a) 0)) then (
 if xw (oqR (ov_X8_fits (((oqO (ov_X8_keepsAside a) 0) 1 (xw (21 + p1)).toNat) + 1) ((-1) : Int) (oqO (ov_X8_keepsAside a) 0))) ≥ 0 then (if oqV (ov_X8_fills p1 (oqR (ov_X8_fits (((oqO (ov_X8_keepsAside a) 0) 1 (xw (21 + p1)).toNat) + 1) ((-1) : Int) (oqO (ov_X8_keepsAside a) 0))) (oqO (ov_X8_fits (((oqO (ov_X8_keepsAside a) 0) 1 (xw (21 + p1)).toNat) + 1) ((-1) : Int) (oqO (ov_X8_keepsAside a) 0)) 0)) then (
 if xin (45 + p1) 735 then (
 if oqV (ov_X8_keepsAct (xset (oqO (ov_X8_fills p1 (oqR (ov_X8_fits (((oqO (ov_X8_keepsAside a) 0) 1 (xw (21 + p1)).toNat) + 1) ((-1) : Int) (oqO (ov_X8_keepsAside a) 0))) (oqO (ov_X8_fits (((oqO (ov_X8_keepsAside a) 0) 1 (xw (21 + p1)).toNat) + 1) ((-1) : Int) (oqO (ov_X8_keepsAside a) 0)) 0)) 0) 1 4 (((oqO (ov_X8_fills p1 (oqR (ov_X8_fits (((oqO (ov_X8_keepsAside a) 0) 1 (xw (21 + p1)).toNat) + 1) ((-1) : Int) (oqO (ov_X8_keepsAside a) 0))) (oqO (ov_X8_fits (((oqO (ov_X8_keepsAside a) 0) 1 (xw (21 + p1)).toNat) + 1) ((-1) : Int) (oqO (ov_X8_keepsAside a) 0)) 0)) 0) 1 4) + ((oqO (ov_X8_fills p1 (oqR (ov_X8_fits (((oqO (ov_X8_keepsAside a) 0) 1 (xw (21 + p1)).toNat) + 1) ((-1) : Int) (oqO (ov_X8_keepsAside a) 0))) (oqO (ov_X8_fits (((oqO (ov_X8_keepsAside a) 0) 1 (xw (21 + p1)).toNat) + 1) ((-1) : Int) (oqO (ov_X8_keepsAside a) 0)) 0)) 0) 1 (xw (45 + p1)).toNat)))) then (
 if oqV (ov_X8_touches p1 (oqO (ov_X8_keepsAct (xset (oqO (ov_X8_fills p1 (oqR (ov_X8_fits (((oqO (ov_X8_keepsAside a) 0) 1 (xw (21 + p1)).toNat) + 1) ((-1) : Int) (oqO (ov_X8_keepsAside a) 0))) (oqO (ov_X8_fits (((oqO (ov_X8_keepsAside a) 0) 1 (xw (21 + p1)).toNat) + 1) ((-1) : Int) (oqO (ov_X8_keepsAside a) 0)) 0)) 0) 1 4 (((oqO (ov_X8_fills p1 (oqR (ov_X8_fits (((oqO (ov_X8_keepsAside a) 0) 1 (xw (21 + p1)).toNat) + 1) ((-1) : Int) (oqO (ov_X8_keepsAside a) 0))) (oqO (ov_X8_fits (((oqO (ov_X8_keepsAside a) 0) 1 (xw (21 + p1)).toNat) + 1) ((-1) : Int) (oqO (ov_X8_keepsAside a) 0)) 0)) 0) 1 4) + ((oqO (ov_X8_fills p1 (oqR (ov_X8_fits (((oqO (ov_X8_keepsAside a) 0) 1 (xw (21 + p1)).toNat) + 1) ((-1) : Int) (oqO (ov_X8_keepsAside a) 0))) (oqO (ov_X8_fits (((oqO (ov_X8_keepsAside a) 0) 1 (xw (21 + p1)).toNat) + 1) ((-1) : Int) (oqO (ov_X8_keepsAside a) 0)) 0)) 0) 1 (xw (45 + p1)).toNat)))) 0)) then (
 RI (oqR (ov_X8_fits (((oqO (ov_X8_keepsAside a) 0) 1 (xw (21 + p1)).toNat) + 1) ((-1) : Int) (oqO (ov_X8_keepsAside a) 0))) [(oqO (ov_X8_touches p1 (oqO (ov_X8_keepsAct (xset (oqO (ov_X8_fills p1 (oqR (ov_X8_fits (((oqO (ov_X8_keepsAside a) 0) 1 (xw (21 + p1)).toNat) + 1) ((-1) : Int) (oqO (ov_X8_keepsAside a) 0))) (oqO (ov_X8_fits (((oqO (ov_X8_keepsAside a) 0) 1 (xw (21 + p1)).toNat) + 1) ((-1) : Int) (oqO (ov_X8_keepsAside a) 0)) 0)) 0) 1 4 (((oqO (ov_X8_fills p1 (oqR (ov_X8_fits (((oqO (ov_X8_keepsAside a) 0) 1 (xw (21 + p1)).toNat) + 1) ((-1) : Int) (oqO (ov_X8_keepsAside a) 0))) (oqO (ov_X8_fits (((oqO (ov_X8_keepsAside a) 0) 1 (xw (21 + p1)).toNat) + 1) ((-1) : Int) (oqO (ov_X8_keepsAside a) 0)) 0)) 0) 1 4) + ((oqO (ov_X8_fills p1 (oqR (ov_X8_fits (((oqO (ov_X8_keepsAside a) 0) 1 (xw (21 + p1)).toNat) + 1) ((-1) : Int) (oqO (ov_X8_keepsAside a) 0))) (oqO (ov_X8_fits (((oqO (ov_X8_keepsAside a) 0) 1 (xw (21 + p1)).toNat) + 1) ((-1) : Int) (oqO (ov_X8_keepsAside a) 0)) 0)) 0) 1 (xw (45 + p1)).toNat)))) 0)) 0)]) else none) else none) else none) else none)
 else (if oqV (ov_X8_laysBack (oqO (ov_X8_fits (((oqO (ov_X8_keepsAside a) 0) 1 (xw (21 + p1)).toNat) + 1) ((-1) : Int) (oqO (ov_X8_keepsAside a) 0)) 0)) then (
 RI (-2) [(oqO (ov_X8_laysBack (oqO (ov_X8_fits (((oqO (ov_X8_keepsAside a) 0) 1 (xw (21 + p1)).toNat) + 1) ((-1) : Int) (oqO (ov_X8_keepsAside a) 0)) 0)) 0)]) else none)) else none) else none) else none)
 else (RI (-1) [a])) else none)
set_option maxRecDepth 100000 in
set_option maxHeartbeats 4000000 in
theorem rq_X8_remake_0 (p1 : Int) (a : Ob) : rg_X8_remake_0 (en_X8_remake_0 p1 a) = mg_X8_remake_0 p1 a := rfl
set_option maxRecDepth 100000 in
set_option maxHeartbeats 4000000 in
theorem sg_X8_remake_0 {X : XDyn} {r0 : Rt} (C : XO X mX8_remake) : XS X mX8_remake r0 0 (rg_X8_remake_0) := by
 unfold rg_X8_remake_0
 exact s_iload_n (pc := 0) C dX8_remake_0 rfl <|
    s_callS (pc := 1) C ct_X8_isHandle (n := 1) (rk := 1) (mp := []) ⟨rfl, by decide, rfl⟩ (by decide) (by decide) ⟨rfl, yi_X8_isHandle⟩ wd_991 wd_992 wd_81 wd_993 dX8_remake_1 <|
    s_if_eq (pc := 4) C dX8_remake_4 (by decide) (s_iconst (pc := 19) C dX8_remake_19 <|
    s_ireturn (pc := 20) C rfl dX8_remake_20)
    (s_aload_n (pc := 7) C dX8_remake_7 rfl <|
    s_get (pc := 8) C (ci := 8) (kf := 0) rfl inX8 (by decide) wd_871 dX8_remake_8 <|
    s_iconst (pc := 11) C dX8_remake_11 <|
    s_iload_n (pc := 12) C dX8_remake_12 rfl <|
    s_iadd (pc := 13) C dX8_remake_13 <|
    s_iald (pc := 14) C dX8_remake_14 <|
    s_iconst (pc := 15) C dX8_remake_15 <|
    s_icmp_eq (pc := 16) C dX8_remake_16 (by decide) (s_aload_n (pc := 21) C dX8_remake_21 rfl <|
    s_callVg (pc := 22) C ct_X8_keepsAside (n := 1) (rk := 0) (mp := [0]) ⟨rfl, by decide, rfl⟩ (ci := 8) rfl rfl (by decide) (by decide) yi_X8_keepsAside (by decide) wd_967 wd_969 wd_19 wd_81 wd_970 dX8_remake_22 <|
    s_aload_n (pc := 25) C dX8_remake_25 rfl <|
    s_aload_n (pc := 26) C dX8_remake_26 rfl <|
    s_get (pc := 27) C (ci := 8) (kf := 0) rfl inX8 (by decide) wd_871 dX8_remake_27 <|
    s_bipush (pc := 30) C dX8_remake_30 (by decide) <|
    s_iload_n (pc := 32) C dX8_remake_32 rfl <|
    s_iadd (pc := 33) C dX8_remake_33 <|
    s_iald (pc := 34) C dX8_remake_34 <|
    s_iconst (pc := 35) C dX8_remake_35 <|
    s_iadd (pc := 36) C dX8_remake_36 <|
    s_iconst (pc := 37) C dX8_remake_37 <|
    s_callVg (pc := 38) C ct_X8_fits (n := 3) (rk := 1) (mp := [0]) ⟨rfl, by decide, rfl⟩ (ci := 8) rfl rfl (by decide) (by decide) yi_X8_fits (by decide) wd_971 wd_973 wd_20 wd_81 wd_974 dX8_remake_38 <|
    s_istore_n (pc := 41) C dX8_remake_41 rfl <|
    s_iload_n (pc := 42) C dX8_remake_42 rfl <|
    s_if_ge (pc := 43) C dX8_remake_43 (by decide) (s_aload_n (pc := 53) C dX8_remake_53 rfl <|
    s_iload_n (pc := 54) C dX8_remake_54 rfl <|
    s_iload_n (pc := 55) C dX8_remake_55 rfl <|
    s_callVg (pc := 56) C ct_X8_fills (n := 3) (rk := 0) (mp := [0]) ⟨rfl, by decide, rfl⟩ (ci := 8) rfl rfl (by decide) (by decide) yi_X8_fills (by decide) wd_1105 wd_1107 wd_52 wd_81 wd_1108 dX8_remake_56 <|
    s_aload_n (pc := 59) C dX8_remake_59 rfl <|
    s_get (pc := 60) C (ci := 8) (kf := 0) rfl inX8 (by decide) wd_871 dX8_remake_60 <|
    s_iconst (pc := 63) C dX8_remake_63 <|
    s_dup2 (pc := 64) C dX8_remake_64 <|
    s_iald (pc := 65) C dX8_remake_65 <|
    s_aload_n (pc := 66) C dX8_remake_66 rfl <|
    s_get (pc := 67) C (ci := 8) (kf := 0) rfl inX8 (by decide) wd_871 dX8_remake_67 <|
    s_bipush (pc := 70) C dX8_remake_70 (by decide) <|
    s_iload_n (pc := 72) C dX8_remake_72 rfl <|
    s_iadd (pc := 73) C dX8_remake_73 <|
    s_iald (pc := 74) C dX8_remake_74 <|
    s_iadd (pc := 75) C dX8_remake_75 <|
    s_iast (pc := 76) C dX8_remake_76 <|
    s_aload_n (pc := 77) C dX8_remake_77 rfl <|
    s_callVg (pc := 78) C ct_X8_keepsAct (n := 1) (rk := 0) (mp := [0]) ⟨rfl, by decide, rfl⟩ (ci := 8) rfl rfl (by decide) (by decide) yi_X8_keepsAct (by decide) wd_1113 wd_1115 wd_54 wd_81 wd_1116 dX8_remake_78 <|
    s_aload_n (pc := 81) C dX8_remake_81 rfl <|
    s_iload_n (pc := 82) C dX8_remake_82 rfl <|
    s_callVg (pc := 83) C ct_X8_touches (n := 2) (rk := 0) (mp := [0]) ⟨rfl, by decide, rfl⟩ (ci := 8) rfl rfl (by decide) (by decide) yi_X8_touches (by decide) wd_1117 wd_1119 wd_55 wd_81 wd_1120 dX8_remake_83 <|
    s_iload_n (pc := 86) C dX8_remake_86 rfl <|
    s_ireturn (pc := 87) C rfl dX8_remake_87)
    (s_aload_n (pc := 46) C dX8_remake_46 rfl <|
    s_callVg (pc := 47) C ct_X8_laysBack (n := 1) (rk := 0) (mp := [0]) ⟨rfl, by decide, rfl⟩ (ci := 8) rfl rfl (by decide) (by decide) yi_X8_laysBack (by decide) wd_1101 wd_1103 wd_51 wd_81 wd_1104 dX8_remake_47 <|
    s_bipush (pc := 50) C dX8_remake_50 (by decide) <|
    s_ireturn (pc := 52) C rfl dX8_remake_52))
    (s_iconst (pc := 19) C dX8_remake_19 <|
    s_ireturn (pc := 20) C rfl dX8_remake_20))
noncomputable def rw_X8_remake_0 : XK := rg_X8_remake_0
noncomputable def md_X8_remake_0 (p1 : Int) : Ob → Option Rt := mg_X8_remake_0 p1
theorem eq_X8_remake_0 (p1 : Int) (a : Ob) : rw_X8_remake_0 (en_X8_remake_0 p1 a) = md_X8_remake_0 p1 a :=
 rq_X8_remake_0 p1 a
theorem sd_X8_remake_0 {X : XDyn} {r0 : Rt} (C : XO X mX8_remake) : XS X mX8_remake r0 0 (rw_X8_remake_0) := sg_X8_remake_0 C
theorem ctr_X8_remake : XCt yX8_remake mX8_remake (xF mX8_remake (rw_X8_remake_0)) := xMet (by decide +kernel) rfl (fun _ _ C => sd_X8_remake_0 C)
theorem eqf_X8_remake (p1 : Int) (h0 : Ob) : xF mX8_remake (rw_X8_remake_0) [.inr (.inl (0, 0)), .inl p1] [h0] = md_X8_remake_0 p1 h0 := eq_X8_remake_0 p1 h0
theorem yi_X8_remake : yX8_remake.cls = RX8 ∧ yX8_remake.cls ≠ "java/lang/invoke/MethodHandle" ∧ yX8_remake.cls ≠ "java/lang/invoke/VarHandle" ∧ (parseMethodDescriptor yX8_remake.desc).map (fun d => d.parameters.length) = some 1 := ⟨rfl, by decide +kernel, by decide +kernel, by decide +kernel⟩
theorem dX8_canStretch_0 : decode cX8_canStretch 0 = .ok (.aload_n 0, 1) := by decide +kernel
theorem dX8_canStretch_1 : decode cX8_canStretch 1 = .ok (.invokevirtual 109, 3) := by decide +kernel
theorem dX8_canStretch_4 : decode cX8_canStretch 4 = .ok (.aload_n 0, 1) := by decide +kernel
theorem dX8_canStretch_5 : decode cX8_canStretch 5 = .ok (.getfield 7, 3) := by decide +kernel
theorem dX8_canStretch_8 : decode cX8_canStretch 8 = .ok (.bipush 13, 2) := by decide +kernel
theorem dX8_canStretch_10 : decode cX8_canStretch 10 = .ok (.iload_n 1, 1) := by decide +kernel
theorem dX8_canStretch_11 : decode cX8_canStretch 11 = .ok (.iadd, 1) := by decide +kernel
theorem dX8_canStretch_12 : decode cX8_canStretch 12 = .ok (.iaload, 1) := by decide +kernel
theorem dX8_canStretch_13 : decode cX8_canStretch 13 = .ok (.aload_n 0, 1) := by decide +kernel
theorem dX8_canStretch_14 : decode cX8_canStretch 14 = .ok (.iload_n 1, 1) := by decide +kernel
theorem dX8_canStretch_15 : decode cX8_canStretch 15 = .ok (.invokevirtual 93, 3) := by decide +kernel
theorem dX8_canStretch_18 : decode cX8_canStretch 18 = .ok (.iadd, 1) := by decide +kernel
theorem dX8_canStretch_19 : decode cX8_canStretch 19 = .ok (.istore_n 3, 1) := by decide +kernel
theorem dX8_canStretch_20 : decode cX8_canStretch 20 = .ok (.iload_n 3, 1) := by decide +kernel
theorem dX8_canStretch_21 : decode cX8_canStretch 21 = .ok (.aload_n 0, 1) := by decide +kernel
theorem dX8_canStretch_22 : decode cX8_canStretch 22 = .ok (.getfield 7, 3) := by decide +kernel
theorem dX8_canStretch_25 : decode cX8_canStretch 25 = .ok (.iconst 0, 1) := by decide +kernel
theorem dX8_canStretch_26 : decode cX8_canStretch 26 = .ok (.iaload, 1) := by decide +kernel
theorem dX8_canStretch_27 : decode cX8_canStretch 27 = .ok (.if_icmp .ge 27, 3) := by decide +kernel
theorem dX8_canStretch_30 : decode cX8_canStretch 30 = .ok (.aload_n 0, 1) := by decide +kernel
theorem dX8_canStretch_31 : decode cX8_canStretch 31 = .ok (.getfield 19, 3) := by decide +kernel
theorem dX8_canStretch_34 : decode cX8_canStretch 34 = .ok (.iload_n 3, 1) := by decide +kernel
theorem dX8_canStretch_35 : decode cX8_canStretch 35 = .ok (.iaload, 1) := by decide +kernel
theorem dX8_canStretch_36 : decode cX8_canStretch 36 = .ok (.ifCond .ne 18, 3) := by decide +kernel
theorem dX8_canStretch_39 : decode cX8_canStretch 39 = .ok (.aload_n 0, 1) := by decide +kernel
theorem dX8_canStretch_40 : decode cX8_canStretch 40 = .ok (.iload_n 3, 1) := by decide +kernel
theorem dX8_canStretch_41 : decode cX8_canStretch 41 = .ok (.invokevirtual 103, 3) := by decide +kernel
theorem dX8_canStretch_44 : decode cX8_canStretch 44 = .ok (.iload_n 3, 1) := by decide +kernel
theorem dX8_canStretch_45 : decode cX8_canStretch 45 = .ok (.isub, 1) := by decide +kernel
theorem dX8_canStretch_46 : decode cX8_canStretch 46 = .ok (.iload_n 2, 1) := by decide +kernel
theorem dX8_canStretch_47 : decode cX8_canStretch 47 = .ok (.if_icmp .lt 7, 3) := by decide +kernel
theorem dX8_canStretch_50 : decode cX8_canStretch 50 = .ok (.iconst 1, 1) := by decide +kernel
theorem dX8_canStretch_51 : decode cX8_canStretch 51 = .ok (.goto 4, 3) := by decide +kernel
theorem dX8_canStretch_54 : decode cX8_canStretch 54 = .ok (.iconst 0, 1) := by decide +kernel
theorem dX8_canStretch_55 : decode cX8_canStretch 55 = .ok (.ireturn, 1) := by decide +kernel
abbrev mX8_canStretch : XM := (cX8_canStretch, 4, RX8, (some .boolean), shw_8, 3)
noncomputable def rg_X8_canStretch_0 : XK :=
 o_aload 0 <|
 o_callVg 1 0 [0] g_X8_fillsOwners v_X8_fillsOwners <|
 o_aload 0 <|
 o_get shw_8 8 0 <|
 o_iconst 13 <|
 o_iload 1 <|
 o_iadd <|
 o_iald shw_8 <|
 o_aload 0 <|
 o_iload 1 <|
 o_callVg 2 1 [0] g_X8_lengthOf v_X8_lengthOf <|
 o_iadd <|
 o_istore 3 <|
 o_iload 3 <|
 o_aload 0 <|
 o_get shw_8 8 0 <|
 o_iconst 0 <|
 o_iald shw_8 <|
 o_icmp_ge (o_iconst 0 <|
 o_zreturn)
 (o_aload 0 <|
 o_get shw_8 8 5 <|
 o_iload 3 <|
 o_iald shw_8 <|
 o_if_ne (o_iconst 0 <|
 o_zreturn)
 (o_aload 0 <|
 o_iload 3 <|
 o_callVg 2 1 [0] g_X8_behind v_X8_behind <|
 o_iload 3 <|
 o_isub <|
 o_iload 2 <|
 o_icmp_lt (o_iconst 0 <|
 o_zreturn)
 (o_iconst 1 <|
 o_zreturn)))
def en_X8_canStretch_0 (p1 : Int) (p2 : Int) (a : Ob) : XSt := ([some (.inr (.inl (0, 0))), some (.inl p1), some (.inl p2), none], [], [a])
noncomputable def mg_X8_canStretch_0 (p1 : Int) (p2 : Int) (a : Ob) : Option Rt :=
 if oqV (ov_X8_fillsOwners a) then (
 if xin (13 + p1) 735 then (
 if hdl p1 then (
 if xw (((oqO (ov_X8_fillsOwners a) 0) 1 (xw (13 + p1)).toNat) + (lenM (oqO (ov_X8_fillsOwners a) 0) p1)) ≥ xw ((oqO (ov_X8_fillsOwners a) 0) 1 0) then (RI 0 [(oqO (ov_X8_fillsOwners a) 0)])
 else (if xin (((oqO (ov_X8_fillsOwners a) 0) 1 (xw (13 + p1)).toNat) + (lenM (oqO (ov_X8_fillsOwners a) 0) p1)) 200 then (
 if xw ((oqO (ov_X8_fillsOwners a) 0) 4 (xw (((oqO (ov_X8_fillsOwners a) 0) 1 (xw (13 + p1)).toNat) + (lenM (oqO (ov_X8_fillsOwners a) 0) p1))).toNat) = 0 then (if pd (ov_X8_behind (((oqO (ov_X8_fillsOwners a) 0) 1 (xw (13 + p1)).toNat) + (lenM (oqO (ov_X8_fillsOwners a) 0) p1)) (oqO (ov_X8_fillsOwners a) 0) = RI (oqR (ov_X8_behind (((oqO (ov_X8_fillsOwners a) 0) 1 (xw (13 + p1)).toNat) + (lenM (oqO (ov_X8_fillsOwners a) 0) p1)) (oqO (ov_X8_fillsOwners a) 0))) [(oqO (ov_X8_fillsOwners a) 0)]) then (
 if xw ((oqR (ov_X8_behind (((oqO (ov_X8_fillsOwners a) 0) 1 (xw (13 + p1)).toNat) + (lenM (oqO (ov_X8_fillsOwners a) 0) p1)) (oqO (ov_X8_fillsOwners a) 0))) - (((oqO (ov_X8_fillsOwners a) 0) 1 (xw (13 + p1)).toNat) + (lenM (oqO (ov_X8_fillsOwners a) 0) p1))) < xw p2 then (RI 0 [(oqO (ov_X8_fillsOwners a) 0)])
 else (RI 1 [(oqO (ov_X8_fillsOwners a) 0)])) else none)
 else (RI 0 [(oqO (ov_X8_fillsOwners a) 0)])) else none)) else none) else none) else none
set_option maxRecDepth 100000 in
set_option maxHeartbeats 4000000 in
theorem rq_X8_canStretch_0 (p1 : Int) (p2 : Int) (a : Ob) : rg_X8_canStretch_0 (en_X8_canStretch_0 p1 p2 a) = mg_X8_canStretch_0 p1 p2 a := rfl
set_option maxRecDepth 100000 in
set_option maxHeartbeats 4000000 in
theorem sg_X8_canStretch_0 {X : XDyn} {r0 : Rt} (C : XO X mX8_canStretch) : XS X mX8_canStretch r0 0 (rg_X8_canStretch_0) := by
 unfold rg_X8_canStretch_0
 exact s_aload_n (pc := 0) C dX8_canStretch_0 rfl <|
    s_callVg (pc := 1) C ct_X8_fillsOwners (n := 1) (rk := 0) (mp := [0]) ⟨rfl, by decide, rfl⟩ (ci := 8) rfl rfl (by decide) (by decide) yi_X8_fillsOwners (by decide) wd_979 wd_981 wd_22 wd_81 wd_982 dX8_canStretch_1 <|
    s_aload_n (pc := 4) C dX8_canStretch_4 rfl <|
    s_get (pc := 5) C (ci := 8) (kf := 0) rfl inX8 (by decide) wd_871 dX8_canStretch_5 <|
    s_bipush (pc := 8) C dX8_canStretch_8 (by decide) <|
    s_iload_n (pc := 10) C dX8_canStretch_10 rfl <|
    s_iadd (pc := 11) C dX8_canStretch_11 <|
    s_iald (pc := 12) C dX8_canStretch_12 <|
    s_aload_n (pc := 13) C dX8_canStretch_13 rfl <|
    s_iload_n (pc := 14) C dX8_canStretch_14 rfl <|
    s_callVg (pc := 15) C ct_X8_lengthOf (n := 2) (rk := 1) (mp := [0]) ⟨rfl, by decide, rfl⟩ (ci := 8) rfl rfl (by decide) (by decide) yi_X8_lengthOf (by decide) wd_994 wd_996 wd_25 wd_81 wd_997 dX8_canStretch_15 <|
    s_iadd (pc := 18) C dX8_canStretch_18 <|
    s_istore_n (pc := 19) C dX8_canStretch_19 rfl <|
    s_iload_n (pc := 20) C dX8_canStretch_20 rfl <|
    s_aload_n (pc := 21) C dX8_canStretch_21 rfl <|
    s_get (pc := 22) C (ci := 8) (kf := 0) rfl inX8 (by decide) wd_871 dX8_canStretch_22 <|
    s_iconst (pc := 25) C dX8_canStretch_25 <|
    s_iald (pc := 26) C dX8_canStretch_26 <|
    s_icmp_ge (pc := 27) C dX8_canStretch_27 (by decide) (s_iconst (pc := 54) C dX8_canStretch_54 <|
    s_zreturn (pc := 55) C rfl dX8_canStretch_55)
    (s_aload_n (pc := 30) C dX8_canStretch_30 rfl <|
    s_get (pc := 31) C (ci := 8) (kf := 5) rfl inX8 (by decide) wd_876 dX8_canStretch_31 <|
    s_iload_n (pc := 34) C dX8_canStretch_34 rfl <|
    s_iald (pc := 35) C dX8_canStretch_35 <|
    s_if_ne (pc := 36) C dX8_canStretch_36 (by decide) (s_iconst (pc := 54) C dX8_canStretch_54 <|
    s_zreturn (pc := 55) C rfl dX8_canStretch_55)
    (s_aload_n (pc := 39) C dX8_canStretch_39 rfl <|
    s_iload_n (pc := 40) C dX8_canStretch_40 rfl <|
    s_callVg (pc := 41) C ct_X8_behind (n := 2) (rk := 1) (mp := [0]) ⟨rfl, by decide, rfl⟩ (ci := 8) rfl rfl (by decide) (by decide) yi_X8_behind (by decide) wd_1006 wd_1008 wd_28 wd_81 wd_1009 dX8_canStretch_41 <|
    s_iload_n (pc := 44) C dX8_canStretch_44 rfl <|
    s_isub (pc := 45) C dX8_canStretch_45 <|
    s_iload_n (pc := 46) C dX8_canStretch_46 rfl <|
    s_icmp_lt (pc := 47) C dX8_canStretch_47 (by decide) (s_iconst (pc := 54) C dX8_canStretch_54 <|
    s_zreturn (pc := 55) C rfl dX8_canStretch_55)
    (s_iconst (pc := 50) C dX8_canStretch_50 <|
    s_goto (pc := 51) C dX8_canStretch_51 (by decide) <|
    s_zreturn (pc := 55) C rfl dX8_canStretch_55)))
noncomputable def rw_X8_canStretch_0 : XK := rg_X8_canStretch_0
noncomputable def md_X8_canStretch_0 (p1 : Int) (p2 : Int) : Ob → Option Rt := mg_X8_canStretch_0 p1 p2
theorem eq_X8_canStretch_0 (p1 : Int) (p2 : Int) (a : Ob) : rw_X8_canStretch_0 (en_X8_canStretch_0 p1 p2 a) = md_X8_canStretch_0 p1 p2 a :=
 rq_X8_canStretch_0 p1 p2 a
theorem sd_X8_canStretch_0 {X : XDyn} {r0 : Rt} (C : XO X mX8_canStretch) : XS X mX8_canStretch r0 0 (rw_X8_canStretch_0) := sg_X8_canStretch_0 C
theorem ctr_X8_canStretch : XCt yX8_canStretch mX8_canStretch (xF mX8_canStretch (rw_X8_canStretch_0)) := xMet (by decide +kernel) rfl (fun _ _ C => sd_X8_canStretch_0 C)
theorem eqf_X8_canStretch (p1 : Int) (p2 : Int) (h0 : Ob) : xF mX8_canStretch (rw_X8_canStretch_0) [.inr (.inl (0, 0)), .inl p1, .inl p2] [h0] = md_X8_canStretch_0 p1 p2 h0 := eq_X8_canStretch_0 p1 p2 h0
theorem yi_X8_canStretch : yX8_canStretch.cls = RX8 ∧ yX8_canStretch.cls ≠ "java/lang/invoke/MethodHandle" ∧ yX8_canStretch.cls ≠ "java/lang/invoke/VarHandle" ∧ (parseMethodDescriptor yX8_canStretch.desc).map (fun d => d.parameters.length) = some 2 := ⟨rfl, by decide +kernel, by decide +kernel, by decide +kernel⟩
noncomputable def ov_X8_canStretch (p1 p2 : Int) (h0 : Ob) : Option Rt := xop (md_X8_canStretch_0 p1 p2 h0)
theorem ov_X8_canStretch_e (p1 p2 : Int) (h0 : Ob) : ov_X8_canStretch p1 p2 h0 = md_X8_canStretch_0 p1 p2 h0 := xop_eq _
theorem sp_X8_canStretch (p1 p2 : Int) (h0 : Ob) (hg : oqI (ov_X8_canStretch p1 p2 h0) = true) : md_X8_canStretch_0 p1 p2 h0 = RI (oqR (ov_X8_canStretch p1 p2 h0)) [(oqO (ov_X8_canStretch p1 p2 h0) 0)] := (ov_X8_canStretch_e p1 p2 h0).symm.trans (oqI_eq hg)
noncomputable def g_X8_canStretch : List AV → List Ob → Bool
  | [.inr (.inl (0, 0)), .inl p1, .inl p2], [h0] => oqI (ov_X8_canStretch p1 p2 h0)
  | _, _ => false
noncomputable def v_X8_canStretch : List AV → List Ob → Rt
  | [.inr (.inl (0, 0)), .inl p1, .inl p2], [h0] => (some (.inl (oqR (ov_X8_canStretch p1 p2 h0))), [(oqO (ov_X8_canStretch p1 p2 h0) 0)])
  | _, _ => (none, [])
theorem ct_X8_canStretch : XCt yX8_canStretch mX8_canStretch (fun as μ => if g_X8_canStretch as μ then some (v_X8_canStretch as μ) else none) := (ctr_X8_canStretch ).of (fun as μ r h => by
  split at h
  · rename_i hg
    unfold g_X8_canStretch at hg
    split at hg
    · rw [← h]
      exact (eqf_X8_canStretch _ _ _).trans (sp_X8_canStretch _ _ _ hg)
    · cases hg
  · cases h)
theorem dX8_resize_0 : decode cX8_resize 0 = .ok (.aload_n 0, 1) := by decide +kernel
theorem dX8_resize_1 : decode cX8_resize 1 = .ok (.iload_n 1, 1) := by decide +kernel
theorem dX8_resize_2 : decode cX8_resize 2 = .ok (.invokevirtual 83, 3) := by decide +kernel
theorem dX8_resize_5 : decode cX8_resize 5 = .ok (.ifCond .eq 28, 3) := by decide +kernel
theorem dX8_resize_8 : decode cX8_resize 8 = .ok (.iload_n 2, 1) := by decide +kernel
theorem dX8_resize_9 : decode cX8_resize 9 = .ok (.i2l, 1) := by decide +kernel
theorem dX8_resize_10 : decode cX8_resize 10 = .ok (.lconst 1, 1) := by decide +kernel
theorem dX8_resize_11 : decode cX8_resize 11 = .ok (.ldc2_w 204, 3) := by decide +kernel
theorem dX8_resize_14 : decode cX8_resize 14 = .ok (.invokestatic 75, 3) := by decide +kernel
theorem dX8_resize_17 : decode cX8_resize 17 = .ok (.ifCond .eq 16, 3) := by decide +kernel
theorem dX8_resize_20 : decode cX8_resize 20 = .ok (.aload_n 0, 1) := by decide +kernel
theorem dX8_resize_21 : decode cX8_resize 21 = .ok (.getfield 7, 3) := by decide +kernel
theorem dX8_resize_24 : decode cX8_resize 24 = .ok (.bipush 21, 2) := by decide +kernel
theorem dX8_resize_26 : decode cX8_resize 26 = .ok (.iload_n 1, 1) := by decide +kernel
theorem dX8_resize_27 : decode cX8_resize 27 = .ok (.iadd, 1) := by decide +kernel
theorem dX8_resize_28 : decode cX8_resize 28 = .ok (.iaload, 1) := by decide +kernel
theorem dX8_resize_29 : decode cX8_resize 29 = .ok (.iload_n 2, 1) := by decide +kernel
theorem dX8_resize_30 : decode cX8_resize 30 = .ok (.if_icmp .ne 5, 3) := by decide +kernel
theorem dX8_resize_33 : decode cX8_resize 33 = .ok (.iconst (-1), 1) := by decide +kernel
theorem dX8_resize_34 : decode cX8_resize 34 = .ok (.ireturn, 1) := by decide +kernel
theorem dX8_resize_35 : decode cX8_resize 35 = .ok (.aload_n 0, 1) := by decide +kernel
theorem dX8_resize_36 : decode cX8_resize 36 = .ok (.getfield 7, 3) := by decide +kernel
theorem dX8_resize_39 : decode cX8_resize 39 = .ok (.bipush 21, 2) := by decide +kernel
theorem dX8_resize_41 : decode cX8_resize 41 = .ok (.iload_n 1, 1) := by decide +kernel
theorem dX8_resize_42 : decode cX8_resize 42 = .ok (.iadd, 1) := by decide +kernel
theorem dX8_resize_43 : decode cX8_resize 43 = .ok (.iaload, 1) := by decide +kernel
theorem dX8_resize_44 : decode cX8_resize 44 = .ok (.istore_n 3, 1) := by decide +kernel
theorem dX8_resize_45 : decode cX8_resize 45 = .ok (.aload_n 0, 1) := by decide +kernel
theorem dX8_resize_46 : decode cX8_resize 46 = .ok (.invokevirtual 208, 3) := by decide +kernel
theorem dX8_resize_49 : decode cX8_resize 49 = .ok (.iload_n 2, 1) := by decide +kernel
theorem dX8_resize_50 : decode cX8_resize 50 = .ok (.iload_n 3, 1) := by decide +kernel
theorem dX8_resize_51 : decode cX8_resize 51 = .ok (.if_icmp .le 59, 3) := by decide +kernel
theorem dX8_resize_54 : decode cX8_resize 54 = .ok (.aload_n 0, 1) := by decide +kernel
theorem dX8_resize_55 : decode cX8_resize 55 = .ok (.iload_n 1, 1) := by decide +kernel
theorem dX8_resize_56 : decode cX8_resize 56 = .ok (.iload_n 2, 1) := by decide +kernel
theorem dX8_resize_57 : decode cX8_resize 57 = .ok (.iload_n 3, 1) := by decide +kernel
theorem dX8_resize_58 : decode cX8_resize 58 = .ok (.isub, 1) := by decide +kernel
theorem dX8_resize_59 : decode cX8_resize 59 = .ok (.invokevirtual 234, 3) := by decide +kernel
theorem dX8_resize_62 : decode cX8_resize 62 = .ok (.ifCond .ne 48, 3) := by decide +kernel
theorem dX8_resize_65 : decode cX8_resize 65 = .ok (.aload_n 0, 1) := by decide +kernel
theorem dX8_resize_66 : decode cX8_resize 66 = .ok (.iload_n 1, 1) := by decide +kernel
theorem dX8_resize_67 : decode cX8_resize 67 = .ok (.invokevirtual 86, 3) := by decide +kernel
theorem dX8_resize_70 : decode cX8_resize 70 = .ok (.ifCond .eq 14, 3) := by decide +kernel
theorem dX8_resize_73 : decode cX8_resize 73 = .ok (.aload_n 0, 1) := by decide +kernel
theorem dX8_resize_74 : decode cX8_resize 74 = .ok (.iload_n 2, 1) := by decide +kernel
theorem dX8_resize_75 : decode cX8_resize 75 = .ok (.iconst 1, 1) := by decide +kernel
theorem dX8_resize_76 : decode cX8_resize 76 = .ok (.iadd, 1) := by decide +kernel
theorem dX8_resize_77 : decode cX8_resize 77 = .ok (.iload_n 1, 1) := by decide +kernel
theorem dX8_resize_78 : decode cX8_resize 78 = .ok (.invokevirtual 211, 3) := by decide +kernel
theorem dX8_resize_81 : decode cX8_resize 81 = .ok (.goto 4, 3) := by decide +kernel
theorem dX8_resize_84 : decode cX8_resize 84 = .ok (.iconst (-1), 1) := by decide +kernel
theorem dX8_resize_85 : decode cX8_resize 85 = .ok (.istore 4, 2) := by decide +kernel
theorem dX8_resize_87 : decode cX8_resize 87 = .ok (.iload 4, 2) := by decide +kernel
theorem dX8_resize_89 : decode cX8_resize 89 = .ok (.ifCond .ge 10, 3) := by decide +kernel
theorem dX8_resize_92 : decode cX8_resize 92 = .ok (.aload_n 0, 1) := by decide +kernel
theorem dX8_resize_93 : decode cX8_resize 93 = .ok (.invokevirtual 215, 3) := by decide +kernel
theorem dX8_resize_96 : decode cX8_resize 96 = .ok (.bipush (-2), 2) := by decide +kernel
theorem dX8_resize_98 : decode cX8_resize 98 = .ok (.ireturn, 1) := by decide +kernel
theorem dX8_resize_99 : decode cX8_resize 99 = .ok (.aload_n 0, 1) := by decide +kernel
theorem dX8_resize_100 : decode cX8_resize 100 = .ok (.getfield 7, 3) := by decide +kernel
theorem dX8_resize_103 : decode cX8_resize 103 = .ok (.bipush 13, 2) := by decide +kernel
theorem dX8_resize_105 : decode cX8_resize 105 = .ok (.iload_n 1, 1) := by decide +kernel
theorem dX8_resize_106 : decode cX8_resize 106 = .ok (.iadd, 1) := by decide +kernel
theorem dX8_resize_107 : decode cX8_resize 107 = .ok (.iload 4, 2) := by decide +kernel
theorem dX8_resize_109 : decode cX8_resize 109 = .ok (.iastore, 1) := by decide +kernel
theorem dX8_resize_110 : decode cX8_resize 110 = .ok (.aload_n 0, 1) := by decide +kernel
theorem dX8_resize_111 : decode cX8_resize 111 = .ok (.getfield 7, 3) := by decide +kernel
theorem dX8_resize_114 : decode cX8_resize 114 = .ok (.bipush 21, 2) := by decide +kernel
theorem dX8_resize_116 : decode cX8_resize 116 = .ok (.iload_n 1, 1) := by decide +kernel
theorem dX8_resize_117 : decode cX8_resize 117 = .ok (.iadd, 1) := by decide +kernel
theorem dX8_resize_118 : decode cX8_resize 118 = .ok (.iload_n 2, 1) := by decide +kernel
theorem dX8_resize_119 : decode cX8_resize 119 = .ok (.iastore, 1) := by decide +kernel
theorem dX8_resize_120 : decode cX8_resize 120 = .ok (.aload_n 0, 1) := by decide +kernel
theorem dX8_resize_121 : decode cX8_resize 121 = .ok (.getfield 7, 3) := by decide +kernel
theorem dX8_resize_124 : decode cX8_resize 124 = .ok (.bipush 37, 2) := by decide +kernel
theorem dX8_resize_126 : decode cX8_resize 126 = .ok (.iload_n 1, 1) := by decide +kernel
theorem dX8_resize_127 : decode cX8_resize 127 = .ok (.iadd, 1) := by decide +kernel
theorem dX8_resize_128 : decode cX8_resize 128 = .ok (.iaload, 1) := by decide +kernel
theorem dX8_resize_129 : decode cX8_resize 129 = .ok (.iload_n 2, 1) := by decide +kernel
theorem dX8_resize_130 : decode cX8_resize 130 = .ok (.if_icmp .le 13, 3) := by decide +kernel
theorem dX8_resize_133 : decode cX8_resize 133 = .ok (.aload_n 0, 1) := by decide +kernel
theorem dX8_resize_134 : decode cX8_resize 134 = .ok (.getfield 7, 3) := by decide +kernel
theorem dX8_resize_137 : decode cX8_resize 137 = .ok (.bipush 37, 2) := by decide +kernel
theorem dX8_resize_139 : decode cX8_resize 139 = .ok (.iload_n 1, 1) := by decide +kernel
theorem dX8_resize_140 : decode cX8_resize 140 = .ok (.iadd, 1) := by decide +kernel
theorem dX8_resize_141 : decode cX8_resize 141 = .ok (.iload_n 2, 1) := by decide +kernel
theorem dX8_resize_142 : decode cX8_resize 142 = .ok (.iastore, 1) := by decide +kernel
theorem dX8_resize_143 : decode cX8_resize 143 = .ok (.iload_n 2, 1) := by decide +kernel
theorem dX8_resize_144 : decode cX8_resize 144 = .ok (.iload_n 3, 1) := by decide +kernel
theorem dX8_resize_145 : decode cX8_resize 145 = .ok (.if_icmp .le 10, 3) := by decide +kernel
theorem dX8_resize_148 : decode cX8_resize 148 = .ok (.aload_n 0, 1) := by decide +kernel
theorem dX8_resize_149 : decode cX8_resize 149 = .ok (.iload_n 1, 1) := by decide +kernel
theorem dX8_resize_150 : decode cX8_resize 150 = .ok (.iload_n 3, 1) := by decide +kernel
theorem dX8_resize_151 : decode cX8_resize 151 = .ok (.iload_n 2, 1) := by decide +kernel
theorem dX8_resize_152 : decode cX8_resize 152 = .ok (.invokevirtual 201, 3) := by decide +kernel
theorem dX8_resize_155 : decode cX8_resize 155 = .ok (.aload_n 0, 1) := by decide +kernel
theorem dX8_resize_156 : decode cX8_resize 156 = .ok (.invokevirtual 221, 3) := by decide +kernel
theorem dX8_resize_159 : decode cX8_resize 159 = .ok (.aload_n 0, 1) := by decide +kernel
theorem dX8_resize_160 : decode cX8_resize 160 = .ok (.iload_n 1, 1) := by decide +kernel
theorem dX8_resize_161 : decode cX8_resize 161 = .ok (.invokevirtual 224, 3) := by decide +kernel
theorem dX8_resize_164 : decode cX8_resize 164 = .ok (.aload_n 0, 1) := by decide +kernel
theorem dX8_resize_165 : decode cX8_resize 165 = .ok (.getfield 7, 3) := by decide +kernel
theorem dX8_resize_168 : decode cX8_resize 168 = .ok (.bipush 13, 2) := by decide +kernel
theorem dX8_resize_170 : decode cX8_resize 170 = .ok (.iload_n 1, 1) := by decide +kernel
theorem dX8_resize_171 : decode cX8_resize 171 = .ok (.iadd, 1) := by decide +kernel
theorem dX8_resize_172 : decode cX8_resize 172 = .ok (.iaload, 1) := by decide +kernel
theorem dX8_resize_173 : decode cX8_resize 173 = .ok (.ireturn, 1) := by decide +kernel
abbrev mX8_resize : XM := (cX8_resize, 5, RX8, (some .int), shw_8, 7)
noncomputable def rg_X8_resize_0 (k110 : XK) (k85 : XK) : XK :=
 o_aload 0 <|
 o_iload 1 <|
 o_callV 2 1 [0] f_X8_isFull <|
 o_if_eq (o_iconst (-1) <|
 o_ireturn)
 (o_iload 2 <|
 o_i2l <|
 o_lconst 1 <|
 o_lconst 60 <|
 o_callSg 3 1 [] g_X8_in v_X8_in <|
 o_if_eq (o_iconst (-1) <|
 o_ireturn)
 (o_aload 0 <|
 o_get shw_8 8 0 <|
 o_iconst 21 <|
 o_iload 1 <|
 o_iadd <|
 o_iald shw_8 <|
 o_iload 2 <|
 o_icmp_ne (o_aload 0 <|
 o_get shw_8 8 0 <|
 o_iconst 21 <|
 o_iload 1 <|
 o_iadd <|
 o_iald shw_8 <|
 o_istore 3 <|
 o_aload 0 <|
 o_callVg 1 0 [0] g_X8_keepsAside v_X8_keepsAside <|
 o_iload 2 <|
 o_iload 3 <|
 o_icmp_le (o_cut [] k110)
 (o_aload 0 <|
 o_iload 1 <|
 o_iload 2 <|
 o_iload 3 <|
 o_isub <|
 o_callVg 3 1 [0] g_X8_canStretch v_X8_canStretch <|
 o_if_ne (o_cut [] k110)
 (o_aload 0 <|
 o_iload 1 <|
 o_callV 2 1 [0] f_X8_isLoose <|
 o_if_eq (o_iconst (-1) <|
 o_cut [] k85)
 (o_aload 0 <|
 o_iload 2 <|
 o_iconst 1 <|
 o_iadd <|
 o_iload 1 <|
 o_callVg 3 1 [0] g_X8_fits v_X8_fits <|
 o_cut [] k85))))
 (o_iconst (-1) <|
 o_ireturn)))
def en_X8_resize_0 (p1 : Int) (p2 : Int) (a : Ob) : XSt := ([some (.inr (.inl (0, 0))), some (.inl p1), some (.inl p2), none, none], [], [a])
noncomputable def rg_X8_resize_85 (k110 : XK) : XK :=
 o_istore 4 <|
 o_iload 4 <|
 o_if_ge (o_aload 0 <|
 o_get shw_8 8 0 <|
 o_iconst 13 <|
 o_iload 1 <|
 o_iadd <|
 o_iload 4 <|
 o_iast shw_8 <|
 o_cut [4] k110)
 (o_aload 0 <|
 o_callVg 1 0 [0] g_X8_laysBack v_X8_laysBack <|
 o_iconst (-2) <|
 o_ireturn)
def en_X8_resize_85 (p1 : Int) (p2 : Int) (a : Int × Int × Ob) : XSt := ([some (.inr (.inl (0, 0))), some (.inl p1), some (.inl p2), some (.inl a.1), none], [.inl a.2.1], [a.2.2])
noncomputable def rg_X8_resize_110 (k143 : XK) : XK :=
 o_aload 0 <|
 o_get shw_8 8 0 <|
 o_iconst 21 <|
 o_iload 1 <|
 o_iadd <|
 o_iload 2 <|
 o_iast shw_8 <|
 o_aload 0 <|
 o_get shw_8 8 0 <|
 o_iconst 37 <|
 o_iload 1 <|
 o_iadd <|
 o_iald shw_8 <|
 o_iload 2 <|
 o_icmp_le (o_cut [] k143)
 (o_aload 0 <|
 o_get shw_8 8 0 <|
 o_iconst 37 <|
 o_iload 1 <|
 o_iadd <|
 o_iload 2 <|
 o_iast shw_8 <|
 o_cut [] k143)
def en_X8_resize_110 (p1 : Int) (p2 : Int) (a : Int × Ob) : XSt := ([some (.inr (.inl (0, 0))), some (.inl p1), some (.inl p2), some (.inl a.1), none], [], [a.2])
noncomputable def rg_X8_resize_143 (k155 : XK) : XK :=
 o_iload 2 <|
 o_iload 3 <|
 o_icmp_le (o_cut [3] k155)
 (o_aload 0 <|
 o_iload 1 <|
 o_iload 3 <|
 o_iload 2 <|
 o_callVg 4 0 [0] g_X8_clearsContents v_X8_clearsContents <|
 o_cut [3] k155)
def en_X8_resize_143 (p1 : Int) (p2 : Int) (a : Int × Ob) : XSt := ([some (.inr (.inl (0, 0))), some (.inl p1), some (.inl p2), some (.inl a.1), none], [], [a.2])
noncomputable def rg_X8_resize_155 : XK :=
 o_aload 0 <|
 o_callVg 1 0 [0] g_X8_keepsAct v_X8_keepsAct <|
 o_aload 0 <|
 o_iload 1 <|
 o_callVg 2 0 [0] g_X8_touches v_X8_touches <|
 o_aload 0 <|
 o_get shw_8 8 0 <|
 o_iconst 13 <|
 o_iload 1 <|
 o_iadd <|
 o_iald shw_8 <|
 o_ireturn
def en_X8_resize_155 (p1 : Int) (p2 : Int) (a : Ob) : XSt := ([some (.inr (.inl (0, 0))), some (.inl p1), some (.inl p2), none, none], [], [a])
noncomputable def mg_X8_resize_0 (p1 : Int) (p2 : Int) (k110 : (Int × Ob) → Option Rt) (k85 : (Int × Int × Ob) → Option Rt) (a : Ob) : Option Rt :=
 if xw (bz (fulM a p1)) = 0 then (RI (-1) [a])
 else (if xlr (xw p2) && (xlr (1 : Int) && xlr (60 : Int)) then (
 if xw (bz (inn (xw p2) (1 : Int) (60 : Int))) = 0 then (RI (-1) [a])
 else (if xin (21 + p1) 735 then (
 if xw (a 1 (xw (21 + p1)).toNat) = xw p2 then (RI (-1) [a])
 else (if xin (21 + p1) 735 then (
 if oqV (ov_X8_keepsAside a) then (
 if xw p2 ≤ xw (a 1 (xw (21 + p1)).toNat) then (k110 ((a 1 (xw (21 + p1)).toNat), (oqO (ov_X8_keepsAside a) 0)))
 else (if oqI (ov_X8_canStretch p1 (p2 - (a 1 (xw (21 + p1)).toNat)) (oqO (ov_X8_keepsAside a) 0)) then (
 if xw (oqR (ov_X8_canStretch p1 (p2 - (a 1 (xw (21 + p1)).toNat)) (oqO (ov_X8_keepsAside a) 0))) = 0 then (if xw (bz (looM (oqO (ov_X8_canStretch p1 (p2 - (a 1 (xw (21 + p1)).toNat)) (oqO (ov_X8_keepsAside a) 0)) 0) p1)) = 0 then (k85 ((a 1 (xw (21 + p1)).toNat), (-1), (oqO (ov_X8_canStretch p1 (p2 - (a 1 (xw (21 + p1)).toNat)) (oqO (ov_X8_keepsAside a) 0)) 0)))
 else (if oqI (ov_X8_fits (p2 + 1) p1 (oqO (ov_X8_canStretch p1 (p2 - (a 1 (xw (21 + p1)).toNat)) (oqO (ov_X8_keepsAside a) 0)) 0)) then (
 k85 ((a 1 (xw (21 + p1)).toNat), (oqR (ov_X8_fits (p2 + 1) p1 (oqO (ov_X8_canStretch p1 (p2 - (a 1 (xw (21 + p1)).toNat)) (oqO (ov_X8_keepsAside a) 0)) 0))), (oqO (ov_X8_fits (p2 + 1) p1 (oqO (ov_X8_canStretch p1 (p2 - (a 1 (xw (21 + p1)).toNat)) (oqO (ov_X8_keepsAside a) 0)) 0)) 0))) else none))
 else (k110 ((a 1 (xw (21 + p1)).toNat), (oqO (ov_X8_canStretch p1 (p2 - (a 1 (xw (21 + p1)).toNat)) (oqO (ov_X8_keepsAside a) 0)) 0)))) else none)) else none) else none)) else none)) else none)
set_option maxRecDepth 100000 in
set_option maxHeartbeats 4000000 in
theorem rq_X8_resize_0 (p1 : Int) (p2 : Int) (k110 : XK) (k85 : XK) (a : Ob) : rg_X8_resize_0 k110 k85 (en_X8_resize_0 p1 p2 a) = mg_X8_resize_0 p1 p2 (fun b => k110 (en_X8_resize_110 p1 p2 b)) (fun b => k85 (en_X8_resize_85 p1 p2 b)) a := rfl
set_option maxRecDepth 100000 in
set_option maxHeartbeats 4000000 in
theorem sg_X8_resize_0 {X : XDyn} {r0 : Rt} (C : XO X mX8_resize) {k110 : XK} (q110 : XS X mX8_resize r0 110 k110) {k85 : XK} (q85 : XS X mX8_resize r0 85 k85) : XS X mX8_resize r0 0 (rg_X8_resize_0 k110 k85) := by
 unfold rg_X8_resize_0
 exact s_aload_n (pc := 0) C dX8_resize_0 rfl <|
    s_iload_n (pc := 1) C dX8_resize_1 rfl <|
    s_callV (pc := 2) C ct_X8_isFull (n := 2) (rk := 1) (mp := [0]) ⟨rfl, by decide, rfl⟩ (ci := 8) rfl rfl (by decide) (by decide) yi_X8_isFull (by decide) wd_987 wd_989 wd_24 wd_81 wd_990 dX8_resize_2 <|
    s_if_eq (pc := 5) C dX8_resize_5 (by decide) (s_iconst (pc := 33) C dX8_resize_33 <|
    s_ireturn (pc := 34) C rfl dX8_resize_34)
    (s_iload_n (pc := 8) C dX8_resize_8 rfl <|
    s_i2l (pc := 9) C dX8_resize_9 <|
    s_lconst (pc := 10) C dX8_resize_10 rfl <|
    s_ldc2 (pc := 11) C dX8_resize_11 wd_965 rfl <|
    s_callSg (pc := 14) C ct_X8_in (n := 3) (rk := 1) (mp := []) ⟨rfl, by decide, rfl⟩ (by decide) (by decide) ⟨rfl, yi_X8_in⟩ wd_954 wd_955 wd_81 wd_956 dX8_resize_14 <|
    s_if_eq (pc := 17) C dX8_resize_17 (by decide) (s_iconst (pc := 33) C dX8_resize_33 <|
    s_ireturn (pc := 34) C rfl dX8_resize_34)
    (s_aload_n (pc := 20) C dX8_resize_20 rfl <|
    s_get (pc := 21) C (ci := 8) (kf := 0) rfl inX8 (by decide) wd_871 dX8_resize_21 <|
    s_bipush (pc := 24) C dX8_resize_24 (by decide) <|
    s_iload_n (pc := 26) C dX8_resize_26 rfl <|
    s_iadd (pc := 27) C dX8_resize_27 <|
    s_iald (pc := 28) C dX8_resize_28 <|
    s_iload_n (pc := 29) C dX8_resize_29 rfl <|
    s_icmp_ne (pc := 30) C dX8_resize_30 (by decide) (s_aload_n (pc := 35) C dX8_resize_35 rfl <|
    s_get (pc := 36) C (ci := 8) (kf := 0) rfl inX8 (by decide) wd_871 dX8_resize_36 <|
    s_bipush (pc := 39) C dX8_resize_39 (by decide) <|
    s_iload_n (pc := 41) C dX8_resize_41 rfl <|
    s_iadd (pc := 42) C dX8_resize_42 <|
    s_iald (pc := 43) C dX8_resize_43 <|
    s_istore_n (pc := 44) C dX8_resize_44 rfl <|
    s_aload_n (pc := 45) C dX8_resize_45 rfl <|
    s_callVg (pc := 46) C ct_X8_keepsAside (n := 1) (rk := 0) (mp := [0]) ⟨rfl, by decide, rfl⟩ (ci := 8) rfl rfl (by decide) (by decide) yi_X8_keepsAside (by decide) wd_967 wd_969 wd_19 wd_81 wd_970 dX8_resize_46 <|
    s_iload_n (pc := 49) C dX8_resize_49 rfl <|
    s_iload_n (pc := 50) C dX8_resize_50 rfl <|
    s_icmp_le (pc := 51) C dX8_resize_51 (by decide) (s_cut q110)
    (s_aload_n (pc := 54) C dX8_resize_54 rfl <|
    s_iload_n (pc := 55) C dX8_resize_55 rfl <|
    s_iload_n (pc := 56) C dX8_resize_56 rfl <|
    s_iload_n (pc := 57) C dX8_resize_57 rfl <|
    s_isub (pc := 58) C dX8_resize_58 <|
    s_callVg (pc := 59) C ct_X8_canStretch (n := 3) (rk := 1) (mp := [0]) ⟨rfl, by decide, rfl⟩ (ci := 8) rfl rfl (by decide) (by decide) yi_X8_canStretch (by decide) wd_1177 wd_1179 wd_58 wd_81 wd_1180 dX8_resize_59 <|
    s_if_ne (pc := 62) C dX8_resize_62 (by decide) (s_cut q110)
    (s_aload_n (pc := 65) C dX8_resize_65 rfl <|
    s_iload_n (pc := 66) C dX8_resize_66 rfl <|
    s_callV (pc := 67) C ct_X8_isLoose (n := 2) (rk := 1) (mp := [0]) ⟨rfl, by decide, rfl⟩ (ci := 8) rfl rfl (by decide) (by decide) yi_X8_isLoose (by decide) wd_1081 wd_1083 wd_46 wd_81 wd_1084 dX8_resize_67 <|
    s_if_eq (pc := 70) C dX8_resize_70 (by decide) (s_iconst (pc := 84) C dX8_resize_84 <|
    s_cut q85)
    (s_aload_n (pc := 73) C dX8_resize_73 rfl <|
    s_iload_n (pc := 74) C dX8_resize_74 rfl <|
    s_iconst (pc := 75) C dX8_resize_75 <|
    s_iadd (pc := 76) C dX8_resize_76 <|
    s_iload_n (pc := 77) C dX8_resize_77 rfl <|
    s_callVg (pc := 78) C ct_X8_fits (n := 3) (rk := 1) (mp := [0]) ⟨rfl, by decide, rfl⟩ (ci := 8) rfl rfl (by decide) (by decide) yi_X8_fits (by decide) wd_971 wd_973 wd_20 wd_81 wd_974 dX8_resize_78 <|
    s_goto (pc := 81) C dX8_resize_81 (by decide) <|
    s_cut q85))))
    (s_iconst (pc := 33) C dX8_resize_33 <|
    s_ireturn (pc := 34) C rfl dX8_resize_34)))
noncomputable def mg_X8_resize_85 (p1 : Int) (p2 : Int) (k110 : (Int × Ob) → Option Rt) (a : Int × Int × Ob) : Option Rt :=
 if xw a.2.1 ≥ 0 then (if xin (13 + p1) 735 then (
 k110 (a.1, (xset a.2.2 1 (xw (13 + p1)).toNat a.2.1))) else none)
 else (if oqV (ov_X8_laysBack a.2.2) then (
 RI (-2) [(oqO (ov_X8_laysBack a.2.2) 0)]) else none)
set_option maxRecDepth 100000 in
set_option maxHeartbeats 4000000 in
theorem rq_X8_resize_85 (p1 : Int) (p2 : Int) (k110 : XK) (a : Int × Int × Ob) : rg_X8_resize_85 k110 (en_X8_resize_85 p1 p2 a) = mg_X8_resize_85 p1 p2 (fun b => k110 (en_X8_resize_110 p1 p2 b)) a := rfl
set_option maxRecDepth 100000 in
set_option maxHeartbeats 4000000 in
theorem sg_X8_resize_85 {X : XDyn} {r0 : Rt} (C : XO X mX8_resize) {k110 : XK} (q110 : XS X mX8_resize r0 110 k110) : XS X mX8_resize r0 85 (rg_X8_resize_85 k110) := by
 unfold rg_X8_resize_85
 exact s_istore (pc := 85) C dX8_resize_85 <|
    s_iload (pc := 87) C dX8_resize_87 <|
    s_if_ge (pc := 89) C dX8_resize_89 (by decide) (s_aload_n (pc := 99) C dX8_resize_99 rfl <|
    s_get (pc := 100) C (ci := 8) (kf := 0) rfl inX8 (by decide) wd_871 dX8_resize_100 <|
    s_bipush (pc := 103) C dX8_resize_103 (by decide) <|
    s_iload_n (pc := 105) C dX8_resize_105 rfl <|
    s_iadd (pc := 106) C dX8_resize_106 <|
    s_iload (pc := 107) C dX8_resize_107 <|
    s_iast (pc := 109) C dX8_resize_109 <|
    s_cut q110)
    (s_aload_n (pc := 92) C dX8_resize_92 rfl <|
    s_callVg (pc := 93) C ct_X8_laysBack (n := 1) (rk := 0) (mp := [0]) ⟨rfl, by decide, rfl⟩ (ci := 8) rfl rfl (by decide) (by decide) yi_X8_laysBack (by decide) wd_1101 wd_1103 wd_51 wd_81 wd_1104 dX8_resize_93 <|
    s_bipush (pc := 96) C dX8_resize_96 (by decide) <|
    s_ireturn (pc := 98) C rfl dX8_resize_98)
noncomputable def mg_X8_resize_110 (p1 : Int) (p2 : Int) (k143 : (Int × Ob) → Option Rt) (a : Int × Ob) : Option Rt :=
 if xin (21 + p1) 735 then (
 if xin (37 + p1) 735 then (
 if xw ((xset a.2 1 (xw (21 + p1)).toNat p2) 1 (xw (37 + p1)).toNat) ≤ xw p2 then (k143 (a.1, (xset a.2 1 (xw (21 + p1)).toNat p2)))
 else (if xin (37 + p1) 735 then (
 k143 (a.1, (xset (xset a.2 1 (xw (21 + p1)).toNat p2) 1 (xw (37 + p1)).toNat p2))) else none)) else none) else none
set_option maxRecDepth 100000 in
set_option maxHeartbeats 4000000 in
theorem rq_X8_resize_110 (p1 : Int) (p2 : Int) (k143 : XK) (a : Int × Ob) : rg_X8_resize_110 k143 (en_X8_resize_110 p1 p2 a) = mg_X8_resize_110 p1 p2 (fun b => k143 (en_X8_resize_143 p1 p2 b)) a := rfl
set_option maxRecDepth 100000 in
set_option maxHeartbeats 4000000 in
theorem sg_X8_resize_110 {X : XDyn} {r0 : Rt} (C : XO X mX8_resize) {k143 : XK} (q143 : XS X mX8_resize r0 143 k143) : XS X mX8_resize r0 110 (rg_X8_resize_110 k143) := by
 unfold rg_X8_resize_110
 exact s_aload_n (pc := 110) C dX8_resize_110 rfl <|
    s_get (pc := 111) C (ci := 8) (kf := 0) rfl inX8 (by decide) wd_871 dX8_resize_111 <|
    s_bipush (pc := 114) C dX8_resize_114 (by decide) <|
    s_iload_n (pc := 116) C dX8_resize_116 rfl <|
    s_iadd (pc := 117) C dX8_resize_117 <|
    s_iload_n (pc := 118) C dX8_resize_118 rfl <|
    s_iast (pc := 119) C dX8_resize_119 <|
    s_aload_n (pc := 120) C dX8_resize_120 rfl <|
    s_get (pc := 121) C (ci := 8) (kf := 0) rfl inX8 (by decide) wd_871 dX8_resize_121 <|
    s_bipush (pc := 124) C dX8_resize_124 (by decide) <|
    s_iload_n (pc := 126) C dX8_resize_126 rfl <|
    s_iadd (pc := 127) C dX8_resize_127 <|
    s_iald (pc := 128) C dX8_resize_128 <|
    s_iload_n (pc := 129) C dX8_resize_129 rfl <|
    s_icmp_le (pc := 130) C dX8_resize_130 (by decide) (s_cut q143)
    (s_aload_n (pc := 133) C dX8_resize_133 rfl <|
    s_get (pc := 134) C (ci := 8) (kf := 0) rfl inX8 (by decide) wd_871 dX8_resize_134 <|
    s_bipush (pc := 137) C dX8_resize_137 (by decide) <|
    s_iload_n (pc := 139) C dX8_resize_139 rfl <|
    s_iadd (pc := 140) C dX8_resize_140 <|
    s_iload_n (pc := 141) C dX8_resize_141 rfl <|
    s_iast (pc := 142) C dX8_resize_142 <|
    s_cut q143)
noncomputable def mg_X8_resize_143 (p1 : Int) (p2 : Int) (k155 : Ob → Option Rt) (a : Int × Ob) : Option Rt :=
 if xw p2 ≤ xw a.1 then (k155 a.2)
 else (if oqV (ov_X8_clearsContents p1 a.1 p2 a.2) then (
 k155 (oqO (ov_X8_clearsContents p1 a.1 p2 a.2) 0)) else none)
set_option maxRecDepth 100000 in
set_option maxHeartbeats 4000000 in
theorem rq_X8_resize_143 (p1 : Int) (p2 : Int) (k155 : XK) (a : Int × Ob) : rg_X8_resize_143 k155 (en_X8_resize_143 p1 p2 a) = mg_X8_resize_143 p1 p2 (fun b => k155 (en_X8_resize_155 p1 p2 b)) a := rfl
set_option maxRecDepth 100000 in
set_option maxHeartbeats 4000000 in
theorem sg_X8_resize_143 {X : XDyn} {r0 : Rt} (C : XO X mX8_resize) {k155 : XK} (q155 : XS X mX8_resize r0 155 k155) : XS X mX8_resize r0 143 (rg_X8_resize_143 k155) := by
 unfold rg_X8_resize_143
 exact s_iload_n (pc := 143) C dX8_resize_143 rfl <|
    s_iload_n (pc := 144) C dX8_resize_144 rfl <|
    s_icmp_le (pc := 145) C dX8_resize_145 (by decide) (s_cut q155)
    (s_aload_n (pc := 148) C dX8_resize_148 rfl <|
    s_iload_n (pc := 149) C dX8_resize_149 rfl <|
    s_iload_n (pc := 150) C dX8_resize_150 rfl <|
    s_iload_n (pc := 151) C dX8_resize_151 rfl <|
    s_callVg (pc := 152) C ct_X8_clearsContents (n := 4) (rk := 0) (mp := [0]) ⟨rfl, by decide, rfl⟩ (ci := 8) rfl rfl (by decide) (by decide) yi_X8_clearsContents (by decide) wd_1109 wd_1111 wd_53 wd_81 wd_1112 dX8_resize_152 <|
    s_cut q155)
noncomputable def mg_X8_resize_155 (p1 : Int) (p2 : Int) (a : Ob) : Option Rt :=
 if oqV (ov_X8_keepsAct a) then (
 if oqV (ov_X8_touches p1 (oqO (ov_X8_keepsAct a) 0)) then (
 if xin (13 + p1) 735 then (
 RI ((oqO (ov_X8_touches p1 (oqO (ov_X8_keepsAct a) 0)) 0) 1 (xw (13 + p1)).toNat) [(oqO (ov_X8_touches p1 (oqO (ov_X8_keepsAct a) 0)) 0)]) else none) else none) else none
set_option maxRecDepth 100000 in
set_option maxHeartbeats 4000000 in
theorem rq_X8_resize_155 (p1 : Int) (p2 : Int) (a : Ob) : rg_X8_resize_155 (en_X8_resize_155 p1 p2 a) = mg_X8_resize_155 p1 p2 a := rfl
set_option maxRecDepth 100000 in
set_option maxHeartbeats 4000000 in
theorem sg_X8_resize_155 {X : XDyn} {r0 : Rt} (C : XO X mX8_resize) : XS X mX8_resize r0 155 (rg_X8_resize_155) := by
 unfold rg_X8_resize_155
 exact s_aload_n (pc := 155) C dX8_resize_155 rfl <|
    s_callVg (pc := 156) C ct_X8_keepsAct (n := 1) (rk := 0) (mp := [0]) ⟨rfl, by decide, rfl⟩ (ci := 8) rfl rfl (by decide) (by decide) yi_X8_keepsAct (by decide) wd_1113 wd_1115 wd_54 wd_81 wd_1116 dX8_resize_156 <|
    s_aload_n (pc := 159) C dX8_resize_159 rfl <|
    s_iload_n (pc := 160) C dX8_resize_160 rfl <|
    s_callVg (pc := 161) C ct_X8_touches (n := 2) (rk := 0) (mp := [0]) ⟨rfl, by decide, rfl⟩ (ci := 8) rfl rfl (by decide) (by decide) yi_X8_touches (by decide) wd_1117 wd_1119 wd_55 wd_81 wd_1120 dX8_resize_161 <|
    s_aload_n (pc := 164) C dX8_resize_164 rfl <|
    s_get (pc := 165) C (ci := 8) (kf := 0) rfl inX8 (by decide) wd_871 dX8_resize_165 <|
    s_bipush (pc := 168) C dX8_resize_168 (by decide) <|
    s_iload_n (pc := 170) C dX8_resize_170 rfl <|
    s_iadd (pc := 171) C dX8_resize_171 <|
    s_iald (pc := 172) C dX8_resize_172 <|
    s_ireturn (pc := 173) C rfl dX8_resize_173
noncomputable def rw_X8_resize_155 : XK := rg_X8_resize_155
noncomputable def md_X8_resize_155 (p1 : Int) (p2 : Int) : Ob → Option Rt := mg_X8_resize_155 p1 p2
theorem eq_X8_resize_155 (p1 : Int) (p2 : Int) (a : Ob) : rw_X8_resize_155 (en_X8_resize_155 p1 p2 a) = md_X8_resize_155 p1 p2 a :=
 rq_X8_resize_155 p1 p2 a
theorem sd_X8_resize_155 {X : XDyn} {r0 : Rt} (C : XO X mX8_resize) : XS X mX8_resize r0 155 (rw_X8_resize_155) := sg_X8_resize_155 C
noncomputable def rw_X8_resize_143 : XK := rg_X8_resize_143 (rw_X8_resize_155)
noncomputable def md_X8_resize_143 (p1 : Int) (p2 : Int) : Int × Ob → Option Rt := mg_X8_resize_143 p1 p2 (md_X8_resize_155 p1 p2)
theorem eq_X8_resize_143 (p1 : Int) (p2 : Int) (a : Int × Ob) : rw_X8_resize_143 (en_X8_resize_143 p1 p2 a) = md_X8_resize_143 p1 p2 a :=
 (rq_X8_resize_143 p1 p2 (rw_X8_resize_155) a).trans (congrFun (congr (rfl : mg_X8_resize_143 p1 p2 = mg_X8_resize_143 p1 p2) (funext (eq_X8_resize_155 p1 p2))) a)
theorem sd_X8_resize_143 {X : XDyn} {r0 : Rt} (C : XO X mX8_resize) : XS X mX8_resize r0 143 (rw_X8_resize_143) := sg_X8_resize_143 C (sd_X8_resize_155 C)
noncomputable def rw_X8_resize_110 : XK := rg_X8_resize_110 (rw_X8_resize_143)
noncomputable def md_X8_resize_110 (p1 : Int) (p2 : Int) : Int × Ob → Option Rt := mg_X8_resize_110 p1 p2 (md_X8_resize_143 p1 p2)
theorem eq_X8_resize_110 (p1 : Int) (p2 : Int) (a : Int × Ob) : rw_X8_resize_110 (en_X8_resize_110 p1 p2 a) = md_X8_resize_110 p1 p2 a :=
 (rq_X8_resize_110 p1 p2 (rw_X8_resize_143) a).trans (congrFun (congr (rfl : mg_X8_resize_110 p1 p2 = mg_X8_resize_110 p1 p2) (funext (eq_X8_resize_143 p1 p2))) a)
theorem sd_X8_resize_110 {X : XDyn} {r0 : Rt} (C : XO X mX8_resize) : XS X mX8_resize r0 110 (rw_X8_resize_110) := sg_X8_resize_110 C (sd_X8_resize_143 C)
noncomputable def rw_X8_resize_85 : XK := rg_X8_resize_85 (rw_X8_resize_110)
noncomputable def md_X8_resize_85 (p1 : Int) (p2 : Int) : Int × Int × Ob → Option Rt := mg_X8_resize_85 p1 p2 (md_X8_resize_110 p1 p2)
theorem eq_X8_resize_85 (p1 : Int) (p2 : Int) (a : Int × Int × Ob) : rw_X8_resize_85 (en_X8_resize_85 p1 p2 a) = md_X8_resize_85 p1 p2 a :=
 (rq_X8_resize_85 p1 p2 (rw_X8_resize_110) a).trans (congrFun (congr (rfl : mg_X8_resize_85 p1 p2 = mg_X8_resize_85 p1 p2) (funext (eq_X8_resize_110 p1 p2))) a)
theorem sd_X8_resize_85 {X : XDyn} {r0 : Rt} (C : XO X mX8_resize) : XS X mX8_resize r0 85 (rw_X8_resize_85) := sg_X8_resize_85 C (sd_X8_resize_110 C)
noncomputable def rw_X8_resize_0 : XK := rg_X8_resize_0 (rw_X8_resize_110) (rw_X8_resize_85)
noncomputable def md_X8_resize_0 (p1 : Int) (p2 : Int) : Ob → Option Rt := mg_X8_resize_0 p1 p2 (md_X8_resize_110 p1 p2) (md_X8_resize_85 p1 p2)
theorem eq_X8_resize_0 (p1 : Int) (p2 : Int) (a : Ob) : rw_X8_resize_0 (en_X8_resize_0 p1 p2 a) = md_X8_resize_0 p1 p2 a :=
 (rq_X8_resize_0 p1 p2 (rw_X8_resize_110) (rw_X8_resize_85) a).trans (congrFun (congr (congr (rfl : mg_X8_resize_0 p1 p2 = mg_X8_resize_0 p1 p2) (funext (eq_X8_resize_110 p1 p2))) (funext (eq_X8_resize_85 p1 p2))) a)
theorem sd_X8_resize_0 {X : XDyn} {r0 : Rt} (C : XO X mX8_resize) : XS X mX8_resize r0 0 (rw_X8_resize_0) := sg_X8_resize_0 C (sd_X8_resize_110 C) (sd_X8_resize_85 C)
theorem ctr_X8_resize : XCt yX8_resize mX8_resize (xF mX8_resize (rw_X8_resize_0)) := xMet (by decide +kernel) rfl (fun _ _ C => sd_X8_resize_0 C)
theorem eqf_X8_resize (p1 : Int) (p2 : Int) (h0 : Ob) : xF mX8_resize (rw_X8_resize_0) [.inr (.inl (0, 0)), .inl p1, .inl p2] [h0] = md_X8_resize_0 p1 p2 h0 := eq_X8_resize_0 p1 p2 h0
theorem yi_X8_resize : yX8_resize.cls = RX8 ∧ yX8_resize.cls ≠ "java/lang/invoke/MethodHandle" ∧ yX8_resize.cls ≠ "java/lang/invoke/VarHandle" ∧ (parseMethodDescriptor yX8_resize.desc).map (fun d => d.parameters.length) = some 2 := ⟨rfl, by decide +kernel, by decide +kernel, by decide +kernel⟩
