theorem dX8_fillsGaps_0 : decode cX8_fillsGaps 0 = .ok (.aload_n 0, 1) := by decide +kernel
theorem dX8_fillsGaps_1 : decode cX8_fillsGaps 1 = .ok (.iconst 0, 1) := by decide +kernel
theorem dX8_fillsGaps_2 : decode cX8_fillsGaps 2 = .ok (.putfield 119, 3) := by decide +kernel
theorem dX8_fillsGaps_5 : decode cX8_fillsGaps 5 = .ok (.aload_n 0, 1) := by decide +kernel
theorem dX8_fillsGaps_6 : decode cX8_fillsGaps 6 = .ok (.iconst 0, 1) := by decide +kernel
theorem dX8_fillsGaps_7 : decode cX8_fillsGaps 7 = .ok (.putfield 122, 3) := by decide +kernel
theorem dX8_fillsGaps_10 : decode cX8_fillsGaps 10 = .ok (.iconst 0, 1) := by decide +kernel
theorem dX8_fillsGaps_11 : decode cX8_fillsGaps 11 = .ok (.istore_n 2, 1) := by decide +kernel
theorem dX8_fillsGaps_12 : decode cX8_fillsGaps 12 = .ok (.iconst 0, 1) := by decide +kernel
theorem dX8_fillsGaps_13 : decode cX8_fillsGaps 13 = .ok (.istore_n 3, 1) := by decide +kernel
theorem dX8_fillsGaps_14 : decode cX8_fillsGaps 14 = .ok (.iload_n 3, 1) := by decide +kernel
theorem dX8_fillsGaps_15 : decode cX8_fillsGaps 15 = .ok (.iload_n 1, 1) := by decide +kernel
theorem dX8_fillsGaps_16 : decode cX8_fillsGaps 16 = .ok (.if_icmp .ge 174, 3) := by decide +kernel
theorem dX8_fillsGaps_19 : decode cX8_fillsGaps 19 = .ok (.iload_n 3, 1) := by decide +kernel
theorem dX8_fillsGaps_20 : decode cX8_fillsGaps 20 = .ok (.aload_n 0, 1) := by decide +kernel
theorem dX8_fillsGaps_21 : decode cX8_fillsGaps 21 = .ok (.getfield 7, 3) := by decide +kernel
theorem dX8_fillsGaps_24 : decode cX8_fillsGaps 24 = .ok (.iconst 0, 1) := by decide +kernel
theorem dX8_fillsGaps_25 : decode cX8_fillsGaps 25 = .ok (.iaload, 1) := by decide +kernel
theorem dX8_fillsGaps_26 : decode cX8_fillsGaps 26 = .ok (.if_icmp .ge 7, 3) := by decide +kernel
theorem dX8_fillsGaps_29 : decode cX8_fillsGaps 29 = .ok (.iconst 1, 1) := by decide +kernel
theorem dX8_fillsGaps_30 : decode cX8_fillsGaps 30 = .ok (.goto 4, 3) := by decide +kernel
theorem dX8_fillsGaps_33 : decode cX8_fillsGaps 33 = .ok (.iconst 0, 1) := by decide +kernel
theorem dX8_fillsGaps_34 : decode cX8_fillsGaps 34 = .ok (.istore 4, 2) := by decide +kernel
theorem dX8_fillsGaps_36 : decode cX8_fillsGaps 36 = .ok (.iload 4, 2) := by decide +kernel
theorem dX8_fillsGaps_38 : decode cX8_fillsGaps 38 = .ok (.ifCond .eq 16, 3) := by decide +kernel
theorem dX8_fillsGaps_41 : decode cX8_fillsGaps 41 = .ok (.aload_n 0, 1) := by decide +kernel
theorem dX8_fillsGaps_42 : decode cX8_fillsGaps 42 = .ok (.iload_n 3, 1) := by decide +kernel
theorem dX8_fillsGaps_43 : decode cX8_fillsGaps 43 = .ok (.invokevirtual 100, 3) := by decide +kernel
theorem dX8_fillsGaps_46 : decode cX8_fillsGaps 46 = .ok (.ifCond .eq 8, 3) := by decide +kernel
theorem dX8_fillsGaps_49 : decode cX8_fillsGaps 49 = .ok (.iconst 0, 1) := by decide +kernel
theorem dX8_fillsGaps_50 : decode cX8_fillsGaps 50 = .ok (.istore_n 2, 1) := by decide +kernel
theorem dX8_fillsGaps_51 : decode cX8_fillsGaps 51 = .ok (.goto 133, 3) := by decide +kernel
theorem dX8_fillsGaps_54 : decode cX8_fillsGaps 54 = .ok (.iload_n 2, 1) := by decide +kernel
theorem dX8_fillsGaps_55 : decode cX8_fillsGaps 55 = .ok (.ifCond .ne 33, 3) := by decide +kernel
theorem dX8_fillsGaps_58 : decode cX8_fillsGaps 58 = .ok (.aload_n 0, 1) := by decide +kernel
theorem dX8_fillsGaps_59 : decode cX8_fillsGaps 59 = .ok (.getfield 22, 3) := by decide +kernel
theorem dX8_fillsGaps_62 : decode cX8_fillsGaps 62 = .ok (.aload_n 0, 1) := by decide +kernel
theorem dX8_fillsGaps_63 : decode cX8_fillsGaps 63 = .ok (.getfield 119, 3) := by decide +kernel
theorem dX8_fillsGaps_66 : decode cX8_fillsGaps 66 = .ok (.iload_n 3, 1) := by decide +kernel
theorem dX8_fillsGaps_67 : decode cX8_fillsGaps 67 = .ok (.iastore, 1) := by decide +kernel
theorem dX8_fillsGaps_68 : decode cX8_fillsGaps 68 = .ok (.aload_n 0, 1) := by decide +kernel
theorem dX8_fillsGaps_69 : decode cX8_fillsGaps 69 = .ok (.getfield 25, 3) := by decide +kernel
theorem dX8_fillsGaps_72 : decode cX8_fillsGaps 72 = .ok (.aload_n 0, 1) := by decide +kernel
theorem dX8_fillsGaps_73 : decode cX8_fillsGaps 73 = .ok (.getfield 119, 3) := by decide +kernel
theorem dX8_fillsGaps_76 : decode cX8_fillsGaps 76 = .ok (.iconst 0, 1) := by decide +kernel
theorem dX8_fillsGaps_77 : decode cX8_fillsGaps 77 = .ok (.iastore, 1) := by decide +kernel
theorem dX8_fillsGaps_78 : decode cX8_fillsGaps 78 = .ok (.aload_n 0, 1) := by decide +kernel
theorem dX8_fillsGaps_79 : decode cX8_fillsGaps 79 = .ok (.dup, 1) := by decide +kernel
theorem dX8_fillsGaps_80 : decode cX8_fillsGaps 80 = .ok (.getfield 119, 3) := by decide +kernel
theorem dX8_fillsGaps_83 : decode cX8_fillsGaps 83 = .ok (.iconst 1, 1) := by decide +kernel
theorem dX8_fillsGaps_84 : decode cX8_fillsGaps 84 = .ok (.iadd, 1) := by decide +kernel
theorem dX8_fillsGaps_85 : decode cX8_fillsGaps 85 = .ok (.putfield 119, 3) := by decide +kernel
theorem dX8_fillsGaps_88 : decode cX8_fillsGaps 88 = .ok (.iconst 1, 1) := by decide +kernel
theorem dX8_fillsGaps_89 : decode cX8_fillsGaps 89 = .ok (.istore_n 2, 1) := by decide +kernel
theorem dX8_fillsGaps_90 : decode cX8_fillsGaps 90 = .ok (.aload_n 0, 1) := by decide +kernel
theorem dX8_fillsGaps_91 : decode cX8_fillsGaps 91 = .ok (.getfield 25, 3) := by decide +kernel
theorem dX8_fillsGaps_94 : decode cX8_fillsGaps 94 = .ok (.aload_n 0, 1) := by decide +kernel
theorem dX8_fillsGaps_95 : decode cX8_fillsGaps 95 = .ok (.getfield 119, 3) := by decide +kernel
theorem dX8_fillsGaps_98 : decode cX8_fillsGaps 98 = .ok (.iconst 1, 1) := by decide +kernel
theorem dX8_fillsGaps_99 : decode cX8_fillsGaps 99 = .ok (.isub, 1) := by decide +kernel
theorem dX8_fillsGaps_100 : decode cX8_fillsGaps 100 = .ok (.dup2, 1) := by decide +kernel
theorem dX8_fillsGaps_101 : decode cX8_fillsGaps 101 = .ok (.iaload, 1) := by decide +kernel
theorem dX8_fillsGaps_102 : decode cX8_fillsGaps 102 = .ok (.iconst 1, 1) := by decide +kernel
theorem dX8_fillsGaps_103 : decode cX8_fillsGaps 103 = .ok (.iadd, 1) := by decide +kernel
theorem dX8_fillsGaps_104 : decode cX8_fillsGaps 104 = .ok (.iastore, 1) := by decide +kernel
theorem dX8_fillsGaps_105 : decode cX8_fillsGaps 105 = .ok (.iload 4, 2) := by decide +kernel
theorem dX8_fillsGaps_107 : decode cX8_fillsGaps 107 = .ok (.ifCond .eq 77, 3) := by decide +kernel
theorem dX8_fillsGaps_110 : decode cX8_fillsGaps 110 = .ok (.aload_n 0, 1) := by decide +kernel
theorem dX8_fillsGaps_111 : decode cX8_fillsGaps 111 = .ok (.getfield 19, 3) := by decide +kernel
theorem dX8_fillsGaps_114 : decode cX8_fillsGaps 114 = .ok (.iload_n 3, 1) := by decide +kernel
theorem dX8_fillsGaps_115 : decode cX8_fillsGaps 115 = .ok (.iaload, 1) := by decide +kernel
theorem dX8_fillsGaps_116 : decode cX8_fillsGaps 116 = .ok (.ifCond .eq 68, 3) := by decide +kernel
theorem dX8_fillsGaps_119 : decode cX8_fillsGaps 119 = .ok (.aload_n 0, 1) := by decide +kernel
theorem dX8_fillsGaps_120 : decode cX8_fillsGaps 120 = .ok (.getfield 7, 3) := by decide +kernel
theorem dX8_fillsGaps_123 : decode cX8_fillsGaps 123 = .ok (.bipush 13, 2) := by decide +kernel
theorem dX8_fillsGaps_125 : decode cX8_fillsGaps 125 = .ok (.aload_n 0, 1) := by decide +kernel
theorem dX8_fillsGaps_126 : decode cX8_fillsGaps 126 = .ok (.getfield 19, 3) := by decide +kernel
theorem dX8_fillsGaps_129 : decode cX8_fillsGaps 129 = .ok (.iload_n 3, 1) := by decide +kernel
theorem dX8_fillsGaps_130 : decode cX8_fillsGaps 130 = .ok (.iaload, 1) := by decide +kernel
theorem dX8_fillsGaps_131 : decode cX8_fillsGaps 131 = .ok (.iadd, 1) := by decide +kernel
theorem dX8_fillsGaps_132 : decode cX8_fillsGaps 132 = .ok (.iconst 1, 1) := by decide +kernel
theorem dX8_fillsGaps_133 : decode cX8_fillsGaps 133 = .ok (.isub, 1) := by decide +kernel
theorem dX8_fillsGaps_134 : decode cX8_fillsGaps 134 = .ok (.iaload, 1) := by decide +kernel
theorem dX8_fillsGaps_135 : decode cX8_fillsGaps 135 = .ok (.iload_n 3, 1) := by decide +kernel
theorem dX8_fillsGaps_136 : decode cX8_fillsGaps 136 = .ok (.if_icmp .eq 6, 3) := by decide +kernel
theorem dX8_fillsGaps_139 : decode cX8_fillsGaps 139 = .ok (.goto 45, 3) := by decide +kernel
theorem dX8_fillsGaps_142 : decode cX8_fillsGaps 142 = .ok (.aload_n 0, 1) := by decide +kernel
theorem dX8_fillsGaps_143 : decode cX8_fillsGaps 143 = .ok (.getfield 28, 3) := by decide +kernel
theorem dX8_fillsGaps_146 : decode cX8_fillsGaps 146 = .ok (.aload_n 0, 1) := by decide +kernel
theorem dX8_fillsGaps_147 : decode cX8_fillsGaps 147 = .ok (.getfield 122, 3) := by decide +kernel
theorem dX8_fillsGaps_150 : decode cX8_fillsGaps 150 = .ok (.aload_n 0, 1) := by decide +kernel
theorem dX8_fillsGaps_151 : decode cX8_fillsGaps 151 = .ok (.getfield 19, 3) := by decide +kernel
theorem dX8_fillsGaps_154 : decode cX8_fillsGaps 154 = .ok (.iload_n 3, 1) := by decide +kernel
theorem dX8_fillsGaps_155 : decode cX8_fillsGaps 155 = .ok (.iaload, 1) := by decide +kernel
theorem dX8_fillsGaps_156 : decode cX8_fillsGaps 156 = .ok (.iconst 1, 1) := by decide +kernel
theorem dX8_fillsGaps_157 : decode cX8_fillsGaps 157 = .ok (.isub, 1) := by decide +kernel
theorem dX8_fillsGaps_158 : decode cX8_fillsGaps 158 = .ok (.iastore, 1) := by decide +kernel
theorem dX8_fillsGaps_159 : decode cX8_fillsGaps 159 = .ok (.aload_n 0, 1) := by decide +kernel
theorem dX8_fillsGaps_160 : decode cX8_fillsGaps 160 = .ok (.getfield 31, 3) := by decide +kernel
theorem dX8_fillsGaps_163 : decode cX8_fillsGaps 163 = .ok (.aload_n 0, 1) := by decide +kernel
theorem dX8_fillsGaps_164 : decode cX8_fillsGaps 164 = .ok (.getfield 122, 3) := by decide +kernel
theorem dX8_fillsGaps_167 : decode cX8_fillsGaps 167 = .ok (.aload_n 0, 1) := by decide +kernel
theorem dX8_fillsGaps_168 : decode cX8_fillsGaps 168 = .ok (.getfield 119, 3) := by decide +kernel
theorem dX8_fillsGaps_171 : decode cX8_fillsGaps 171 = .ok (.iconst 1, 1) := by decide +kernel
theorem dX8_fillsGaps_172 : decode cX8_fillsGaps 172 = .ok (.isub, 1) := by decide +kernel
theorem dX8_fillsGaps_173 : decode cX8_fillsGaps 173 = .ok (.iastore, 1) := by decide +kernel
theorem dX8_fillsGaps_174 : decode cX8_fillsGaps 174 = .ok (.aload_n 0, 1) := by decide +kernel
theorem dX8_fillsGaps_175 : decode cX8_fillsGaps 175 = .ok (.dup, 1) := by decide +kernel
theorem dX8_fillsGaps_176 : decode cX8_fillsGaps 176 = .ok (.getfield 122, 3) := by decide +kernel
theorem dX8_fillsGaps_179 : decode cX8_fillsGaps 179 = .ok (.iconst 1, 1) := by decide +kernel
theorem dX8_fillsGaps_180 : decode cX8_fillsGaps 180 = .ok (.iadd, 1) := by decide +kernel
theorem dX8_fillsGaps_181 : decode cX8_fillsGaps 181 = .ok (.putfield 122, 3) := by decide +kernel
theorem dX8_fillsGaps_184 : decode cX8_fillsGaps 184 = .ok (.iinc 3 1, 3) := by decide +kernel
theorem dX8_fillsGaps_187 : decode cX8_fillsGaps 187 = .ok (.goto (-173), 3) := by decide +kernel
theorem dX8_fillsGaps_190 : decode cX8_fillsGaps 190 = .ok (.return_, 1) := by decide +kernel
abbrev mX8_fillsGaps : XM := (cX8_fillsGaps, 5, RX8, none, shw_8, 1)
noncomputable def rg_X8_fillsGaps_0 (k14 : XK) : XK :=
 o_aload 0 <|
 o_iconst 0 <|
 o_put shw_8 8 8 false <|
 o_aload 0 <|
 o_iconst 0 <|
 o_put shw_8 8 11 false <|
 o_iconst 0 <|
 o_istore 2 <|
 o_iconst 0 <|
 o_istore 3 <|
 o_cut [] k14
def en_X8_fillsGaps_0 (p1 : Int) (a : Ob) : XSt := ([some (.inr (.inl (0, 0))), some (.inl p1), none, none, none], [], [a])
noncomputable def rg_X8_fillsGaps_14 (k34 : XK) : XK :=
 o_iload 3 <|
 o_iload 1 <|
 o_icmp_ge (o_return)
 (o_iload 3 <|
 o_aload 0 <|
 o_get shw_8 8 0 <|
 o_iconst 0 <|
 o_iald shw_8 <|
 o_icmp_ge (o_iconst 0 <|
 o_cut [] k34)
 (o_iconst 1 <|
 o_cut [] k34))
def en_X8_fillsGaps_14 (p1 : Int) (a : Int × Int × Ob) : XSt := ([some (.inr (.inl (0, 0))), some (.inl p1), some (.inl a.1), some (.inl a.2.1), none], [], [a.2.2])
noncomputable def rg_X8_fillsGaps_34 (k54 : XK) (k184 : XK) : XK :=
 o_istore 4 <|
 o_iload 4 <|
 o_if_eq (o_cut [] k54)
 (o_aload 0 <|
 o_iload 3 <|
 o_callVg 2 1 [0] g_X8_isFixedAt v_X8_isFixedAt <|
 o_if_eq (o_cut [] k54)
 (o_iconst 0 <|
 o_istore 2 <|
 o_cut [4] k184))
def en_X8_fillsGaps_34 (p1 : Int) (a : Int × Int × Int × Ob) : XSt := ([some (.inr (.inl (0, 0))), some (.inl p1), some (.inl a.1), some (.inl a.2.1), none], [.inl a.2.2.1], [a.2.2.2])
noncomputable def rg_X8_fillsGaps_54 (k88 : XK) : XK :=
 o_iload 2 <|
 o_if_ne (o_cut [2] k88)
 (o_aload 0 <|
 o_get shw_8 8 6 <|
 o_aload 0 <|
 o_get shw_8 8 8 <|
 o_iload 3 <|
 o_iast shw_8 <|
 o_aload 0 <|
 o_get shw_8 8 7 <|
 o_aload 0 <|
 o_get shw_8 8 8 <|
 o_iconst 0 <|
 o_iast shw_8 <|
 o_aload 0 <|
 o_dup <|
 o_get shw_8 8 8 <|
 o_iconst 1 <|
 o_iadd <|
 o_put shw_8 8 8 false <|
 o_cut [2] k88)
def en_X8_fillsGaps_54 (p1 : Int) (a : Int × Int × Int × Ob) : XSt := ([some (.inr (.inl (0, 0))), some (.inl p1), some (.inl a.1), some (.inl a.2.1), some (.inl a.2.2.1)], [], [a.2.2.2])
noncomputable def rg_X8_fillsGaps_88 (k184 : XK) : XK :=
 o_iconst 1 <|
 o_istore 2 <|
 o_aload 0 <|
 o_get shw_8 8 7 <|
 o_aload 0 <|
 o_get shw_8 8 8 <|
 o_iconst 1 <|
 o_isub <|
 o_dup2 <|
 o_iald shw_8 <|
 o_iconst 1 <|
 o_iadd <|
 o_iast shw_8 <|
 o_iload 4 <|
 o_if_eq (o_cut [4] k184)
 (o_aload 0 <|
 o_get shw_8 8 5 <|
 o_iload 3 <|
 o_iald shw_8 <|
 o_if_eq (o_cut [4] k184)
 (o_aload 0 <|
 o_get shw_8 8 0 <|
 o_iconst 13 <|
 o_aload 0 <|
 o_get shw_8 8 5 <|
 o_iload 3 <|
 o_iald shw_8 <|
 o_iadd <|
 o_iconst 1 <|
 o_isub <|
 o_iald shw_8 <|
 o_iload 3 <|
 o_icmp_eq (o_aload 0 <|
 o_get shw_8 8 9 <|
 o_aload 0 <|
 o_get shw_8 8 11 <|
 o_aload 0 <|
 o_get shw_8 8 5 <|
 o_iload 3 <|
 o_iald shw_8 <|
 o_iconst 1 <|
 o_isub <|
 o_iast shw_8 <|
 o_aload 0 <|
 o_get shw_8 8 10 <|
 o_aload 0 <|
 o_get shw_8 8 11 <|
 o_aload 0 <|
 o_get shw_8 8 8 <|
 o_iconst 1 <|
 o_isub <|
 o_iast shw_8 <|
 o_aload 0 <|
 o_dup <|
 o_get shw_8 8 11 <|
 o_iconst 1 <|
 o_iadd <|
 o_put shw_8 8 11 false <|
 o_cut [4] k184)
 (o_cut [4] k184)))
def en_X8_fillsGaps_88 (p1 : Int) (a : Int × Int × Ob) : XSt := ([some (.inr (.inl (0, 0))), some (.inl p1), none, some (.inl a.1), some (.inl a.2.1)], [], [a.2.2])
noncomputable def rg_X8_fillsGaps_184 (k14 : XK) : XK :=
 o_iinc 3 1 <|
 o_cut [] k14
def en_X8_fillsGaps_184 (p1 : Int) (a : Int × Int × Ob) : XSt := ([some (.inr (.inl (0, 0))), some (.inl p1), some (.inl a.1), some (.inl a.2.1), none], [], [a.2.2])
noncomputable def mg_X8_fillsGaps_0 (p1 : Int) (k14 : (Int × Int × Ob) → Option Rt) (a : Ob) : Option Rt :=
 k14 (0, 0, (xset (xset a 0 8 0) 0 11 0))
set_option maxRecDepth 100000 in
set_option maxHeartbeats 4000000 in
theorem rq_X8_fillsGaps_0 (p1 : Int) (k14 : XK) (a : Ob) : rg_X8_fillsGaps_0 k14 (en_X8_fillsGaps_0 p1 a) = mg_X8_fillsGaps_0 p1 (fun b => k14 (en_X8_fillsGaps_14 p1 b)) a := rfl
set_option maxRecDepth 100000 in
set_option maxHeartbeats 4000000 in
theorem sg_X8_fillsGaps_0 {X : XDyn} {r0 : Rt} (C : XO X mX8_fillsGaps) {k14 : XK} (q14 : XS X mX8_fillsGaps r0 14 k14) : XS X mX8_fillsGaps r0 0 (rg_X8_fillsGaps_0 k14) := by
 unfold rg_X8_fillsGaps_0
 exact s_aload_n (pc := 0) C dX8_fillsGaps_0 rfl <|
    s_iconst (pc := 1) C dX8_fillsGaps_1 <|
    s_put (pc := 2) (z := false) C (ci := 8) (kf := 8) rfl inX8 tyX8_ok nmX8 (by decide) wd_879 rfl rfl dX8_fillsGaps_2 <|
    s_aload_n (pc := 5) C dX8_fillsGaps_5 rfl <|
    s_iconst (pc := 6) C dX8_fillsGaps_6 <|
    s_put (pc := 7) (z := false) C (ci := 8) (kf := 11) rfl inX8 tyX8_ok nmX8 (by decide) wd_882 rfl rfl dX8_fillsGaps_7 <|
    s_iconst (pc := 10) C dX8_fillsGaps_10 <|
    s_istore_n (pc := 11) C dX8_fillsGaps_11 rfl <|
    s_iconst (pc := 12) C dX8_fillsGaps_12 <|
    s_istore_n (pc := 13) C dX8_fillsGaps_13 rfl <|
    s_cut q14
noncomputable def mg_X8_fillsGaps_14 (p1 : Int) (k34 : (Int × Int × Int × Ob) → Option Rt) (a : Int × Int × Ob) : Option Rt :=
 if xw a.2.1 ≥ xw p1 then (RV [a.2.2])
 else (if xw a.2.1 ≥ xw (a.2.2 1 0) then (k34 (a.1, a.2.1, 0, a.2.2))
 else (k34 (a.1, a.2.1, 1, a.2.2)))
set_option maxRecDepth 100000 in
set_option maxHeartbeats 4000000 in
theorem rq_X8_fillsGaps_14 (p1 : Int) (k34 : XK) (a : Int × Int × Ob) : rg_X8_fillsGaps_14 k34 (en_X8_fillsGaps_14 p1 a) = mg_X8_fillsGaps_14 p1 (fun b => k34 (en_X8_fillsGaps_34 p1 b)) a := rfl
set_option maxRecDepth 100000 in
set_option maxHeartbeats 4000000 in
theorem sg_X8_fillsGaps_14 {X : XDyn} {r0 : Rt} (C : XO X mX8_fillsGaps) {k34 : XK} (q34 : XS X mX8_fillsGaps r0 34 k34) : XS X mX8_fillsGaps r0 14 (rg_X8_fillsGaps_14 k34) := by
 unfold rg_X8_fillsGaps_14
 exact s_iload_n (pc := 14) C dX8_fillsGaps_14 rfl <|
    s_iload_n (pc := 15) C dX8_fillsGaps_15 rfl <|
    s_icmp_ge (pc := 16) C dX8_fillsGaps_16 (by decide) (s_return (pc := 190) C rfl dX8_fillsGaps_190)
    (s_iload_n (pc := 19) C dX8_fillsGaps_19 rfl <|
    s_aload_n (pc := 20) C dX8_fillsGaps_20 rfl <|
    s_get (pc := 21) C (ci := 8) (kf := 0) rfl inX8 (by decide) wd_871 dX8_fillsGaps_21 <|
    s_iconst (pc := 24) C dX8_fillsGaps_24 <|
    s_iald (pc := 25) C dX8_fillsGaps_25 <|
    s_icmp_ge (pc := 26) C dX8_fillsGaps_26 (by decide) (s_iconst (pc := 33) C dX8_fillsGaps_33 <|
    s_cut q34)
    (s_iconst (pc := 29) C dX8_fillsGaps_29 <|
    s_goto (pc := 30) C dX8_fillsGaps_30 (by decide) <|
    s_cut q34))
noncomputable def mg_X8_fillsGaps_34 (p1 : Int) (k54 : (Int × Int × Int × Ob) → Option Rt) (k184 : (Int × Int × Ob) → Option Rt) (a : Int × Int × Int × Ob) : Option Rt :=
 if xw a.2.2.1 = 0 then (k54 (a.1, a.2.1, a.2.2.1, a.2.2.2))
 else (if pd (ov_X8_isFixedAt a.2.1 a.2.2.2 = RI (oqR (ov_X8_isFixedAt a.2.1 a.2.2.2)) [a.2.2.2]) then (
 if xw (oqR (ov_X8_isFixedAt a.2.1 a.2.2.2)) = 0 then (k54 (a.1, a.2.1, a.2.2.1, a.2.2.2))
 else (k184 (0, a.2.1, a.2.2.2))) else none)
set_option maxRecDepth 100000 in
set_option maxHeartbeats 4000000 in
theorem rq_X8_fillsGaps_34 (p1 : Int) (k54 : XK) (k184 : XK) (a : Int × Int × Int × Ob) : rg_X8_fillsGaps_34 k54 k184 (en_X8_fillsGaps_34 p1 a) = mg_X8_fillsGaps_34 p1 (fun b => k54 (en_X8_fillsGaps_54 p1 b)) (fun b => k184 (en_X8_fillsGaps_184 p1 b)) a := rfl
set_option maxRecDepth 100000 in
set_option maxHeartbeats 4000000 in
theorem sg_X8_fillsGaps_34 {X : XDyn} {r0 : Rt} (C : XO X mX8_fillsGaps) {k54 : XK} (q54 : XS X mX8_fillsGaps r0 54 k54) {k184 : XK} (q184 : XS X mX8_fillsGaps r0 184 k184) : XS X mX8_fillsGaps r0 34 (rg_X8_fillsGaps_34 k54 k184) := by
 unfold rg_X8_fillsGaps_34
 exact s_istore (pc := 34) C dX8_fillsGaps_34 <|
    s_iload (pc := 36) C dX8_fillsGaps_36 <|
    s_if_eq (pc := 38) C dX8_fillsGaps_38 (by decide) (s_cut q54)
    (s_aload_n (pc := 41) C dX8_fillsGaps_41 rfl <|
    s_iload_n (pc := 42) C dX8_fillsGaps_42 rfl <|
    s_callVg (pc := 43) C ct_X8_isFixedAt (n := 2) (rk := 1) (mp := [0]) ⟨rfl, by decide, rfl⟩ (ci := 8) rfl rfl (by decide) (by decide) yi_X8_isFixedAt (by decide) wd_1022 wd_1024 wd_32 wd_81 wd_1025 dX8_fillsGaps_43 <|
    s_if_eq (pc := 46) C dX8_fillsGaps_46 (by decide) (s_cut q54)
    (s_iconst (pc := 49) C dX8_fillsGaps_49 <|
    s_istore_n (pc := 50) C dX8_fillsGaps_50 rfl <|
    s_goto (pc := 51) C dX8_fillsGaps_51 (by decide) <|
    s_cut q184))
noncomputable def mg_X8_fillsGaps_54 (p1 : Int) (k88 : (Int × Int × Ob) → Option Rt) (a : Int × Int × Int × Ob) : Option Rt :=
 if xw a.1 = 0 then (if xin (a.2.2.2 0 8) 16 then (
 if xin ((xset a.2.2.2 5 (xw (a.2.2.2 0 8)).toNat a.2.1) 0 8) 16 then (
 k88 (a.2.1, a.2.2.1, (xset (xset (xset a.2.2.2 5 (xw (a.2.2.2 0 8)).toNat a.2.1) 6 (xw ((xset a.2.2.2 5 (xw (a.2.2.2 0 8)).toNat a.2.1) 0 8)).toNat 0) 0 8 (((xset (xset a.2.2.2 5 (xw (a.2.2.2 0 8)).toNat a.2.1) 6 (xw ((xset a.2.2.2 5 (xw (a.2.2.2 0 8)).toNat a.2.1) 0 8)).toNat 0) 0 8) + 1)))) else none) else none)
 else (k88 (a.2.1, a.2.2.1, a.2.2.2))
set_option maxRecDepth 100000 in
set_option maxHeartbeats 4000000 in
theorem rq_X8_fillsGaps_54 (p1 : Int) (k88 : XK) (a : Int × Int × Int × Ob) : rg_X8_fillsGaps_54 k88 (en_X8_fillsGaps_54 p1 a) = mg_X8_fillsGaps_54 p1 (fun b => k88 (en_X8_fillsGaps_88 p1 b)) a := rfl
set_option maxRecDepth 100000 in
set_option maxHeartbeats 4000000 in
theorem sg_X8_fillsGaps_54 {X : XDyn} {r0 : Rt} (C : XO X mX8_fillsGaps) {k88 : XK} (q88 : XS X mX8_fillsGaps r0 88 k88) : XS X mX8_fillsGaps r0 54 (rg_X8_fillsGaps_54 k88) := by
 unfold rg_X8_fillsGaps_54
 exact s_iload_n (pc := 54) C dX8_fillsGaps_54 rfl <|
    s_if_ne (pc := 55) C dX8_fillsGaps_55 (by decide) (s_cut q88)
    (s_aload_n (pc := 58) C dX8_fillsGaps_58 rfl <|
    s_get (pc := 59) C (ci := 8) (kf := 6) rfl inX8 (by decide) wd_877 dX8_fillsGaps_59 <|
    s_aload_n (pc := 62) C dX8_fillsGaps_62 rfl <|
    s_get (pc := 63) C (ci := 8) (kf := 8) rfl inX8 (by decide) wd_879 dX8_fillsGaps_63 <|
    s_iload_n (pc := 66) C dX8_fillsGaps_66 rfl <|
    s_iast (pc := 67) C dX8_fillsGaps_67 <|
    s_aload_n (pc := 68) C dX8_fillsGaps_68 rfl <|
    s_get (pc := 69) C (ci := 8) (kf := 7) rfl inX8 (by decide) wd_878 dX8_fillsGaps_69 <|
    s_aload_n (pc := 72) C dX8_fillsGaps_72 rfl <|
    s_get (pc := 73) C (ci := 8) (kf := 8) rfl inX8 (by decide) wd_879 dX8_fillsGaps_73 <|
    s_iconst (pc := 76) C dX8_fillsGaps_76 <|
    s_iast (pc := 77) C dX8_fillsGaps_77 <|
    s_aload_n (pc := 78) C dX8_fillsGaps_78 rfl <|
    s_dup (pc := 79) C dX8_fillsGaps_79 <|
    s_get (pc := 80) C (ci := 8) (kf := 8) rfl inX8 (by decide) wd_879 dX8_fillsGaps_80 <|
    s_iconst (pc := 83) C dX8_fillsGaps_83 <|
    s_iadd (pc := 84) C dX8_fillsGaps_84 <|
    s_put (pc := 85) (z := false) C (ci := 8) (kf := 8) rfl inX8 tyX8_ok nmX8 (by decide) wd_879 rfl rfl dX8_fillsGaps_85 <|
    s_cut q88)
noncomputable def mg_X8_fillsGaps_88 (p1 : Int) (k184 : (Int × Int × Ob) → Option Rt) (a : Int × Int × Ob) : Option Rt :=
 if xin ((a.2.2 0 8) - 1) 16 then (
 if xin ((a.2.2 0 8) - 1) 16 then (
 if xw a.2.1 = 0 then (k184 (1, a.1, (xset a.2.2 6 (xw ((a.2.2 0 8) - 1)).toNat ((a.2.2 6 (xw ((a.2.2 0 8) - 1)).toNat) + 1))))
 else (if xin a.1 200 then (
 if xw ((xset a.2.2 6 (xw ((a.2.2 0 8) - 1)).toNat ((a.2.2 6 (xw ((a.2.2 0 8) - 1)).toNat) + 1)) 4 (xw a.1).toNat) = 0 then (k184 (1, a.1, (xset a.2.2 6 (xw ((a.2.2 0 8) - 1)).toNat ((a.2.2 6 (xw ((a.2.2 0 8) - 1)).toNat) + 1))))
 else (if xin a.1 200 then (
 if xin ((13 + ((xset a.2.2 6 (xw ((a.2.2 0 8) - 1)).toNat ((a.2.2 6 (xw ((a.2.2 0 8) - 1)).toNat) + 1)) 4 (xw a.1).toNat)) - 1) 735 then (
 if xw ((xset a.2.2 6 (xw ((a.2.2 0 8) - 1)).toNat ((a.2.2 6 (xw ((a.2.2 0 8) - 1)).toNat) + 1)) 1 (xw ((13 + ((xset a.2.2 6 (xw ((a.2.2 0 8) - 1)).toNat ((a.2.2 6 (xw ((a.2.2 0 8) - 1)).toNat) + 1)) 4 (xw a.1).toNat)) - 1)).toNat) = xw a.1 then (if xin a.1 200 then (
 if xin ((xset a.2.2 6 (xw ((a.2.2 0 8) - 1)).toNat ((a.2.2 6 (xw ((a.2.2 0 8) - 1)).toNat) + 1)) 0 11) 8 then (
 if xin ((xset (xset a.2.2 6 (xw ((a.2.2 0 8) - 1)).toNat ((a.2.2 6 (xw ((a.2.2 0 8) - 1)).toNat) + 1)) 7 (xw ((xset a.2.2 6 (xw ((a.2.2 0 8) - 1)).toNat ((a.2.2 6 (xw ((a.2.2 0 8) - 1)).toNat) + 1)) 0 11)).toNat (((xset a.2.2 6 (xw ((a.2.2 0 8) - 1)).toNat ((a.2.2 6 (xw ((a.2.2 0 8) - 1)).toNat) + 1)) 4 (xw a.1).toNat) - 1)) 0 11) 8 then (
 k184 (1, a.1, (xset (xset (xset (xset a.2.2 6 (xw ((a.2.2 0 8) - 1)).toNat ((a.2.2 6 (xw ((a.2.2 0 8) - 1)).toNat) + 1)) 7 (xw ((xset a.2.2 6 (xw ((a.2.2 0 8) - 1)).toNat ((a.2.2 6 (xw ((a.2.2 0 8) - 1)).toNat) + 1)) 0 11)).toNat (((xset a.2.2 6 (xw ((a.2.2 0 8) - 1)).toNat ((a.2.2 6 (xw ((a.2.2 0 8) - 1)).toNat) + 1)) 4 (xw a.1).toNat) - 1)) 8 (xw ((xset (xset a.2.2 6 (xw ((a.2.2 0 8) - 1)).toNat ((a.2.2 6 (xw ((a.2.2 0 8) - 1)).toNat) + 1)) 7 (xw ((xset a.2.2 6 (xw ((a.2.2 0 8) - 1)).toNat ((a.2.2 6 (xw ((a.2.2 0 8) - 1)).toNat) + 1)) 0 11)).toNat (((xset a.2.2 6 (xw ((a.2.2 0 8) - 1)).toNat ((a.2.2 6 (xw ((a.2.2 0 8) - 1)).toNat) + 1)) 4 (xw a.1).toNat) - 1)) 0 11)).toNat (((xset (xset a.2.2 6 (xw ((a.2.2 0 8) - 1)).toNat ((a.2.2 6 (xw ((a.2.2 0 8) - 1)).toNat) + 1)) 7 (xw ((xset a.2.2 6 (xw ((a.2.2 0 8) - 1)).toNat ((a.2.2 6 (xw ((a.2.2 0 8) - 1)).toNat) + 1)) 0 11)).toNat (((xset a.2.2 6 (xw ((a.2.2 0 8) - 1)).toNat ((a.2.2 6 (xw ((a.2.2 0 8) - 1)).toNat) + 1)) 4 (xw a.1).toNat) - 1)) 0 8) - 1)) 0 11 (((xset (xset (xset a.2.2 6 (xw ((a.2.2 0 8) - 1)).toNat ((a.2.2 6 (xw ((a.2.2 0 8) - 1)).toNat) + 1)) 7 (xw ((xset a.2.2 6 (xw ((a.2.2 0 8) - 1)).toNat ((a.2.2 6 (xw ((a.2.2 0 8) - 1)).toNat) + 1)) 0 11)).toNat (((xset a.2.2 6 (xw ((a.2.2 0 8) - 1)).toNat ((a.2.2 6 (xw ((a.2.2 0 8) - 1)).toNat) + 1)) 4 (xw a.1).toNat) - 1)) 8 (xw ((xset (xset a.2.2 6 (xw ((a.2.2 0 8) - 1)).toNat ((a.2.2 6 (xw ((a.2.2 0 8) - 1)).toNat) + 1)) 7 (xw ((xset a.2.2 6 (xw ((a.2.2 0 8) - 1)).toNat ((a.2.2 6 (xw ((a.2.2 0 8) - 1)).toNat) + 1)) 0 11)).toNat (((xset a.2.2 6 (xw ((a.2.2 0 8) - 1)).toNat ((a.2.2 6 (xw ((a.2.2 0 8) - 1)).toNat) + 1)) 4 (xw a.1).toNat) - 1)) 0 11)).toNat (((xset (xset a.2.2 6 (xw ((a.2.2 0 8) - 1)).toNat ((a.2.2 6 (xw ((a.2.2 0 8) - 1)).toNat) + 1)) 7 (xw ((xset a.2.2 6 (xw ((a.2.2 0 8) - 1)).toNat ((a.2.2 6 (xw ((a.2.2 0 8) - 1)).toNat) + 1)) 0 11)).toNat (((xset a.2.2 6 (xw ((a.2.2 0 8) - 1)).toNat ((a.2.2 6 (xw ((a.2.2 0 8) - 1)).toNat) + 1)) 4 (xw a.1).toNat) - 1)) 0 8) - 1)) 0 11) + 1)))) else none) else none) else none)
 else (k184 (1, a.1, (xset a.2.2 6 (xw ((a.2.2 0 8) - 1)).toNat ((a.2.2 6 (xw ((a.2.2 0 8) - 1)).toNat) + 1))))) else none) else none)) else none)) else none) else none
set_option maxRecDepth 100000 in
set_option maxHeartbeats 4000000 in
theorem rq_X8_fillsGaps_88 (p1 : Int) (k184 : XK) (a : Int × Int × Ob) : rg_X8_fillsGaps_88 k184 (en_X8_fillsGaps_88 p1 a) = mg_X8_fillsGaps_88 p1 (fun b => k184 (en_X8_fillsGaps_184 p1 b)) a := rfl
set_option maxRecDepth 100000 in
set_option maxHeartbeats 4000000 in
theorem sg_X8_fillsGaps_88 {X : XDyn} {r0 : Rt} (C : XO X mX8_fillsGaps) {k184 : XK} (q184 : XS X mX8_fillsGaps r0 184 k184) : XS X mX8_fillsGaps r0 88 (rg_X8_fillsGaps_88 k184) := by
 unfold rg_X8_fillsGaps_88
 exact s_iconst (pc := 88) C dX8_fillsGaps_88 <|
    s_istore_n (pc := 89) C dX8_fillsGaps_89 rfl <|
    s_aload_n (pc := 90) C dX8_fillsGaps_90 rfl <|
    s_get (pc := 91) C (ci := 8) (kf := 7) rfl inX8 (by decide) wd_878 dX8_fillsGaps_91 <|
    s_aload_n (pc := 94) C dX8_fillsGaps_94 rfl <|
    s_get (pc := 95) C (ci := 8) (kf := 8) rfl inX8 (by decide) wd_879 dX8_fillsGaps_95 <|
    s_iconst (pc := 98) C dX8_fillsGaps_98 <|
    s_isub (pc := 99) C dX8_fillsGaps_99 <|
    s_dup2 (pc := 100) C dX8_fillsGaps_100 <|
    s_iald (pc := 101) C dX8_fillsGaps_101 <|
    s_iconst (pc := 102) C dX8_fillsGaps_102 <|
    s_iadd (pc := 103) C dX8_fillsGaps_103 <|
    s_iast (pc := 104) C dX8_fillsGaps_104 <|
    s_iload (pc := 105) C dX8_fillsGaps_105 <|
    s_if_eq (pc := 107) C dX8_fillsGaps_107 (by decide) (s_cut q184)
    (s_aload_n (pc := 110) C dX8_fillsGaps_110 rfl <|
    s_get (pc := 111) C (ci := 8) (kf := 5) rfl inX8 (by decide) wd_876 dX8_fillsGaps_111 <|
    s_iload_n (pc := 114) C dX8_fillsGaps_114 rfl <|
    s_iald (pc := 115) C dX8_fillsGaps_115 <|
    s_if_eq (pc := 116) C dX8_fillsGaps_116 (by decide) (s_cut q184)
    (s_aload_n (pc := 119) C dX8_fillsGaps_119 rfl <|
    s_get (pc := 120) C (ci := 8) (kf := 0) rfl inX8 (by decide) wd_871 dX8_fillsGaps_120 <|
    s_bipush (pc := 123) C dX8_fillsGaps_123 (by decide) <|
    s_aload_n (pc := 125) C dX8_fillsGaps_125 rfl <|
    s_get (pc := 126) C (ci := 8) (kf := 5) rfl inX8 (by decide) wd_876 dX8_fillsGaps_126 <|
    s_iload_n (pc := 129) C dX8_fillsGaps_129 rfl <|
    s_iald (pc := 130) C dX8_fillsGaps_130 <|
    s_iadd (pc := 131) C dX8_fillsGaps_131 <|
    s_iconst (pc := 132) C dX8_fillsGaps_132 <|
    s_isub (pc := 133) C dX8_fillsGaps_133 <|
    s_iald (pc := 134) C dX8_fillsGaps_134 <|
    s_iload_n (pc := 135) C dX8_fillsGaps_135 rfl <|
    s_icmp_eq (pc := 136) C dX8_fillsGaps_136 (by decide) (s_aload_n (pc := 142) C dX8_fillsGaps_142 rfl <|
    s_get (pc := 143) C (ci := 8) (kf := 9) rfl inX8 (by decide) wd_880 dX8_fillsGaps_143 <|
    s_aload_n (pc := 146) C dX8_fillsGaps_146 rfl <|
    s_get (pc := 147) C (ci := 8) (kf := 11) rfl inX8 (by decide) wd_882 dX8_fillsGaps_147 <|
    s_aload_n (pc := 150) C dX8_fillsGaps_150 rfl <|
    s_get (pc := 151) C (ci := 8) (kf := 5) rfl inX8 (by decide) wd_876 dX8_fillsGaps_151 <|
    s_iload_n (pc := 154) C dX8_fillsGaps_154 rfl <|
    s_iald (pc := 155) C dX8_fillsGaps_155 <|
    s_iconst (pc := 156) C dX8_fillsGaps_156 <|
    s_isub (pc := 157) C dX8_fillsGaps_157 <|
    s_iast (pc := 158) C dX8_fillsGaps_158 <|
    s_aload_n (pc := 159) C dX8_fillsGaps_159 rfl <|
    s_get (pc := 160) C (ci := 8) (kf := 10) rfl inX8 (by decide) wd_881 dX8_fillsGaps_160 <|
    s_aload_n (pc := 163) C dX8_fillsGaps_163 rfl <|
    s_get (pc := 164) C (ci := 8) (kf := 11) rfl inX8 (by decide) wd_882 dX8_fillsGaps_164 <|
    s_aload_n (pc := 167) C dX8_fillsGaps_167 rfl <|
    s_get (pc := 168) C (ci := 8) (kf := 8) rfl inX8 (by decide) wd_879 dX8_fillsGaps_168 <|
    s_iconst (pc := 171) C dX8_fillsGaps_171 <|
    s_isub (pc := 172) C dX8_fillsGaps_172 <|
    s_iast (pc := 173) C dX8_fillsGaps_173 <|
    s_aload_n (pc := 174) C dX8_fillsGaps_174 rfl <|
    s_dup (pc := 175) C dX8_fillsGaps_175 <|
    s_get (pc := 176) C (ci := 8) (kf := 11) rfl inX8 (by decide) wd_882 dX8_fillsGaps_176 <|
    s_iconst (pc := 179) C dX8_fillsGaps_179 <|
    s_iadd (pc := 180) C dX8_fillsGaps_180 <|
    s_put (pc := 181) (z := false) C (ci := 8) (kf := 11) rfl inX8 tyX8_ok nmX8 (by decide) wd_882 rfl rfl dX8_fillsGaps_181 <|
    s_cut q184)
    (s_goto (pc := 139) C dX8_fillsGaps_139 (by decide) <|
    s_cut q184)))
noncomputable def mg_X8_fillsGaps_184 (p1 : Int) (k14 : (Int × Int × Ob) → Option Rt) (a : Int × Int × Ob) : Option Rt :=
 k14 (a.1, (a.2.1 + 1), a.2.2)
set_option maxRecDepth 100000 in
set_option maxHeartbeats 4000000 in
theorem rq_X8_fillsGaps_184 (p1 : Int) (k14 : XK) (a : Int × Int × Ob) : rg_X8_fillsGaps_184 k14 (en_X8_fillsGaps_184 p1 a) = mg_X8_fillsGaps_184 p1 (fun b => k14 (en_X8_fillsGaps_14 p1 b)) a := rfl
set_option maxRecDepth 100000 in
set_option maxHeartbeats 4000000 in
theorem sg_X8_fillsGaps_184 {X : XDyn} {r0 : Rt} (C : XO X mX8_fillsGaps) {k14 : XK} (q14 : XS X mX8_fillsGaps r0 14 k14) : XS X mX8_fillsGaps r0 184 (rg_X8_fillsGaps_184 k14) := by
 unfold rg_X8_fillsGaps_184
 exact s_iinc (pc := 184) C dX8_fillsGaps_184 <|
    s_goto (pc := 187) C dX8_fillsGaps_187 (by decide) <|
    s_cut q14
noncomputable def rw_X8_fillsGaps_184 (f : Nat) (k14 : XK) : XK := rg_X8_fillsGaps_184 k14
noncomputable def md_X8_fillsGaps_184 (p1 : Int) (f : Nat) (k14 : (Int × Int × Ob) → Option Rt) : Int × Int × Ob → Option Rt := mg_X8_fillsGaps_184 p1 k14
theorem eq_X8_fillsGaps_184 (p1 : Int) (f : Nat) (k14 : XK) (a : Int × Int × Ob) : rw_X8_fillsGaps_184 f k14 (en_X8_fillsGaps_184 p1 a) = md_X8_fillsGaps_184 p1 f (fun b => k14 (en_X8_fillsGaps_14 p1 b)) a :=
 (rq_X8_fillsGaps_184 p1 k14 a).trans (congrFun (congr (rfl : mg_X8_fillsGaps_184 p1 = mg_X8_fillsGaps_184 p1) rfl) a)
theorem sd_X8_fillsGaps_184 (f : Nat) {X : XDyn} {r0 : Rt} (C : XO X mX8_fillsGaps) {k14 : XK} (q14 : XS X mX8_fillsGaps r0 14 k14) : XS X mX8_fillsGaps r0 184 (rw_X8_fillsGaps_184 f k14) := sg_X8_fillsGaps_184 C q14
noncomputable def rw_X8_fillsGaps_88 (f : Nat) (k14 : XK) : XK := rg_X8_fillsGaps_88 (rw_X8_fillsGaps_184 f k14)
noncomputable def md_X8_fillsGaps_88 (p1 : Int) (f : Nat) (k14 : (Int × Int × Ob) → Option Rt) : Int × Int × Ob → Option Rt := mg_X8_fillsGaps_88 p1 (md_X8_fillsGaps_184 p1 f k14)
theorem eq_X8_fillsGaps_88 (p1 : Int) (f : Nat) (k14 : XK) (a : Int × Int × Ob) : rw_X8_fillsGaps_88 f k14 (en_X8_fillsGaps_88 p1 a) = md_X8_fillsGaps_88 p1 f (fun b => k14 (en_X8_fillsGaps_14 p1 b)) a :=
 (rq_X8_fillsGaps_88 p1 (rw_X8_fillsGaps_184 f k14) a).trans (congrFun (congr (rfl : mg_X8_fillsGaps_88 p1 = mg_X8_fillsGaps_88 p1) (funext (eq_X8_fillsGaps_184 p1 f k14))) a)
theorem sd_X8_fillsGaps_88 (f : Nat) {X : XDyn} {r0 : Rt} (C : XO X mX8_fillsGaps) {k14 : XK} (q14 : XS X mX8_fillsGaps r0 14 k14) : XS X mX8_fillsGaps r0 88 (rw_X8_fillsGaps_88 f k14) := sg_X8_fillsGaps_88 C (sd_X8_fillsGaps_184 f C q14)
noncomputable def rw_X8_fillsGaps_54 (f : Nat) (k14 : XK) : XK := rg_X8_fillsGaps_54 (rw_X8_fillsGaps_88 f k14)
noncomputable def md_X8_fillsGaps_54 (p1 : Int) (f : Nat) (k14 : (Int × Int × Ob) → Option Rt) : Int × Int × Int × Ob → Option Rt := mg_X8_fillsGaps_54 p1 (md_X8_fillsGaps_88 p1 f k14)
theorem eq_X8_fillsGaps_54 (p1 : Int) (f : Nat) (k14 : XK) (a : Int × Int × Int × Ob) : rw_X8_fillsGaps_54 f k14 (en_X8_fillsGaps_54 p1 a) = md_X8_fillsGaps_54 p1 f (fun b => k14 (en_X8_fillsGaps_14 p1 b)) a :=
 (rq_X8_fillsGaps_54 p1 (rw_X8_fillsGaps_88 f k14) a).trans (congrFun (congr (rfl : mg_X8_fillsGaps_54 p1 = mg_X8_fillsGaps_54 p1) (funext (eq_X8_fillsGaps_88 p1 f k14))) a)
theorem sd_X8_fillsGaps_54 (f : Nat) {X : XDyn} {r0 : Rt} (C : XO X mX8_fillsGaps) {k14 : XK} (q14 : XS X mX8_fillsGaps r0 14 k14) : XS X mX8_fillsGaps r0 54 (rw_X8_fillsGaps_54 f k14) := sg_X8_fillsGaps_54 C (sd_X8_fillsGaps_88 f C q14)
noncomputable def rw_X8_fillsGaps_34 (f : Nat) (k14 : XK) : XK := rg_X8_fillsGaps_34 (rw_X8_fillsGaps_54 f k14) (rw_X8_fillsGaps_184 f k14)
noncomputable def md_X8_fillsGaps_34 (p1 : Int) (f : Nat) (k14 : (Int × Int × Ob) → Option Rt) : Int × Int × Int × Ob → Option Rt := mg_X8_fillsGaps_34 p1 (md_X8_fillsGaps_54 p1 f k14) (md_X8_fillsGaps_184 p1 f k14)
theorem eq_X8_fillsGaps_34 (p1 : Int) (f : Nat) (k14 : XK) (a : Int × Int × Int × Ob) : rw_X8_fillsGaps_34 f k14 (en_X8_fillsGaps_34 p1 a) = md_X8_fillsGaps_34 p1 f (fun b => k14 (en_X8_fillsGaps_14 p1 b)) a :=
 (rq_X8_fillsGaps_34 p1 (rw_X8_fillsGaps_54 f k14) (rw_X8_fillsGaps_184 f k14) a).trans (congrFun (congr (congr (rfl : mg_X8_fillsGaps_34 p1 = mg_X8_fillsGaps_34 p1) (funext (eq_X8_fillsGaps_54 p1 f k14))) (funext (eq_X8_fillsGaps_184 p1 f k14))) a)
theorem sd_X8_fillsGaps_34 (f : Nat) {X : XDyn} {r0 : Rt} (C : XO X mX8_fillsGaps) {k14 : XK} (q14 : XS X mX8_fillsGaps r0 14 k14) : XS X mX8_fillsGaps r0 34 (rw_X8_fillsGaps_34 f k14) := sg_X8_fillsGaps_34 C (sd_X8_fillsGaps_54 f C q14) (sd_X8_fillsGaps_184 f C q14)
noncomputable def rw_X8_fillsGaps_14 (f : Nat) : XK := tlp (fun k14 => rg_X8_fillsGaps_14 (rw_X8_fillsGaps_34 f k14)) f
noncomputable def lb_X8_fillsGaps_14 (p1 : Int) (f : Nat) : ((Int × Int × Ob) → Option Rt) → Int × Int × Ob → Option Rt := fun k14 => mg_X8_fillsGaps_14 p1 (md_X8_fillsGaps_34 p1 f k14)
noncomputable def md_X8_fillsGaps_14 (p1 : Int) (f : Nat) : Int × Int × Ob → Option Rt := tlp (lb_X8_fillsGaps_14 p1 f) f
theorem eq_X8_fillsGaps_14 (p1 : Int) (f : Nat) (a : Int × Int × Ob) : rw_X8_fillsGaps_14 f (en_X8_fillsGaps_14 p1 a) = md_X8_fillsGaps_14 p1 f a :=
 tlp_enc (en_X8_fillsGaps_14 p1) (fun k14 a => (rq_X8_fillsGaps_14 p1 (rw_X8_fillsGaps_34 f k14) a).trans (congrFun (congr (rfl : mg_X8_fillsGaps_14 p1 = mg_X8_fillsGaps_14 p1) (funext (eq_X8_fillsGaps_34 p1 f k14))) a)) f a
theorem sd_X8_fillsGaps_14 (f : Nat) {X : XDyn} {r0 : Rt} (C : XO X mX8_fillsGaps) : XS X mX8_fillsGaps r0 14 (rw_X8_fillsGaps_14 f) := s_lp (fun k14 q14 => sg_X8_fillsGaps_14 C (sd_X8_fillsGaps_34 f C q14)) f
noncomputable def rw_X8_fillsGaps_0 (f : Nat) : XK := rg_X8_fillsGaps_0 (rw_X8_fillsGaps_14 f)
noncomputable def md_X8_fillsGaps_0 (p1 : Int) (f : Nat) : Ob → Option Rt := mg_X8_fillsGaps_0 p1 (md_X8_fillsGaps_14 p1 f)
theorem eq_X8_fillsGaps_0 (p1 : Int) (f : Nat) (a : Ob) : rw_X8_fillsGaps_0 f (en_X8_fillsGaps_0 p1 a) = md_X8_fillsGaps_0 p1 f a :=
 (rq_X8_fillsGaps_0 p1 (rw_X8_fillsGaps_14 f) a).trans (congrFun (congr (rfl : mg_X8_fillsGaps_0 p1 = mg_X8_fillsGaps_0 p1) (funext (eq_X8_fillsGaps_14 p1 f))) a)
theorem sd_X8_fillsGaps_0 (f : Nat) {X : XDyn} {r0 : Rt} (C : XO X mX8_fillsGaps) : XS X mX8_fillsGaps r0 0 (rw_X8_fillsGaps_0 f) := sg_X8_fillsGaps_0 C (sd_X8_fillsGaps_14 f C)
theorem ctr_X8_fillsGaps (f : Nat) : XCt yX8_fillsGaps mX8_fillsGaps (xF mX8_fillsGaps (rw_X8_fillsGaps_0 f)) := xMet (by decide +kernel) rfl (fun _ _ C => sd_X8_fillsGaps_0 f C)
theorem eqf_X8_fillsGaps (f : Nat) (p1 : Int) (h0 : Ob) : xF mX8_fillsGaps (rw_X8_fillsGaps_0 f) [.inr (.inl (0, 0)), .inl p1] [h0] = md_X8_fillsGaps_0 p1 f h0 := eq_X8_fillsGaps_0 p1 f h0
theorem yi_X8_fillsGaps : yX8_fillsGaps.cls = RX8 ∧ yX8_fillsGaps.cls ≠ "java/lang/invoke/MethodHandle" ∧ yX8_fillsGaps.cls ≠ "java/lang/invoke/VarHandle" ∧ (parseMethodDescriptor yX8_fillsGaps.desc).map (fun d => d.parameters.length) = some 1 := ⟨rfl, by decide +kernel, by decide +kernel, by decide +kernel⟩
noncomputable def ov_X8_fillsGaps (p1 : Int) (h0 : Ob) : Option Rt := xop (md_X8_fillsGaps_0 p1 xfu h0)
theorem ov_X8_fillsGaps_e (p1 : Int) (h0 : Ob) : ov_X8_fillsGaps p1 h0 = md_X8_fillsGaps_0 p1 xfu h0 := xop_eq _
theorem sp_X8_fillsGaps (p1 : Int) (h0 : Ob) (hg : oqV (ov_X8_fillsGaps p1 h0) = true) : md_X8_fillsGaps_0 p1 xfu h0 = RV [(oqO (ov_X8_fillsGaps p1 h0) 0)] := (ov_X8_fillsGaps_e p1 h0).symm.trans (oqV_eq hg)
noncomputable def g_X8_fillsGaps : List AV → List Ob → Bool
  | [.inr (.inl (0, 0)), .inl p1], [h0] => oqV (ov_X8_fillsGaps p1 h0)
  | _, _ => false
noncomputable def v_X8_fillsGaps : List AV → List Ob → Rt
  | [.inr (.inl (0, 0)), .inl p1], [h0] => (none, [(oqO (ov_X8_fillsGaps p1 h0) 0)])
  | _, _ => (none, [])
theorem ct_X8_fillsGaps : XCt yX8_fillsGaps mX8_fillsGaps (fun as μ => if g_X8_fillsGaps as μ then some (v_X8_fillsGaps as μ) else none) := (ctr_X8_fillsGaps xfu).of (fun as μ r h => by
  split at h
  · rename_i hg
    unfold g_X8_fillsGaps at hg
    split at hg
    · rw [← h]
      exact (eqf_X8_fillsGaps xfu _ _).trans (sp_X8_fillsGaps _ _ hg)
    · cases hg
  · cases h)
theorem dX8_fillsLong_0 : decode cX8_fillsLong 0 = .ok (.aload_n 0, 1) := by decide +kernel
theorem dX8_fillsLong_1 : decode cX8_fillsLong 1 = .ok (.getfield 37, 3) := by decide +kernel
theorem dX8_fillsLong_4 : decode cX8_fillsLong 4 = .ok (.iconst 0, 1) := by decide +kernel
theorem dX8_fillsLong_5 : decode cX8_fillsLong 5 = .ok (.iconst 0, 1) := by decide +kernel
theorem dX8_fillsLong_6 : decode cX8_fillsLong 6 = .ok (.iastore, 1) := by decide +kernel
theorem dX8_fillsLong_7 : decode cX8_fillsLong 7 = .ok (.iconst 1, 1) := by decide +kernel
theorem dX8_fillsLong_8 : decode cX8_fillsLong 8 = .ok (.istore_n 2, 1) := by decide +kernel
theorem dX8_fillsLong_9 : decode cX8_fillsLong 9 = .ok (.iload_n 2, 1) := by decide +kernel
theorem dX8_fillsLong_10 : decode cX8_fillsLong 10 = .ok (.iconst 1, 1) := by decide +kernel
theorem dX8_fillsLong_11 : decode cX8_fillsLong 11 = .ok (.iload_n 1, 1) := by decide +kernel
theorem dX8_fillsLong_12 : decode cX8_fillsLong 12 = .ok (.ishl, 1) := by decide +kernel
theorem dX8_fillsLong_13 : decode cX8_fillsLong 13 = .ok (.if_icmp .ge 48, 3) := by decide +kernel
theorem dX8_fillsLong_16 : decode cX8_fillsLong 16 = .ok (.iconst 0, 1) := by decide +kernel
theorem dX8_fillsLong_17 : decode cX8_fillsLong 17 = .ok (.istore_n 3, 1) := by decide +kernel
theorem dX8_fillsLong_18 : decode cX8_fillsLong 18 = .ok (.iload_n 2, 1) := by decide +kernel
theorem dX8_fillsLong_19 : decode cX8_fillsLong 19 = .ok (.iload_n 3, 1) := by decide +kernel
theorem dX8_fillsLong_20 : decode cX8_fillsLong 20 = .ok (.invokestatic 125, 3) := by decide +kernel
theorem dX8_fillsLong_23 : decode cX8_fillsLong 23 = .ok (.ifCond .ne 9, 3) := by decide +kernel
theorem dX8_fillsLong_26 : decode cX8_fillsLong 26 = .ok (.iinc 3 1, 3) := by decide +kernel
theorem dX8_fillsLong_29 : decode cX8_fillsLong 29 = .ok (.goto (-11), 3) := by decide +kernel
theorem dX8_fillsLong_32 : decode cX8_fillsLong 32 = .ok (.aload_n 0, 1) := by decide +kernel
theorem dX8_fillsLong_33 : decode cX8_fillsLong 33 = .ok (.getfield 37, 3) := by decide +kernel
theorem dX8_fillsLong_36 : decode cX8_fillsLong 36 = .ok (.iload_n 2, 1) := by decide +kernel
theorem dX8_fillsLong_37 : decode cX8_fillsLong 37 = .ok (.aload_n 0, 1) := by decide +kernel
theorem dX8_fillsLong_38 : decode cX8_fillsLong 38 = .ok (.getfield 37, 3) := by decide +kernel
theorem dX8_fillsLong_41 : decode cX8_fillsLong 41 = .ok (.iload_n 2, 1) := by decide +kernel
theorem dX8_fillsLong_42 : decode cX8_fillsLong 42 = .ok (.iload_n 2, 1) := by decide +kernel
theorem dX8_fillsLong_43 : decode cX8_fillsLong 43 = .ok (.iconst 1, 1) := by decide +kernel
theorem dX8_fillsLong_44 : decode cX8_fillsLong 44 = .ok (.isub, 1) := by decide +kernel
theorem dX8_fillsLong_45 : decode cX8_fillsLong 45 = .ok (.iand, 1) := by decide +kernel
theorem dX8_fillsLong_46 : decode cX8_fillsLong 46 = .ok (.iaload, 1) := by decide +kernel
theorem dX8_fillsLong_47 : decode cX8_fillsLong 47 = .ok (.aload_n 0, 1) := by decide +kernel
theorem dX8_fillsLong_48 : decode cX8_fillsLong 48 = .ok (.getfield 34, 3) := by decide +kernel
theorem dX8_fillsLong_51 : decode cX8_fillsLong 51 = .ok (.iload_n 3, 1) := by decide +kernel
theorem dX8_fillsLong_52 : decode cX8_fillsLong 52 = .ok (.iaload, 1) := by decide +kernel
theorem dX8_fillsLong_53 : decode cX8_fillsLong 53 = .ok (.iadd, 1) := by decide +kernel
theorem dX8_fillsLong_54 : decode cX8_fillsLong 54 = .ok (.iastore, 1) := by decide +kernel
theorem dX8_fillsLong_55 : decode cX8_fillsLong 55 = .ok (.iinc 2 1, 3) := by decide +kernel
theorem dX8_fillsLong_58 : decode cX8_fillsLong 58 = .ok (.goto (-49), 3) := by decide +kernel
theorem dX8_fillsLong_61 : decode cX8_fillsLong 61 = .ok (.return_, 1) := by decide +kernel
abbrev mX8_fillsLong : XM := (cX8_fillsLong, 4, RX8, none, shw_8, 1)
noncomputable def rg_X8_fillsLong_0 (k9 : XK) : XK :=
 o_aload 0 <|
 o_get shw_8 8 13 <|
 o_iconst 0 <|
 o_iconst 0 <|
 o_iast shw_8 <|
 o_iconst 1 <|
 o_istore 2 <|
 o_cut [] k9
def en_X8_fillsLong_0 (p1 : Int) (a : Ob) : XSt := ([some (.inr (.inl (0, 0))), some (.inl p1), none, none], [], [a])
noncomputable def rg_X8_fillsLong_9 (k18 : XK) : XK :=
 o_iload 2 <|
 o_iconst 1 <|
 o_iload 1 <|
 o_ishl <|
 o_icmp_ge (o_return)
 (o_iconst 0 <|
 o_istore 3 <|
 o_cut [] k18)
def en_X8_fillsLong_9 (p1 : Int) (a : Int × Ob) : XSt := ([some (.inr (.inl (0, 0))), some (.inl p1), some (.inl a.1), none], [], [a.2])
noncomputable def rg_X8_fillsLong_18 (k9 : XK) (k18 : XK) : XK :=
 o_iload 2 <|
 o_iload 3 <|
 o_callS 2 1 [] f_X8_isOf <|
 o_if_ne (o_aload 0 <|
 o_get shw_8 8 13 <|
 o_iload 2 <|
 o_aload 0 <|
 o_get shw_8 8 13 <|
 o_iload 2 <|
 o_iload 2 <|
 o_iconst 1 <|
 o_isub <|
 o_iand <|
 o_iald shw_8 <|
 o_aload 0 <|
 o_get shw_8 8 12 <|
 o_iload 3 <|
 o_iald shw_8 <|
 o_iadd <|
 o_iast shw_8 <|
 o_iinc 2 1 <|
 o_cut [3] k9)
 (o_iinc 3 1 <|
 o_cut [] k18)
def en_X8_fillsLong_18 (p1 : Int) (a : Int × Int × Ob) : XSt := ([some (.inr (.inl (0, 0))), some (.inl p1), some (.inl a.1), some (.inl a.2.1)], [], [a.2.2])
noncomputable def mg_X8_fillsLong_0 (p1 : Int) (k9 : (Int × Ob) → Option Rt) (a : Ob) : Option Rt :=
 k9 (1, (xset a 10 0 0))
set_option maxRecDepth 100000 in
set_option maxHeartbeats 4000000 in
theorem rq_X8_fillsLong_0 (p1 : Int) (k9 : XK) (a : Ob) : rg_X8_fillsLong_0 k9 (en_X8_fillsLong_0 p1 a) = mg_X8_fillsLong_0 p1 (fun b => k9 (en_X8_fillsLong_9 p1 b)) a := rfl
set_option maxRecDepth 100000 in
set_option maxHeartbeats 4000000 in
theorem sg_X8_fillsLong_0 {X : XDyn} {r0 : Rt} (C : XO X mX8_fillsLong) {k9 : XK} (q9 : XS X mX8_fillsLong r0 9 k9) : XS X mX8_fillsLong r0 0 (rg_X8_fillsLong_0 k9) := by
 unfold rg_X8_fillsLong_0
 exact s_aload_n (pc := 0) C dX8_fillsLong_0 rfl <|
    s_get (pc := 1) C (ci := 8) (kf := 13) rfl inX8 (by decide) wd_884 dX8_fillsLong_1 <|
    s_iconst (pc := 4) C dX8_fillsLong_4 <|
    s_iconst (pc := 5) C dX8_fillsLong_5 <|
    s_iast (pc := 6) C dX8_fillsLong_6 <|
    s_iconst (pc := 7) C dX8_fillsLong_7 <|
    s_istore_n (pc := 8) C dX8_fillsLong_8 rfl <|
    s_cut q9
noncomputable def mg_X8_fillsLong_9 (p1 : Int) (k18 : (Int × Int × Ob) → Option Rt) (a : Int × Ob) : Option Rt :=
 if xw a.1 ≥ xw (xshl 1 p1) then (RV [a.2])
 else (k18 (a.1, 0, a.2))
set_option maxRecDepth 100000 in
set_option maxHeartbeats 4000000 in
theorem rq_X8_fillsLong_9 (p1 : Int) (k18 : XK) (a : Int × Ob) : rg_X8_fillsLong_9 k18 (en_X8_fillsLong_9 p1 a) = mg_X8_fillsLong_9 p1 (fun b => k18 (en_X8_fillsLong_18 p1 b)) a := rfl
set_option maxRecDepth 100000 in
set_option maxHeartbeats 4000000 in
theorem sg_X8_fillsLong_9 {X : XDyn} {r0 : Rt} (C : XO X mX8_fillsLong) {k18 : XK} (q18 : XS X mX8_fillsLong r0 18 k18) : XS X mX8_fillsLong r0 9 (rg_X8_fillsLong_9 k18) := by
 unfold rg_X8_fillsLong_9
 exact s_iload_n (pc := 9) C dX8_fillsLong_9 rfl <|
    s_iconst (pc := 10) C dX8_fillsLong_10 <|
    s_iload_n (pc := 11) C dX8_fillsLong_11 rfl <|
    s_ishl (pc := 12) C dX8_fillsLong_12 <|
    s_icmp_ge (pc := 13) C dX8_fillsLong_13 (by decide) (s_return (pc := 61) C rfl dX8_fillsLong_61)
    (s_iconst (pc := 16) C dX8_fillsLong_16 <|
    s_istore_n (pc := 17) C dX8_fillsLong_17 rfl <|
    s_cut q18)
noncomputable def mg_X8_fillsLong_18 (p1 : Int) (k9 : (Int × Ob) → Option Rt) (k18 : (Int × Int × Ob) → Option Rt) (a : Int × Int × Ob) : Option Rt :=
 if xw (bz (isO a.1 a.2.1)) = 0 then (k18 (a.1, (a.2.1 + 1), a.2.2))
 else (if xin (xand a.1 (a.1 - 1)) 4096 then (
 if xin a.2.1 12 then (
 if xin a.1 4096 then (
 k9 ((a.1 + 1), (xset a.2.2 10 (xw a.1).toNat ((a.2.2 10 (xw (xand a.1 (a.1 - 1))).toNat) + (a.2.2 9 (xw a.2.1).toNat))))) else none) else none) else none)
set_option maxRecDepth 100000 in
set_option maxHeartbeats 4000000 in
theorem rq_X8_fillsLong_18 (p1 : Int) (k9 : XK) (k18 : XK) (a : Int × Int × Ob) : rg_X8_fillsLong_18 k9 k18 (en_X8_fillsLong_18 p1 a) = mg_X8_fillsLong_18 p1 (fun b => k9 (en_X8_fillsLong_9 p1 b)) (fun b => k18 (en_X8_fillsLong_18 p1 b)) a := rfl
set_option maxRecDepth 100000 in
set_option maxHeartbeats 4000000 in
theorem sg_X8_fillsLong_18 {X : XDyn} {r0 : Rt} (C : XO X mX8_fillsLong) {k9 : XK} (q9 : XS X mX8_fillsLong r0 9 k9) {k18 : XK} (q18 : XS X mX8_fillsLong r0 18 k18) : XS X mX8_fillsLong r0 18 (rg_X8_fillsLong_18 k9 k18) := by
 unfold rg_X8_fillsLong_18
 exact s_iload_n (pc := 18) C dX8_fillsLong_18 rfl <|
    s_iload_n (pc := 19) C dX8_fillsLong_19 rfl <|
    s_callS (pc := 20) C ct_X8_isOf (n := 2) (rk := 1) (mp := []) ⟨rfl, by decide, rfl⟩ (by decide) (by decide) ⟨rfl, yi_X8_isOf⟩ wd_1046 wd_1047 wd_81 wd_1048 dX8_fillsLong_20 <|
    s_if_ne (pc := 23) C dX8_fillsLong_23 (by decide) (s_aload_n (pc := 32) C dX8_fillsLong_32 rfl <|
    s_get (pc := 33) C (ci := 8) (kf := 13) rfl inX8 (by decide) wd_884 dX8_fillsLong_33 <|
    s_iload_n (pc := 36) C dX8_fillsLong_36 rfl <|
    s_aload_n (pc := 37) C dX8_fillsLong_37 rfl <|
    s_get (pc := 38) C (ci := 8) (kf := 13) rfl inX8 (by decide) wd_884 dX8_fillsLong_38 <|
    s_iload_n (pc := 41) C dX8_fillsLong_41 rfl <|
    s_iload_n (pc := 42) C dX8_fillsLong_42 rfl <|
    s_iconst (pc := 43) C dX8_fillsLong_43 <|
    s_isub (pc := 44) C dX8_fillsLong_44 <|
    s_iand (pc := 45) C dX8_fillsLong_45 <|
    s_iald (pc := 46) C dX8_fillsLong_46 <|
    s_aload_n (pc := 47) C dX8_fillsLong_47 rfl <|
    s_get (pc := 48) C (ci := 8) (kf := 12) rfl inX8 (by decide) wd_883 dX8_fillsLong_48 <|
    s_iload_n (pc := 51) C dX8_fillsLong_51 rfl <|
    s_iald (pc := 52) C dX8_fillsLong_52 <|
    s_iadd (pc := 53) C dX8_fillsLong_53 <|
    s_iast (pc := 54) C dX8_fillsLong_54 <|
    s_iinc (pc := 55) C dX8_fillsLong_55 <|
    s_goto (pc := 58) C dX8_fillsLong_58 (by decide) <|
    s_cut q9)
    (s_iinc (pc := 26) C dX8_fillsLong_26 <|
    s_goto (pc := 29) C dX8_fillsLong_29 (by decide) <|
    s_cut q18)
noncomputable def rw_X8_fillsLong_18 (f : Nat) (k9 : XK) : XK := tlp (fun k18 => rg_X8_fillsLong_18 k9 k18) f
noncomputable def lb_X8_fillsLong_18 (p1 : Int) (f : Nat) (k9 : (Int × Ob) → Option Rt) : ((Int × Int × Ob) → Option Rt) → Int × Int × Ob → Option Rt := fun k18 => mg_X8_fillsLong_18 p1 k9 k18
noncomputable def md_X8_fillsLong_18 (p1 : Int) (f : Nat) (k9 : (Int × Ob) → Option Rt) : Int × Int × Ob → Option Rt := tlp (lb_X8_fillsLong_18 p1 f k9) f
theorem eq_X8_fillsLong_18 (p1 : Int) (f : Nat) (k9 : XK) (a : Int × Int × Ob) : rw_X8_fillsLong_18 f k9 (en_X8_fillsLong_18 p1 a) = md_X8_fillsLong_18 p1 f (fun b => k9 (en_X8_fillsLong_9 p1 b)) a :=
 tlp_enc (en_X8_fillsLong_18 p1) (fun k18 a => (rq_X8_fillsLong_18 p1 k9 k18 a).trans (congrFun (congr (congr (rfl : mg_X8_fillsLong_18 p1 = mg_X8_fillsLong_18 p1) rfl) rfl) a)) f a
theorem sd_X8_fillsLong_18 (f : Nat) {X : XDyn} {r0 : Rt} (C : XO X mX8_fillsLong) {k9 : XK} (q9 : XS X mX8_fillsLong r0 9 k9) : XS X mX8_fillsLong r0 18 (rw_X8_fillsLong_18 f k9) := s_lp (fun k18 q18 => sg_X8_fillsLong_18 C q9 q18) f
noncomputable def rw_X8_fillsLong_9 (f : Nat) : XK := tlp (fun k9 => rg_X8_fillsLong_9 (rw_X8_fillsLong_18 f k9)) f
noncomputable def lb_X8_fillsLong_9 (p1 : Int) (f : Nat) : ((Int × Ob) → Option Rt) → Int × Ob → Option Rt := fun k9 => mg_X8_fillsLong_9 p1 (md_X8_fillsLong_18 p1 f k9)
noncomputable def md_X8_fillsLong_9 (p1 : Int) (f : Nat) : Int × Ob → Option Rt := tlp (lb_X8_fillsLong_9 p1 f) f
theorem eq_X8_fillsLong_9 (p1 : Int) (f : Nat) (a : Int × Ob) : rw_X8_fillsLong_9 f (en_X8_fillsLong_9 p1 a) = md_X8_fillsLong_9 p1 f a :=
 tlp_enc (en_X8_fillsLong_9 p1) (fun k9 a => (rq_X8_fillsLong_9 p1 (rw_X8_fillsLong_18 f k9) a).trans (congrFun (congr (rfl : mg_X8_fillsLong_9 p1 = mg_X8_fillsLong_9 p1) (funext (eq_X8_fillsLong_18 p1 f k9))) a)) f a
theorem sd_X8_fillsLong_9 (f : Nat) {X : XDyn} {r0 : Rt} (C : XO X mX8_fillsLong) : XS X mX8_fillsLong r0 9 (rw_X8_fillsLong_9 f) := s_lp (fun k9 q9 => sg_X8_fillsLong_9 C (sd_X8_fillsLong_18 f C q9)) f
noncomputable def rw_X8_fillsLong_0 (f : Nat) : XK := rg_X8_fillsLong_0 (rw_X8_fillsLong_9 f)
noncomputable def md_X8_fillsLong_0 (p1 : Int) (f : Nat) : Ob → Option Rt := mg_X8_fillsLong_0 p1 (md_X8_fillsLong_9 p1 f)
theorem eq_X8_fillsLong_0 (p1 : Int) (f : Nat) (a : Ob) : rw_X8_fillsLong_0 f (en_X8_fillsLong_0 p1 a) = md_X8_fillsLong_0 p1 f a :=
 (rq_X8_fillsLong_0 p1 (rw_X8_fillsLong_9 f) a).trans (congrFun (congr (rfl : mg_X8_fillsLong_0 p1 = mg_X8_fillsLong_0 p1) (funext (eq_X8_fillsLong_9 p1 f))) a)
theorem sd_X8_fillsLong_0 (f : Nat) {X : XDyn} {r0 : Rt} (C : XO X mX8_fillsLong) : XS X mX8_fillsLong r0 0 (rw_X8_fillsLong_0 f) := sg_X8_fillsLong_0 C (sd_X8_fillsLong_9 f C)
theorem ctr_X8_fillsLong (f : Nat) : XCt yX8_fillsLong mX8_fillsLong (xF mX8_fillsLong (rw_X8_fillsLong_0 f)) := xMet (by decide +kernel) rfl (fun _ _ C => sd_X8_fillsLong_0 f C)
theorem eqf_X8_fillsLong (f : Nat) (p1 : Int) (h0 : Ob) : xF mX8_fillsLong (rw_X8_fillsLong_0 f) [.inr (.inl (0, 0)), .inl p1] [h0] = md_X8_fillsLong_0 p1 f h0 := eq_X8_fillsLong_0 p1 f h0
theorem yi_X8_fillsLong : yX8_fillsLong.cls = RX8 ∧ yX8_fillsLong.cls ≠ "java/lang/invoke/MethodHandle" ∧ yX8_fillsLong.cls ≠ "java/lang/invoke/VarHandle" ∧ (parseMethodDescriptor yX8_fillsLong.desc).map (fun d => d.parameters.length) = some 1 := ⟨rfl, by decide +kernel, by decide +kernel, by decide +kernel⟩
noncomputable def ov_X8_fillsLong (p1 : Int) (h0 : Ob) : Option Rt := xop (md_X8_fillsLong_0 p1 xfu h0)
theorem ov_X8_fillsLong_e (p1 : Int) (h0 : Ob) : ov_X8_fillsLong p1 h0 = md_X8_fillsLong_0 p1 xfu h0 := xop_eq _
theorem sp_X8_fillsLong (p1 : Int) (h0 : Ob) (hg : oqV (ov_X8_fillsLong p1 h0) = true) : md_X8_fillsLong_0 p1 xfu h0 = RV [(oqO (ov_X8_fillsLong p1 h0) 0)] := (ov_X8_fillsLong_e p1 h0).symm.trans (oqV_eq hg)
noncomputable def g_X8_fillsLong : List AV → List Ob → Bool
  | [.inr (.inl (0, 0)), .inl p1], [h0] => oqV (ov_X8_fillsLong p1 h0)
  | _, _ => false
noncomputable def v_X8_fillsLong : List AV → List Ob → Rt
  | [.inr (.inl (0, 0)), .inl p1], [h0] => (none, [(oqO (ov_X8_fillsLong p1 h0) 0)])
  | _, _ => (none, [])
theorem ct_X8_fillsLong : XCt yX8_fillsLong mX8_fillsLong (fun as μ => if g_X8_fillsLong as μ then some (v_X8_fillsLong as μ) else none) := (ctr_X8_fillsLong xfu).of (fun as μ r h => by
  split at h
  · rename_i hg
    unfold g_X8_fillsLong at hg
    split at hg
    · rw [← h]
      exact (eqf_X8_fillsLong xfu _ _).trans (sp_X8_fillsLong _ _ hg)
    · cases hg
  · cases h)
theorem dX8_packsNothing_0 : decode cX8_packsNothing 0 = .ok (.iconst 0, 1) := by decide +kernel
theorem dX8_packsNothing_1 : decode cX8_packsNothing 1 = .ok (.istore_n 2, 1) := by decide +kernel
theorem dX8_packsNothing_2 : decode cX8_packsNothing 2 = .ok (.iload_n 2, 1) := by decide +kernel
theorem dX8_packsNothing_3 : decode cX8_packsNothing 3 = .ok (.iconst 1, 1) := by decide +kernel
theorem dX8_packsNothing_4 : decode cX8_packsNothing 4 = .ok (.iload_n 1, 1) := by decide +kernel
theorem dX8_packsNothing_5 : decode cX8_packsNothing 5 = .ok (.ishl, 1) := by decide +kernel
theorem dX8_packsNothing_6 : decode cX8_packsNothing 6 = .ok (.if_icmp .ge 24, 3) := by decide +kernel
theorem dX8_packsNothing_9 : decode cX8_packsNothing 9 = .ok (.aload_n 0, 1) := by decide +kernel
theorem dX8_packsNothing_10 : decode cX8_packsNothing 10 = .ok (.getfield 40, 3) := by decide +kernel
theorem dX8_packsNothing_13 : decode cX8_packsNothing 13 = .ok (.iload_n 2, 1) := by decide +kernel
theorem dX8_packsNothing_14 : decode cX8_packsNothing 14 = .ok (.iload_n 2, 1) := by decide +kernel
theorem dX8_packsNothing_15 : decode cX8_packsNothing 15 = .ok (.ifCond .ne 7, 3) := by decide +kernel
theorem dX8_packsNothing_18 : decode cX8_packsNothing 18 = .ok (.iconst 1, 1) := by decide +kernel
theorem dX8_packsNothing_19 : decode cX8_packsNothing 19 = .ok (.goto 4, 3) := by decide +kernel
theorem dX8_packsNothing_22 : decode cX8_packsNothing 22 = .ok (.iconst 0, 1) := by decide +kernel
theorem dX8_packsNothing_23 : decode cX8_packsNothing 23 = .ok (.bastore, 1) := by decide +kernel
theorem dX8_packsNothing_24 : decode cX8_packsNothing 24 = .ok (.iinc 2 1, 3) := by decide +kernel
theorem dX8_packsNothing_27 : decode cX8_packsNothing 27 = .ok (.goto (-25), 3) := by decide +kernel
theorem dX8_packsNothing_30 : decode cX8_packsNothing 30 = .ok (.return_, 1) := by decide +kernel
abbrev mX8_packsNothing : XM := (cX8_packsNothing, 3, RX8, none, shw_8, 0)
noncomputable def rg_X8_packsNothing_0 (k2 : XK) : XK :=
 o_iconst 0 <|
 o_istore 2 <|
 o_cut [] k2
def en_X8_packsNothing_0 (p1 : Int) (a : Ob) : XSt := ([some (.inr (.inl (0, 0))), some (.inl p1), none], [], [a])
noncomputable def rg_X8_packsNothing_2 (k23 : XK) : XK :=
 o_iload 2 <|
 o_iconst 1 <|
 o_iload 1 <|
 o_ishl <|
 o_icmp_ge (o_return)
 (o_aload 0 <|
 o_get shw_8 8 14 <|
 o_iload 2 <|
 o_iload 2 <|
 o_if_ne (o_iconst 0 <|
 o_cut [] k23)
 (o_iconst 1 <|
 o_cut [] k23))
def en_X8_packsNothing_2 (p1 : Int) (a : Int × Ob) : XSt := ([some (.inr (.inl (0, 0))), some (.inl p1), some (.inl a.1)], [], [a.2])
noncomputable def rg_X8_packsNothing_23 (k2 : XK) : XK :=
 o_bast shw_8 <|
 o_iinc 2 1 <|
 o_cut [] k2
def en_X8_packsNothing_23 (p1 : Int) (a : Int × Int × Int × Ob) : XSt := ([some (.inr (.inl (0, 0))), some (.inl p1), some (.inl a.1)], [.inl a.2.2.1, .inl a.2.1, .inr (.inl (0, 11))], [a.2.2.2])
noncomputable def mg_X8_packsNothing_0 (p1 : Int) (k2 : (Int × Ob) → Option Rt) (a : Ob) : Option Rt :=
 k2 (0, a)
set_option maxRecDepth 100000 in
set_option maxHeartbeats 4000000 in
theorem rq_X8_packsNothing_0 (p1 : Int) (k2 : XK) (a : Ob) : rg_X8_packsNothing_0 k2 (en_X8_packsNothing_0 p1 a) = mg_X8_packsNothing_0 p1 (fun b => k2 (en_X8_packsNothing_2 p1 b)) a := rfl
set_option maxRecDepth 100000 in
set_option maxHeartbeats 4000000 in
theorem sg_X8_packsNothing_0 {X : XDyn} {r0 : Rt} (C : XO X mX8_packsNothing) {k2 : XK} (q2 : XS X mX8_packsNothing r0 2 k2) : XS X mX8_packsNothing r0 0 (rg_X8_packsNothing_0 k2) := by
 unfold rg_X8_packsNothing_0
 exact s_iconst (pc := 0) C dX8_packsNothing_0 <|
    s_istore_n (pc := 1) C dX8_packsNothing_1 rfl <|
    s_cut q2
noncomputable def mg_X8_packsNothing_2 (p1 : Int) (k23 : (Int × Int × Int × Ob) → Option Rt) (a : Int × Ob) : Option Rt :=
 if xw a.1 ≥ xw (xshl 1 p1) then (RV [a.2])
 else (if xw a.1 = 0 then (k23 (a.1, a.1, 1, a.2))
 else (k23 (a.1, a.1, 0, a.2)))
set_option maxRecDepth 100000 in
set_option maxHeartbeats 4000000 in
theorem rq_X8_packsNothing_2 (p1 : Int) (k23 : XK) (a : Int × Ob) : rg_X8_packsNothing_2 k23 (en_X8_packsNothing_2 p1 a) = mg_X8_packsNothing_2 p1 (fun b => k23 (en_X8_packsNothing_23 p1 b)) a := rfl
set_option maxRecDepth 100000 in
set_option maxHeartbeats 4000000 in
theorem sg_X8_packsNothing_2 {X : XDyn} {r0 : Rt} (C : XO X mX8_packsNothing) {k23 : XK} (q23 : XS X mX8_packsNothing r0 23 k23) : XS X mX8_packsNothing r0 2 (rg_X8_packsNothing_2 k23) := by
 unfold rg_X8_packsNothing_2
 exact s_iload_n (pc := 2) C dX8_packsNothing_2 rfl <|
    s_iconst (pc := 3) C dX8_packsNothing_3 <|
    s_iload_n (pc := 4) C dX8_packsNothing_4 rfl <|
    s_ishl (pc := 5) C dX8_packsNothing_5 <|
    s_icmp_ge (pc := 6) C dX8_packsNothing_6 (by decide) (s_return (pc := 30) C rfl dX8_packsNothing_30)
    (s_aload_n (pc := 9) C dX8_packsNothing_9 rfl <|
    s_get (pc := 10) C (ci := 8) (kf := 14) rfl inX8 (by decide) wd_885 dX8_packsNothing_10 <|
    s_iload_n (pc := 13) C dX8_packsNothing_13 rfl <|
    s_iload_n (pc := 14) C dX8_packsNothing_14 rfl <|
    s_if_ne (pc := 15) C dX8_packsNothing_15 (by decide) (s_iconst (pc := 22) C dX8_packsNothing_22 <|
    s_cut q23)
    (s_iconst (pc := 18) C dX8_packsNothing_18 <|
    s_goto (pc := 19) C dX8_packsNothing_19 (by decide) <|
    s_cut q23))
noncomputable def mg_X8_packsNothing_23 (p1 : Int) (k2 : (Int × Ob) → Option Rt) (a : Int × Int × Int × Ob) : Option Rt :=
 if xin a.2.1 4096 && xb a.2.2.1 then (
 k2 ((a.1 + 1), (xset a.2.2.2 11 (xw a.2.1).toNat a.2.2.1))) else none
set_option maxRecDepth 100000 in
set_option maxHeartbeats 4000000 in
theorem rq_X8_packsNothing_23 (p1 : Int) (k2 : XK) (a : Int × Int × Int × Ob) : rg_X8_packsNothing_23 k2 (en_X8_packsNothing_23 p1 a) = mg_X8_packsNothing_23 p1 (fun b => k2 (en_X8_packsNothing_2 p1 b)) a := rfl
set_option maxRecDepth 100000 in
set_option maxHeartbeats 4000000 in
theorem sg_X8_packsNothing_23 {X : XDyn} {r0 : Rt} (C : XO X mX8_packsNothing) {k2 : XK} (q2 : XS X mX8_packsNothing r0 2 k2) : XS X mX8_packsNothing r0 23 (rg_X8_packsNothing_23 k2) := by
 unfold rg_X8_packsNothing_23
 exact s_bast (pc := 23) C dX8_packsNothing_23 <|
    s_iinc (pc := 24) C dX8_packsNothing_24 <|
    s_goto (pc := 27) C dX8_packsNothing_27 (by decide) <|
    s_cut q2
noncomputable def rw_X8_packsNothing_23 (f : Nat) (k2 : XK) : XK := rg_X8_packsNothing_23 k2
noncomputable def md_X8_packsNothing_23 (p1 : Int) (f : Nat) (k2 : (Int × Ob) → Option Rt) : Int × Int × Int × Ob → Option Rt := mg_X8_packsNothing_23 p1 k2
theorem eq_X8_packsNothing_23 (p1 : Int) (f : Nat) (k2 : XK) (a : Int × Int × Int × Ob) : rw_X8_packsNothing_23 f k2 (en_X8_packsNothing_23 p1 a) = md_X8_packsNothing_23 p1 f (fun b => k2 (en_X8_packsNothing_2 p1 b)) a :=
 (rq_X8_packsNothing_23 p1 k2 a).trans (congrFun (congr (rfl : mg_X8_packsNothing_23 p1 = mg_X8_packsNothing_23 p1) rfl) a)
theorem sd_X8_packsNothing_23 (f : Nat) {X : XDyn} {r0 : Rt} (C : XO X mX8_packsNothing) {k2 : XK} (q2 : XS X mX8_packsNothing r0 2 k2) : XS X mX8_packsNothing r0 23 (rw_X8_packsNothing_23 f k2) := sg_X8_packsNothing_23 C q2
noncomputable def rw_X8_packsNothing_2 (f : Nat) : XK := tlp (fun k2 => rg_X8_packsNothing_2 (rw_X8_packsNothing_23 f k2)) f
noncomputable def lb_X8_packsNothing_2 (p1 : Int) (f : Nat) : ((Int × Ob) → Option Rt) → Int × Ob → Option Rt := fun k2 => mg_X8_packsNothing_2 p1 (md_X8_packsNothing_23 p1 f k2)
noncomputable def md_X8_packsNothing_2 (p1 : Int) (f : Nat) : Int × Ob → Option Rt := tlp (lb_X8_packsNothing_2 p1 f) f
theorem eq_X8_packsNothing_2 (p1 : Int) (f : Nat) (a : Int × Ob) : rw_X8_packsNothing_2 f (en_X8_packsNothing_2 p1 a) = md_X8_packsNothing_2 p1 f a :=
 tlp_enc (en_X8_packsNothing_2 p1) (fun k2 a => (rq_X8_packsNothing_2 p1 (rw_X8_packsNothing_23 f k2) a).trans (congrFun (congr (rfl : mg_X8_packsNothing_2 p1 = mg_X8_packsNothing_2 p1) (funext (eq_X8_packsNothing_23 p1 f k2))) a)) f a
theorem sd_X8_packsNothing_2 (f : Nat) {X : XDyn} {r0 : Rt} (C : XO X mX8_packsNothing) : XS X mX8_packsNothing r0 2 (rw_X8_packsNothing_2 f) := s_lp (fun k2 q2 => sg_X8_packsNothing_2 C (sd_X8_packsNothing_23 f C q2)) f
noncomputable def rw_X8_packsNothing_0 (f : Nat) : XK := rg_X8_packsNothing_0 (rw_X8_packsNothing_2 f)
noncomputable def md_X8_packsNothing_0 (p1 : Int) (f : Nat) : Ob → Option Rt := mg_X8_packsNothing_0 p1 (md_X8_packsNothing_2 p1 f)
theorem eq_X8_packsNothing_0 (p1 : Int) (f : Nat) (a : Ob) : rw_X8_packsNothing_0 f (en_X8_packsNothing_0 p1 a) = md_X8_packsNothing_0 p1 f a :=
 (rq_X8_packsNothing_0 p1 (rw_X8_packsNothing_2 f) a).trans (congrFun (congr (rfl : mg_X8_packsNothing_0 p1 = mg_X8_packsNothing_0 p1) (funext (eq_X8_packsNothing_2 p1 f))) a)
theorem sd_X8_packsNothing_0 (f : Nat) {X : XDyn} {r0 : Rt} (C : XO X mX8_packsNothing) : XS X mX8_packsNothing r0 0 (rw_X8_packsNothing_0 f) := sg_X8_packsNothing_0 C (sd_X8_packsNothing_2 f C)
theorem ctr_X8_packsNothing (f : Nat) : XCt yX8_packsNothing mX8_packsNothing (xF mX8_packsNothing (rw_X8_packsNothing_0 f)) := xMet (by decide +kernel) rfl (fun _ _ C => sd_X8_packsNothing_0 f C)
theorem eqf_X8_packsNothing (f : Nat) (p1 : Int) (h0 : Ob) : xF mX8_packsNothing (rw_X8_packsNothing_0 f) [.inr (.inl (0, 0)), .inl p1] [h0] = md_X8_packsNothing_0 p1 f h0 := eq_X8_packsNothing_0 p1 f h0
theorem yi_X8_packsNothing : yX8_packsNothing.cls = RX8 ∧ yX8_packsNothing.cls ≠ "java/lang/invoke/MethodHandle" ∧ yX8_packsNothing.cls ≠ "java/lang/invoke/VarHandle" ∧ (parseMethodDescriptor yX8_packsNothing.desc).map (fun d => d.parameters.length) = some 1 := ⟨rfl, by decide +kernel, by decide +kernel, by decide +kernel⟩
noncomputable def ov_X8_packsNothing (p1 : Int) (h0 : Ob) : Option Rt := xop (md_X8_packsNothing_0 p1 xfu h0)
theorem ov_X8_packsNothing_e (p1 : Int) (h0 : Ob) : ov_X8_packsNothing p1 h0 = md_X8_packsNothing_0 p1 xfu h0 := xop_eq _
theorem sp_X8_packsNothing (p1 : Int) (h0 : Ob) (hg : oqV (ov_X8_packsNothing p1 h0) = true) : md_X8_packsNothing_0 p1 xfu h0 = RV [(oqO (ov_X8_packsNothing p1 h0) 0)] := (ov_X8_packsNothing_e p1 h0).symm.trans (oqV_eq hg)
noncomputable def g_X8_packsNothing : List AV → List Ob → Bool
  | [.inr (.inl (0, 0)), .inl p1], [h0] => oqV (ov_X8_packsNothing p1 h0)
  | _, _ => false
noncomputable def v_X8_packsNothing : List AV → List Ob → Rt
  | [.inr (.inl (0, 0)), .inl p1], [h0] => (none, [(oqO (ov_X8_packsNothing p1 h0) 0)])
  | _, _ => (none, [])
theorem ct_X8_packsNothing : XCt yX8_packsNothing mX8_packsNothing (fun as μ => if g_X8_packsNothing as μ then some (v_X8_packsNothing as μ) else none) := (ctr_X8_packsNothing xfu).of (fun as μ r h => by
  split at h
  · rename_i hg
    unfold g_X8_packsNothing at hg
    split at hg
    · rw [← h]
      exact (eqf_X8_packsNothing xfu _ _).trans (sp_X8_packsNothing _ _ hg)
    · cases hg
  · cases h)
theorem dX8_packsInto_0 : decode cX8_packsInto 0 = .ok (.iconst 0, 1) := by decide +kernel
theorem dX8_packsInto_1 : decode cX8_packsInto 1 = .ok (.istore_n 3, 1) := by decide +kernel
theorem dX8_packsInto_2 : decode cX8_packsInto 2 = .ok (.iload_n 3, 1) := by decide +kernel
theorem dX8_packsInto_3 : decode cX8_packsInto 3 = .ok (.iconst 1, 1) := by decide +kernel
theorem dX8_packsInto_4 : decode cX8_packsInto 4 = .ok (.iload_n 2, 1) := by decide +kernel
theorem dX8_packsInto_5 : decode cX8_packsInto 5 = .ok (.ishl, 1) := by decide +kernel
theorem dX8_packsInto_6 : decode cX8_packsInto 6 = .ok (.if_icmp .ge 79, 3) := by decide +kernel
theorem dX8_packsInto_9 : decode cX8_packsInto 9 = .ok (.aload_n 0, 1) := by decide +kernel
theorem dX8_packsInto_10 : decode cX8_packsInto 10 = .ok (.getfield 40, 3) := by decide +kernel
theorem dX8_packsInto_13 : decode cX8_packsInto 13 = .ok (.iload_n 3, 1) := by decide +kernel
theorem dX8_packsInto_14 : decode cX8_packsInto 14 = .ok (.baload, 1) := by decide +kernel
theorem dX8_packsInto_15 : decode cX8_packsInto 15 = .ok (.istore 4, 2) := by decide +kernel
theorem dX8_packsInto_17 : decode cX8_packsInto 17 = .ok (.iload_n 3, 1) := by decide +kernel
theorem dX8_packsInto_18 : decode cX8_packsInto 18 = .ok (.istore 5, 2) := by decide +kernel
theorem dX8_packsInto_20 : decode cX8_packsInto 20 = .ok (.iload 5, 2) := by decide +kernel
theorem dX8_packsInto_22 : decode cX8_packsInto 22 = .ok (.ifCond .le 49, 3) := by decide +kernel
theorem dX8_packsInto_25 : decode cX8_packsInto 25 = .ok (.iload 4, 2) := by decide +kernel
theorem dX8_packsInto_27 : decode cX8_packsInto 27 = .ok (.ifCond .ne 44, 3) := by decide +kernel
theorem dX8_packsInto_30 : decode cX8_packsInto 30 = .ok (.aload_n 0, 1) := by decide +kernel
theorem dX8_packsInto_31 : decode cX8_packsInto 31 = .ok (.getfield 37, 3) := by decide +kernel
theorem dX8_packsInto_34 : decode cX8_packsInto 34 = .ok (.iload 5, 2) := by decide +kernel
theorem dX8_packsInto_36 : decode cX8_packsInto 36 = .ok (.iaload, 1) := by decide +kernel
theorem dX8_packsInto_37 : decode cX8_packsInto 37 = .ok (.iload_n 1, 1) := by decide +kernel
theorem dX8_packsInto_38 : decode cX8_packsInto 38 = .ok (.if_icmp .gt 19, 3) := by decide +kernel
theorem dX8_packsInto_41 : decode cX8_packsInto 41 = .ok (.aload_n 0, 1) := by decide +kernel
theorem dX8_packsInto_42 : decode cX8_packsInto 42 = .ok (.getfield 40, 3) := by decide +kernel
theorem dX8_packsInto_45 : decode cX8_packsInto 45 = .ok (.iload_n 3, 1) := by decide +kernel
theorem dX8_packsInto_46 : decode cX8_packsInto 46 = .ok (.iload 5, 2) := by decide +kernel
theorem dX8_packsInto_48 : decode cX8_packsInto 48 = .ok (.isub, 1) := by decide +kernel
theorem dX8_packsInto_49 : decode cX8_packsInto 49 = .ok (.baload, 1) := by decide +kernel
theorem dX8_packsInto_50 : decode cX8_packsInto 50 = .ok (.ifCond .eq 7, 3) := by decide +kernel
theorem dX8_packsInto_53 : decode cX8_packsInto 53 = .ok (.iconst 1, 1) := by decide +kernel
theorem dX8_packsInto_54 : decode cX8_packsInto 54 = .ok (.goto 4, 3) := by decide +kernel
theorem dX8_packsInto_57 : decode cX8_packsInto 57 = .ok (.iconst 0, 1) := by decide +kernel
theorem dX8_packsInto_58 : decode cX8_packsInto 58 = .ok (.istore 4, 2) := by decide +kernel
theorem dX8_packsInto_60 : decode cX8_packsInto 60 = .ok (.iload 5, 2) := by decide +kernel
theorem dX8_packsInto_62 : decode cX8_packsInto 62 = .ok (.iconst 1, 1) := by decide +kernel
theorem dX8_packsInto_63 : decode cX8_packsInto 63 = .ok (.isub, 1) := by decide +kernel
theorem dX8_packsInto_64 : decode cX8_packsInto 64 = .ok (.iload_n 3, 1) := by decide +kernel
theorem dX8_packsInto_65 : decode cX8_packsInto 65 = .ok (.iand, 1) := by decide +kernel
theorem dX8_packsInto_66 : decode cX8_packsInto 66 = .ok (.istore 5, 2) := by decide +kernel
theorem dX8_packsInto_68 : decode cX8_packsInto 68 = .ok (.goto (-48), 3) := by decide +kernel
theorem dX8_packsInto_71 : decode cX8_packsInto 71 = .ok (.aload_n 0, 1) := by decide +kernel
theorem dX8_packsInto_72 : decode cX8_packsInto 72 = .ok (.getfield 44, 3) := by decide +kernel
theorem dX8_packsInto_75 : decode cX8_packsInto 75 = .ok (.iload_n 3, 1) := by decide +kernel
theorem dX8_packsInto_76 : decode cX8_packsInto 76 = .ok (.iload 4, 2) := by decide +kernel
theorem dX8_packsInto_78 : decode cX8_packsInto 78 = .ok (.bastore, 1) := by decide +kernel
theorem dX8_packsInto_79 : decode cX8_packsInto 79 = .ok (.iinc 3 1, 3) := by decide +kernel
theorem dX8_packsInto_82 : decode cX8_packsInto 82 = .ok (.goto (-80), 3) := by decide +kernel
theorem dX8_packsInto_85 : decode cX8_packsInto 85 = .ok (.iconst 0, 1) := by decide +kernel
theorem dX8_packsInto_86 : decode cX8_packsInto 86 = .ok (.istore_n 3, 1) := by decide +kernel
theorem dX8_packsInto_87 : decode cX8_packsInto 87 = .ok (.iload_n 3, 1) := by decide +kernel
theorem dX8_packsInto_88 : decode cX8_packsInto 88 = .ok (.iconst 1, 1) := by decide +kernel
theorem dX8_packsInto_89 : decode cX8_packsInto 89 = .ok (.iload_n 2, 1) := by decide +kernel
theorem dX8_packsInto_90 : decode cX8_packsInto 90 = .ok (.ishl, 1) := by decide +kernel
theorem dX8_packsInto_91 : decode cX8_packsInto 91 = .ok (.if_icmp .ge 21, 3) := by decide +kernel
theorem dX8_packsInto_94 : decode cX8_packsInto 94 = .ok (.aload_n 0, 1) := by decide +kernel
theorem dX8_packsInto_95 : decode cX8_packsInto 95 = .ok (.getfield 40, 3) := by decide +kernel
theorem dX8_packsInto_98 : decode cX8_packsInto 98 = .ok (.iload_n 3, 1) := by decide +kernel
theorem dX8_packsInto_99 : decode cX8_packsInto 99 = .ok (.aload_n 0, 1) := by decide +kernel
theorem dX8_packsInto_100 : decode cX8_packsInto 100 = .ok (.getfield 44, 3) := by decide +kernel
theorem dX8_packsInto_103 : decode cX8_packsInto 103 = .ok (.iload_n 3, 1) := by decide +kernel
theorem dX8_packsInto_104 : decode cX8_packsInto 104 = .ok (.baload, 1) := by decide +kernel
theorem dX8_packsInto_105 : decode cX8_packsInto 105 = .ok (.bastore, 1) := by decide +kernel
theorem dX8_packsInto_106 : decode cX8_packsInto 106 = .ok (.iinc 3 1, 3) := by decide +kernel
theorem dX8_packsInto_109 : decode cX8_packsInto 109 = .ok (.goto (-22), 3) := by decide +kernel
theorem dX8_packsInto_112 : decode cX8_packsInto 112 = .ok (.return_, 1) := by decide +kernel
abbrev mX8_packsInto : XM := (cX8_packsInto, 6, RX8, none, shw_8, 0)
noncomputable def rg_X8_packsInto_0 (k2 : XK) : XK :=
 o_iconst 0 <|
 o_istore 3 <|
 o_cut [] k2
def en_X8_packsInto_0 (p1 : Int) (p2 : Int) (a : Ob) : XSt := ([some (.inr (.inl (0, 0))), some (.inl p1), some (.inl p2), none, none, none], [], [a])
noncomputable def rg_X8_packsInto_2 (k87 : XK) (k20 : XK) : XK :=
 o_iload 3 <|
 o_iconst 1 <|
 o_iload 2 <|
 o_ishl <|
 o_icmp_ge (o_iconst 0 <|
 o_istore 3 <|
 o_cut [] k87)
 (o_aload 0 <|
 o_get shw_8 8 14 <|
 o_iload 3 <|
 o_bald shw_8 <|
 o_istore 4 <|
 o_iload 3 <|
 o_istore 5 <|
 o_cut [] k20)
def en_X8_packsInto_2 (p1 : Int) (p2 : Int) (a : Int × Ob) : XSt := ([some (.inr (.inl (0, 0))), some (.inl p1), some (.inl p2), some (.inl a.1), none, none], [], [a.2])
noncomputable def rg_X8_packsInto_20 (k71 : XK) (k57 : XK) (k58 : XK) : XK :=
 o_iload 5 <|
 o_if_le (o_cut [5] k71)
 (o_iload 4 <|
 o_if_ne (o_cut [5] k71)
 (o_aload 0 <|
 o_get shw_8 8 13 <|
 o_iload 5 <|
 o_iald shw_8 <|
 o_iload 1 <|
 o_icmp_gt (o_cut [4] k57)
 (o_aload 0 <|
 o_get shw_8 8 14 <|
 o_iload 3 <|
 o_iload 5 <|
 o_isub <|
 o_bald shw_8 <|
 o_if_eq (o_cut [4] k57)
 (o_iconst 1 <|
 o_cut [4] k58))))
def en_X8_packsInto_20 (p1 : Int) (p2 : Int) (a : Int × Int × Int × Ob) : XSt := ([some (.inr (.inl (0, 0))), some (.inl p1), some (.inl p2), some (.inl a.1), some (.inl a.2.1), some (.inl a.2.2.1)], [], [a.2.2.2])
noncomputable def rg_X8_packsInto_57 (k58 : XK) : XK :=
 o_iconst 0 <|
 o_cut [] k58
def en_X8_packsInto_57 (p1 : Int) (p2 : Int) (a : Int × Int × Ob) : XSt := ([some (.inr (.inl (0, 0))), some (.inl p1), some (.inl p2), some (.inl a.1), none, some (.inl a.2.1)], [], [a.2.2])
noncomputable def rg_X8_packsInto_58 (k20 : XK) : XK :=
 o_istore 4 <|
 o_iload 5 <|
 o_iconst 1 <|
 o_isub <|
 o_iload 3 <|
 o_iand <|
 o_istore 5 <|
 o_cut [] k20
def en_X8_packsInto_58 (p1 : Int) (p2 : Int) (a : Int × Int × Int × Ob) : XSt := ([some (.inr (.inl (0, 0))), some (.inl p1), some (.inl p2), some (.inl a.1), none, some (.inl a.2.1)], [.inl a.2.2.1], [a.2.2.2])
noncomputable def rg_X8_packsInto_71 (k2 : XK) : XK :=
 o_aload 0 <|
 o_get shw_8 8 15 <|
 o_iload 3 <|
 o_iload 4 <|
 o_bast shw_8 <|
 o_iinc 3 1 <|
 o_cut [4] k2
def en_X8_packsInto_71 (p1 : Int) (p2 : Int) (a : Int × Int × Ob) : XSt := ([some (.inr (.inl (0, 0))), some (.inl p1), some (.inl p2), some (.inl a.1), some (.inl a.2.1), none], [], [a.2.2])
noncomputable def rg_X8_packsInto_87 (k87 : XK) : XK :=
 o_iload 3 <|
 o_iconst 1 <|
 o_iload 2 <|
 o_ishl <|
 o_icmp_ge (o_return)
 (o_aload 0 <|
 o_get shw_8 8 14 <|
 o_iload 3 <|
 o_aload 0 <|
 o_get shw_8 8 15 <|
 o_iload 3 <|
 o_bald shw_8 <|
 o_bast shw_8 <|
 o_iinc 3 1 <|
 o_cut [] k87)
def en_X8_packsInto_87 (p1 : Int) (p2 : Int) (a : Int × Ob) : XSt := ([some (.inr (.inl (0, 0))), some (.inl p1), some (.inl p2), some (.inl a.1), none, none], [], [a.2])
noncomputable def mg_X8_packsInto_0 (p1 : Int) (p2 : Int) (k2 : (Int × Ob) → Option Rt) (a : Ob) : Option Rt :=
 k2 (0, a)
set_option maxRecDepth 100000 in
set_option maxHeartbeats 4000000 in
theorem rq_X8_packsInto_0 (p1 : Int) (p2 : Int) (k2 : XK) (a : Ob) : rg_X8_packsInto_0 k2 (en_X8_packsInto_0 p1 p2 a) = mg_X8_packsInto_0 p1 p2 (fun b => k2 (en_X8_packsInto_2 p1 p2 b)) a := rfl
set_option maxRecDepth 100000 in
set_option maxHeartbeats 4000000 in
theorem sg_X8_packsInto_0 {X : XDyn} {r0 : Rt} (C : XO X mX8_packsInto) {k2 : XK} (q2 : XS X mX8_packsInto r0 2 k2) : XS X mX8_packsInto r0 0 (rg_X8_packsInto_0 k2) := by
 unfold rg_X8_packsInto_0
 exact s_iconst (pc := 0) C dX8_packsInto_0 <|
    s_istore_n (pc := 1) C dX8_packsInto_1 rfl <|
    s_cut q2
noncomputable def mg_X8_packsInto_2 (p1 : Int) (p2 : Int) (k87 : (Int × Ob) → Option Rt) (k20 : (Int × Int × Int × Ob) → Option Rt) (a : Int × Ob) : Option Rt :=
 if xw a.1 ≥ xw (xshl 1 p2) then (k87 (0, a.2))
 else (if xin a.1 4096 then (
 k20 (a.1, (a.2 11 (xw a.1).toNat), a.1, a.2)) else none)
set_option maxRecDepth 100000 in
set_option maxHeartbeats 4000000 in
theorem rq_X8_packsInto_2 (p1 : Int) (p2 : Int) (k87 : XK) (k20 : XK) (a : Int × Ob) : rg_X8_packsInto_2 k87 k20 (en_X8_packsInto_2 p1 p2 a) = mg_X8_packsInto_2 p1 p2 (fun b => k87 (en_X8_packsInto_87 p1 p2 b)) (fun b => k20 (en_X8_packsInto_20 p1 p2 b)) a := rfl
set_option maxRecDepth 100000 in
set_option maxHeartbeats 4000000 in
theorem sg_X8_packsInto_2 {X : XDyn} {r0 : Rt} (C : XO X mX8_packsInto) {k87 : XK} (q87 : XS X mX8_packsInto r0 87 k87) {k20 : XK} (q20 : XS X mX8_packsInto r0 20 k20) : XS X mX8_packsInto r0 2 (rg_X8_packsInto_2 k87 k20) := by
 unfold rg_X8_packsInto_2
 exact s_iload_n (pc := 2) C dX8_packsInto_2 rfl <|
    s_iconst (pc := 3) C dX8_packsInto_3 <|
    s_iload_n (pc := 4) C dX8_packsInto_4 rfl <|
    s_ishl (pc := 5) C dX8_packsInto_5 <|
    s_icmp_ge (pc := 6) C dX8_packsInto_6 (by decide) (s_iconst (pc := 85) C dX8_packsInto_85 <|
    s_istore_n (pc := 86) C dX8_packsInto_86 rfl <|
    s_cut q87)
    (s_aload_n (pc := 9) C dX8_packsInto_9 rfl <|
    s_get (pc := 10) C (ci := 8) (kf := 14) rfl inX8 (by decide) wd_885 dX8_packsInto_10 <|
    s_iload_n (pc := 13) C dX8_packsInto_13 rfl <|
    s_bald (pc := 14) C dX8_packsInto_14 <|
    s_istore (pc := 15) C dX8_packsInto_15 <|
    s_iload_n (pc := 17) C dX8_packsInto_17 rfl <|
    s_istore (pc := 18) C dX8_packsInto_18 <|
    s_cut q20)
noncomputable def mg_X8_packsInto_20 (p1 : Int) (p2 : Int) (k71 : (Int × Int × Ob) → Option Rt) (k57 : (Int × Int × Ob) → Option Rt) (k58 : (Int × Int × Int × Ob) → Option Rt) (a : Int × Int × Int × Ob) : Option Rt :=
 if xw a.2.2.1 ≤ 0 then (k71 (a.1, a.2.1, a.2.2.2))
 else (if xw a.2.1 = 0 then (if xin a.2.2.1 4096 then (
 if xw (a.2.2.2 10 (xw a.2.2.1).toNat) > xw p1 then (k57 (a.1, a.2.2.1, a.2.2.2))
 else (if xin (a.1 - a.2.2.1) 4096 then (
 if xw (a.2.2.2 11 (xw (a.1 - a.2.2.1)).toNat) = 0 then (k57 (a.1, a.2.2.1, a.2.2.2))
 else (k58 (a.1, a.2.2.1, 1, a.2.2.2))) else none)) else none)
 else (k71 (a.1, a.2.1, a.2.2.2)))
set_option maxRecDepth 100000 in
set_option maxHeartbeats 4000000 in
theorem rq_X8_packsInto_20 (p1 : Int) (p2 : Int) (k71 : XK) (k57 : XK) (k58 : XK) (a : Int × Int × Int × Ob) : rg_X8_packsInto_20 k71 k57 k58 (en_X8_packsInto_20 p1 p2 a) = mg_X8_packsInto_20 p1 p2 (fun b => k71 (en_X8_packsInto_71 p1 p2 b)) (fun b => k57 (en_X8_packsInto_57 p1 p2 b)) (fun b => k58 (en_X8_packsInto_58 p1 p2 b)) a := rfl
set_option maxRecDepth 100000 in
set_option maxHeartbeats 4000000 in
theorem sg_X8_packsInto_20 {X : XDyn} {r0 : Rt} (C : XO X mX8_packsInto) {k71 : XK} (q71 : XS X mX8_packsInto r0 71 k71) {k57 : XK} (q57 : XS X mX8_packsInto r0 57 k57) {k58 : XK} (q58 : XS X mX8_packsInto r0 58 k58) : XS X mX8_packsInto r0 20 (rg_X8_packsInto_20 k71 k57 k58) := by
 unfold rg_X8_packsInto_20
 exact s_iload (pc := 20) C dX8_packsInto_20 <|
    s_if_le (pc := 22) C dX8_packsInto_22 (by decide) (s_cut q71)
    (s_iload (pc := 25) C dX8_packsInto_25 <|
    s_if_ne (pc := 27) C dX8_packsInto_27 (by decide) (s_cut q71)
    (s_aload_n (pc := 30) C dX8_packsInto_30 rfl <|
    s_get (pc := 31) C (ci := 8) (kf := 13) rfl inX8 (by decide) wd_884 dX8_packsInto_31 <|
    s_iload (pc := 34) C dX8_packsInto_34 <|
    s_iald (pc := 36) C dX8_packsInto_36 <|
    s_iload_n (pc := 37) C dX8_packsInto_37 rfl <|
    s_icmp_gt (pc := 38) C dX8_packsInto_38 (by decide) (s_cut q57)
    (s_aload_n (pc := 41) C dX8_packsInto_41 rfl <|
    s_get (pc := 42) C (ci := 8) (kf := 14) rfl inX8 (by decide) wd_885 dX8_packsInto_42 <|
    s_iload_n (pc := 45) C dX8_packsInto_45 rfl <|
    s_iload (pc := 46) C dX8_packsInto_46 <|
    s_isub (pc := 48) C dX8_packsInto_48 <|
    s_bald (pc := 49) C dX8_packsInto_49 <|
    s_if_eq (pc := 50) C dX8_packsInto_50 (by decide) (s_cut q57)
    (s_iconst (pc := 53) C dX8_packsInto_53 <|
    s_goto (pc := 54) C dX8_packsInto_54 (by decide) <|
    s_cut q58))))
noncomputable def mg_X8_packsInto_57 (p1 : Int) (p2 : Int) (k58 : (Int × Int × Int × Ob) → Option Rt) (a : Int × Int × Ob) : Option Rt :=
 k58 (a.1, a.2.1, 0, a.2.2)
set_option maxRecDepth 100000 in
set_option maxHeartbeats 4000000 in
theorem rq_X8_packsInto_57 (p1 : Int) (p2 : Int) (k58 : XK) (a : Int × Int × Ob) : rg_X8_packsInto_57 k58 (en_X8_packsInto_57 p1 p2 a) = mg_X8_packsInto_57 p1 p2 (fun b => k58 (en_X8_packsInto_58 p1 p2 b)) a := rfl
set_option maxRecDepth 100000 in
set_option maxHeartbeats 4000000 in
theorem sg_X8_packsInto_57 {X : XDyn} {r0 : Rt} (C : XO X mX8_packsInto) {k58 : XK} (q58 : XS X mX8_packsInto r0 58 k58) : XS X mX8_packsInto r0 57 (rg_X8_packsInto_57 k58) := by
 unfold rg_X8_packsInto_57
 exact s_iconst (pc := 57) C dX8_packsInto_57 <|
    s_cut q58
noncomputable def mg_X8_packsInto_58 (p1 : Int) (p2 : Int) (k20 : (Int × Int × Int × Ob) → Option Rt) (a : Int × Int × Int × Ob) : Option Rt :=
 k20 (a.1, a.2.2.1, (xand (a.2.1 - 1) a.1), a.2.2.2)
set_option maxRecDepth 100000 in
set_option maxHeartbeats 4000000 in
theorem rq_X8_packsInto_58 (p1 : Int) (p2 : Int) (k20 : XK) (a : Int × Int × Int × Ob) : rg_X8_packsInto_58 k20 (en_X8_packsInto_58 p1 p2 a) = mg_X8_packsInto_58 p1 p2 (fun b => k20 (en_X8_packsInto_20 p1 p2 b)) a := rfl
set_option maxRecDepth 100000 in
set_option maxHeartbeats 4000000 in
theorem sg_X8_packsInto_58 {X : XDyn} {r0 : Rt} (C : XO X mX8_packsInto) {k20 : XK} (q20 : XS X mX8_packsInto r0 20 k20) : XS X mX8_packsInto r0 58 (rg_X8_packsInto_58 k20) := by
 unfold rg_X8_packsInto_58
 exact s_istore (pc := 58) C dX8_packsInto_58 <|
    s_iload (pc := 60) C dX8_packsInto_60 <|
    s_iconst (pc := 62) C dX8_packsInto_62 <|
    s_isub (pc := 63) C dX8_packsInto_63 <|
    s_iload_n (pc := 64) C dX8_packsInto_64 rfl <|
    s_iand (pc := 65) C dX8_packsInto_65 <|
    s_istore (pc := 66) C dX8_packsInto_66 <|
    s_goto (pc := 68) C dX8_packsInto_68 (by decide) <|
    s_cut q20
noncomputable def mg_X8_packsInto_71 (p1 : Int) (p2 : Int) (k2 : (Int × Ob) → Option Rt) (a : Int × Int × Ob) : Option Rt :=
 if xin a.1 4096 && xb a.2.1 then (
 k2 ((a.1 + 1), (xset a.2.2 12 (xw a.1).toNat a.2.1))) else none
set_option maxRecDepth 100000 in
set_option maxHeartbeats 4000000 in
theorem rq_X8_packsInto_71 (p1 : Int) (p2 : Int) (k2 : XK) (a : Int × Int × Ob) : rg_X8_packsInto_71 k2 (en_X8_packsInto_71 p1 p2 a) = mg_X8_packsInto_71 p1 p2 (fun b => k2 (en_X8_packsInto_2 p1 p2 b)) a := rfl
set_option maxRecDepth 100000 in
set_option maxHeartbeats 4000000 in
theorem sg_X8_packsInto_71 {X : XDyn} {r0 : Rt} (C : XO X mX8_packsInto) {k2 : XK} (q2 : XS X mX8_packsInto r0 2 k2) : XS X mX8_packsInto r0 71 (rg_X8_packsInto_71 k2) := by
 unfold rg_X8_packsInto_71
 exact s_aload_n (pc := 71) C dX8_packsInto_71 rfl <|
    s_get (pc := 72) C (ci := 8) (kf := 15) rfl inX8 (by decide) wd_886 dX8_packsInto_72 <|
    s_iload_n (pc := 75) C dX8_packsInto_75 rfl <|
    s_iload (pc := 76) C dX8_packsInto_76 <|
    s_bast (pc := 78) C dX8_packsInto_78 <|
    s_iinc (pc := 79) C dX8_packsInto_79 <|
    s_goto (pc := 82) C dX8_packsInto_82 (by decide) <|
    s_cut q2
noncomputable def mg_X8_packsInto_87 (p1 : Int) (p2 : Int) (k87 : (Int × Ob) → Option Rt) (a : Int × Ob) : Option Rt :=
 if xw a.1 ≥ xw (xshl 1 p2) then (RV [a.2])
 else (if xin a.1 4096 then (
 if xin a.1 4096 && xb (a.2 12 (xw a.1).toNat) then (
 k87 ((a.1 + 1), (xset a.2 11 (xw a.1).toNat (a.2 12 (xw a.1).toNat)))) else none) else none)
set_option maxRecDepth 100000 in
set_option maxHeartbeats 4000000 in
theorem rq_X8_packsInto_87 (p1 : Int) (p2 : Int) (k87 : XK) (a : Int × Ob) : rg_X8_packsInto_87 k87 (en_X8_packsInto_87 p1 p2 a) = mg_X8_packsInto_87 p1 p2 (fun b => k87 (en_X8_packsInto_87 p1 p2 b)) a := rfl
set_option maxRecDepth 100000 in
set_option maxHeartbeats 4000000 in
theorem sg_X8_packsInto_87 {X : XDyn} {r0 : Rt} (C : XO X mX8_packsInto) {k87 : XK} (q87 : XS X mX8_packsInto r0 87 k87) : XS X mX8_packsInto r0 87 (rg_X8_packsInto_87 k87) := by
 unfold rg_X8_packsInto_87
 exact s_iload_n (pc := 87) C dX8_packsInto_87 rfl <|
    s_iconst (pc := 88) C dX8_packsInto_88 <|
    s_iload_n (pc := 89) C dX8_packsInto_89 rfl <|
    s_ishl (pc := 90) C dX8_packsInto_90 <|
    s_icmp_ge (pc := 91) C dX8_packsInto_91 (by decide) (s_return (pc := 112) C rfl dX8_packsInto_112)
    (s_aload_n (pc := 94) C dX8_packsInto_94 rfl <|
    s_get (pc := 95) C (ci := 8) (kf := 14) rfl inX8 (by decide) wd_885 dX8_packsInto_95 <|
    s_iload_n (pc := 98) C dX8_packsInto_98 rfl <|
    s_aload_n (pc := 99) C dX8_packsInto_99 rfl <|
    s_get (pc := 100) C (ci := 8) (kf := 15) rfl inX8 (by decide) wd_886 dX8_packsInto_100 <|
    s_iload_n (pc := 103) C dX8_packsInto_103 rfl <|
    s_bald (pc := 104) C dX8_packsInto_104 <|
    s_bast (pc := 105) C dX8_packsInto_105 <|
    s_iinc (pc := 106) C dX8_packsInto_106 <|
    s_goto (pc := 109) C dX8_packsInto_109 (by decide) <|
    s_cut q87)
noncomputable def rw_X8_packsInto_87 (f : Nat) : XK := tlp (fun k87 => rg_X8_packsInto_87 k87) f
noncomputable def lb_X8_packsInto_87 (p1 : Int) (p2 : Int) (f : Nat) : ((Int × Ob) → Option Rt) → Int × Ob → Option Rt := fun k87 => mg_X8_packsInto_87 p1 p2 k87
noncomputable def md_X8_packsInto_87 (p1 : Int) (p2 : Int) (f : Nat) : Int × Ob → Option Rt := tlp (lb_X8_packsInto_87 p1 p2 f) f
theorem eq_X8_packsInto_87 (p1 : Int) (p2 : Int) (f : Nat) (a : Int × Ob) : rw_X8_packsInto_87 f (en_X8_packsInto_87 p1 p2 a) = md_X8_packsInto_87 p1 p2 f a :=
 tlp_enc (en_X8_packsInto_87 p1 p2) (fun k87 a => (rq_X8_packsInto_87 p1 p2 k87 a).trans (congrFun (congr (rfl : mg_X8_packsInto_87 p1 p2 = mg_X8_packsInto_87 p1 p2) rfl) a)) f a
theorem sd_X8_packsInto_87 (f : Nat) {X : XDyn} {r0 : Rt} (C : XO X mX8_packsInto) : XS X mX8_packsInto r0 87 (rw_X8_packsInto_87 f) := s_lp (fun k87 q87 => sg_X8_packsInto_87 C q87) f
noncomputable def rw_X8_packsInto_71 (f : Nat) (k2 : XK) : XK := rg_X8_packsInto_71 k2
noncomputable def md_X8_packsInto_71 (p1 : Int) (p2 : Int) (f : Nat) (k2 : (Int × Ob) → Option Rt) : Int × Int × Ob → Option Rt := mg_X8_packsInto_71 p1 p2 k2
theorem eq_X8_packsInto_71 (p1 : Int) (p2 : Int) (f : Nat) (k2 : XK) (a : Int × Int × Ob) : rw_X8_packsInto_71 f k2 (en_X8_packsInto_71 p1 p2 a) = md_X8_packsInto_71 p1 p2 f (fun b => k2 (en_X8_packsInto_2 p1 p2 b)) a :=
 (rq_X8_packsInto_71 p1 p2 k2 a).trans (congrFun (congr (rfl : mg_X8_packsInto_71 p1 p2 = mg_X8_packsInto_71 p1 p2) rfl) a)
theorem sd_X8_packsInto_71 (f : Nat) {X : XDyn} {r0 : Rt} (C : XO X mX8_packsInto) {k2 : XK} (q2 : XS X mX8_packsInto r0 2 k2) : XS X mX8_packsInto r0 71 (rw_X8_packsInto_71 f k2) := sg_X8_packsInto_71 C q2
noncomputable def rw_X8_packsInto_58 (f : Nat) (k2 : XK) (k20 : XK) : XK := rg_X8_packsInto_58 k20
noncomputable def md_X8_packsInto_58 (p1 : Int) (p2 : Int) (f : Nat) (k2 : (Int × Ob) → Option Rt) (k20 : (Int × Int × Int × Ob) → Option Rt) : Int × Int × Int × Ob → Option Rt := mg_X8_packsInto_58 p1 p2 k20
theorem eq_X8_packsInto_58 (p1 : Int) (p2 : Int) (f : Nat) (k2 : XK) (k20 : XK) (a : Int × Int × Int × Ob) : rw_X8_packsInto_58 f k2 k20 (en_X8_packsInto_58 p1 p2 a) = md_X8_packsInto_58 p1 p2 f (fun b => k2 (en_X8_packsInto_2 p1 p2 b)) (fun b => k20 (en_X8_packsInto_20 p1 p2 b)) a :=
 (rq_X8_packsInto_58 p1 p2 k20 a).trans (congrFun (congr (rfl : mg_X8_packsInto_58 p1 p2 = mg_X8_packsInto_58 p1 p2) rfl) a)
theorem sd_X8_packsInto_58 (f : Nat) {X : XDyn} {r0 : Rt} (C : XO X mX8_packsInto) {k2 : XK} (q2 : XS X mX8_packsInto r0 2 k2) {k20 : XK} (q20 : XS X mX8_packsInto r0 20 k20) : XS X mX8_packsInto r0 58 (rw_X8_packsInto_58 f k2 k20) := sg_X8_packsInto_58 C q20
noncomputable def rw_X8_packsInto_57 (f : Nat) (k2 : XK) (k20 : XK) : XK := rg_X8_packsInto_57 (rw_X8_packsInto_58 f k2 k20)
noncomputable def md_X8_packsInto_57 (p1 : Int) (p2 : Int) (f : Nat) (k2 : (Int × Ob) → Option Rt) (k20 : (Int × Int × Int × Ob) → Option Rt) : Int × Int × Ob → Option Rt := mg_X8_packsInto_57 p1 p2 (md_X8_packsInto_58 p1 p2 f k2 k20)
theorem eq_X8_packsInto_57 (p1 : Int) (p2 : Int) (f : Nat) (k2 : XK) (k20 : XK) (a : Int × Int × Ob) : rw_X8_packsInto_57 f k2 k20 (en_X8_packsInto_57 p1 p2 a) = md_X8_packsInto_57 p1 p2 f (fun b => k2 (en_X8_packsInto_2 p1 p2 b)) (fun b => k20 (en_X8_packsInto_20 p1 p2 b)) a :=
 (rq_X8_packsInto_57 p1 p2 (rw_X8_packsInto_58 f k2 k20) a).trans (congrFun (congr (rfl : mg_X8_packsInto_57 p1 p2 = mg_X8_packsInto_57 p1 p2) (funext (eq_X8_packsInto_58 p1 p2 f k2 k20))) a)
theorem sd_X8_packsInto_57 (f : Nat) {X : XDyn} {r0 : Rt} (C : XO X mX8_packsInto) {k2 : XK} (q2 : XS X mX8_packsInto r0 2 k2) {k20 : XK} (q20 : XS X mX8_packsInto r0 20 k20) : XS X mX8_packsInto r0 57 (rw_X8_packsInto_57 f k2 k20) := sg_X8_packsInto_57 C (sd_X8_packsInto_58 f C q2 q20)
noncomputable def rw_X8_packsInto_20 (f : Nat) (k2 : XK) : XK := tlp (fun k20 => rg_X8_packsInto_20 (rw_X8_packsInto_71 f k2) (rw_X8_packsInto_57 f k2 k20) (rw_X8_packsInto_58 f k2 k20)) f
noncomputable def lb_X8_packsInto_20 (p1 : Int) (p2 : Int) (f : Nat) (k2 : (Int × Ob) → Option Rt) : ((Int × Int × Int × Ob) → Option Rt) → Int × Int × Int × Ob → Option Rt := fun k20 => mg_X8_packsInto_20 p1 p2 (md_X8_packsInto_71 p1 p2 f k2) (md_X8_packsInto_57 p1 p2 f k2 k20) (md_X8_packsInto_58 p1 p2 f k2 k20)
noncomputable def md_X8_packsInto_20 (p1 : Int) (p2 : Int) (f : Nat) (k2 : (Int × Ob) → Option Rt) : Int × Int × Int × Ob → Option Rt := tlp (lb_X8_packsInto_20 p1 p2 f k2) f
theorem eq_X8_packsInto_20 (p1 : Int) (p2 : Int) (f : Nat) (k2 : XK) (a : Int × Int × Int × Ob) : rw_X8_packsInto_20 f k2 (en_X8_packsInto_20 p1 p2 a) = md_X8_packsInto_20 p1 p2 f (fun b => k2 (en_X8_packsInto_2 p1 p2 b)) a :=
 tlp_enc (en_X8_packsInto_20 p1 p2) (fun k20 a => (rq_X8_packsInto_20 p1 p2 (rw_X8_packsInto_71 f k2) (rw_X8_packsInto_57 f k2 k20) (rw_X8_packsInto_58 f k2 k20) a).trans (congrFun (congr (congr (congr (rfl : mg_X8_packsInto_20 p1 p2 = mg_X8_packsInto_20 p1 p2) (funext (eq_X8_packsInto_71 p1 p2 f k2))) (funext (eq_X8_packsInto_57 p1 p2 f k2 k20))) (funext (eq_X8_packsInto_58 p1 p2 f k2 k20))) a)) f a
theorem sd_X8_packsInto_20 (f : Nat) {X : XDyn} {r0 : Rt} (C : XO X mX8_packsInto) {k2 : XK} (q2 : XS X mX8_packsInto r0 2 k2) : XS X mX8_packsInto r0 20 (rw_X8_packsInto_20 f k2) := s_lp (fun k20 q20 => sg_X8_packsInto_20 C (sd_X8_packsInto_71 f C q2) (sd_X8_packsInto_57 f C q2 q20) (sd_X8_packsInto_58 f C q2 q20)) f
noncomputable def rw_X8_packsInto_2 (f : Nat) : XK := tlp (fun k2 => rg_X8_packsInto_2 (rw_X8_packsInto_87 f) (rw_X8_packsInto_20 f k2)) f
noncomputable def lb_X8_packsInto_2 (p1 : Int) (p2 : Int) (f : Nat) : ((Int × Ob) → Option Rt) → Int × Ob → Option Rt := fun k2 => mg_X8_packsInto_2 p1 p2 (md_X8_packsInto_87 p1 p2 f) (md_X8_packsInto_20 p1 p2 f k2)
noncomputable def md_X8_packsInto_2 (p1 : Int) (p2 : Int) (f : Nat) : Int × Ob → Option Rt := tlp (lb_X8_packsInto_2 p1 p2 f) f
theorem eq_X8_packsInto_2 (p1 : Int) (p2 : Int) (f : Nat) (a : Int × Ob) : rw_X8_packsInto_2 f (en_X8_packsInto_2 p1 p2 a) = md_X8_packsInto_2 p1 p2 f a :=
 tlp_enc (en_X8_packsInto_2 p1 p2) (fun k2 a => (rq_X8_packsInto_2 p1 p2 (rw_X8_packsInto_87 f) (rw_X8_packsInto_20 f k2) a).trans (congrFun (congr (congr (rfl : mg_X8_packsInto_2 p1 p2 = mg_X8_packsInto_2 p1 p2) (funext (eq_X8_packsInto_87 p1 p2 f))) (funext (eq_X8_packsInto_20 p1 p2 f k2))) a)) f a
theorem sd_X8_packsInto_2 (f : Nat) {X : XDyn} {r0 : Rt} (C : XO X mX8_packsInto) : XS X mX8_packsInto r0 2 (rw_X8_packsInto_2 f) := s_lp (fun k2 q2 => sg_X8_packsInto_2 C (sd_X8_packsInto_87 f C) (sd_X8_packsInto_20 f C q2)) f
noncomputable def rw_X8_packsInto_0 (f : Nat) : XK := rg_X8_packsInto_0 (rw_X8_packsInto_2 f)
noncomputable def md_X8_packsInto_0 (p1 : Int) (p2 : Int) (f : Nat) : Ob → Option Rt := mg_X8_packsInto_0 p1 p2 (md_X8_packsInto_2 p1 p2 f)
theorem eq_X8_packsInto_0 (p1 : Int) (p2 : Int) (f : Nat) (a : Ob) : rw_X8_packsInto_0 f (en_X8_packsInto_0 p1 p2 a) = md_X8_packsInto_0 p1 p2 f a :=
 (rq_X8_packsInto_0 p1 p2 (rw_X8_packsInto_2 f) a).trans (congrFun (congr (rfl : mg_X8_packsInto_0 p1 p2 = mg_X8_packsInto_0 p1 p2) (funext (eq_X8_packsInto_2 p1 p2 f))) a)
theorem sd_X8_packsInto_0 (f : Nat) {X : XDyn} {r0 : Rt} (C : XO X mX8_packsInto) : XS X mX8_packsInto r0 0 (rw_X8_packsInto_0 f) := sg_X8_packsInto_0 C (sd_X8_packsInto_2 f C)
theorem ctr_X8_packsInto (f : Nat) : XCt yX8_packsInto mX8_packsInto (xF mX8_packsInto (rw_X8_packsInto_0 f)) := xMet (by decide +kernel) rfl (fun _ _ C => sd_X8_packsInto_0 f C)
theorem eqf_X8_packsInto (f : Nat) (p1 : Int) (p2 : Int) (h0 : Ob) : xF mX8_packsInto (rw_X8_packsInto_0 f) [.inr (.inl (0, 0)), .inl p1, .inl p2] [h0] = md_X8_packsInto_0 p1 p2 f h0 := eq_X8_packsInto_0 p1 p2 f h0
theorem yi_X8_packsInto : yX8_packsInto.cls = RX8 ∧ yX8_packsInto.cls ≠ "java/lang/invoke/MethodHandle" ∧ yX8_packsInto.cls ≠ "java/lang/invoke/VarHandle" ∧ (parseMethodDescriptor yX8_packsInto.desc).map (fun d => d.parameters.length) = some 2 := ⟨rfl, by decide +kernel, by decide +kernel, by decide +kernel⟩
noncomputable def ov_X8_packsInto (p1 p2 : Int) (h0 : Ob) : Option Rt := xop (md_X8_packsInto_0 p1 p2 xfu h0)
theorem ov_X8_packsInto_e (p1 p2 : Int) (h0 : Ob) : ov_X8_packsInto p1 p2 h0 = md_X8_packsInto_0 p1 p2 xfu h0 := xop_eq _
theorem sp_X8_packsInto (p1 p2 : Int) (h0 : Ob) (hg : oqV (ov_X8_packsInto p1 p2 h0) = true) : md_X8_packsInto_0 p1 p2 xfu h0 = RV [(oqO (ov_X8_packsInto p1 p2 h0) 0)] := (ov_X8_packsInto_e p1 p2 h0).symm.trans (oqV_eq hg)
noncomputable def g_X8_packsInto : List AV → List Ob → Bool
  | [.inr (.inl (0, 0)), .inl p1, .inl p2], [h0] => oqV (ov_X8_packsInto p1 p2 h0)
  | _, _ => false
noncomputable def v_X8_packsInto : List AV → List Ob → Rt
  | [.inr (.inl (0, 0)), .inl p1, .inl p2], [h0] => (none, [(oqO (ov_X8_packsInto p1 p2 h0) 0)])
  | _, _ => (none, [])
theorem ct_X8_packsInto : XCt yX8_packsInto mX8_packsInto (fun as μ => if g_X8_packsInto as μ then some (v_X8_packsInto as μ) else none) := (ctr_X8_packsInto xfu).of (fun as μ r h => by
  split at h
  · rename_i hg
    unfold g_X8_packsInto at hg
    split at hg
    · rw [← h]
      exact (eqf_X8_packsInto xfu _ _ _).trans (sp_X8_packsInto _ _ _ hg)
    · cases hg
  · cases h)
theorem dX8_mostLeft_0 : decode cX8_mostLeft 0 = .ok (.iconst 0, 1) := by decide +kernel
theorem dX8_mostLeft_1 : decode cX8_mostLeft 1 = .ok (.istore_n 2, 1) := by decide +kernel
theorem dX8_mostLeft_2 : decode cX8_mostLeft 2 = .ok (.iconst (-1), 1) := by decide +kernel
theorem dX8_mostLeft_3 : decode cX8_mostLeft 3 = .ok (.istore_n 3, 1) := by decide +kernel
theorem dX8_mostLeft_4 : decode cX8_mostLeft 4 = .ok (.iconst 0, 1) := by decide +kernel
theorem dX8_mostLeft_5 : decode cX8_mostLeft 5 = .ok (.istore 4, 2) := by decide +kernel
theorem dX8_mostLeft_7 : decode cX8_mostLeft 7 = .ok (.iload 4, 2) := by decide +kernel
theorem dX8_mostLeft_9 : decode cX8_mostLeft 9 = .ok (.aload_n 0, 1) := by decide +kernel
theorem dX8_mostLeft_10 : decode cX8_mostLeft 10 = .ok (.getfield 122, 3) := by decide +kernel
theorem dX8_mostLeft_13 : decode cX8_mostLeft 13 = .ok (.if_icmp .ge 46, 3) := by decide +kernel
theorem dX8_mostLeft_16 : decode cX8_mostLeft 16 = .ok (.iload_n 1, 1) := by decide +kernel
theorem dX8_mostLeft_17 : decode cX8_mostLeft 17 = .ok (.aload_n 0, 1) := by decide +kernel
theorem dX8_mostLeft_18 : decode cX8_mostLeft 18 = .ok (.getfield 28, 3) := by decide +kernel
theorem dX8_mostLeft_21 : decode cX8_mostLeft 21 = .ok (.iload 4, 2) := by decide +kernel
theorem dX8_mostLeft_23 : decode cX8_mostLeft 23 = .ok (.iaload, 1) := by decide +kernel
theorem dX8_mostLeft_24 : decode cX8_mostLeft 24 = .ok (.invokestatic 125, 3) := by decide +kernel
theorem dX8_mostLeft_27 : decode cX8_mostLeft 27 = .ok (.ifCond .ne 6, 3) := by decide +kernel
theorem dX8_mostLeft_30 : decode cX8_mostLeft 30 = .ok (.goto 23, 3) := by decide +kernel
theorem dX8_mostLeft_33 : decode cX8_mostLeft 33 = .ok (.aload_n 0, 1) := by decide +kernel
theorem dX8_mostLeft_34 : decode cX8_mostLeft 34 = .ok (.getfield 34, 3) := by decide +kernel
theorem dX8_mostLeft_37 : decode cX8_mostLeft 37 = .ok (.iload_n 2, 1) := by decide +kernel
theorem dX8_mostLeft_38 : decode cX8_mostLeft 38 = .ok (.aload_n 0, 1) := by decide +kernel
theorem dX8_mostLeft_39 : decode cX8_mostLeft 39 = .ok (.aload_n 0, 1) := by decide +kernel
theorem dX8_mostLeft_40 : decode cX8_mostLeft 40 = .ok (.getfield 28, 3) := by decide +kernel
theorem dX8_mostLeft_43 : decode cX8_mostLeft 43 = .ok (.iload 4, 2) := by decide +kernel
theorem dX8_mostLeft_45 : decode cX8_mostLeft 45 = .ok (.iaload, 1) := by decide +kernel
theorem dX8_mostLeft_46 : decode cX8_mostLeft 46 = .ok (.invokevirtual 93, 3) := by decide +kernel
theorem dX8_mostLeft_49 : decode cX8_mostLeft 49 = .ok (.iastore, 1) := by decide +kernel
theorem dX8_mostLeft_50 : decode cX8_mostLeft 50 = .ok (.iinc 2 1, 3) := by decide +kernel
theorem dX8_mostLeft_53 : decode cX8_mostLeft 53 = .ok (.iinc 4 1, 3) := by decide +kernel
theorem dX8_mostLeft_56 : decode cX8_mostLeft 56 = .ok (.goto (-49), 3) := by decide +kernel
theorem dX8_mostLeft_59 : decode cX8_mostLeft 59 = .ok (.aload_n 0, 1) := by decide +kernel
theorem dX8_mostLeft_60 : decode cX8_mostLeft 60 = .ok (.iload_n 2, 1) := by decide +kernel
theorem dX8_mostLeft_61 : decode cX8_mostLeft 61 = .ok (.invokevirtual 129, 3) := by decide +kernel
theorem dX8_mostLeft_64 : decode cX8_mostLeft 64 = .ok (.iconst 1, 1) := by decide +kernel
theorem dX8_mostLeft_65 : decode cX8_mostLeft 65 = .ok (.iload_n 2, 1) := by decide +kernel
theorem dX8_mostLeft_66 : decode cX8_mostLeft 66 = .ok (.ishl, 1) := by decide +kernel
theorem dX8_mostLeft_67 : decode cX8_mostLeft 67 = .ok (.iconst 1, 1) := by decide +kernel
theorem dX8_mostLeft_68 : decode cX8_mostLeft 68 = .ok (.isub, 1) := by decide +kernel
theorem dX8_mostLeft_69 : decode cX8_mostLeft 69 = .ok (.istore 4, 2) := by decide +kernel
theorem dX8_mostLeft_71 : decode cX8_mostLeft 71 = .ok (.iconst 0, 1) := by decide +kernel
theorem dX8_mostLeft_72 : decode cX8_mostLeft 72 = .ok (.istore 5, 2) := by decide +kernel
theorem dX8_mostLeft_74 : decode cX8_mostLeft 74 = .ok (.iload 5, 2) := by decide +kernel
theorem dX8_mostLeft_76 : decode cX8_mostLeft 76 = .ok (.aload_n 0, 1) := by decide +kernel
theorem dX8_mostLeft_77 : decode cX8_mostLeft 77 = .ok (.getfield 119, 3) := by decide +kernel
theorem dX8_mostLeft_80 : decode cX8_mostLeft 80 = .ok (.if_icmp .ge 106, 3) := by decide +kernel
theorem dX8_mostLeft_83 : decode cX8_mostLeft 83 = .ok (.aload_n 0, 1) := by decide +kernel
theorem dX8_mostLeft_84 : decode cX8_mostLeft 84 = .ok (.iload_n 2, 1) := by decide +kernel
theorem dX8_mostLeft_85 : decode cX8_mostLeft 85 = .ok (.invokevirtual 133, 3) := by decide +kernel
theorem dX8_mostLeft_88 : decode cX8_mostLeft 88 = .ok (.iconst 0, 1) := by decide +kernel
theorem dX8_mostLeft_89 : decode cX8_mostLeft 89 = .ok (.istore 6, 2) := by decide +kernel
theorem dX8_mostLeft_91 : decode cX8_mostLeft 91 = .ok (.iload 6, 2) := by decide +kernel
theorem dX8_mostLeft_93 : decode cX8_mostLeft 93 = .ok (.aload_n 0, 1) := by decide +kernel
theorem dX8_mostLeft_94 : decode cX8_mostLeft 94 = .ok (.getfield 119, 3) := by decide +kernel
theorem dX8_mostLeft_97 : decode cX8_mostLeft 97 = .ok (.if_icmp .ge 28, 3) := by decide +kernel
theorem dX8_mostLeft_100 : decode cX8_mostLeft 100 = .ok (.iload 6, 2) := by decide +kernel
theorem dX8_mostLeft_102 : decode cX8_mostLeft 102 = .ok (.iload 5, 2) := by decide +kernel
theorem dX8_mostLeft_104 : decode cX8_mostLeft 104 = .ok (.if_icmp .eq 15, 3) := by decide +kernel
theorem dX8_mostLeft_107 : decode cX8_mostLeft 107 = .ok (.aload_n 0, 1) := by decide +kernel
theorem dX8_mostLeft_108 : decode cX8_mostLeft 108 = .ok (.aload_n 0, 1) := by decide +kernel
theorem dX8_mostLeft_109 : decode cX8_mostLeft 109 = .ok (.getfield 25, 3) := by decide +kernel
theorem dX8_mostLeft_112 : decode cX8_mostLeft 112 = .ok (.iload 6, 2) := by decide +kernel
theorem dX8_mostLeft_114 : decode cX8_mostLeft 114 = .ok (.iaload, 1) := by decide +kernel
theorem dX8_mostLeft_115 : decode cX8_mostLeft 115 = .ok (.iload_n 2, 1) := by decide +kernel
theorem dX8_mostLeft_116 : decode cX8_mostLeft 116 = .ok (.invokevirtual 136, 3) := by decide +kernel
theorem dX8_mostLeft_119 : decode cX8_mostLeft 119 = .ok (.iinc 6 1, 3) := by decide +kernel
theorem dX8_mostLeft_122 : decode cX8_mostLeft 122 = .ok (.goto (-31), 3) := by decide +kernel
theorem dX8_mostLeft_125 : decode cX8_mostLeft 125 = .ok (.iconst 0, 1) := by decide +kernel
theorem dX8_mostLeft_126 : decode cX8_mostLeft 126 = .ok (.istore 6, 2) := by decide +kernel
theorem dX8_mostLeft_128 : decode cX8_mostLeft 128 = .ok (.iload 6, 2) := by decide +kernel
theorem dX8_mostLeft_130 : decode cX8_mostLeft 130 = .ok (.iload 4, 2) := by decide +kernel
theorem dX8_mostLeft_132 : decode cX8_mostLeft 132 = .ok (.if_icmp .gt 48, 3) := by decide +kernel
theorem dX8_mostLeft_135 : decode cX8_mostLeft 135 = .ok (.aload_n 0, 1) := by decide +kernel
theorem dX8_mostLeft_136 : decode cX8_mostLeft 136 = .ok (.getfield 25, 3) := by decide +kernel
theorem dX8_mostLeft_139 : decode cX8_mostLeft 139 = .ok (.iload 5, 2) := by decide +kernel
theorem dX8_mostLeft_141 : decode cX8_mostLeft 141 = .ok (.iaload, 1) := by decide +kernel
theorem dX8_mostLeft_142 : decode cX8_mostLeft 142 = .ok (.aload_n 0, 1) := by decide +kernel
theorem dX8_mostLeft_143 : decode cX8_mostLeft 143 = .ok (.getfield 37, 3) := by decide +kernel
theorem dX8_mostLeft_146 : decode cX8_mostLeft 146 = .ok (.iload 6, 2) := by decide +kernel
theorem dX8_mostLeft_148 : decode cX8_mostLeft 148 = .ok (.iaload, 1) := by decide +kernel
theorem dX8_mostLeft_149 : decode cX8_mostLeft 149 = .ok (.isub, 1) := by decide +kernel
theorem dX8_mostLeft_150 : decode cX8_mostLeft 150 = .ok (.istore 7, 2) := by decide +kernel
theorem dX8_mostLeft_152 : decode cX8_mostLeft 152 = .ok (.iload 7, 2) := by decide +kernel
theorem dX8_mostLeft_154 : decode cX8_mostLeft 154 = .ok (.iload_n 3, 1) := by decide +kernel
theorem dX8_mostLeft_155 : decode cX8_mostLeft 155 = .ok (.if_icmp .le 19, 3) := by decide +kernel
theorem dX8_mostLeft_158 : decode cX8_mostLeft 158 = .ok (.aload_n 0, 1) := by decide +kernel
theorem dX8_mostLeft_159 : decode cX8_mostLeft 159 = .ok (.getfield 40, 3) := by decide +kernel
theorem dX8_mostLeft_162 : decode cX8_mostLeft 162 = .ok (.iload 4, 2) := by decide +kernel
theorem dX8_mostLeft_164 : decode cX8_mostLeft 164 = .ok (.iload 6, 2) := by decide +kernel
theorem dX8_mostLeft_166 : decode cX8_mostLeft 166 = .ok (.isub, 1) := by decide +kernel
theorem dX8_mostLeft_167 : decode cX8_mostLeft 167 = .ok (.baload, 1) := by decide +kernel
theorem dX8_mostLeft_168 : decode cX8_mostLeft 168 = .ok (.ifCond .eq 6, 3) := by decide +kernel
theorem dX8_mostLeft_171 : decode cX8_mostLeft 171 = .ok (.iload 7, 2) := by decide +kernel
theorem dX8_mostLeft_173 : decode cX8_mostLeft 173 = .ok (.istore_n 3, 1) := by decide +kernel
theorem dX8_mostLeft_174 : decode cX8_mostLeft 174 = .ok (.iinc 6 1, 3) := by decide +kernel
theorem dX8_mostLeft_177 : decode cX8_mostLeft 177 = .ok (.goto (-49), 3) := by decide +kernel
theorem dX8_mostLeft_180 : decode cX8_mostLeft 180 = .ok (.iinc 5 1, 3) := by decide +kernel
theorem dX8_mostLeft_183 : decode cX8_mostLeft 183 = .ok (.goto (-109), 3) := by decide +kernel
theorem dX8_mostLeft_186 : decode cX8_mostLeft 186 = .ok (.iload_n 3, 1) := by decide +kernel
theorem dX8_mostLeft_187 : decode cX8_mostLeft 187 = .ok (.ireturn, 1) := by decide +kernel
abbrev mX8_mostLeft : XM := (cX8_mostLeft, 8, RX8, (some .int), shw_8, 2)
noncomputable def rg_X8_mostLeft_0 (k7 : XK) : XK :=
 o_iconst 0 <|
 o_istore 2 <|
 o_iconst (-1) <|
 o_istore 3 <|
 o_iconst 0 <|
 o_istore 4 <|
 o_cut [] k7
def en_X8_mostLeft_0 (p1 : Int) (a : Ob) : XSt := ([some (.inr (.inl (0, 0))), some (.inl p1), none, none, none, none, none, none], [], [a])
noncomputable def rg_X8_mostLeft_7 (k74 : XK) (k53 : XK) : XK :=
 o_iload 4 <|
 o_aload 0 <|
 o_get shw_8 8 11 <|
 o_icmp_ge (o_aload 0 <|
 o_iload 2 <|
 o_callVg 2 0 [0] g_X8_fillsLong v_X8_fillsLong <|
 o_iconst 1 <|
 o_iload 2 <|
 o_ishl <|
 o_iconst 1 <|
 o_isub <|
 o_istore 4 <|
 o_iconst 0 <|
 o_istore 5 <|
 o_cut [] k74)
 (o_iload 1 <|
 o_aload 0 <|
 o_get shw_8 8 9 <|
 o_iload 4 <|
 o_iald shw_8 <|
 o_callS 2 1 [] f_X8_isOf <|
 o_if_ne (o_aload 0 <|
 o_get shw_8 8 12 <|
 o_iload 2 <|
 o_aload 0 <|
 o_aload 0 <|
 o_get shw_8 8 9 <|
 o_iload 4 <|
 o_iald shw_8 <|
 o_callVg 2 1 [0] g_X8_lengthOf v_X8_lengthOf <|
 o_iast shw_8 <|
 o_iinc 2 1 <|
 o_cut [] k53)
 (o_cut [] k53))
def en_X8_mostLeft_7 (p1 : Int) (a : Int × Int × Int × Ob) : XSt := ([some (.inr (.inl (0, 0))), some (.inl p1), some (.inl a.1), some (.inl a.2.1), some (.inl a.2.2.1), none, none, none], [], [a.2.2.2])
noncomputable def rg_X8_mostLeft_53 (k7 : XK) : XK :=
 o_iinc 4 1 <|
 o_cut [] k7
def en_X8_mostLeft_53 (p1 : Int) (a : Int × Int × Int × Ob) : XSt := ([some (.inr (.inl (0, 0))), some (.inl p1), some (.inl a.1), some (.inl a.2.1), some (.inl a.2.2.1), none, none, none], [], [a.2.2.2])
noncomputable def rg_X8_mostLeft_74 (k91 : XK) : XK :=
 o_iload 5 <|
 o_aload 0 <|
 o_get shw_8 8 8 <|
 o_icmp_ge (o_iload 3 <|
 o_ireturn)
 (o_aload 0 <|
 o_iload 2 <|
 o_callVg 2 0 [0] g_X8_packsNothing v_X8_packsNothing <|
 o_iconst 0 <|
 o_istore 6 <|
 o_cut [] k91)
def en_X8_mostLeft_74 (p1 : Int) (a : Int × Int × Int × Int × Ob) : XSt := ([some (.inr (.inl (0, 0))), some (.inl p1), some (.inl a.1), some (.inl a.2.1), some (.inl a.2.2.1), some (.inl a.2.2.2.1), none, none], [], [a.2.2.2.2])
noncomputable def rg_X8_mostLeft_91 (k128 : XK) (k119 : XK) : XK :=
 o_iload 6 <|
 o_aload 0 <|
 o_get shw_8 8 8 <|
 o_icmp_ge (o_iconst 0 <|
 o_istore 6 <|
 o_cut [] k128)
 (o_iload 6 <|
 o_iload 5 <|
 o_icmp_eq (o_cut [] k119)
 (o_aload 0 <|
 o_aload 0 <|
 o_get shw_8 8 7 <|
 o_iload 6 <|
 o_iald shw_8 <|
 o_iload 2 <|
 o_callVg 3 0 [0] g_X8_packsInto v_X8_packsInto <|
 o_cut [] k119))
def en_X8_mostLeft_91 (p1 : Int) (a : Int × Int × Int × Int × Int × Ob) : XSt := ([some (.inr (.inl (0, 0))), some (.inl p1), some (.inl a.1), some (.inl a.2.1), some (.inl a.2.2.1), some (.inl a.2.2.2.1), some (.inl a.2.2.2.2.1), none], [], [a.2.2.2.2.2])
noncomputable def rg_X8_mostLeft_119 (k91 : XK) : XK :=
 o_iinc 6 1 <|
 o_cut [] k91
def en_X8_mostLeft_119 (p1 : Int) (a : Int × Int × Int × Int × Int × Ob) : XSt := ([some (.inr (.inl (0, 0))), some (.inl p1), some (.inl a.1), some (.inl a.2.1), some (.inl a.2.2.1), some (.inl a.2.2.2.1), some (.inl a.2.2.2.2.1), none], [], [a.2.2.2.2.2])
noncomputable def rg_X8_mostLeft_128 (k74 : XK) (k174 : XK) : XK :=
 o_iload 6 <|
 o_iload 4 <|
 o_icmp_gt (o_iinc 5 1 <|
 o_cut [6] k74)
 (o_aload 0 <|
 o_get shw_8 8 7 <|
 o_iload 5 <|
 o_iald shw_8 <|
 o_aload 0 <|
 o_get shw_8 8 13 <|
 o_iload 6 <|
 o_iald shw_8 <|
 o_isub <|
 o_istore 7 <|
 o_iload 7 <|
 o_iload 3 <|
 o_icmp_le (o_cut [7] k174)
 (o_aload 0 <|
 o_get shw_8 8 14 <|
 o_iload 4 <|
 o_iload 6 <|
 o_isub <|
 o_bald shw_8 <|
 o_if_eq (o_cut [7] k174)
 (o_iload 7 <|
 o_istore 3 <|
 o_cut [7] k174)))
def en_X8_mostLeft_128 (p1 : Int) (a : Int × Int × Int × Int × Int × Ob) : XSt := ([some (.inr (.inl (0, 0))), some (.inl p1), some (.inl a.1), some (.inl a.2.1), some (.inl a.2.2.1), some (.inl a.2.2.2.1), some (.inl a.2.2.2.2.1), none], [], [a.2.2.2.2.2])
noncomputable def rg_X8_mostLeft_174 (k128 : XK) : XK :=
 o_iinc 6 1 <|
 o_cut [] k128
def en_X8_mostLeft_174 (p1 : Int) (a : Int × Int × Int × Int × Int × Ob) : XSt := ([some (.inr (.inl (0, 0))), some (.inl p1), some (.inl a.1), some (.inl a.2.1), some (.inl a.2.2.1), some (.inl a.2.2.2.1), some (.inl a.2.2.2.2.1), none], [], [a.2.2.2.2.2])
noncomputable def mg_X8_mostLeft_0 (p1 : Int) (k7 : (Int × Int × Int × Ob) → Option Rt) (a : Ob) : Option Rt :=
 k7 (0, (-1), 0, a)
set_option maxRecDepth 100000 in
set_option maxHeartbeats 4000000 in
theorem rq_X8_mostLeft_0 (p1 : Int) (k7 : XK) (a : Ob) : rg_X8_mostLeft_0 k7 (en_X8_mostLeft_0 p1 a) = mg_X8_mostLeft_0 p1 (fun b => k7 (en_X8_mostLeft_7 p1 b)) a := rfl
set_option maxRecDepth 100000 in
set_option maxHeartbeats 4000000 in
theorem sg_X8_mostLeft_0 {X : XDyn} {r0 : Rt} (C : XO X mX8_mostLeft) {k7 : XK} (q7 : XS X mX8_mostLeft r0 7 k7) : XS X mX8_mostLeft r0 0 (rg_X8_mostLeft_0 k7) := by
 unfold rg_X8_mostLeft_0
 exact s_iconst (pc := 0) C dX8_mostLeft_0 <|
    s_istore_n (pc := 1) C dX8_mostLeft_1 rfl <|
    s_iconst (pc := 2) C dX8_mostLeft_2 <|
    s_istore_n (pc := 3) C dX8_mostLeft_3 rfl <|
    s_iconst (pc := 4) C dX8_mostLeft_4 <|
    s_istore (pc := 5) C dX8_mostLeft_5 <|
    s_cut q7
noncomputable def mg_X8_mostLeft_7 (p1 : Int) (k74 : (Int × Int × Int × Int × Ob) → Option Rt) (k53 : (Int × Int × Int × Ob) → Option Rt) (a : Int × Int × Int × Ob) : Option Rt :=
 if xw a.2.2.1 ≥ xw (a.2.2.2 0 11) then (if oqV (ov_X8_fillsLong a.1 a.2.2.2) then (
 k74 (a.1, a.2.1, ((xshl 1 a.1) - 1), 0, (oqO (ov_X8_fillsLong a.1 a.2.2.2) 0))) else none)
 else (if xin a.2.2.1 8 then (
 if xw (bz (isO p1 (a.2.2.2 7 (xw a.2.2.1).toNat))) = 0 then (k53 (a.1, a.2.1, a.2.2.1, a.2.2.2))
 else (if xin a.2.2.1 8 then (
 if hdl (a.2.2.2 7 (xw a.2.2.1).toNat) then (
 if xin a.1 12 then (
 k53 ((a.1 + 1), a.2.1, a.2.2.1, (xset a.2.2.2 9 (xw a.1).toNat (lenM a.2.2.2 (a.2.2.2 7 (xw a.2.2.1).toNat))))) else none) else none) else none)) else none)
set_option maxRecDepth 100000 in
set_option maxHeartbeats 4000000 in
theorem rq_X8_mostLeft_7 (p1 : Int) (k74 : XK) (k53 : XK) (a : Int × Int × Int × Ob) : rg_X8_mostLeft_7 k74 k53 (en_X8_mostLeft_7 p1 a) = mg_X8_mostLeft_7 p1 (fun b => k74 (en_X8_mostLeft_74 p1 b)) (fun b => k53 (en_X8_mostLeft_53 p1 b)) a := rfl
set_option maxRecDepth 100000 in
set_option maxHeartbeats 4000000 in
theorem sg_X8_mostLeft_7 {X : XDyn} {r0 : Rt} (C : XO X mX8_mostLeft) {k74 : XK} (q74 : XS X mX8_mostLeft r0 74 k74) {k53 : XK} (q53 : XS X mX8_mostLeft r0 53 k53) : XS X mX8_mostLeft r0 7 (rg_X8_mostLeft_7 k74 k53) := by
 unfold rg_X8_mostLeft_7
 exact s_iload (pc := 7) C dX8_mostLeft_7 <|
    s_aload_n (pc := 9) C dX8_mostLeft_9 rfl <|
    s_get (pc := 10) C (ci := 8) (kf := 11) rfl inX8 (by decide) wd_882 dX8_mostLeft_10 <|
    s_icmp_ge (pc := 13) C dX8_mostLeft_13 (by decide) (s_aload_n (pc := 59) C dX8_mostLeft_59 rfl <|
    s_iload_n (pc := 60) C dX8_mostLeft_60 rfl <|
    s_callVg (pc := 61) C ct_X8_fillsLong (n := 2) (rk := 0) (mp := [0]) ⟨rfl, by decide, rfl⟩ (ci := 8) rfl rfl (by decide) (by decide) yi_X8_fillsLong (by decide) wd_1049 wd_1051 wd_38 wd_81 wd_1052 dX8_mostLeft_61 <|
    s_iconst (pc := 64) C dX8_mostLeft_64 <|
    s_iload_n (pc := 65) C dX8_mostLeft_65 rfl <|
    s_ishl (pc := 66) C dX8_mostLeft_66 <|
    s_iconst (pc := 67) C dX8_mostLeft_67 <|
    s_isub (pc := 68) C dX8_mostLeft_68 <|
    s_istore (pc := 69) C dX8_mostLeft_69 <|
    s_iconst (pc := 71) C dX8_mostLeft_71 <|
    s_istore (pc := 72) C dX8_mostLeft_72 <|
    s_cut q74)
    (s_iload_n (pc := 16) C dX8_mostLeft_16 rfl <|
    s_aload_n (pc := 17) C dX8_mostLeft_17 rfl <|
    s_get (pc := 18) C (ci := 8) (kf := 9) rfl inX8 (by decide) wd_880 dX8_mostLeft_18 <|
    s_iload (pc := 21) C dX8_mostLeft_21 <|
    s_iald (pc := 23) C dX8_mostLeft_23 <|
    s_callS (pc := 24) C ct_X8_isOf (n := 2) (rk := 1) (mp := []) ⟨rfl, by decide, rfl⟩ (by decide) (by decide) ⟨rfl, yi_X8_isOf⟩ wd_1046 wd_1047 wd_81 wd_1048 dX8_mostLeft_24 <|
    s_if_ne (pc := 27) C dX8_mostLeft_27 (by decide) (s_aload_n (pc := 33) C dX8_mostLeft_33 rfl <|
    s_get (pc := 34) C (ci := 8) (kf := 12) rfl inX8 (by decide) wd_883 dX8_mostLeft_34 <|
    s_iload_n (pc := 37) C dX8_mostLeft_37 rfl <|
    s_aload_n (pc := 38) C dX8_mostLeft_38 rfl <|
    s_aload_n (pc := 39) C dX8_mostLeft_39 rfl <|
    s_get (pc := 40) C (ci := 8) (kf := 9) rfl inX8 (by decide) wd_880 dX8_mostLeft_40 <|
    s_iload (pc := 43) C dX8_mostLeft_43 <|
    s_iald (pc := 45) C dX8_mostLeft_45 <|
    s_callVg (pc := 46) C ct_X8_lengthOf (n := 2) (rk := 1) (mp := [0]) ⟨rfl, by decide, rfl⟩ (ci := 8) rfl rfl (by decide) (by decide) yi_X8_lengthOf (by decide) wd_994 wd_996 wd_25 wd_81 wd_997 dX8_mostLeft_46 <|
    s_iast (pc := 49) C dX8_mostLeft_49 <|
    s_iinc (pc := 50) C dX8_mostLeft_50 <|
    s_cut q53)
    (s_goto (pc := 30) C dX8_mostLeft_30 (by decide) <|
    s_cut q53))
noncomputable def mg_X8_mostLeft_53 (p1 : Int) (k7 : (Int × Int × Int × Ob) → Option Rt) (a : Int × Int × Int × Ob) : Option Rt :=
 k7 (a.1, a.2.1, (a.2.2.1 + 1), a.2.2.2)
set_option maxRecDepth 100000 in
set_option maxHeartbeats 4000000 in
theorem rq_X8_mostLeft_53 (p1 : Int) (k7 : XK) (a : Int × Int × Int × Ob) : rg_X8_mostLeft_53 k7 (en_X8_mostLeft_53 p1 a) = mg_X8_mostLeft_53 p1 (fun b => k7 (en_X8_mostLeft_7 p1 b)) a := rfl
set_option maxRecDepth 100000 in
set_option maxHeartbeats 4000000 in
theorem sg_X8_mostLeft_53 {X : XDyn} {r0 : Rt} (C : XO X mX8_mostLeft) {k7 : XK} (q7 : XS X mX8_mostLeft r0 7 k7) : XS X mX8_mostLeft r0 53 (rg_X8_mostLeft_53 k7) := by
 unfold rg_X8_mostLeft_53
 exact s_iinc (pc := 53) C dX8_mostLeft_53 <|
    s_goto (pc := 56) C dX8_mostLeft_56 (by decide) <|
    s_cut q7
noncomputable def mg_X8_mostLeft_74 (p1 : Int) (k91 : (Int × Int × Int × Int × Int × Ob) → Option Rt) (a : Int × Int × Int × Int × Ob) : Option Rt :=
 if xw a.2.2.2.1 ≥ xw (a.2.2.2.2 0 8) then (RI a.2.1 [a.2.2.2.2])
 else (if oqV (ov_X8_packsNothing a.1 a.2.2.2.2) then (
 k91 (a.1, a.2.1, a.2.2.1, a.2.2.2.1, 0, (oqO (ov_X8_packsNothing a.1 a.2.2.2.2) 0))) else none)
set_option maxRecDepth 100000 in
set_option maxHeartbeats 4000000 in
theorem rq_X8_mostLeft_74 (p1 : Int) (k91 : XK) (a : Int × Int × Int × Int × Ob) : rg_X8_mostLeft_74 k91 (en_X8_mostLeft_74 p1 a) = mg_X8_mostLeft_74 p1 (fun b => k91 (en_X8_mostLeft_91 p1 b)) a := rfl
set_option maxRecDepth 100000 in
set_option maxHeartbeats 4000000 in
theorem sg_X8_mostLeft_74 {X : XDyn} {r0 : Rt} (C : XO X mX8_mostLeft) {k91 : XK} (q91 : XS X mX8_mostLeft r0 91 k91) : XS X mX8_mostLeft r0 74 (rg_X8_mostLeft_74 k91) := by
 unfold rg_X8_mostLeft_74
 exact s_iload (pc := 74) C dX8_mostLeft_74 <|
    s_aload_n (pc := 76) C dX8_mostLeft_76 rfl <|
    s_get (pc := 77) C (ci := 8) (kf := 8) rfl inX8 (by decide) wd_879 dX8_mostLeft_77 <|
    s_icmp_ge (pc := 80) C dX8_mostLeft_80 (by decide) (s_iload_n (pc := 186) C dX8_mostLeft_186 rfl <|
    s_ireturn (pc := 187) C rfl dX8_mostLeft_187)
    (s_aload_n (pc := 83) C dX8_mostLeft_83 rfl <|
    s_iload_n (pc := 84) C dX8_mostLeft_84 rfl <|
    s_callVg (pc := 85) C ct_X8_packsNothing (n := 2) (rk := 0) (mp := [0]) ⟨rfl, by decide, rfl⟩ (ci := 8) rfl rfl (by decide) (by decide) yi_X8_packsNothing (by decide) wd_1053 wd_1055 wd_39 wd_81 wd_1056 dX8_mostLeft_85 <|
    s_iconst (pc := 88) C dX8_mostLeft_88 <|
    s_istore (pc := 89) C dX8_mostLeft_89 <|
    s_cut q91)
noncomputable def mg_X8_mostLeft_91 (p1 : Int) (k128 : (Int × Int × Int × Int × Int × Ob) → Option Rt) (k119 : (Int × Int × Int × Int × Int × Ob) → Option Rt) (a : Int × Int × Int × Int × Int × Ob) : Option Rt :=
 if xw a.2.2.2.2.1 ≥ xw (a.2.2.2.2.2 0 8) then (k128 (a.1, a.2.1, a.2.2.1, a.2.2.2.1, 0, a.2.2.2.2.2))
 else (if xw a.2.2.2.2.1 = xw a.2.2.2.1 then (k119 (a.1, a.2.1, a.2.2.1, a.2.2.2.1, a.2.2.2.2.1, a.2.2.2.2.2))
 else (if xin a.2.2.2.2.1 16 then (
 if oqV (ov_X8_packsInto (a.2.2.2.2.2 6 (xw a.2.2.2.2.1).toNat) a.1 a.2.2.2.2.2) then (
 k119 (a.1, a.2.1, a.2.2.1, a.2.2.2.1, a.2.2.2.2.1, (oqO (ov_X8_packsInto (a.2.2.2.2.2 6 (xw a.2.2.2.2.1).toNat) a.1 a.2.2.2.2.2) 0))) else none) else none))
set_option maxRecDepth 100000 in
set_option maxHeartbeats 4000000 in
theorem rq_X8_mostLeft_91 (p1 : Int) (k128 : XK) (k119 : XK) (a : Int × Int × Int × Int × Int × Ob) : rg_X8_mostLeft_91 k128 k119 (en_X8_mostLeft_91 p1 a) = mg_X8_mostLeft_91 p1 (fun b => k128 (en_X8_mostLeft_128 p1 b)) (fun b => k119 (en_X8_mostLeft_119 p1 b)) a := rfl
set_option maxRecDepth 100000 in
set_option maxHeartbeats 4000000 in
theorem sg_X8_mostLeft_91 {X : XDyn} {r0 : Rt} (C : XO X mX8_mostLeft) {k128 : XK} (q128 : XS X mX8_mostLeft r0 128 k128) {k119 : XK} (q119 : XS X mX8_mostLeft r0 119 k119) : XS X mX8_mostLeft r0 91 (rg_X8_mostLeft_91 k128 k119) := by
 unfold rg_X8_mostLeft_91
 exact s_iload (pc := 91) C dX8_mostLeft_91 <|
    s_aload_n (pc := 93) C dX8_mostLeft_93 rfl <|
    s_get (pc := 94) C (ci := 8) (kf := 8) rfl inX8 (by decide) wd_879 dX8_mostLeft_94 <|
    s_icmp_ge (pc := 97) C dX8_mostLeft_97 (by decide) (s_iconst (pc := 125) C dX8_mostLeft_125 <|
    s_istore (pc := 126) C dX8_mostLeft_126 <|
    s_cut q128)
    (s_iload (pc := 100) C dX8_mostLeft_100 <|
    s_iload (pc := 102) C dX8_mostLeft_102 <|
    s_icmp_eq (pc := 104) C dX8_mostLeft_104 (by decide) (s_cut q119)
    (s_aload_n (pc := 107) C dX8_mostLeft_107 rfl <|
    s_aload_n (pc := 108) C dX8_mostLeft_108 rfl <|
    s_get (pc := 109) C (ci := 8) (kf := 7) rfl inX8 (by decide) wd_878 dX8_mostLeft_109 <|
    s_iload (pc := 112) C dX8_mostLeft_112 <|
    s_iald (pc := 114) C dX8_mostLeft_114 <|
    s_iload_n (pc := 115) C dX8_mostLeft_115 rfl <|
    s_callVg (pc := 116) C ct_X8_packsInto (n := 3) (rk := 0) (mp := [0]) ⟨rfl, by decide, rfl⟩ (ci := 8) rfl rfl (by decide) (by decide) yi_X8_packsInto (by decide) wd_1057 wd_1059 wd_40 wd_81 wd_1060 dX8_mostLeft_116 <|
    s_cut q119))
noncomputable def mg_X8_mostLeft_119 (p1 : Int) (k91 : (Int × Int × Int × Int × Int × Ob) → Option Rt) (a : Int × Int × Int × Int × Int × Ob) : Option Rt :=
 k91 (a.1, a.2.1, a.2.2.1, a.2.2.2.1, (a.2.2.2.2.1 + 1), a.2.2.2.2.2)
set_option maxRecDepth 100000 in
set_option maxHeartbeats 4000000 in
theorem rq_X8_mostLeft_119 (p1 : Int) (k91 : XK) (a : Int × Int × Int × Int × Int × Ob) : rg_X8_mostLeft_119 k91 (en_X8_mostLeft_119 p1 a) = mg_X8_mostLeft_119 p1 (fun b => k91 (en_X8_mostLeft_91 p1 b)) a := rfl
set_option maxRecDepth 100000 in
set_option maxHeartbeats 4000000 in
theorem sg_X8_mostLeft_119 {X : XDyn} {r0 : Rt} (C : XO X mX8_mostLeft) {k91 : XK} (q91 : XS X mX8_mostLeft r0 91 k91) : XS X mX8_mostLeft r0 119 (rg_X8_mostLeft_119 k91) := by
 unfold rg_X8_mostLeft_119
 exact s_iinc (pc := 119) C dX8_mostLeft_119 <|
    s_goto (pc := 122) C dX8_mostLeft_122 (by decide) <|
    s_cut q91
noncomputable def mg_X8_mostLeft_128 (p1 : Int) (k74 : (Int × Int × Int × Int × Ob) → Option Rt) (k174 : (Int × Int × Int × Int × Int × Ob) → Option Rt) (a : Int × Int × Int × Int × Int × Ob) : Option Rt :=
 if xw a.2.2.2.2.1 > xw a.2.2.1 then (k74 (a.1, a.2.1, a.2.2.1, (a.2.2.2.1 + 1), a.2.2.2.2.2))
 else (if xin a.2.2.2.1 16 then (
 if xin a.2.2.2.2.1 4096 then (
 if xw ((a.2.2.2.2.2 6 (xw a.2.2.2.1).toNat) - (a.2.2.2.2.2 10 (xw a.2.2.2.2.1).toNat)) ≤ xw a.2.1 then (k174 (a.1, a.2.1, a.2.2.1, a.2.2.2.1, a.2.2.2.2.1, a.2.2.2.2.2))
 else (if xin (a.2.2.1 - a.2.2.2.2.1) 4096 then (
 if xw (a.2.2.2.2.2 11 (xw (a.2.2.1 - a.2.2.2.2.1)).toNat) = 0 then (k174 (a.1, a.2.1, a.2.2.1, a.2.2.2.1, a.2.2.2.2.1, a.2.2.2.2.2))
 else (k174 (a.1, ((a.2.2.2.2.2 6 (xw a.2.2.2.1).toNat) - (a.2.2.2.2.2 10 (xw a.2.2.2.2.1).toNat)), a.2.2.1, a.2.2.2.1, a.2.2.2.2.1, a.2.2.2.2.2))) else none)) else none) else none)
set_option maxRecDepth 100000 in
set_option maxHeartbeats 4000000 in
theorem rq_X8_mostLeft_128 (p1 : Int) (k74 : XK) (k174 : XK) (a : Int × Int × Int × Int × Int × Ob) : rg_X8_mostLeft_128 k74 k174 (en_X8_mostLeft_128 p1 a) = mg_X8_mostLeft_128 p1 (fun b => k74 (en_X8_mostLeft_74 p1 b)) (fun b => k174 (en_X8_mostLeft_174 p1 b)) a := rfl
set_option maxRecDepth 100000 in
set_option maxHeartbeats 4000000 in
theorem sg_X8_mostLeft_128 {X : XDyn} {r0 : Rt} (C : XO X mX8_mostLeft) {k74 : XK} (q74 : XS X mX8_mostLeft r0 74 k74) {k174 : XK} (q174 : XS X mX8_mostLeft r0 174 k174) : XS X mX8_mostLeft r0 128 (rg_X8_mostLeft_128 k74 k174) := by
 unfold rg_X8_mostLeft_128
 exact s_iload (pc := 128) C dX8_mostLeft_128 <|
    s_iload (pc := 130) C dX8_mostLeft_130 <|
    s_icmp_gt (pc := 132) C dX8_mostLeft_132 (by decide) (s_iinc (pc := 180) C dX8_mostLeft_180 <|
    s_goto (pc := 183) C dX8_mostLeft_183 (by decide) <|
    s_cut q74)
    (s_aload_n (pc := 135) C dX8_mostLeft_135 rfl <|
    s_get (pc := 136) C (ci := 8) (kf := 7) rfl inX8 (by decide) wd_878 dX8_mostLeft_136 <|
    s_iload (pc := 139) C dX8_mostLeft_139 <|
    s_iald (pc := 141) C dX8_mostLeft_141 <|
    s_aload_n (pc := 142) C dX8_mostLeft_142 rfl <|
    s_get (pc := 143) C (ci := 8) (kf := 13) rfl inX8 (by decide) wd_884 dX8_mostLeft_143 <|
    s_iload (pc := 146) C dX8_mostLeft_146 <|
    s_iald (pc := 148) C dX8_mostLeft_148 <|
    s_isub (pc := 149) C dX8_mostLeft_149 <|
    s_istore (pc := 150) C dX8_mostLeft_150 <|
    s_iload (pc := 152) C dX8_mostLeft_152 <|
    s_iload_n (pc := 154) C dX8_mostLeft_154 rfl <|
    s_icmp_le (pc := 155) C dX8_mostLeft_155 (by decide) (s_cut q174)
    (s_aload_n (pc := 158) C dX8_mostLeft_158 rfl <|
    s_get (pc := 159) C (ci := 8) (kf := 14) rfl inX8 (by decide) wd_885 dX8_mostLeft_159 <|
    s_iload (pc := 162) C dX8_mostLeft_162 <|
    s_iload (pc := 164) C dX8_mostLeft_164 <|
    s_isub (pc := 166) C dX8_mostLeft_166 <|
    s_bald (pc := 167) C dX8_mostLeft_167 <|
    s_if_eq (pc := 168) C dX8_mostLeft_168 (by decide) (s_cut q174)
    (s_iload (pc := 171) C dX8_mostLeft_171 <|
    s_istore_n (pc := 173) C dX8_mostLeft_173 rfl <|
    s_cut q174)))
noncomputable def mg_X8_mostLeft_174 (p1 : Int) (k128 : (Int × Int × Int × Int × Int × Ob) → Option Rt) (a : Int × Int × Int × Int × Int × Ob) : Option Rt :=
 k128 (a.1, a.2.1, a.2.2.1, a.2.2.2.1, (a.2.2.2.2.1 + 1), a.2.2.2.2.2)
set_option maxRecDepth 100000 in
set_option maxHeartbeats 4000000 in
theorem rq_X8_mostLeft_174 (p1 : Int) (k128 : XK) (a : Int × Int × Int × Int × Int × Ob) : rg_X8_mostLeft_174 k128 (en_X8_mostLeft_174 p1 a) = mg_X8_mostLeft_174 p1 (fun b => k128 (en_X8_mostLeft_128 p1 b)) a := rfl
set_option maxRecDepth 100000 in
set_option maxHeartbeats 4000000 in
theorem sg_X8_mostLeft_174 {X : XDyn} {r0 : Rt} (C : XO X mX8_mostLeft) {k128 : XK} (q128 : XS X mX8_mostLeft r0 128 k128) : XS X mX8_mostLeft r0 174 (rg_X8_mostLeft_174 k128) := by
 unfold rg_X8_mostLeft_174
 exact s_iinc (pc := 174) C dX8_mostLeft_174 <|
    s_goto (pc := 177) C dX8_mostLeft_177 (by decide) <|
    s_cut q128
noncomputable def rw_X8_mostLeft_174 (f : Nat) (k74 : XK) (k128 : XK) : XK := rg_X8_mostLeft_174 k128
noncomputable def md_X8_mostLeft_174 (p1 : Int) (f : Nat) (k74 : (Int × Int × Int × Int × Ob) → Option Rt) (k128 : (Int × Int × Int × Int × Int × Ob) → Option Rt) : Int × Int × Int × Int × Int × Ob → Option Rt := mg_X8_mostLeft_174 p1 k128
theorem eq_X8_mostLeft_174 (p1 : Int) (f : Nat) (k74 : XK) (k128 : XK) (a : Int × Int × Int × Int × Int × Ob) : rw_X8_mostLeft_174 f k74 k128 (en_X8_mostLeft_174 p1 a) = md_X8_mostLeft_174 p1 f (fun b => k74 (en_X8_mostLeft_74 p1 b)) (fun b => k128 (en_X8_mostLeft_128 p1 b)) a :=
 (rq_X8_mostLeft_174 p1 k128 a).trans (congrFun (congr (rfl : mg_X8_mostLeft_174 p1 = mg_X8_mostLeft_174 p1) rfl) a)
theorem sd_X8_mostLeft_174 (f : Nat) {X : XDyn} {r0 : Rt} (C : XO X mX8_mostLeft) {k74 : XK} (q74 : XS X mX8_mostLeft r0 74 k74) {k128 : XK} (q128 : XS X mX8_mostLeft r0 128 k128) : XS X mX8_mostLeft r0 174 (rw_X8_mostLeft_174 f k74 k128) := sg_X8_mostLeft_174 C q128
noncomputable def rw_X8_mostLeft_128 (f : Nat) (k74 : XK) : XK := tlp (fun k128 => rg_X8_mostLeft_128 k74 (rw_X8_mostLeft_174 f k74 k128)) f
noncomputable def lb_X8_mostLeft_128 (p1 : Int) (f : Nat) (k74 : (Int × Int × Int × Int × Ob) → Option Rt) : ((Int × Int × Int × Int × Int × Ob) → Option Rt) → Int × Int × Int × Int × Int × Ob → Option Rt := fun k128 => mg_X8_mostLeft_128 p1 k74 (md_X8_mostLeft_174 p1 f k74 k128)
noncomputable def md_X8_mostLeft_128 (p1 : Int) (f : Nat) (k74 : (Int × Int × Int × Int × Ob) → Option Rt) : Int × Int × Int × Int × Int × Ob → Option Rt := tlp (lb_X8_mostLeft_128 p1 f k74) f
theorem eq_X8_mostLeft_128 (p1 : Int) (f : Nat) (k74 : XK) (a : Int × Int × Int × Int × Int × Ob) : rw_X8_mostLeft_128 f k74 (en_X8_mostLeft_128 p1 a) = md_X8_mostLeft_128 p1 f (fun b => k74 (en_X8_mostLeft_74 p1 b)) a :=
 tlp_enc (en_X8_mostLeft_128 p1) (fun k128 a => (rq_X8_mostLeft_128 p1 k74 (rw_X8_mostLeft_174 f k74 k128) a).trans (congrFun (congr (congr (rfl : mg_X8_mostLeft_128 p1 = mg_X8_mostLeft_128 p1) rfl) (funext (eq_X8_mostLeft_174 p1 f k74 k128))) a)) f a
theorem sd_X8_mostLeft_128 (f : Nat) {X : XDyn} {r0 : Rt} (C : XO X mX8_mostLeft) {k74 : XK} (q74 : XS X mX8_mostLeft r0 74 k74) : XS X mX8_mostLeft r0 128 (rw_X8_mostLeft_128 f k74) := s_lp (fun k128 q128 => sg_X8_mostLeft_128 C q74 (sd_X8_mostLeft_174 f C q74 q128)) f
noncomputable def rw_X8_mostLeft_119 (f : Nat) (k74 : XK) (k91 : XK) : XK := rg_X8_mostLeft_119 k91
noncomputable def md_X8_mostLeft_119 (p1 : Int) (f : Nat) (k74 : (Int × Int × Int × Int × Ob) → Option Rt) (k91 : (Int × Int × Int × Int × Int × Ob) → Option Rt) : Int × Int × Int × Int × Int × Ob → Option Rt := mg_X8_mostLeft_119 p1 k91
theorem eq_X8_mostLeft_119 (p1 : Int) (f : Nat) (k74 : XK) (k91 : XK) (a : Int × Int × Int × Int × Int × Ob) : rw_X8_mostLeft_119 f k74 k91 (en_X8_mostLeft_119 p1 a) = md_X8_mostLeft_119 p1 f (fun b => k74 (en_X8_mostLeft_74 p1 b)) (fun b => k91 (en_X8_mostLeft_91 p1 b)) a :=
 (rq_X8_mostLeft_119 p1 k91 a).trans (congrFun (congr (rfl : mg_X8_mostLeft_119 p1 = mg_X8_mostLeft_119 p1) rfl) a)
theorem sd_X8_mostLeft_119 (f : Nat) {X : XDyn} {r0 : Rt} (C : XO X mX8_mostLeft) {k74 : XK} (q74 : XS X mX8_mostLeft r0 74 k74) {k91 : XK} (q91 : XS X mX8_mostLeft r0 91 k91) : XS X mX8_mostLeft r0 119 (rw_X8_mostLeft_119 f k74 k91) := sg_X8_mostLeft_119 C q91
noncomputable def rw_X8_mostLeft_91 (f : Nat) (k74 : XK) : XK := tlp (fun k91 => rg_X8_mostLeft_91 (rw_X8_mostLeft_128 f k74) (rw_X8_mostLeft_119 f k74 k91)) f
noncomputable def lb_X8_mostLeft_91 (p1 : Int) (f : Nat) (k74 : (Int × Int × Int × Int × Ob) → Option Rt) : ((Int × Int × Int × Int × Int × Ob) → Option Rt) → Int × Int × Int × Int × Int × Ob → Option Rt := fun k91 => mg_X8_mostLeft_91 p1 (md_X8_mostLeft_128 p1 f k74) (md_X8_mostLeft_119 p1 f k74 k91)
noncomputable def md_X8_mostLeft_91 (p1 : Int) (f : Nat) (k74 : (Int × Int × Int × Int × Ob) → Option Rt) : Int × Int × Int × Int × Int × Ob → Option Rt := tlp (lb_X8_mostLeft_91 p1 f k74) f
theorem eq_X8_mostLeft_91 (p1 : Int) (f : Nat) (k74 : XK) (a : Int × Int × Int × Int × Int × Ob) : rw_X8_mostLeft_91 f k74 (en_X8_mostLeft_91 p1 a) = md_X8_mostLeft_91 p1 f (fun b => k74 (en_X8_mostLeft_74 p1 b)) a :=
 tlp_enc (en_X8_mostLeft_91 p1) (fun k91 a => (rq_X8_mostLeft_91 p1 (rw_X8_mostLeft_128 f k74) (rw_X8_mostLeft_119 f k74 k91) a).trans (congrFun (congr (congr (rfl : mg_X8_mostLeft_91 p1 = mg_X8_mostLeft_91 p1) (funext (eq_X8_mostLeft_128 p1 f k74))) (funext (eq_X8_mostLeft_119 p1 f k74 k91))) a)) f a
theorem sd_X8_mostLeft_91 (f : Nat) {X : XDyn} {r0 : Rt} (C : XO X mX8_mostLeft) {k74 : XK} (q74 : XS X mX8_mostLeft r0 74 k74) : XS X mX8_mostLeft r0 91 (rw_X8_mostLeft_91 f k74) := s_lp (fun k91 q91 => sg_X8_mostLeft_91 C (sd_X8_mostLeft_128 f C q74) (sd_X8_mostLeft_119 f C q74 q91)) f
noncomputable def rw_X8_mostLeft_74 (f : Nat) : XK := tlp (fun k74 => rg_X8_mostLeft_74 (rw_X8_mostLeft_91 f k74)) f
noncomputable def lb_X8_mostLeft_74 (p1 : Int) (f : Nat) : ((Int × Int × Int × Int × Ob) → Option Rt) → Int × Int × Int × Int × Ob → Option Rt := fun k74 => mg_X8_mostLeft_74 p1 (md_X8_mostLeft_91 p1 f k74)
noncomputable def md_X8_mostLeft_74 (p1 : Int) (f : Nat) : Int × Int × Int × Int × Ob → Option Rt := tlp (lb_X8_mostLeft_74 p1 f) f
theorem eq_X8_mostLeft_74 (p1 : Int) (f : Nat) (a : Int × Int × Int × Int × Ob) : rw_X8_mostLeft_74 f (en_X8_mostLeft_74 p1 a) = md_X8_mostLeft_74 p1 f a :=
 tlp_enc (en_X8_mostLeft_74 p1) (fun k74 a => (rq_X8_mostLeft_74 p1 (rw_X8_mostLeft_91 f k74) a).trans (congrFun (congr (rfl : mg_X8_mostLeft_74 p1 = mg_X8_mostLeft_74 p1) (funext (eq_X8_mostLeft_91 p1 f k74))) a)) f a
theorem sd_X8_mostLeft_74 (f : Nat) {X : XDyn} {r0 : Rt} (C : XO X mX8_mostLeft) : XS X mX8_mostLeft r0 74 (rw_X8_mostLeft_74 f) := s_lp (fun k74 q74 => sg_X8_mostLeft_74 C (sd_X8_mostLeft_91 f C q74)) f
noncomputable def rw_X8_mostLeft_53 (f : Nat) (k7 : XK) : XK := rg_X8_mostLeft_53 k7
noncomputable def md_X8_mostLeft_53 (p1 : Int) (f : Nat) (k7 : (Int × Int × Int × Ob) → Option Rt) : Int × Int × Int × Ob → Option Rt := mg_X8_mostLeft_53 p1 k7
theorem eq_X8_mostLeft_53 (p1 : Int) (f : Nat) (k7 : XK) (a : Int × Int × Int × Ob) : rw_X8_mostLeft_53 f k7 (en_X8_mostLeft_53 p1 a) = md_X8_mostLeft_53 p1 f (fun b => k7 (en_X8_mostLeft_7 p1 b)) a :=
 (rq_X8_mostLeft_53 p1 k7 a).trans (congrFun (congr (rfl : mg_X8_mostLeft_53 p1 = mg_X8_mostLeft_53 p1) rfl) a)
theorem sd_X8_mostLeft_53 (f : Nat) {X : XDyn} {r0 : Rt} (C : XO X mX8_mostLeft) {k7 : XK} (q7 : XS X mX8_mostLeft r0 7 k7) : XS X mX8_mostLeft r0 53 (rw_X8_mostLeft_53 f k7) := sg_X8_mostLeft_53 C q7
noncomputable def rw_X8_mostLeft_7 (f : Nat) : XK := tlp (fun k7 => rg_X8_mostLeft_7 (rw_X8_mostLeft_74 f) (rw_X8_mostLeft_53 f k7)) f
noncomputable def lb_X8_mostLeft_7 (p1 : Int) (f : Nat) : ((Int × Int × Int × Ob) → Option Rt) → Int × Int × Int × Ob → Option Rt := fun k7 => mg_X8_mostLeft_7 p1 (md_X8_mostLeft_74 p1 f) (md_X8_mostLeft_53 p1 f k7)
noncomputable def md_X8_mostLeft_7 (p1 : Int) (f : Nat) : Int × Int × Int × Ob → Option Rt := tlp (lb_X8_mostLeft_7 p1 f) f
theorem eq_X8_mostLeft_7 (p1 : Int) (f : Nat) (a : Int × Int × Int × Ob) : rw_X8_mostLeft_7 f (en_X8_mostLeft_7 p1 a) = md_X8_mostLeft_7 p1 f a :=
 tlp_enc (en_X8_mostLeft_7 p1) (fun k7 a => (rq_X8_mostLeft_7 p1 (rw_X8_mostLeft_74 f) (rw_X8_mostLeft_53 f k7) a).trans (congrFun (congr (congr (rfl : mg_X8_mostLeft_7 p1 = mg_X8_mostLeft_7 p1) (funext (eq_X8_mostLeft_74 p1 f))) (funext (eq_X8_mostLeft_53 p1 f k7))) a)) f a
theorem sd_X8_mostLeft_7 (f : Nat) {X : XDyn} {r0 : Rt} (C : XO X mX8_mostLeft) : XS X mX8_mostLeft r0 7 (rw_X8_mostLeft_7 f) := s_lp (fun k7 q7 => sg_X8_mostLeft_7 C (sd_X8_mostLeft_74 f C) (sd_X8_mostLeft_53 f C q7)) f
noncomputable def rw_X8_mostLeft_0 (f : Nat) : XK := rg_X8_mostLeft_0 (rw_X8_mostLeft_7 f)
noncomputable def md_X8_mostLeft_0 (p1 : Int) (f : Nat) : Ob → Option Rt := mg_X8_mostLeft_0 p1 (md_X8_mostLeft_7 p1 f)
theorem eq_X8_mostLeft_0 (p1 : Int) (f : Nat) (a : Ob) : rw_X8_mostLeft_0 f (en_X8_mostLeft_0 p1 a) = md_X8_mostLeft_0 p1 f a :=
 (rq_X8_mostLeft_0 p1 (rw_X8_mostLeft_7 f) a).trans (congrFun (congr (rfl : mg_X8_mostLeft_0 p1 = mg_X8_mostLeft_0 p1) (funext (eq_X8_mostLeft_7 p1 f))) a)
theorem sd_X8_mostLeft_0 (f : Nat) {X : XDyn} {r0 : Rt} (C : XO X mX8_mostLeft) : XS X mX8_mostLeft r0 0 (rw_X8_mostLeft_0 f) := sg_X8_mostLeft_0 C (sd_X8_mostLeft_7 f C)
theorem ctr_X8_mostLeft (f : Nat) : XCt yX8_mostLeft mX8_mostLeft (xF mX8_mostLeft (rw_X8_mostLeft_0 f)) := xMet (by decide +kernel) rfl (fun _ _ C => sd_X8_mostLeft_0 f C)
theorem eqf_X8_mostLeft (f : Nat) (p1 : Int) (h0 : Ob) : xF mX8_mostLeft (rw_X8_mostLeft_0 f) [.inr (.inl (0, 0)), .inl p1] [h0] = md_X8_mostLeft_0 p1 f h0 := eq_X8_mostLeft_0 p1 f h0
theorem yi_X8_mostLeft : yX8_mostLeft.cls = RX8 ∧ yX8_mostLeft.cls ≠ "java/lang/invoke/MethodHandle" ∧ yX8_mostLeft.cls ≠ "java/lang/invoke/VarHandle" ∧ (parseMethodDescriptor yX8_mostLeft.desc).map (fun d => d.parameters.length) = some 1 := ⟨rfl, by decide +kernel, by decide +kernel, by decide +kernel⟩
noncomputable def ov_X8_mostLeft (p1 : Int) (h0 : Ob) : Option Rt := xop (md_X8_mostLeft_0 p1 xfu h0)
theorem ov_X8_mostLeft_e (p1 : Int) (h0 : Ob) : ov_X8_mostLeft p1 h0 = md_X8_mostLeft_0 p1 xfu h0 := xop_eq _
theorem sp_X8_mostLeft (p1 : Int) (h0 : Ob) (hg : oqI (ov_X8_mostLeft p1 h0) = true) : md_X8_mostLeft_0 p1 xfu h0 = RI (oqR (ov_X8_mostLeft p1 h0)) [(oqO (ov_X8_mostLeft p1 h0) 0)] := (ov_X8_mostLeft_e p1 h0).symm.trans (oqI_eq hg)
noncomputable def g_X8_mostLeft : List AV → List Ob → Bool
  | [.inr (.inl (0, 0)), .inl p1], [h0] => oqI (ov_X8_mostLeft p1 h0)
  | _, _ => false
noncomputable def v_X8_mostLeft : List AV → List Ob → Rt
  | [.inr (.inl (0, 0)), .inl p1], [h0] => (some (.inl (oqR (ov_X8_mostLeft p1 h0))), [(oqO (ov_X8_mostLeft p1 h0) 0)])
  | _, _ => (none, [])
theorem ct_X8_mostLeft : XCt yX8_mostLeft mX8_mostLeft (fun as μ => if g_X8_mostLeft as μ then some (v_X8_mostLeft as μ) else none) := (ctr_X8_mostLeft xfu).of (fun as μ r h => by
  split at h
  · rename_i hg
    unfold g_X8_mostLeft at hg
    split at hg
    · rw [← h]
      exact (eqf_X8_mostLeft xfu _ _).trans (sp_X8_mostLeft _ _ hg)
    · cases hg
  · cases h)
theorem dX8_othersBy_0 : decode cX8_othersBy 0 = .ok (.iconst 0, 1) := by decide +kernel
theorem dX8_othersBy_1 : decode cX8_othersBy 1 = .ok (.istore_n 2, 1) := by decide +kernel
theorem dX8_othersBy_2 : decode cX8_othersBy 2 = .ok (.iload_n 2, 1) := by decide +kernel
theorem dX8_othersBy_3 : decode cX8_othersBy 3 = .ok (.aload_n 0, 1) := by decide +kernel
theorem dX8_othersBy_4 : decode cX8_othersBy 4 = .ok (.getfield 119, 3) := by decide +kernel
theorem dX8_othersBy_7 : decode cX8_othersBy 7 = .ok (.if_icmp .ge 16, 3) := by decide +kernel
theorem dX8_othersBy_10 : decode cX8_othersBy 10 = .ok (.aload_n 0, 1) := by decide +kernel
theorem dX8_othersBy_11 : decode cX8_othersBy 11 = .ok (.getfield 53, 3) := by decide +kernel
theorem dX8_othersBy_14 : decode cX8_othersBy 14 = .ok (.iload_n 2, 1) := by decide +kernel
theorem dX8_othersBy_15 : decode cX8_othersBy 15 = .ok (.iconst 0, 1) := by decide +kernel
theorem dX8_othersBy_16 : decode cX8_othersBy 16 = .ok (.iastore, 1) := by decide +kernel
theorem dX8_othersBy_17 : decode cX8_othersBy 17 = .ok (.iinc 2 1, 3) := by decide +kernel
theorem dX8_othersBy_20 : decode cX8_othersBy 20 = .ok (.goto (-18), 3) := by decide +kernel
theorem dX8_othersBy_23 : decode cX8_othersBy 23 = .ok (.iconst 0, 1) := by decide +kernel
theorem dX8_othersBy_24 : decode cX8_othersBy 24 = .ok (.istore_n 2, 1) := by decide +kernel
theorem dX8_othersBy_25 : decode cX8_othersBy 25 = .ok (.iconst 0, 1) := by decide +kernel
theorem dX8_othersBy_26 : decode cX8_othersBy 26 = .ok (.istore_n 3, 1) := by decide +kernel
theorem dX8_othersBy_27 : decode cX8_othersBy 27 = .ok (.iload_n 3, 1) := by decide +kernel
theorem dX8_othersBy_28 : decode cX8_othersBy 28 = .ok (.aload_n 0, 1) := by decide +kernel
theorem dX8_othersBy_29 : decode cX8_othersBy 29 = .ok (.getfield 122, 3) := by decide +kernel
theorem dX8_othersBy_32 : decode cX8_othersBy 32 = .ok (.if_icmp .ge 56, 3) := by decide +kernel
theorem dX8_othersBy_35 : decode cX8_othersBy 35 = .ok (.aload_n 0, 1) := by decide +kernel
theorem dX8_othersBy_36 : decode cX8_othersBy 36 = .ok (.getfield 53, 3) := by decide +kernel
theorem dX8_othersBy_39 : decode cX8_othersBy 39 = .ok (.aload_n 0, 1) := by decide +kernel
theorem dX8_othersBy_40 : decode cX8_othersBy 40 = .ok (.getfield 47, 3) := by decide +kernel
theorem dX8_othersBy_43 : decode cX8_othersBy 43 = .ok (.iload_n 3, 1) := by decide +kernel
theorem dX8_othersBy_44 : decode cX8_othersBy 44 = .ok (.iaload, 1) := by decide +kernel
theorem dX8_othersBy_45 : decode cX8_othersBy 45 = .ok (.dup2, 1) := by decide +kernel
theorem dX8_othersBy_46 : decode cX8_othersBy 46 = .ok (.iaload, 1) := by decide +kernel
theorem dX8_othersBy_47 : decode cX8_othersBy 47 = .ok (.aload_n 0, 1) := by decide +kernel
theorem dX8_othersBy_48 : decode cX8_othersBy 48 = .ok (.aload_n 0, 1) := by decide +kernel
theorem dX8_othersBy_49 : decode cX8_othersBy 49 = .ok (.getfield 28, 3) := by decide +kernel
theorem dX8_othersBy_52 : decode cX8_othersBy 52 = .ok (.iload_n 3, 1) := by decide +kernel
theorem dX8_othersBy_53 : decode cX8_othersBy 53 = .ok (.iaload, 1) := by decide +kernel
theorem dX8_othersBy_54 : decode cX8_othersBy 54 = .ok (.invokevirtual 93, 3) := by decide +kernel
theorem dX8_othersBy_57 : decode cX8_othersBy 57 = .ok (.iadd, 1) := by decide +kernel
theorem dX8_othersBy_58 : decode cX8_othersBy 58 = .ok (.iastore, 1) := by decide +kernel
theorem dX8_othersBy_59 : decode cX8_othersBy 59 = .ok (.iload_n 2, 1) := by decide +kernel
theorem dX8_othersBy_60 : decode cX8_othersBy 60 = .ok (.aload_n 0, 1) := by decide +kernel
theorem dX8_othersBy_61 : decode cX8_othersBy 61 = .ok (.getfield 47, 3) := by decide +kernel
theorem dX8_othersBy_64 : decode cX8_othersBy 64 = .ok (.iload_n 3, 1) := by decide +kernel
theorem dX8_othersBy_65 : decode cX8_othersBy 65 = .ok (.iaload, 1) := by decide +kernel
theorem dX8_othersBy_66 : decode cX8_othersBy 66 = .ok (.aload_n 0, 1) := by decide +kernel
theorem dX8_othersBy_67 : decode cX8_othersBy 67 = .ok (.getfield 31, 3) := by decide +kernel
theorem dX8_othersBy_70 : decode cX8_othersBy 70 = .ok (.iload_n 3, 1) := by decide +kernel
theorem dX8_othersBy_71 : decode cX8_othersBy 71 = .ok (.iaload, 1) := by decide +kernel
theorem dX8_othersBy_72 : decode cX8_othersBy 72 = .ok (.if_icmp .ne 7, 3) := by decide +kernel
theorem dX8_othersBy_75 : decode cX8_othersBy 75 = .ok (.iconst 0, 1) := by decide +kernel
theorem dX8_othersBy_76 : decode cX8_othersBy 76 = .ok (.goto 4, 3) := by decide +kernel
theorem dX8_othersBy_79 : decode cX8_othersBy 79 = .ok (.iconst 1, 1) := by decide +kernel
theorem dX8_othersBy_80 : decode cX8_othersBy 80 = .ok (.iadd, 1) := by decide +kernel
theorem dX8_othersBy_81 : decode cX8_othersBy 81 = .ok (.istore_n 2, 1) := by decide +kernel
theorem dX8_othersBy_82 : decode cX8_othersBy 82 = .ok (.iinc 3 1, 3) := by decide +kernel
theorem dX8_othersBy_85 : decode cX8_othersBy 85 = .ok (.goto (-58), 3) := by decide +kernel
theorem dX8_othersBy_88 : decode cX8_othersBy 88 = .ok (.iconst 0, 1) := by decide +kernel
theorem dX8_othersBy_89 : decode cX8_othersBy 89 = .ok (.istore_n 3, 1) := by decide +kernel
theorem dX8_othersBy_90 : decode cX8_othersBy 90 = .ok (.iconst 0, 1) := by decide +kernel
theorem dX8_othersBy_91 : decode cX8_othersBy 91 = .ok (.istore 4, 2) := by decide +kernel
theorem dX8_othersBy_93 : decode cX8_othersBy 93 = .ok (.iload 4, 2) := by decide +kernel
theorem dX8_othersBy_95 : decode cX8_othersBy 95 = .ok (.aload_n 0, 1) := by decide +kernel
theorem dX8_othersBy_96 : decode cX8_othersBy 96 = .ok (.getfield 119, 3) := by decide +kernel
theorem dX8_othersBy_99 : decode cX8_othersBy 99 = .ok (.if_icmp .ge 57, 3) := by decide +kernel
theorem dX8_othersBy_102 : decode cX8_othersBy 102 = .ok (.aload_n 0, 1) := by decide +kernel
theorem dX8_othersBy_103 : decode cX8_othersBy 103 = .ok (.getfield 53, 3) := by decide +kernel
theorem dX8_othersBy_106 : decode cX8_othersBy 106 = .ok (.iload 4, 2) := by decide +kernel
theorem dX8_othersBy_108 : decode cX8_othersBy 108 = .ok (.iaload, 1) := by decide +kernel
theorem dX8_othersBy_109 : decode cX8_othersBy 109 = .ok (.aload_n 0, 1) := by decide +kernel
theorem dX8_othersBy_110 : decode cX8_othersBy 110 = .ok (.getfield 25, 3) := by decide +kernel
theorem dX8_othersBy_113 : decode cX8_othersBy 113 = .ok (.iload 4, 2) := by decide +kernel
theorem dX8_othersBy_115 : decode cX8_othersBy 115 = .ok (.iaload, 1) := by decide +kernel
theorem dX8_othersBy_116 : decode cX8_othersBy 116 = .ok (.if_icmp .le 5, 3) := by decide +kernel
theorem dX8_othersBy_119 : decode cX8_othersBy 119 = .ok (.iconst (-1), 1) := by decide +kernel
theorem dX8_othersBy_120 : decode cX8_othersBy 120 = .ok (.ireturn, 1) := by decide +kernel
theorem dX8_othersBy_121 : decode cX8_othersBy 121 = .ok (.iload_n 3, 1) := by decide +kernel
theorem dX8_othersBy_122 : decode cX8_othersBy 122 = .ok (.ifCond .ne 22, 3) := by decide +kernel
theorem dX8_othersBy_125 : decode cX8_othersBy 125 = .ok (.aload_n 0, 1) := by decide +kernel
theorem dX8_othersBy_126 : decode cX8_othersBy 126 = .ok (.getfield 25, 3) := by decide +kernel
theorem dX8_othersBy_129 : decode cX8_othersBy 129 = .ok (.iload 4, 2) := by decide +kernel
theorem dX8_othersBy_131 : decode cX8_othersBy 131 = .ok (.iaload, 1) := by decide +kernel
theorem dX8_othersBy_132 : decode cX8_othersBy 132 = .ok (.aload_n 0, 1) := by decide +kernel
theorem dX8_othersBy_133 : decode cX8_othersBy 133 = .ok (.getfield 53, 3) := by decide +kernel
theorem dX8_othersBy_136 : decode cX8_othersBy 136 = .ok (.iload 4, 2) := by decide +kernel
theorem dX8_othersBy_138 : decode cX8_othersBy 138 = .ok (.iaload, 1) := by decide +kernel
theorem dX8_othersBy_139 : decode cX8_othersBy 139 = .ok (.isub, 1) := by decide +kernel
theorem dX8_othersBy_140 : decode cX8_othersBy 140 = .ok (.iload_n 1, 1) := by decide +kernel
theorem dX8_othersBy_141 : decode cX8_othersBy 141 = .ok (.if_icmp .lt 7, 3) := by decide +kernel
theorem dX8_othersBy_144 : decode cX8_othersBy 144 = .ok (.iconst 1, 1) := by decide +kernel
theorem dX8_othersBy_145 : decode cX8_othersBy 145 = .ok (.goto 4, 3) := by decide +kernel
theorem dX8_othersBy_148 : decode cX8_othersBy 148 = .ok (.iconst 0, 1) := by decide +kernel
theorem dX8_othersBy_149 : decode cX8_othersBy 149 = .ok (.istore_n 3, 1) := by decide +kernel
theorem dX8_othersBy_150 : decode cX8_othersBy 150 = .ok (.iinc 4 1, 3) := by decide +kernel
theorem dX8_othersBy_153 : decode cX8_othersBy 153 = .ok (.goto (-60), 3) := by decide +kernel
theorem dX8_othersBy_156 : decode cX8_othersBy 156 = .ok (.iload_n 3, 1) := by decide +kernel
theorem dX8_othersBy_157 : decode cX8_othersBy 157 = .ok (.ifCond .eq 7, 3) := by decide +kernel
theorem dX8_othersBy_160 : decode cX8_othersBy 160 = .ok (.iload_n 2, 1) := by decide +kernel
theorem dX8_othersBy_161 : decode cX8_othersBy 161 = .ok (.goto 4, 3) := by decide +kernel
theorem dX8_othersBy_164 : decode cX8_othersBy 164 = .ok (.iconst (-1), 1) := by decide +kernel
theorem dX8_othersBy_165 : decode cX8_othersBy 165 = .ok (.ireturn, 1) := by decide +kernel
abbrev mX8_othersBy : XM := (cX8_othersBy, 5, RX8, (some .int), shw_8, 1)
noncomputable def rg_X8_othersBy_0 (k2 : XK) : XK :=
 o_iconst 0 <|
 o_istore 2 <|
 o_cut [] k2
def en_X8_othersBy_0 (p1 : Int) (a : Ob) : XSt := ([some (.inr (.inl (0, 0))), some (.inl p1), none, none, none], [], [a])
noncomputable def rg_X8_othersBy_2 (k27 : XK) (k2 : XK) : XK :=
 o_iload 2 <|
 o_aload 0 <|
 o_get shw_8 8 8 <|
 o_icmp_ge (o_iconst 0 <|
 o_istore 2 <|
 o_iconst 0 <|
 o_istore 3 <|
 o_cut [] k27)
 (o_aload 0 <|
 o_get shw_8 8 18 <|
 o_iload 2 <|
 o_iconst 0 <|
 o_iast shw_8 <|
 o_iinc 2 1 <|
 o_cut [] k2)
def en_X8_othersBy_2 (p1 : Int) (a : Int × Ob) : XSt := ([some (.inr (.inl (0, 0))), some (.inl p1), some (.inl a.1), none, none], [], [a.2])
noncomputable def rg_X8_othersBy_27 (k93 : XK) (k80 : XK) : XK :=
 o_iload 3 <|
 o_aload 0 <|
 o_get shw_8 8 11 <|
 o_icmp_ge (o_iconst 0 <|
 o_istore 3 <|
 o_iconst 0 <|
 o_istore 4 <|
 o_cut [] k93)
 (o_aload 0 <|
 o_get shw_8 8 18 <|
 o_aload 0 <|
 o_get shw_8 8 16 <|
 o_iload 3 <|
 o_iald shw_8 <|
 o_dup2 <|
 o_iald shw_8 <|
 o_aload 0 <|
 o_aload 0 <|
 o_get shw_8 8 9 <|
 o_iload 3 <|
 o_iald shw_8 <|
 o_callVg 2 1 [0] g_X8_lengthOf v_X8_lengthOf <|
 o_iadd <|
 o_iast shw_8 <|
 o_iload 2 <|
 o_aload 0 <|
 o_get shw_8 8 16 <|
 o_iload 3 <|
 o_iald shw_8 <|
 o_aload 0 <|
 o_get shw_8 8 10 <|
 o_iload 3 <|
 o_iald shw_8 <|
 o_icmp_ne (o_iconst 1 <|
 o_cut [2] k80)
 (o_iconst 0 <|
 o_cut [2] k80))
def en_X8_othersBy_27 (p1 : Int) (a : Int × Int × Ob) : XSt := ([some (.inr (.inl (0, 0))), some (.inl p1), some (.inl a.1), some (.inl a.2.1), none], [], [a.2.2])
noncomputable def rg_X8_othersBy_80 (k27 : XK) : XK :=
 o_iadd <|
 o_istore 2 <|
 o_iinc 3 1 <|
 o_cut [] k27
def en_X8_othersBy_80 (p1 : Int) (a : Int × Int × Int × Ob) : XSt := ([some (.inr (.inl (0, 0))), some (.inl p1), none, some (.inl a.1), none], [.inl a.2.2.1, .inl a.2.1], [a.2.2.2])
noncomputable def rg_X8_othersBy_93 (k144 : XK) (k149 : XK) : XK :=
 o_iload 4 <|
 o_aload 0 <|
 o_get shw_8 8 8 <|
 o_icmp_ge (o_iload 3 <|
 o_if_eq (o_iconst (-1) <|
 o_ireturn)
 (o_iload 2 <|
 o_ireturn))
 (o_aload 0 <|
 o_get shw_8 8 18 <|
 o_iload 4 <|
 o_iald shw_8 <|
 o_aload 0 <|
 o_get shw_8 8 7 <|
 o_iload 4 <|
 o_iald shw_8 <|
 o_icmp_le (o_iload 3 <|
 o_if_ne (o_cut [3] k144)
 (o_aload 0 <|
 o_get shw_8 8 7 <|
 o_iload 4 <|
 o_iald shw_8 <|
 o_aload 0 <|
 o_get shw_8 8 18 <|
 o_iload 4 <|
 o_iald shw_8 <|
 o_isub <|
 o_iload 1 <|
 o_icmp_lt (o_iconst 0 <|
 o_cut [3] k149)
 (o_cut [3] k144)))
 (o_iconst (-1) <|
 o_ireturn))
def en_X8_othersBy_93 (p1 : Int) (a : Int × Int × Int × Ob) : XSt := ([some (.inr (.inl (0, 0))), some (.inl p1), some (.inl a.1), some (.inl a.2.1), some (.inl a.2.2.1)], [], [a.2.2.2])
noncomputable def rg_X8_othersBy_144 (k149 : XK) : XK :=
 o_iconst 1 <|
 o_cut [] k149
def en_X8_othersBy_144 (p1 : Int) (a : Int × Int × Ob) : XSt := ([some (.inr (.inl (0, 0))), some (.inl p1), some (.inl a.1), none, some (.inl a.2.1)], [], [a.2.2])
noncomputable def rg_X8_othersBy_149 (k93 : XK) : XK :=
 o_istore 3 <|
 o_iinc 4 1 <|
 o_cut [] k93
def en_X8_othersBy_149 (p1 : Int) (a : Int × Int × Int × Ob) : XSt := ([some (.inr (.inl (0, 0))), some (.inl p1), some (.inl a.1), none, some (.inl a.2.1)], [.inl a.2.2.1], [a.2.2.2])
noncomputable def mg_X8_othersBy_0 (p1 : Int) (k2 : (Int × Ob) → Option Rt) (a : Ob) : Option Rt :=
 k2 (0, a)
set_option maxRecDepth 100000 in
set_option maxHeartbeats 4000000 in
theorem rq_X8_othersBy_0 (p1 : Int) (k2 : XK) (a : Ob) : rg_X8_othersBy_0 k2 (en_X8_othersBy_0 p1 a) = mg_X8_othersBy_0 p1 (fun b => k2 (en_X8_othersBy_2 p1 b)) a := rfl
set_option maxRecDepth 100000 in
set_option maxHeartbeats 4000000 in
theorem sg_X8_othersBy_0 {X : XDyn} {r0 : Rt} (C : XO X mX8_othersBy) {k2 : XK} (q2 : XS X mX8_othersBy r0 2 k2) : XS X mX8_othersBy r0 0 (rg_X8_othersBy_0 k2) := by
 unfold rg_X8_othersBy_0
 exact s_iconst (pc := 0) C dX8_othersBy_0 <|
    s_istore_n (pc := 1) C dX8_othersBy_1 rfl <|
    s_cut q2
noncomputable def mg_X8_othersBy_2 (p1 : Int) (k27 : (Int × Int × Ob) → Option Rt) (k2 : (Int × Ob) → Option Rt) (a : Int × Ob) : Option Rt :=
 if xw a.1 ≥ xw (a.2 0 8) then (k27 (0, 0, a.2))
 else (if xin a.1 16 then (
 k2 ((a.1 + 1), (xset a.2 15 (xw a.1).toNat 0))) else none)
set_option maxRecDepth 100000 in
set_option maxHeartbeats 4000000 in
theorem rq_X8_othersBy_2 (p1 : Int) (k27 : XK) (k2 : XK) (a : Int × Ob) : rg_X8_othersBy_2 k27 k2 (en_X8_othersBy_2 p1 a) = mg_X8_othersBy_2 p1 (fun b => k27 (en_X8_othersBy_27 p1 b)) (fun b => k2 (en_X8_othersBy_2 p1 b)) a := rfl
set_option maxRecDepth 100000 in
set_option maxHeartbeats 4000000 in
theorem sg_X8_othersBy_2 {X : XDyn} {r0 : Rt} (C : XO X mX8_othersBy) {k27 : XK} (q27 : XS X mX8_othersBy r0 27 k27) {k2 : XK} (q2 : XS X mX8_othersBy r0 2 k2) : XS X mX8_othersBy r0 2 (rg_X8_othersBy_2 k27 k2) := by
 unfold rg_X8_othersBy_2
 exact s_iload_n (pc := 2) C dX8_othersBy_2 rfl <|
    s_aload_n (pc := 3) C dX8_othersBy_3 rfl <|
    s_get (pc := 4) C (ci := 8) (kf := 8) rfl inX8 (by decide) wd_879 dX8_othersBy_4 <|
    s_icmp_ge (pc := 7) C dX8_othersBy_7 (by decide) (s_iconst (pc := 23) C dX8_othersBy_23 <|
    s_istore_n (pc := 24) C dX8_othersBy_24 rfl <|
    s_iconst (pc := 25) C dX8_othersBy_25 <|
    s_istore_n (pc := 26) C dX8_othersBy_26 rfl <|
    s_cut q27)
    (s_aload_n (pc := 10) C dX8_othersBy_10 rfl <|
    s_get (pc := 11) C (ci := 8) (kf := 18) rfl inX8 (by decide) wd_889 dX8_othersBy_11 <|
    s_iload_n (pc := 14) C dX8_othersBy_14 rfl <|
    s_iconst (pc := 15) C dX8_othersBy_15 <|
    s_iast (pc := 16) C dX8_othersBy_16 <|
    s_iinc (pc := 17) C dX8_othersBy_17 <|
    s_goto (pc := 20) C dX8_othersBy_20 (by decide) <|
    s_cut q2)
noncomputable def mg_X8_othersBy_27 (p1 : Int) (k93 : (Int × Int × Int × Ob) → Option Rt) (k80 : (Int × Int × Int × Ob) → Option Rt) (a : Int × Int × Ob) : Option Rt :=
 if xw a.2.1 ≥ xw (a.2.2 0 11) then (k93 (a.1, 0, 0, a.2.2))
 else (if xin a.2.1 8 then (
 if xin (a.2.2 13 (xw a.2.1).toNat) 16 then (
 if xin a.2.1 8 then (
 if hdl (a.2.2 7 (xw a.2.1).toNat) then (
 if xin (a.2.2 13 (xw a.2.1).toNat) 16 then (
 if xin a.2.1 8 then (
 if xin a.2.1 8 then (
 if xw ((xset a.2.2 15 (xw (a.2.2 13 (xw a.2.1).toNat)).toNat ((a.2.2 15 (xw (a.2.2 13 (xw a.2.1).toNat)).toNat) + (lenM a.2.2 (a.2.2 7 (xw a.2.1).toNat)))) 13 (xw a.2.1).toNat) = xw ((xset a.2.2 15 (xw (a.2.2 13 (xw a.2.1).toNat)).toNat ((a.2.2 15 (xw (a.2.2 13 (xw a.2.1).toNat)).toNat) + (lenM a.2.2 (a.2.2 7 (xw a.2.1).toNat)))) 8 (xw a.2.1).toNat) then (k80 (a.2.1, a.1, 0, (xset a.2.2 15 (xw (a.2.2 13 (xw a.2.1).toNat)).toNat ((a.2.2 15 (xw (a.2.2 13 (xw a.2.1).toNat)).toNat) + (lenM a.2.2 (a.2.2 7 (xw a.2.1).toNat))))))
 else (k80 (a.2.1, a.1, 1, (xset a.2.2 15 (xw (a.2.2 13 (xw a.2.1).toNat)).toNat ((a.2.2 15 (xw (a.2.2 13 (xw a.2.1).toNat)).toNat) + (lenM a.2.2 (a.2.2 7 (xw a.2.1).toNat))))))) else none) else none) else none) else none) else none) else none) else none)
set_option maxRecDepth 100000 in
set_option maxHeartbeats 4000000 in
theorem rq_X8_othersBy_27 (p1 : Int) (k93 : XK) (k80 : XK) (a : Int × Int × Ob) : rg_X8_othersBy_27 k93 k80 (en_X8_othersBy_27 p1 a) = mg_X8_othersBy_27 p1 (fun b => k93 (en_X8_othersBy_93 p1 b)) (fun b => k80 (en_X8_othersBy_80 p1 b)) a := rfl
set_option maxRecDepth 100000 in
set_option maxHeartbeats 4000000 in
theorem sg_X8_othersBy_27 {X : XDyn} {r0 : Rt} (C : XO X mX8_othersBy) {k93 : XK} (q93 : XS X mX8_othersBy r0 93 k93) {k80 : XK} (q80 : XS X mX8_othersBy r0 80 k80) : XS X mX8_othersBy r0 27 (rg_X8_othersBy_27 k93 k80) := by
 unfold rg_X8_othersBy_27
 exact s_iload_n (pc := 27) C dX8_othersBy_27 rfl <|
    s_aload_n (pc := 28) C dX8_othersBy_28 rfl <|
    s_get (pc := 29) C (ci := 8) (kf := 11) rfl inX8 (by decide) wd_882 dX8_othersBy_29 <|
    s_icmp_ge (pc := 32) C dX8_othersBy_32 (by decide) (s_iconst (pc := 88) C dX8_othersBy_88 <|
    s_istore_n (pc := 89) C dX8_othersBy_89 rfl <|
    s_iconst (pc := 90) C dX8_othersBy_90 <|
    s_istore (pc := 91) C dX8_othersBy_91 <|
    s_cut q93)
    (s_aload_n (pc := 35) C dX8_othersBy_35 rfl <|
    s_get (pc := 36) C (ci := 8) (kf := 18) rfl inX8 (by decide) wd_889 dX8_othersBy_36 <|
    s_aload_n (pc := 39) C dX8_othersBy_39 rfl <|
    s_get (pc := 40) C (ci := 8) (kf := 16) rfl inX8 (by decide) wd_887 dX8_othersBy_40 <|
    s_iload_n (pc := 43) C dX8_othersBy_43 rfl <|
    s_iald (pc := 44) C dX8_othersBy_44 <|
    s_dup2 (pc := 45) C dX8_othersBy_45 <|
    s_iald (pc := 46) C dX8_othersBy_46 <|
    s_aload_n (pc := 47) C dX8_othersBy_47 rfl <|
    s_aload_n (pc := 48) C dX8_othersBy_48 rfl <|
    s_get (pc := 49) C (ci := 8) (kf := 9) rfl inX8 (by decide) wd_880 dX8_othersBy_49 <|
    s_iload_n (pc := 52) C dX8_othersBy_52 rfl <|
    s_iald (pc := 53) C dX8_othersBy_53 <|
    s_callVg (pc := 54) C ct_X8_lengthOf (n := 2) (rk := 1) (mp := [0]) ⟨rfl, by decide, rfl⟩ (ci := 8) rfl rfl (by decide) (by decide) yi_X8_lengthOf (by decide) wd_994 wd_996 wd_25 wd_81 wd_997 dX8_othersBy_54 <|
    s_iadd (pc := 57) C dX8_othersBy_57 <|
    s_iast (pc := 58) C dX8_othersBy_58 <|
    s_iload_n (pc := 59) C dX8_othersBy_59 rfl <|
    s_aload_n (pc := 60) C dX8_othersBy_60 rfl <|
    s_get (pc := 61) C (ci := 8) (kf := 16) rfl inX8 (by decide) wd_887 dX8_othersBy_61 <|
    s_iload_n (pc := 64) C dX8_othersBy_64 rfl <|
    s_iald (pc := 65) C dX8_othersBy_65 <|
    s_aload_n (pc := 66) C dX8_othersBy_66 rfl <|
    s_get (pc := 67) C (ci := 8) (kf := 10) rfl inX8 (by decide) wd_881 dX8_othersBy_67 <|
    s_iload_n (pc := 70) C dX8_othersBy_70 rfl <|
    s_iald (pc := 71) C dX8_othersBy_71 <|
    s_icmp_ne (pc := 72) C dX8_othersBy_72 (by decide) (s_iconst (pc := 79) C dX8_othersBy_79 <|
    s_cut q80)
    (s_iconst (pc := 75) C dX8_othersBy_75 <|
    s_goto (pc := 76) C dX8_othersBy_76 (by decide) <|
    s_cut q80))
noncomputable def mg_X8_othersBy_80 (p1 : Int) (k27 : (Int × Int × Ob) → Option Rt) (a : Int × Int × Int × Ob) : Option Rt :=
 k27 ((a.2.1 + a.2.2.1), (a.1 + 1), a.2.2.2)
set_option maxRecDepth 100000 in
set_option maxHeartbeats 4000000 in
theorem rq_X8_othersBy_80 (p1 : Int) (k27 : XK) (a : Int × Int × Int × Ob) : rg_X8_othersBy_80 k27 (en_X8_othersBy_80 p1 a) = mg_X8_othersBy_80 p1 (fun b => k27 (en_X8_othersBy_27 p1 b)) a := rfl
set_option maxRecDepth 100000 in
set_option maxHeartbeats 4000000 in
theorem sg_X8_othersBy_80 {X : XDyn} {r0 : Rt} (C : XO X mX8_othersBy) {k27 : XK} (q27 : XS X mX8_othersBy r0 27 k27) : XS X mX8_othersBy r0 80 (rg_X8_othersBy_80 k27) := by
 unfold rg_X8_othersBy_80
 exact s_iadd (pc := 80) C dX8_othersBy_80 <|
    s_istore_n (pc := 81) C dX8_othersBy_81 rfl <|
    s_iinc (pc := 82) C dX8_othersBy_82 <|
    s_goto (pc := 85) C dX8_othersBy_85 (by decide) <|
    s_cut q27
noncomputable def mg_X8_othersBy_93 (p1 : Int) (k144 : (Int × Int × Ob) → Option Rt) (k149 : (Int × Int × Int × Ob) → Option Rt) (a : Int × Int × Int × Ob) : Option Rt :=
 if xw a.2.2.1 ≥ xw (a.2.2.2 0 8) then (if xw a.2.1 = 0 then (RI (-1) [a.2.2.2])
 else (RI a.1 [a.2.2.2]))
 else (if xin a.2.2.1 16 then (
 if xin a.2.2.1 16 then (
 if xw (a.2.2.2 15 (xw a.2.2.1).toNat) ≤ xw (a.2.2.2 6 (xw a.2.2.1).toNat) then (if xw a.2.1 = 0 then (if xin a.2.2.1 16 then (
 if xin a.2.2.1 16 then (
 if xw ((a.2.2.2 6 (xw a.2.2.1).toNat) - (a.2.2.2 15 (xw a.2.2.1).toNat)) < xw p1 then (k149 (a.1, a.2.2.1, 0, a.2.2.2))
 else (k144 (a.1, a.2.2.1, a.2.2.2))) else none) else none)
 else (k144 (a.1, a.2.2.1, a.2.2.2)))
 else (RI (-1) [a.2.2.2])) else none) else none)
set_option maxRecDepth 100000 in
set_option maxHeartbeats 4000000 in
theorem rq_X8_othersBy_93 (p1 : Int) (k144 : XK) (k149 : XK) (a : Int × Int × Int × Ob) : rg_X8_othersBy_93 k144 k149 (en_X8_othersBy_93 p1 a) = mg_X8_othersBy_93 p1 (fun b => k144 (en_X8_othersBy_144 p1 b)) (fun b => k149 (en_X8_othersBy_149 p1 b)) a := rfl
set_option maxRecDepth 100000 in
set_option maxHeartbeats 4000000 in
theorem sg_X8_othersBy_93 {X : XDyn} {r0 : Rt} (C : XO X mX8_othersBy) {k144 : XK} (q144 : XS X mX8_othersBy r0 144 k144) {k149 : XK} (q149 : XS X mX8_othersBy r0 149 k149) : XS X mX8_othersBy r0 93 (rg_X8_othersBy_93 k144 k149) := by
 unfold rg_X8_othersBy_93
 exact s_iload (pc := 93) C dX8_othersBy_93 <|
    s_aload_n (pc := 95) C dX8_othersBy_95 rfl <|
    s_get (pc := 96) C (ci := 8) (kf := 8) rfl inX8 (by decide) wd_879 dX8_othersBy_96 <|
    s_icmp_ge (pc := 99) C dX8_othersBy_99 (by decide) (s_iload_n (pc := 156) C dX8_othersBy_156 rfl <|
    s_if_eq (pc := 157) C dX8_othersBy_157 (by decide) (s_iconst (pc := 164) C dX8_othersBy_164 <|
    s_ireturn (pc := 165) C rfl dX8_othersBy_165)
    (s_iload_n (pc := 160) C dX8_othersBy_160 rfl <|
    s_goto (pc := 161) C dX8_othersBy_161 (by decide) <|
    s_ireturn (pc := 165) C rfl dX8_othersBy_165))
    (s_aload_n (pc := 102) C dX8_othersBy_102 rfl <|
    s_get (pc := 103) C (ci := 8) (kf := 18) rfl inX8 (by decide) wd_889 dX8_othersBy_103 <|
    s_iload (pc := 106) C dX8_othersBy_106 <|
    s_iald (pc := 108) C dX8_othersBy_108 <|
    s_aload_n (pc := 109) C dX8_othersBy_109 rfl <|
    s_get (pc := 110) C (ci := 8) (kf := 7) rfl inX8 (by decide) wd_878 dX8_othersBy_110 <|
    s_iload (pc := 113) C dX8_othersBy_113 <|
    s_iald (pc := 115) C dX8_othersBy_115 <|
    s_icmp_le (pc := 116) C dX8_othersBy_116 (by decide) (s_iload_n (pc := 121) C dX8_othersBy_121 rfl <|
    s_if_ne (pc := 122) C dX8_othersBy_122 (by decide) (s_cut q144)
    (s_aload_n (pc := 125) C dX8_othersBy_125 rfl <|
    s_get (pc := 126) C (ci := 8) (kf := 7) rfl inX8 (by decide) wd_878 dX8_othersBy_126 <|
    s_iload (pc := 129) C dX8_othersBy_129 <|
    s_iald (pc := 131) C dX8_othersBy_131 <|
    s_aload_n (pc := 132) C dX8_othersBy_132 rfl <|
    s_get (pc := 133) C (ci := 8) (kf := 18) rfl inX8 (by decide) wd_889 dX8_othersBy_133 <|
    s_iload (pc := 136) C dX8_othersBy_136 <|
    s_iald (pc := 138) C dX8_othersBy_138 <|
    s_isub (pc := 139) C dX8_othersBy_139 <|
    s_iload_n (pc := 140) C dX8_othersBy_140 rfl <|
    s_icmp_lt (pc := 141) C dX8_othersBy_141 (by decide) (s_iconst (pc := 148) C dX8_othersBy_148 <|
    s_cut q149)
    (s_cut q144)))
    (s_iconst (pc := 119) C dX8_othersBy_119 <|
    s_ireturn (pc := 120) C rfl dX8_othersBy_120))
noncomputable def mg_X8_othersBy_144 (p1 : Int) (k149 : (Int × Int × Int × Ob) → Option Rt) (a : Int × Int × Ob) : Option Rt :=
 k149 (a.1, a.2.1, 1, a.2.2)
set_option maxRecDepth 100000 in
set_option maxHeartbeats 4000000 in
theorem rq_X8_othersBy_144 (p1 : Int) (k149 : XK) (a : Int × Int × Ob) : rg_X8_othersBy_144 k149 (en_X8_othersBy_144 p1 a) = mg_X8_othersBy_144 p1 (fun b => k149 (en_X8_othersBy_149 p1 b)) a := rfl
set_option maxRecDepth 100000 in
set_option maxHeartbeats 4000000 in
theorem sg_X8_othersBy_144 {X : XDyn} {r0 : Rt} (C : XO X mX8_othersBy) {k149 : XK} (q149 : XS X mX8_othersBy r0 149 k149) : XS X mX8_othersBy r0 144 (rg_X8_othersBy_144 k149) := by
 unfold rg_X8_othersBy_144
 exact s_iconst (pc := 144) C dX8_othersBy_144 <|
    s_goto (pc := 145) C dX8_othersBy_145 (by decide) <|
    s_cut q149
noncomputable def mg_X8_othersBy_149 (p1 : Int) (k93 : (Int × Int × Int × Ob) → Option Rt) (a : Int × Int × Int × Ob) : Option Rt :=
 k93 (a.1, a.2.2.1, (a.2.1 + 1), a.2.2.2)
set_option maxRecDepth 100000 in
set_option maxHeartbeats 4000000 in
theorem rq_X8_othersBy_149 (p1 : Int) (k93 : XK) (a : Int × Int × Int × Ob) : rg_X8_othersBy_149 k93 (en_X8_othersBy_149 p1 a) = mg_X8_othersBy_149 p1 (fun b => k93 (en_X8_othersBy_93 p1 b)) a := rfl
set_option maxRecDepth 100000 in
set_option maxHeartbeats 4000000 in
theorem sg_X8_othersBy_149 {X : XDyn} {r0 : Rt} (C : XO X mX8_othersBy) {k93 : XK} (q93 : XS X mX8_othersBy r0 93 k93) : XS X mX8_othersBy r0 149 (rg_X8_othersBy_149 k93) := by
 unfold rg_X8_othersBy_149
 exact s_istore_n (pc := 149) C dX8_othersBy_149 rfl <|
    s_iinc (pc := 150) C dX8_othersBy_150 <|
    s_goto (pc := 153) C dX8_othersBy_153 (by decide) <|
    s_cut q93
noncomputable def rw_X8_othersBy_149 (f : Nat) (k93 : XK) : XK := rg_X8_othersBy_149 k93
noncomputable def md_X8_othersBy_149 (p1 : Int) (f : Nat) (k93 : (Int × Int × Int × Ob) → Option Rt) : Int × Int × Int × Ob → Option Rt := mg_X8_othersBy_149 p1 k93
theorem eq_X8_othersBy_149 (p1 : Int) (f : Nat) (k93 : XK) (a : Int × Int × Int × Ob) : rw_X8_othersBy_149 f k93 (en_X8_othersBy_149 p1 a) = md_X8_othersBy_149 p1 f (fun b => k93 (en_X8_othersBy_93 p1 b)) a :=
 (rq_X8_othersBy_149 p1 k93 a).trans (congrFun (congr (rfl : mg_X8_othersBy_149 p1 = mg_X8_othersBy_149 p1) rfl) a)
theorem sd_X8_othersBy_149 (f : Nat) {X : XDyn} {r0 : Rt} (C : XO X mX8_othersBy) {k93 : XK} (q93 : XS X mX8_othersBy r0 93 k93) : XS X mX8_othersBy r0 149 (rw_X8_othersBy_149 f k93) := sg_X8_othersBy_149 C q93
noncomputable def rw_X8_othersBy_144 (f : Nat) (k93 : XK) : XK := rg_X8_othersBy_144 (rw_X8_othersBy_149 f k93)
noncomputable def md_X8_othersBy_144 (p1 : Int) (f : Nat) (k93 : (Int × Int × Int × Ob) → Option Rt) : Int × Int × Ob → Option Rt := mg_X8_othersBy_144 p1 (md_X8_othersBy_149 p1 f k93)
theorem eq_X8_othersBy_144 (p1 : Int) (f : Nat) (k93 : XK) (a : Int × Int × Ob) : rw_X8_othersBy_144 f k93 (en_X8_othersBy_144 p1 a) = md_X8_othersBy_144 p1 f (fun b => k93 (en_X8_othersBy_93 p1 b)) a :=
 (rq_X8_othersBy_144 p1 (rw_X8_othersBy_149 f k93) a).trans (congrFun (congr (rfl : mg_X8_othersBy_144 p1 = mg_X8_othersBy_144 p1) (funext (eq_X8_othersBy_149 p1 f k93))) a)
theorem sd_X8_othersBy_144 (f : Nat) {X : XDyn} {r0 : Rt} (C : XO X mX8_othersBy) {k93 : XK} (q93 : XS X mX8_othersBy r0 93 k93) : XS X mX8_othersBy r0 144 (rw_X8_othersBy_144 f k93) := sg_X8_othersBy_144 C (sd_X8_othersBy_149 f C q93)
noncomputable def rw_X8_othersBy_93 (f : Nat) : XK := tlp (fun k93 => rg_X8_othersBy_93 (rw_X8_othersBy_144 f k93) (rw_X8_othersBy_149 f k93)) f
noncomputable def lb_X8_othersBy_93 (p1 : Int) (f : Nat) : ((Int × Int × Int × Ob) → Option Rt) → Int × Int × Int × Ob → Option Rt := fun k93 => mg_X8_othersBy_93 p1 (md_X8_othersBy_144 p1 f k93) (md_X8_othersBy_149 p1 f k93)
noncomputable def md_X8_othersBy_93 (p1 : Int) (f : Nat) : Int × Int × Int × Ob → Option Rt := tlp (lb_X8_othersBy_93 p1 f) f
theorem eq_X8_othersBy_93 (p1 : Int) (f : Nat) (a : Int × Int × Int × Ob) : rw_X8_othersBy_93 f (en_X8_othersBy_93 p1 a) = md_X8_othersBy_93 p1 f a :=
 tlp_enc (en_X8_othersBy_93 p1) (fun k93 a => (rq_X8_othersBy_93 p1 (rw_X8_othersBy_144 f k93) (rw_X8_othersBy_149 f k93) a).trans (congrFun (congr (congr (rfl : mg_X8_othersBy_93 p1 = mg_X8_othersBy_93 p1) (funext (eq_X8_othersBy_144 p1 f k93))) (funext (eq_X8_othersBy_149 p1 f k93))) a)) f a
theorem sd_X8_othersBy_93 (f : Nat) {X : XDyn} {r0 : Rt} (C : XO X mX8_othersBy) : XS X mX8_othersBy r0 93 (rw_X8_othersBy_93 f) := s_lp (fun k93 q93 => sg_X8_othersBy_93 C (sd_X8_othersBy_144 f C q93) (sd_X8_othersBy_149 f C q93)) f
noncomputable def rw_X8_othersBy_80 (f : Nat) (k27 : XK) : XK := rg_X8_othersBy_80 k27
noncomputable def md_X8_othersBy_80 (p1 : Int) (f : Nat) (k27 : (Int × Int × Ob) → Option Rt) : Int × Int × Int × Ob → Option Rt := mg_X8_othersBy_80 p1 k27
theorem eq_X8_othersBy_80 (p1 : Int) (f : Nat) (k27 : XK) (a : Int × Int × Int × Ob) : rw_X8_othersBy_80 f k27 (en_X8_othersBy_80 p1 a) = md_X8_othersBy_80 p1 f (fun b => k27 (en_X8_othersBy_27 p1 b)) a :=
 (rq_X8_othersBy_80 p1 k27 a).trans (congrFun (congr (rfl : mg_X8_othersBy_80 p1 = mg_X8_othersBy_80 p1) rfl) a)
theorem sd_X8_othersBy_80 (f : Nat) {X : XDyn} {r0 : Rt} (C : XO X mX8_othersBy) {k27 : XK} (q27 : XS X mX8_othersBy r0 27 k27) : XS X mX8_othersBy r0 80 (rw_X8_othersBy_80 f k27) := sg_X8_othersBy_80 C q27
noncomputable def rw_X8_othersBy_27 (f : Nat) : XK := tlp (fun k27 => rg_X8_othersBy_27 (rw_X8_othersBy_93 f) (rw_X8_othersBy_80 f k27)) f
noncomputable def lb_X8_othersBy_27 (p1 : Int) (f : Nat) : ((Int × Int × Ob) → Option Rt) → Int × Int × Ob → Option Rt := fun k27 => mg_X8_othersBy_27 p1 (md_X8_othersBy_93 p1 f) (md_X8_othersBy_80 p1 f k27)
noncomputable def md_X8_othersBy_27 (p1 : Int) (f : Nat) : Int × Int × Ob → Option Rt := tlp (lb_X8_othersBy_27 p1 f) f
theorem eq_X8_othersBy_27 (p1 : Int) (f : Nat) (a : Int × Int × Ob) : rw_X8_othersBy_27 f (en_X8_othersBy_27 p1 a) = md_X8_othersBy_27 p1 f a :=
 tlp_enc (en_X8_othersBy_27 p1) (fun k27 a => (rq_X8_othersBy_27 p1 (rw_X8_othersBy_93 f) (rw_X8_othersBy_80 f k27) a).trans (congrFun (congr (congr (rfl : mg_X8_othersBy_27 p1 = mg_X8_othersBy_27 p1) (funext (eq_X8_othersBy_93 p1 f))) (funext (eq_X8_othersBy_80 p1 f k27))) a)) f a
theorem sd_X8_othersBy_27 (f : Nat) {X : XDyn} {r0 : Rt} (C : XO X mX8_othersBy) : XS X mX8_othersBy r0 27 (rw_X8_othersBy_27 f) := s_lp (fun k27 q27 => sg_X8_othersBy_27 C (sd_X8_othersBy_93 f C) (sd_X8_othersBy_80 f C q27)) f
noncomputable def rw_X8_othersBy_2 (f : Nat) : XK := tlp (fun k2 => rg_X8_othersBy_2 (rw_X8_othersBy_27 f) k2) f
noncomputable def lb_X8_othersBy_2 (p1 : Int) (f : Nat) : ((Int × Ob) → Option Rt) → Int × Ob → Option Rt := fun k2 => mg_X8_othersBy_2 p1 (md_X8_othersBy_27 p1 f) k2
noncomputable def md_X8_othersBy_2 (p1 : Int) (f : Nat) : Int × Ob → Option Rt := tlp (lb_X8_othersBy_2 p1 f) f
theorem eq_X8_othersBy_2 (p1 : Int) (f : Nat) (a : Int × Ob) : rw_X8_othersBy_2 f (en_X8_othersBy_2 p1 a) = md_X8_othersBy_2 p1 f a :=
 tlp_enc (en_X8_othersBy_2 p1) (fun k2 a => (rq_X8_othersBy_2 p1 (rw_X8_othersBy_27 f) k2 a).trans (congrFun (congr (congr (rfl : mg_X8_othersBy_2 p1 = mg_X8_othersBy_2 p1) (funext (eq_X8_othersBy_27 p1 f))) rfl) a)) f a
theorem sd_X8_othersBy_2 (f : Nat) {X : XDyn} {r0 : Rt} (C : XO X mX8_othersBy) : XS X mX8_othersBy r0 2 (rw_X8_othersBy_2 f) := s_lp (fun k2 q2 => sg_X8_othersBy_2 C (sd_X8_othersBy_27 f C) q2) f
noncomputable def rw_X8_othersBy_0 (f : Nat) : XK := rg_X8_othersBy_0 (rw_X8_othersBy_2 f)
noncomputable def md_X8_othersBy_0 (p1 : Int) (f : Nat) : Ob → Option Rt := mg_X8_othersBy_0 p1 (md_X8_othersBy_2 p1 f)
theorem eq_X8_othersBy_0 (p1 : Int) (f : Nat) (a : Ob) : rw_X8_othersBy_0 f (en_X8_othersBy_0 p1 a) = md_X8_othersBy_0 p1 f a :=
 (rq_X8_othersBy_0 p1 (rw_X8_othersBy_2 f) a).trans (congrFun (congr (rfl : mg_X8_othersBy_0 p1 = mg_X8_othersBy_0 p1) (funext (eq_X8_othersBy_2 p1 f))) a)
theorem sd_X8_othersBy_0 (f : Nat) {X : XDyn} {r0 : Rt} (C : XO X mX8_othersBy) : XS X mX8_othersBy r0 0 (rw_X8_othersBy_0 f) := sg_X8_othersBy_0 C (sd_X8_othersBy_2 f C)
theorem ctr_X8_othersBy (f : Nat) : XCt yX8_othersBy mX8_othersBy (xF mX8_othersBy (rw_X8_othersBy_0 f)) := xMet (by decide +kernel) rfl (fun _ _ C => sd_X8_othersBy_0 f C)
theorem eqf_X8_othersBy (f : Nat) (p1 : Int) (h0 : Ob) : xF mX8_othersBy (rw_X8_othersBy_0 f) [.inr (.inl (0, 0)), .inl p1] [h0] = md_X8_othersBy_0 p1 f h0 := eq_X8_othersBy_0 p1 f h0
theorem yi_X8_othersBy : yX8_othersBy.cls = RX8 ∧ yX8_othersBy.cls ≠ "java/lang/invoke/MethodHandle" ∧ yX8_othersBy.cls ≠ "java/lang/invoke/VarHandle" ∧ (parseMethodDescriptor yX8_othersBy.desc).map (fun d => d.parameters.length) = some 1 := ⟨rfl, by decide +kernel, by decide +kernel, by decide +kernel⟩
noncomputable def ov_X8_othersBy (p1 : Int) (h0 : Ob) : Option Rt := xop (md_X8_othersBy_0 p1 xfu h0)
theorem ov_X8_othersBy_e (p1 : Int) (h0 : Ob) : ov_X8_othersBy p1 h0 = md_X8_othersBy_0 p1 xfu h0 := xop_eq _
theorem sp_X8_othersBy (p1 : Int) (h0 : Ob) (hg : oqI (ov_X8_othersBy p1 h0) = true) : md_X8_othersBy_0 p1 xfu h0 = RI (oqR (ov_X8_othersBy p1 h0)) [(oqO (ov_X8_othersBy p1 h0) 0)] := (ov_X8_othersBy_e p1 h0).symm.trans (oqI_eq hg)
noncomputable def g_X8_othersBy : List AV → List Ob → Bool
  | [.inr (.inl (0, 0)), .inl p1], [h0] => oqI (ov_X8_othersBy p1 h0)
  | _, _ => false
noncomputable def v_X8_othersBy : List AV → List Ob → Rt
  | [.inr (.inl (0, 0)), .inl p1], [h0] => (some (.inl (oqR (ov_X8_othersBy p1 h0))), [(oqO (ov_X8_othersBy p1 h0) 0)])
  | _, _ => (none, [])
theorem ct_X8_othersBy : XCt yX8_othersBy mX8_othersBy (fun as μ => if g_X8_othersBy as μ then some (v_X8_othersBy as μ) else none) := (ctr_X8_othersBy xfu).of (fun as μ r h => by
  split at h
  · rename_i hg
    unfold g_X8_othersBy at hg
    split at hg
    · rw [← h]
      exact (eqf_X8_othersBy xfu _ _).trans (sp_X8_othersBy _ _ hg)
    · cases hg
  · cases h)
theorem dX8_turnsOn_0 : decode cX8_turnsOn 0 = .ok (.aload_n 0, 1) := by decide +kernel
theorem dX8_turnsOn_1 : decode cX8_turnsOn 1 = .ok (.getfield 122, 3) := by decide +kernel
theorem dX8_turnsOn_4 : decode cX8_turnsOn 4 = .ok (.iconst 1, 1) := by decide +kernel
theorem dX8_turnsOn_5 : decode cX8_turnsOn 5 = .ok (.isub, 1) := by decide +kernel
theorem dX8_turnsOn_6 : decode cX8_turnsOn 6 = .ok (.istore_n 1, 1) := by decide +kernel
theorem dX8_turnsOn_7 : decode cX8_turnsOn 7 = .ok (.iload_n 1, 1) := by decide +kernel
theorem dX8_turnsOn_8 : decode cX8_turnsOn 8 = .ok (.ifCond .lt 31, 3) := by decide +kernel
theorem dX8_turnsOn_11 : decode cX8_turnsOn 11 = .ok (.aload_n 0, 1) := by decide +kernel
theorem dX8_turnsOn_12 : decode cX8_turnsOn 12 = .ok (.getfield 47, 3) := by decide +kernel
theorem dX8_turnsOn_15 : decode cX8_turnsOn 15 = .ok (.iload_n 1, 1) := by decide +kernel
theorem dX8_turnsOn_16 : decode cX8_turnsOn 16 = .ok (.iaload, 1) := by decide +kernel
theorem dX8_turnsOn_17 : decode cX8_turnsOn 17 = .ok (.aload_n 0, 1) := by decide +kernel
theorem dX8_turnsOn_18 : decode cX8_turnsOn 18 = .ok (.getfield 119, 3) := by decide +kernel
theorem dX8_turnsOn_21 : decode cX8_turnsOn 21 = .ok (.iconst 1, 1) := by decide +kernel
theorem dX8_turnsOn_22 : decode cX8_turnsOn 22 = .ok (.isub, 1) := by decide +kernel
theorem dX8_turnsOn_23 : decode cX8_turnsOn 23 = .ok (.if_icmp .ne 16, 3) := by decide +kernel
theorem dX8_turnsOn_26 : decode cX8_turnsOn 26 = .ok (.aload_n 0, 1) := by decide +kernel
theorem dX8_turnsOn_27 : decode cX8_turnsOn 27 = .ok (.getfield 47, 3) := by decide +kernel
theorem dX8_turnsOn_30 : decode cX8_turnsOn 30 = .ok (.iload_n 1, 1) := by decide +kernel
theorem dX8_turnsOn_31 : decode cX8_turnsOn 31 = .ok (.iconst 0, 1) := by decide +kernel
theorem dX8_turnsOn_32 : decode cX8_turnsOn 32 = .ok (.iastore, 1) := by decide +kernel
theorem dX8_turnsOn_33 : decode cX8_turnsOn 33 = .ok (.iinc 1 (-1), 3) := by decide +kernel
theorem dX8_turnsOn_36 : decode cX8_turnsOn 36 = .ok (.goto (-29), 3) := by decide +kernel
theorem dX8_turnsOn_39 : decode cX8_turnsOn 39 = .ok (.iload_n 1, 1) := by decide +kernel
theorem dX8_turnsOn_40 : decode cX8_turnsOn 40 = .ok (.ifCond .ge 5, 3) := by decide +kernel
theorem dX8_turnsOn_43 : decode cX8_turnsOn 43 = .ok (.iconst 0, 1) := by decide +kernel
theorem dX8_turnsOn_44 : decode cX8_turnsOn 44 = .ok (.ireturn, 1) := by decide +kernel
theorem dX8_turnsOn_45 : decode cX8_turnsOn 45 = .ok (.aload_n 0, 1) := by decide +kernel
theorem dX8_turnsOn_46 : decode cX8_turnsOn 46 = .ok (.getfield 47, 3) := by decide +kernel
theorem dX8_turnsOn_49 : decode cX8_turnsOn 49 = .ok (.iload_n 1, 1) := by decide +kernel
theorem dX8_turnsOn_50 : decode cX8_turnsOn 50 = .ok (.dup2, 1) := by decide +kernel
theorem dX8_turnsOn_51 : decode cX8_turnsOn 51 = .ok (.iaload, 1) := by decide +kernel
theorem dX8_turnsOn_52 : decode cX8_turnsOn 52 = .ok (.iconst 1, 1) := by decide +kernel
theorem dX8_turnsOn_53 : decode cX8_turnsOn 53 = .ok (.iadd, 1) := by decide +kernel
theorem dX8_turnsOn_54 : decode cX8_turnsOn 54 = .ok (.iastore, 1) := by decide +kernel
theorem dX8_turnsOn_55 : decode cX8_turnsOn 55 = .ok (.iconst 1, 1) := by decide +kernel
theorem dX8_turnsOn_56 : decode cX8_turnsOn 56 = .ok (.ireturn, 1) := by decide +kernel
abbrev mX8_turnsOn : XM := (cX8_turnsOn, 2, RX8, (some .boolean), shw_8, 0)
noncomputable def rg_X8_turnsOn_0 (k7 : XK) : XK :=
 o_aload 0 <|
 o_get shw_8 8 11 <|
 o_iconst 1 <|
 o_isub <|
 o_istore 1 <|
 o_cut [] k7
def en_X8_turnsOn_0 (a : Ob) : XSt := ([some (.inr (.inl (0, 0))), none], [], [a])
noncomputable def rg_X8_turnsOn_7 (k39 : XK) (k7 : XK) : XK :=
 o_iload 1 <|
 o_if_lt (o_cut [] k39)
 (o_aload 0 <|
 o_get shw_8 8 16 <|
 o_iload 1 <|
 o_iald shw_8 <|
 o_aload 0 <|
 o_get shw_8 8 8 <|
 o_iconst 1 <|
 o_isub <|
 o_icmp_ne (o_cut [] k39)
 (o_aload 0 <|
 o_get shw_8 8 16 <|
 o_iload 1 <|
 o_iconst 0 <|
 o_iast shw_8 <|
 o_iinc 1 (-1) <|
 o_cut [] k7))
def en_X8_turnsOn_7 (a : Int × Ob) : XSt := ([some (.inr (.inl (0, 0))), some (.inl a.1)], [], [a.2])
noncomputable def rg_X8_turnsOn_39 : XK :=
 o_iload 1 <|
 o_if_ge (o_aload 0 <|
 o_get shw_8 8 16 <|
 o_iload 1 <|
 o_dup2 <|
 o_iald shw_8 <|
 o_iconst 1 <|
 o_iadd <|
 o_iast shw_8 <|
 o_iconst 1 <|
 o_zreturn)
 (o_iconst 0 <|
 o_zreturn)
def en_X8_turnsOn_39 (a : Int × Ob) : XSt := ([some (.inr (.inl (0, 0))), some (.inl a.1)], [], [a.2])
noncomputable def mg_X8_turnsOn_0 (k7 : (Int × Ob) → Option Rt) (a : Ob) : Option Rt :=
 k7 (((a 0 11) - 1), a)
set_option maxRecDepth 100000 in
set_option maxHeartbeats 4000000 in
theorem rq_X8_turnsOn_0 (k7 : XK) (a : Ob) : rg_X8_turnsOn_0 k7 (en_X8_turnsOn_0 a) = mg_X8_turnsOn_0 (fun b => k7 (en_X8_turnsOn_7 b)) a := rfl
set_option maxRecDepth 100000 in
set_option maxHeartbeats 4000000 in
theorem sg_X8_turnsOn_0 {X : XDyn} {r0 : Rt} (C : XO X mX8_turnsOn) {k7 : XK} (q7 : XS X mX8_turnsOn r0 7 k7) : XS X mX8_turnsOn r0 0 (rg_X8_turnsOn_0 k7) := by
 unfold rg_X8_turnsOn_0
 exact s_aload_n (pc := 0) C dX8_turnsOn_0 rfl <|
    s_get (pc := 1) C (ci := 8) (kf := 11) rfl inX8 (by decide) wd_882 dX8_turnsOn_1 <|
    s_iconst (pc := 4) C dX8_turnsOn_4 <|
    s_isub (pc := 5) C dX8_turnsOn_5 <|
    s_istore_n (pc := 6) C dX8_turnsOn_6 rfl <|
    s_cut q7
noncomputable def mg_X8_turnsOn_7 (k39 : (Int × Ob) → Option Rt) (k7 : (Int × Ob) → Option Rt) (a : Int × Ob) : Option Rt :=
 if xw a.1 < 0 then (k39 (a.1, a.2))
 else (if xin a.1 8 then (
 if xw (a.2 13 (xw a.1).toNat) = xw ((a.2 0 8) - 1) then (if xin a.1 8 then (
 k7 ((a.1 + (-1)), (xset a.2 13 (xw a.1).toNat 0))) else none)
 else (k39 (a.1, a.2))) else none)
set_option maxRecDepth 100000 in
set_option maxHeartbeats 4000000 in
theorem rq_X8_turnsOn_7 (k39 : XK) (k7 : XK) (a : Int × Ob) : rg_X8_turnsOn_7 k39 k7 (en_X8_turnsOn_7 a) = mg_X8_turnsOn_7 (fun b => k39 (en_X8_turnsOn_39 b)) (fun b => k7 (en_X8_turnsOn_7 b)) a := rfl
set_option maxRecDepth 100000 in
set_option maxHeartbeats 4000000 in
theorem sg_X8_turnsOn_7 {X : XDyn} {r0 : Rt} (C : XO X mX8_turnsOn) {k39 : XK} (q39 : XS X mX8_turnsOn r0 39 k39) {k7 : XK} (q7 : XS X mX8_turnsOn r0 7 k7) : XS X mX8_turnsOn r0 7 (rg_X8_turnsOn_7 k39 k7) := by
 unfold rg_X8_turnsOn_7
 exact s_iload_n (pc := 7) C dX8_turnsOn_7 rfl <|
    s_if_lt (pc := 8) C dX8_turnsOn_8 (by decide) (s_cut q39)
    (s_aload_n (pc := 11) C dX8_turnsOn_11 rfl <|
    s_get (pc := 12) C (ci := 8) (kf := 16) rfl inX8 (by decide) wd_887 dX8_turnsOn_12 <|
    s_iload_n (pc := 15) C dX8_turnsOn_15 rfl <|
    s_iald (pc := 16) C dX8_turnsOn_16 <|
    s_aload_n (pc := 17) C dX8_turnsOn_17 rfl <|
    s_get (pc := 18) C (ci := 8) (kf := 8) rfl inX8 (by decide) wd_879 dX8_turnsOn_18 <|
    s_iconst (pc := 21) C dX8_turnsOn_21 <|
    s_isub (pc := 22) C dX8_turnsOn_22 <|
    s_icmp_ne (pc := 23) C dX8_turnsOn_23 (by decide) (s_cut q39)
    (s_aload_n (pc := 26) C dX8_turnsOn_26 rfl <|
    s_get (pc := 27) C (ci := 8) (kf := 16) rfl inX8 (by decide) wd_887 dX8_turnsOn_27 <|
    s_iload_n (pc := 30) C dX8_turnsOn_30 rfl <|
    s_iconst (pc := 31) C dX8_turnsOn_31 <|
    s_iast (pc := 32) C dX8_turnsOn_32 <|
    s_iinc (pc := 33) C dX8_turnsOn_33 <|
    s_goto (pc := 36) C dX8_turnsOn_36 (by decide) <|
    s_cut q7))
noncomputable def mg_X8_turnsOn_39 (a : Int × Ob) : Option Rt :=
 if xw a.1 ≥ 0 then (if xin a.1 8 then (
 if xin a.1 8 then (
 RI 1 [(xset a.2 13 (xw a.1).toNat ((a.2 13 (xw a.1).toNat) + 1))]) else none) else none)
 else (RI 0 [a.2])
set_option maxRecDepth 100000 in
set_option maxHeartbeats 4000000 in
theorem rq_X8_turnsOn_39 (a : Int × Ob) : rg_X8_turnsOn_39 (en_X8_turnsOn_39 a) = mg_X8_turnsOn_39 a := rfl
set_option maxRecDepth 100000 in
set_option maxHeartbeats 4000000 in
theorem sg_X8_turnsOn_39 {X : XDyn} {r0 : Rt} (C : XO X mX8_turnsOn) : XS X mX8_turnsOn r0 39 (rg_X8_turnsOn_39) := by
 unfold rg_X8_turnsOn_39
 exact s_iload_n (pc := 39) C dX8_turnsOn_39 rfl <|
    s_if_ge (pc := 40) C dX8_turnsOn_40 (by decide) (s_aload_n (pc := 45) C dX8_turnsOn_45 rfl <|
    s_get (pc := 46) C (ci := 8) (kf := 16) rfl inX8 (by decide) wd_887 dX8_turnsOn_46 <|
    s_iload_n (pc := 49) C dX8_turnsOn_49 rfl <|
    s_dup2 (pc := 50) C dX8_turnsOn_50 <|
    s_iald (pc := 51) C dX8_turnsOn_51 <|
    s_iconst (pc := 52) C dX8_turnsOn_52 <|
    s_iadd (pc := 53) C dX8_turnsOn_53 <|
    s_iast (pc := 54) C dX8_turnsOn_54 <|
    s_iconst (pc := 55) C dX8_turnsOn_55 <|
    s_zreturn (pc := 56) C rfl dX8_turnsOn_56)
    (s_iconst (pc := 43) C dX8_turnsOn_43 <|
    s_zreturn (pc := 44) C rfl dX8_turnsOn_44)
noncomputable def rw_X8_turnsOn_39 (f : Nat) : XK := rg_X8_turnsOn_39
noncomputable def md_X8_turnsOn_39 (f : Nat) : Int × Ob → Option Rt := mg_X8_turnsOn_39
theorem eq_X8_turnsOn_39 (f : Nat) (a : Int × Ob) : rw_X8_turnsOn_39 f (en_X8_turnsOn_39 a) = md_X8_turnsOn_39 f a :=
 rq_X8_turnsOn_39 a
theorem sd_X8_turnsOn_39 (f : Nat) {X : XDyn} {r0 : Rt} (C : XO X mX8_turnsOn) : XS X mX8_turnsOn r0 39 (rw_X8_turnsOn_39 f) := sg_X8_turnsOn_39 C
noncomputable def rw_X8_turnsOn_7 (f : Nat) : XK := tlp (fun k7 => rg_X8_turnsOn_7 (rw_X8_turnsOn_39 f) k7) f
noncomputable def lb_X8_turnsOn_7 (f : Nat) : ((Int × Ob) → Option Rt) → Int × Ob → Option Rt := fun k7 => mg_X8_turnsOn_7 (md_X8_turnsOn_39 f) k7
noncomputable def md_X8_turnsOn_7 (f : Nat) : Int × Ob → Option Rt := tlp (lb_X8_turnsOn_7 f) f
theorem eq_X8_turnsOn_7 (f : Nat) (a : Int × Ob) : rw_X8_turnsOn_7 f (en_X8_turnsOn_7 a) = md_X8_turnsOn_7 f a :=
 tlp_enc (en_X8_turnsOn_7) (fun k7 a => (rq_X8_turnsOn_7 (rw_X8_turnsOn_39 f) k7 a).trans (congrFun (congr (congr (rfl : mg_X8_turnsOn_7 = mg_X8_turnsOn_7) (funext (eq_X8_turnsOn_39 f))) rfl) a)) f a
theorem sd_X8_turnsOn_7 (f : Nat) {X : XDyn} {r0 : Rt} (C : XO X mX8_turnsOn) : XS X mX8_turnsOn r0 7 (rw_X8_turnsOn_7 f) := s_lp (fun k7 q7 => sg_X8_turnsOn_7 C (sd_X8_turnsOn_39 f C) q7) f
noncomputable def rw_X8_turnsOn_0 (f : Nat) : XK := rg_X8_turnsOn_0 (rw_X8_turnsOn_7 f)
noncomputable def md_X8_turnsOn_0 (f : Nat) : Ob → Option Rt := mg_X8_turnsOn_0 (md_X8_turnsOn_7 f)
theorem eq_X8_turnsOn_0 (f : Nat) (a : Ob) : rw_X8_turnsOn_0 f (en_X8_turnsOn_0 a) = md_X8_turnsOn_0 f a :=
 (rq_X8_turnsOn_0 (rw_X8_turnsOn_7 f) a).trans (congrFun (congr (rfl : mg_X8_turnsOn_0 = mg_X8_turnsOn_0) (funext (eq_X8_turnsOn_7 f))) a)
theorem sd_X8_turnsOn_0 (f : Nat) {X : XDyn} {r0 : Rt} (C : XO X mX8_turnsOn) : XS X mX8_turnsOn r0 0 (rw_X8_turnsOn_0 f) := sg_X8_turnsOn_0 C (sd_X8_turnsOn_7 f C)
theorem ctr_X8_turnsOn (f : Nat) : XCt yX8_turnsOn mX8_turnsOn (xF mX8_turnsOn (rw_X8_turnsOn_0 f)) := xMet (by decide +kernel) rfl (fun _ _ C => sd_X8_turnsOn_0 f C)
theorem eqf_X8_turnsOn (f : Nat) (h0 : Ob) : xF mX8_turnsOn (rw_X8_turnsOn_0 f) [.inr (.inl (0, 0))] [h0] = md_X8_turnsOn_0 f h0 := eq_X8_turnsOn_0 f h0
theorem yi_X8_turnsOn : yX8_turnsOn.cls = RX8 ∧ yX8_turnsOn.cls ≠ "java/lang/invoke/MethodHandle" ∧ yX8_turnsOn.cls ≠ "java/lang/invoke/VarHandle" ∧ (parseMethodDescriptor yX8_turnsOn.desc).map (fun d => d.parameters.length) = some 0 := ⟨rfl, by decide +kernel, by decide +kernel, by decide +kernel⟩
noncomputable def ov_X8_turnsOn (h0 : Ob) : Option Rt := xop (md_X8_turnsOn_0 xfu h0)
theorem ov_X8_turnsOn_e (h0 : Ob) : ov_X8_turnsOn h0 = md_X8_turnsOn_0 xfu h0 := xop_eq _
theorem sp_X8_turnsOn (h0 : Ob) (hg : oqI (ov_X8_turnsOn h0) = true) : md_X8_turnsOn_0 xfu h0 = RI (oqR (ov_X8_turnsOn h0)) [(oqO (ov_X8_turnsOn h0) 0)] := (ov_X8_turnsOn_e h0).symm.trans (oqI_eq hg)
noncomputable def g_X8_turnsOn : List AV → List Ob → Bool
  | [.inr (.inl (0, 0))], [h0] => oqI (ov_X8_turnsOn h0)
  | _, _ => false
noncomputable def v_X8_turnsOn : List AV → List Ob → Rt
  | [.inr (.inl (0, 0))], [h0] => (some (.inl (oqR (ov_X8_turnsOn h0))), [(oqO (ov_X8_turnsOn h0) 0)])
  | _, _ => (none, [])
theorem ct_X8_turnsOn : XCt yX8_turnsOn mX8_turnsOn (fun as μ => if g_X8_turnsOn as μ then some (v_X8_turnsOn as μ) else none) := (ctr_X8_turnsOn xfu).of (fun as μ r h => by
  split at h
  · rename_i hg
    unfold g_X8_turnsOn at hg
    split at hg
    · rw [← h]
      exact (eqf_X8_turnsOn xfu _).trans (sp_X8_turnsOn _ hg)
    · cases hg
  · cases h)
theorem dX8_arrangesBest_0 : decode cX8_arrangesBest 0 = .ok (.iconst 0, 1) := by decide +kernel
theorem dX8_arrangesBest_1 : decode cX8_arrangesBest 1 = .ok (.istore_n 1, 1) := by decide +kernel
theorem dX8_arrangesBest_2 : decode cX8_arrangesBest 2 = .ok (.iload_n 1, 1) := by decide +kernel
theorem dX8_arrangesBest_3 : decode cX8_arrangesBest 3 = .ok (.aload_n 0, 1) := by decide +kernel
theorem dX8_arrangesBest_4 : decode cX8_arrangesBest 4 = .ok (.getfield 119, 3) := by decide +kernel
theorem dX8_arrangesBest_7 : decode cX8_arrangesBest 7 = .ok (.if_icmp .ge 16, 3) := by decide +kernel
theorem dX8_arrangesBest_10 : decode cX8_arrangesBest 10 = .ok (.aload_n 0, 1) := by decide +kernel
theorem dX8_arrangesBest_11 : decode cX8_arrangesBest 11 = .ok (.getfield 53, 3) := by decide +kernel
theorem dX8_arrangesBest_14 : decode cX8_arrangesBest 14 = .ok (.iload_n 1, 1) := by decide +kernel
theorem dX8_arrangesBest_15 : decode cX8_arrangesBest 15 = .ok (.iconst 0, 1) := by decide +kernel
theorem dX8_arrangesBest_16 : decode cX8_arrangesBest 16 = .ok (.iastore, 1) := by decide +kernel
theorem dX8_arrangesBest_17 : decode cX8_arrangesBest 17 = .ok (.iinc 1 1, 3) := by decide +kernel
theorem dX8_arrangesBest_20 : decode cX8_arrangesBest 20 = .ok (.goto (-18), 3) := by decide +kernel
theorem dX8_arrangesBest_23 : decode cX8_arrangesBest 23 = .ok (.iconst 0, 1) := by decide +kernel
theorem dX8_arrangesBest_24 : decode cX8_arrangesBest 24 = .ok (.istore_n 1, 1) := by decide +kernel
theorem dX8_arrangesBest_25 : decode cX8_arrangesBest 25 = .ok (.iload_n 1, 1) := by decide +kernel
theorem dX8_arrangesBest_26 : decode cX8_arrangesBest 26 = .ok (.aload_n 0, 1) := by decide +kernel
theorem dX8_arrangesBest_27 : decode cX8_arrangesBest 27 = .ok (.getfield 122, 3) := by decide +kernel
theorem dX8_arrangesBest_30 : decode cX8_arrangesBest 30 = .ok (.if_icmp .ge 70, 3) := by decide +kernel
theorem dX8_arrangesBest_33 : decode cX8_arrangesBest 33 = .ok (.aload_n 0, 1) := by decide +kernel
theorem dX8_arrangesBest_34 : decode cX8_arrangesBest 34 = .ok (.getfield 7, 3) := by decide +kernel
theorem dX8_arrangesBest_37 : decode cX8_arrangesBest 37 = .ok (.bipush 13, 2) := by decide +kernel
theorem dX8_arrangesBest_39 : decode cX8_arrangesBest 39 = .ok (.aload_n 0, 1) := by decide +kernel
theorem dX8_arrangesBest_40 : decode cX8_arrangesBest 40 = .ok (.getfield 28, 3) := by decide +kernel
theorem dX8_arrangesBest_43 : decode cX8_arrangesBest 43 = .ok (.iload_n 1, 1) := by decide +kernel
theorem dX8_arrangesBest_44 : decode cX8_arrangesBest 44 = .ok (.iaload, 1) := by decide +kernel
theorem dX8_arrangesBest_45 : decode cX8_arrangesBest 45 = .ok (.iadd, 1) := by decide +kernel
theorem dX8_arrangesBest_46 : decode cX8_arrangesBest 46 = .ok (.aload_n 0, 1) := by decide +kernel
theorem dX8_arrangesBest_47 : decode cX8_arrangesBest 47 = .ok (.getfield 22, 3) := by decide +kernel
theorem dX8_arrangesBest_50 : decode cX8_arrangesBest 50 = .ok (.aload_n 0, 1) := by decide +kernel
theorem dX8_arrangesBest_51 : decode cX8_arrangesBest 51 = .ok (.getfield 50, 3) := by decide +kernel
theorem dX8_arrangesBest_54 : decode cX8_arrangesBest 54 = .ok (.iload_n 1, 1) := by decide +kernel
theorem dX8_arrangesBest_55 : decode cX8_arrangesBest 55 = .ok (.iaload, 1) := by decide +kernel
theorem dX8_arrangesBest_56 : decode cX8_arrangesBest 56 = .ok (.iaload, 1) := by decide +kernel
theorem dX8_arrangesBest_57 : decode cX8_arrangesBest 57 = .ok (.aload_n 0, 1) := by decide +kernel
theorem dX8_arrangesBest_58 : decode cX8_arrangesBest 58 = .ok (.getfield 53, 3) := by decide +kernel
theorem dX8_arrangesBest_61 : decode cX8_arrangesBest 61 = .ok (.aload_n 0, 1) := by decide +kernel
theorem dX8_arrangesBest_62 : decode cX8_arrangesBest 62 = .ok (.getfield 50, 3) := by decide +kernel
theorem dX8_arrangesBest_65 : decode cX8_arrangesBest 65 = .ok (.iload_n 1, 1) := by decide +kernel
theorem dX8_arrangesBest_66 : decode cX8_arrangesBest 66 = .ok (.iaload, 1) := by decide +kernel
theorem dX8_arrangesBest_67 : decode cX8_arrangesBest 67 = .ok (.iaload, 1) := by decide +kernel
theorem dX8_arrangesBest_68 : decode cX8_arrangesBest 68 = .ok (.iadd, 1) := by decide +kernel
theorem dX8_arrangesBest_69 : decode cX8_arrangesBest 69 = .ok (.iastore, 1) := by decide +kernel
theorem dX8_arrangesBest_70 : decode cX8_arrangesBest 70 = .ok (.aload_n 0, 1) := by decide +kernel
theorem dX8_arrangesBest_71 : decode cX8_arrangesBest 71 = .ok (.getfield 53, 3) := by decide +kernel
theorem dX8_arrangesBest_74 : decode cX8_arrangesBest 74 = .ok (.aload_n 0, 1) := by decide +kernel
theorem dX8_arrangesBest_75 : decode cX8_arrangesBest 75 = .ok (.getfield 50, 3) := by decide +kernel
theorem dX8_arrangesBest_78 : decode cX8_arrangesBest 78 = .ok (.iload_n 1, 1) := by decide +kernel
theorem dX8_arrangesBest_79 : decode cX8_arrangesBest 79 = .ok (.iaload, 1) := by decide +kernel
theorem dX8_arrangesBest_80 : decode cX8_arrangesBest 80 = .ok (.dup2, 1) := by decide +kernel
theorem dX8_arrangesBest_81 : decode cX8_arrangesBest 81 = .ok (.iaload, 1) := by decide +kernel
theorem dX8_arrangesBest_82 : decode cX8_arrangesBest 82 = .ok (.aload_n 0, 1) := by decide +kernel
theorem dX8_arrangesBest_83 : decode cX8_arrangesBest 83 = .ok (.aload_n 0, 1) := by decide +kernel
theorem dX8_arrangesBest_84 : decode cX8_arrangesBest 84 = .ok (.getfield 28, 3) := by decide +kernel
theorem dX8_arrangesBest_87 : decode cX8_arrangesBest 87 = .ok (.iload_n 1, 1) := by decide +kernel
theorem dX8_arrangesBest_88 : decode cX8_arrangesBest 88 = .ok (.iaload, 1) := by decide +kernel
theorem dX8_arrangesBest_89 : decode cX8_arrangesBest 89 = .ok (.invokevirtual 93, 3) := by decide +kernel
theorem dX8_arrangesBest_92 : decode cX8_arrangesBest 92 = .ok (.iadd, 1) := by decide +kernel
theorem dX8_arrangesBest_93 : decode cX8_arrangesBest 93 = .ok (.iastore, 1) := by decide +kernel
theorem dX8_arrangesBest_94 : decode cX8_arrangesBest 94 = .ok (.iinc 1 1, 3) := by decide +kernel
theorem dX8_arrangesBest_97 : decode cX8_arrangesBest 97 = .ok (.goto (-72), 3) := by decide +kernel
theorem dX8_arrangesBest_100 : decode cX8_arrangesBest 100 = .ok (.aload_n 0, 1) := by decide +kernel
theorem dX8_arrangesBest_101 : decode cX8_arrangesBest 101 = .ok (.invokevirtual 109, 3) := by decide +kernel
theorem dX8_arrangesBest_104 : decode cX8_arrangesBest 104 = .ok (.return_, 1) := by decide +kernel
abbrev mX8_arrangesBest : XM := (cX8_arrangesBest, 2, RX8, none, shw_8, 3)
noncomputable def rg_X8_arrangesBest_0 (k2 : XK) : XK :=
 o_iconst 0 <|
 o_istore 1 <|
 o_cut [] k2
def en_X8_arrangesBest_0 (a : Ob) : XSt := ([some (.inr (.inl (0, 0))), none], [], [a])
noncomputable def rg_X8_arrangesBest_2 (k25 : XK) (k2 : XK) : XK :=
 o_iload 1 <|
 o_aload 0 <|
 o_get shw_8 8 8 <|
 o_icmp_ge (o_iconst 0 <|
 o_istore 1 <|
 o_cut [] k25)
 (o_aload 0 <|
 o_get shw_8 8 18 <|
 o_iload 1 <|
 o_iconst 0 <|
 o_iast shw_8 <|
 o_iinc 1 1 <|
 o_cut [] k2)
def en_X8_arrangesBest_2 (a : Int × Ob) : XSt := ([some (.inr (.inl (0, 0))), some (.inl a.1)], [], [a.2])
noncomputable def rg_X8_arrangesBest_25 (k25 : XK) : XK :=
 o_iload 1 <|
 o_aload 0 <|
 o_get shw_8 8 11 <|
 o_icmp_ge (o_aload 0 <|
 o_callVg 1 0 [0] g_X8_fillsOwners v_X8_fillsOwners <|
 o_return)
 (o_aload 0 <|
 o_get shw_8 8 0 <|
 o_iconst 13 <|
 o_aload 0 <|
 o_get shw_8 8 9 <|
 o_iload 1 <|
 o_iald shw_8 <|
 o_iadd <|
 o_aload 0 <|
 o_get shw_8 8 6 <|
 o_aload 0 <|
 o_get shw_8 8 17 <|
 o_iload 1 <|
 o_iald shw_8 <|
 o_iald shw_8 <|
 o_aload 0 <|
 o_get shw_8 8 18 <|
 o_aload 0 <|
 o_get shw_8 8 17 <|
 o_iload 1 <|
 o_iald shw_8 <|
 o_iald shw_8 <|
 o_iadd <|
 o_iast shw_8 <|
 o_aload 0 <|
 o_get shw_8 8 18 <|
 o_aload 0 <|
 o_get shw_8 8 17 <|
 o_iload 1 <|
 o_iald shw_8 <|
 o_dup2 <|
 o_iald shw_8 <|
 o_aload 0 <|
 o_aload 0 <|
 o_get shw_8 8 9 <|
 o_iload 1 <|
 o_iald shw_8 <|
 o_callVg 2 1 [0] g_X8_lengthOf v_X8_lengthOf <|
 o_iadd <|
 o_iast shw_8 <|
 o_iinc 1 1 <|
 o_cut [] k25)
def en_X8_arrangesBest_25 (a : Int × Ob) : XSt := ([some (.inr (.inl (0, 0))), some (.inl a.1)], [], [a.2])
noncomputable def mg_X8_arrangesBest_0 (k2 : (Int × Ob) → Option Rt) (a : Ob) : Option Rt :=
 k2 (0, a)
set_option maxRecDepth 100000 in
set_option maxHeartbeats 4000000 in
theorem rq_X8_arrangesBest_0 (k2 : XK) (a : Ob) : rg_X8_arrangesBest_0 k2 (en_X8_arrangesBest_0 a) = mg_X8_arrangesBest_0 (fun b => k2 (en_X8_arrangesBest_2 b)) a := rfl
set_option maxRecDepth 100000 in
set_option maxHeartbeats 4000000 in
theorem sg_X8_arrangesBest_0 {X : XDyn} {r0 : Rt} (C : XO X mX8_arrangesBest) {k2 : XK} (q2 : XS X mX8_arrangesBest r0 2 k2) : XS X mX8_arrangesBest r0 0 (rg_X8_arrangesBest_0 k2) := by
 unfold rg_X8_arrangesBest_0
 exact s_iconst (pc := 0) C dX8_arrangesBest_0 <|
    s_istore_n (pc := 1) C dX8_arrangesBest_1 rfl <|
    s_cut q2
noncomputable def mg_X8_arrangesBest_2 (k25 : (Int × Ob) → Option Rt) (k2 : (Int × Ob) → Option Rt) (a : Int × Ob) : Option Rt :=
 if xw a.1 ≥ xw (a.2 0 8) then (k25 (0, a.2))
 else (if xin a.1 16 then (
 k2 ((a.1 + 1), (xset a.2 15 (xw a.1).toNat 0))) else none)
set_option maxRecDepth 100000 in
set_option maxHeartbeats 4000000 in
theorem rq_X8_arrangesBest_2 (k25 : XK) (k2 : XK) (a : Int × Ob) : rg_X8_arrangesBest_2 k25 k2 (en_X8_arrangesBest_2 a) = mg_X8_arrangesBest_2 (fun b => k25 (en_X8_arrangesBest_25 b)) (fun b => k2 (en_X8_arrangesBest_2 b)) a := rfl
set_option maxRecDepth 100000 in
set_option maxHeartbeats 4000000 in
theorem sg_X8_arrangesBest_2 {X : XDyn} {r0 : Rt} (C : XO X mX8_arrangesBest) {k25 : XK} (q25 : XS X mX8_arrangesBest r0 25 k25) {k2 : XK} (q2 : XS X mX8_arrangesBest r0 2 k2) : XS X mX8_arrangesBest r0 2 (rg_X8_arrangesBest_2 k25 k2) := by
 unfold rg_X8_arrangesBest_2
 exact s_iload_n (pc := 2) C dX8_arrangesBest_2 rfl <|
    s_aload_n (pc := 3) C dX8_arrangesBest_3 rfl <|
    s_get (pc := 4) C (ci := 8) (kf := 8) rfl inX8 (by decide) wd_879 dX8_arrangesBest_4 <|
    s_icmp_ge (pc := 7) C dX8_arrangesBest_7 (by decide) (s_iconst (pc := 23) C dX8_arrangesBest_23 <|
    s_istore_n (pc := 24) C dX8_arrangesBest_24 rfl <|
    s_cut q25)
    (s_aload_n (pc := 10) C dX8_arrangesBest_10 rfl <|
    s_get (pc := 11) C (ci := 8) (kf := 18) rfl inX8 (by decide) wd_889 dX8_arrangesBest_11 <|
    s_iload_n (pc := 14) C dX8_arrangesBest_14 rfl <|
    s_iconst (pc := 15) C dX8_arrangesBest_15 <|
    s_iast (pc := 16) C dX8_arrangesBest_16 <|
    s_iinc (pc := 17) C dX8_arrangesBest_17 <|
    s_goto (pc := 20) C dX8_arrangesBest_20 (by decide) <|
    s_cut q2)
noncomputable def mg_X8_arrangesBest_25 (k25 : (Int × Ob) → Option Rt) (a : Int × Ob) : Option Rt :=
 if xw a.1 ≥ xw (a.2 0 11) then (if oqV (ov_X8_fillsOwners a.2) then (
 RV [(oqO (ov_X8_fillsOwners a.2) 0)]) else none)
 else (if xin a.1 8 then (
 if xin a.1 8 then (
 if xin (a.2 14 (xw a.1).toNat) 16 then (
 if xin a.1 8 then (
 if xin (a.2 14 (xw a.1).toNat) 16 then (
 if xin (13 + (a.2 7 (xw a.1).toNat)) 735 then (
 if xin a.1 8 then (
 if xin ((xset a.2 1 (xw (13 + (a.2 7 (xw a.1).toNat))).toNat ((a.2 5 (xw (a.2 14 (xw a.1).toNat)).toNat) + (a.2 15 (xw (a.2 14 (xw a.1).toNat)).toNat))) 14 (xw a.1).toNat) 16 then (
 if xin a.1 8 then (
 if hdl ((xset a.2 1 (xw (13 + (a.2 7 (xw a.1).toNat))).toNat ((a.2 5 (xw (a.2 14 (xw a.1).toNat)).toNat) + (a.2 15 (xw (a.2 14 (xw a.1).toNat)).toNat))) 7 (xw a.1).toNat) then (
 if xin ((xset a.2 1 (xw (13 + (a.2 7 (xw a.1).toNat))).toNat ((a.2 5 (xw (a.2 14 (xw a.1).toNat)).toNat) + (a.2 15 (xw (a.2 14 (xw a.1).toNat)).toNat))) 14 (xw a.1).toNat) 16 then (
 k25 ((a.1 + 1), (xset (xset a.2 1 (xw (13 + (a.2 7 (xw a.1).toNat))).toNat ((a.2 5 (xw (a.2 14 (xw a.1).toNat)).toNat) + (a.2 15 (xw (a.2 14 (xw a.1).toNat)).toNat))) 15 (xw ((xset a.2 1 (xw (13 + (a.2 7 (xw a.1).toNat))).toNat ((a.2 5 (xw (a.2 14 (xw a.1).toNat)).toNat) + (a.2 15 (xw (a.2 14 (xw a.1).toNat)).toNat))) 14 (xw a.1).toNat)).toNat (((xset a.2 1 (xw (13 + (a.2 7 (xw a.1).toNat))).toNat ((a.2 5 (xw (a.2 14 (xw a.1).toNat)).toNat) + (a.2 15 (xw (a.2 14 (xw a.1).toNat)).toNat))) 15 (xw ((xset a.2 1 (xw (13 + (a.2 7 (xw a.1).toNat))).toNat ((a.2 5 (xw (a.2 14 (xw a.1).toNat)).toNat) + (a.2 15 (xw (a.2 14 (xw a.1).toNat)).toNat))) 14 (xw a.1).toNat)).toNat) + (lenM (xset a.2 1 (xw (13 + (a.2 7 (xw a.1).toNat))).toNat ((a.2 5 (xw (a.2 14 (xw a.1).toNat)).toNat) + (a.2 15 (xw (a.2 14 (xw a.1).toNat)).toNat))) ((xset a.2 1 (xw (13 + (a.2 7 (xw a.1).toNat))).toNat ((a.2 5 (xw (a.2 14 (xw a.1).toNat)).toNat) + (a.2 15 (xw (a.2 14 (xw a.1).toNat)).toNat))) 7 (xw a.1).toNat)))))) else none) else none) else none) else none) else none) else none) else none) else none) else none) else none) else none)
set_option maxRecDepth 100000 in
set_option maxHeartbeats 4000000 in
theorem rq_X8_arrangesBest_25 (k25 : XK) (a : Int × Ob) : rg_X8_arrangesBest_25 k25 (en_X8_arrangesBest_25 a) = mg_X8_arrangesBest_25 (fun b => k25 (en_X8_arrangesBest_25 b)) a := rfl
set_option maxRecDepth 100000 in
set_option maxHeartbeats 4000000 in
theorem sg_X8_arrangesBest_25 {X : XDyn} {r0 : Rt} (C : XO X mX8_arrangesBest) {k25 : XK} (q25 : XS X mX8_arrangesBest r0 25 k25) : XS X mX8_arrangesBest r0 25 (rg_X8_arrangesBest_25 k25) := by
 unfold rg_X8_arrangesBest_25
 exact s_iload_n (pc := 25) C dX8_arrangesBest_25 rfl <|
    s_aload_n (pc := 26) C dX8_arrangesBest_26 rfl <|
    s_get (pc := 27) C (ci := 8) (kf := 11) rfl inX8 (by decide) wd_882 dX8_arrangesBest_27 <|
    s_icmp_ge (pc := 30) C dX8_arrangesBest_30 (by decide) (s_aload_n (pc := 100) C dX8_arrangesBest_100 rfl <|
    s_callVg (pc := 101) C ct_X8_fillsOwners (n := 1) (rk := 0) (mp := [0]) ⟨rfl, by decide, rfl⟩ (ci := 8) rfl rfl (by decide) (by decide) yi_X8_fillsOwners (by decide) wd_979 wd_981 wd_22 wd_81 wd_982 dX8_arrangesBest_101 <|
    s_return (pc := 104) C rfl dX8_arrangesBest_104)
    (s_aload_n (pc := 33) C dX8_arrangesBest_33 rfl <|
    s_get (pc := 34) C (ci := 8) (kf := 0) rfl inX8 (by decide) wd_871 dX8_arrangesBest_34 <|
    s_bipush (pc := 37) C dX8_arrangesBest_37 (by decide) <|
    s_aload_n (pc := 39) C dX8_arrangesBest_39 rfl <|
    s_get (pc := 40) C (ci := 8) (kf := 9) rfl inX8 (by decide) wd_880 dX8_arrangesBest_40 <|
    s_iload_n (pc := 43) C dX8_arrangesBest_43 rfl <|
    s_iald (pc := 44) C dX8_arrangesBest_44 <|
    s_iadd (pc := 45) C dX8_arrangesBest_45 <|
    s_aload_n (pc := 46) C dX8_arrangesBest_46 rfl <|
    s_get (pc := 47) C (ci := 8) (kf := 6) rfl inX8 (by decide) wd_877 dX8_arrangesBest_47 <|
    s_aload_n (pc := 50) C dX8_arrangesBest_50 rfl <|
    s_get (pc := 51) C (ci := 8) (kf := 17) rfl inX8 (by decide) wd_888 dX8_arrangesBest_51 <|
    s_iload_n (pc := 54) C dX8_arrangesBest_54 rfl <|
    s_iald (pc := 55) C dX8_arrangesBest_55 <|
    s_iald (pc := 56) C dX8_arrangesBest_56 <|
    s_aload_n (pc := 57) C dX8_arrangesBest_57 rfl <|
    s_get (pc := 58) C (ci := 8) (kf := 18) rfl inX8 (by decide) wd_889 dX8_arrangesBest_58 <|
    s_aload_n (pc := 61) C dX8_arrangesBest_61 rfl <|
    s_get (pc := 62) C (ci := 8) (kf := 17) rfl inX8 (by decide) wd_888 dX8_arrangesBest_62 <|
    s_iload_n (pc := 65) C dX8_arrangesBest_65 rfl <|
    s_iald (pc := 66) C dX8_arrangesBest_66 <|
    s_iald (pc := 67) C dX8_arrangesBest_67 <|
    s_iadd (pc := 68) C dX8_arrangesBest_68 <|
    s_iast (pc := 69) C dX8_arrangesBest_69 <|
    s_aload_n (pc := 70) C dX8_arrangesBest_70 rfl <|
    s_get (pc := 71) C (ci := 8) (kf := 18) rfl inX8 (by decide) wd_889 dX8_arrangesBest_71 <|
    s_aload_n (pc := 74) C dX8_arrangesBest_74 rfl <|
    s_get (pc := 75) C (ci := 8) (kf := 17) rfl inX8 (by decide) wd_888 dX8_arrangesBest_75 <|
    s_iload_n (pc := 78) C dX8_arrangesBest_78 rfl <|
    s_iald (pc := 79) C dX8_arrangesBest_79 <|
    s_dup2 (pc := 80) C dX8_arrangesBest_80 <|
    s_iald (pc := 81) C dX8_arrangesBest_81 <|
    s_aload_n (pc := 82) C dX8_arrangesBest_82 rfl <|
    s_aload_n (pc := 83) C dX8_arrangesBest_83 rfl <|
    s_get (pc := 84) C (ci := 8) (kf := 9) rfl inX8 (by decide) wd_880 dX8_arrangesBest_84 <|
    s_iload_n (pc := 87) C dX8_arrangesBest_87 rfl <|
    s_iald (pc := 88) C dX8_arrangesBest_88 <|
    s_callVg (pc := 89) C ct_X8_lengthOf (n := 2) (rk := 1) (mp := [0]) ⟨rfl, by decide, rfl⟩ (ci := 8) rfl rfl (by decide) (by decide) yi_X8_lengthOf (by decide) wd_994 wd_996 wd_25 wd_81 wd_997 dX8_arrangesBest_89 <|
    s_iadd (pc := 92) C dX8_arrangesBest_92 <|
    s_iast (pc := 93) C dX8_arrangesBest_93 <|
    s_iinc (pc := 94) C dX8_arrangesBest_94 <|
    s_goto (pc := 97) C dX8_arrangesBest_97 (by decide) <|
    s_cut q25)
noncomputable def rw_X8_arrangesBest_25 (f : Nat) : XK := tlp (fun k25 => rg_X8_arrangesBest_25 k25) f
noncomputable def lb_X8_arrangesBest_25 (f : Nat) : ((Int × Ob) → Option Rt) → Int × Ob → Option Rt := fun k25 => mg_X8_arrangesBest_25 k25
noncomputable def md_X8_arrangesBest_25 (f : Nat) : Int × Ob → Option Rt := tlp (lb_X8_arrangesBest_25 f) f
theorem eq_X8_arrangesBest_25 (f : Nat) (a : Int × Ob) : rw_X8_arrangesBest_25 f (en_X8_arrangesBest_25 a) = md_X8_arrangesBest_25 f a :=
 tlp_enc (en_X8_arrangesBest_25) (fun k25 a => (rq_X8_arrangesBest_25 k25 a).trans (congrFun (congr (rfl : mg_X8_arrangesBest_25 = mg_X8_arrangesBest_25) rfl) a)) f a
theorem sd_X8_arrangesBest_25 (f : Nat) {X : XDyn} {r0 : Rt} (C : XO X mX8_arrangesBest) : XS X mX8_arrangesBest r0 25 (rw_X8_arrangesBest_25 f) := s_lp (fun k25 q25 => sg_X8_arrangesBest_25 C q25) f
noncomputable def rw_X8_arrangesBest_2 (f : Nat) : XK := tlp (fun k2 => rg_X8_arrangesBest_2 (rw_X8_arrangesBest_25 f) k2) f
noncomputable def lb_X8_arrangesBest_2 (f : Nat) : ((Int × Ob) → Option Rt) → Int × Ob → Option Rt := fun k2 => mg_X8_arrangesBest_2 (md_X8_arrangesBest_25 f) k2
noncomputable def md_X8_arrangesBest_2 (f : Nat) : Int × Ob → Option Rt := tlp (lb_X8_arrangesBest_2 f) f
theorem eq_X8_arrangesBest_2 (f : Nat) (a : Int × Ob) : rw_X8_arrangesBest_2 f (en_X8_arrangesBest_2 a) = md_X8_arrangesBest_2 f a :=
 tlp_enc (en_X8_arrangesBest_2) (fun k2 a => (rq_X8_arrangesBest_2 (rw_X8_arrangesBest_25 f) k2 a).trans (congrFun (congr (congr (rfl : mg_X8_arrangesBest_2 = mg_X8_arrangesBest_2) (funext (eq_X8_arrangesBest_25 f))) rfl) a)) f a
theorem sd_X8_arrangesBest_2 (f : Nat) {X : XDyn} {r0 : Rt} (C : XO X mX8_arrangesBest) : XS X mX8_arrangesBest r0 2 (rw_X8_arrangesBest_2 f) := s_lp (fun k2 q2 => sg_X8_arrangesBest_2 C (sd_X8_arrangesBest_25 f C) q2) f
noncomputable def rw_X8_arrangesBest_0 (f : Nat) : XK := rg_X8_arrangesBest_0 (rw_X8_arrangesBest_2 f)
noncomputable def md_X8_arrangesBest_0 (f : Nat) : Ob → Option Rt := mg_X8_arrangesBest_0 (md_X8_arrangesBest_2 f)
theorem eq_X8_arrangesBest_0 (f : Nat) (a : Ob) : rw_X8_arrangesBest_0 f (en_X8_arrangesBest_0 a) = md_X8_arrangesBest_0 f a :=
 (rq_X8_arrangesBest_0 (rw_X8_arrangesBest_2 f) a).trans (congrFun (congr (rfl : mg_X8_arrangesBest_0 = mg_X8_arrangesBest_0) (funext (eq_X8_arrangesBest_2 f))) a)
theorem sd_X8_arrangesBest_0 (f : Nat) {X : XDyn} {r0 : Rt} (C : XO X mX8_arrangesBest) : XS X mX8_arrangesBest r0 0 (rw_X8_arrangesBest_0 f) := sg_X8_arrangesBest_0 C (sd_X8_arrangesBest_2 f C)
theorem ctr_X8_arrangesBest (f : Nat) : XCt yX8_arrangesBest mX8_arrangesBest (xF mX8_arrangesBest (rw_X8_arrangesBest_0 f)) := xMet (by decide +kernel) rfl (fun _ _ C => sd_X8_arrangesBest_0 f C)
theorem eqf_X8_arrangesBest (f : Nat) (h0 : Ob) : xF mX8_arrangesBest (rw_X8_arrangesBest_0 f) [.inr (.inl (0, 0))] [h0] = md_X8_arrangesBest_0 f h0 := eq_X8_arrangesBest_0 f h0
theorem yi_X8_arrangesBest : yX8_arrangesBest.cls = RX8 ∧ yX8_arrangesBest.cls ≠ "java/lang/invoke/MethodHandle" ∧ yX8_arrangesBest.cls ≠ "java/lang/invoke/VarHandle" ∧ (parseMethodDescriptor yX8_arrangesBest.desc).map (fun d => d.parameters.length) = some 0 := ⟨rfl, by decide +kernel, by decide +kernel, by decide +kernel⟩
noncomputable def ov_X8_arrangesBest (h0 : Ob) : Option Rt := xop (md_X8_arrangesBest_0 xfu h0)
theorem ov_X8_arrangesBest_e (h0 : Ob) : ov_X8_arrangesBest h0 = md_X8_arrangesBest_0 xfu h0 := xop_eq _
theorem sp_X8_arrangesBest (h0 : Ob) (hg : oqV (ov_X8_arrangesBest h0) = true) : md_X8_arrangesBest_0 xfu h0 = RV [(oqO (ov_X8_arrangesBest h0) 0)] := (ov_X8_arrangesBest_e h0).symm.trans (oqV_eq hg)
noncomputable def g_X8_arrangesBest : List AV → List Ob → Bool
  | [.inr (.inl (0, 0))], [h0] => oqV (ov_X8_arrangesBest h0)
  | _, _ => false
noncomputable def v_X8_arrangesBest : List AV → List Ob → Rt
  | [.inr (.inl (0, 0))], [h0] => (none, [(oqO (ov_X8_arrangesBest h0) 0)])
  | _, _ => (none, [])
theorem ct_X8_arrangesBest : XCt yX8_arrangesBest mX8_arrangesBest (fun as μ => if g_X8_arrangesBest as μ then some (v_X8_arrangesBest as μ) else none) := (ctr_X8_arrangesBest xfu).of (fun as μ r h => by
  split at h
  · rename_i hg
    unfold g_X8_arrangesBest at hg
    split at hg
    · rw [← h]
      exact (eqf_X8_arrangesBest xfu _).trans (sp_X8_arrangesBest _ hg)
    · cases hg
  · cases h)
theorem dX8_arranges_0 : decode cX8_arranges 0 = .ok (.aload_n 0, 1) := by decide +kernel
theorem dX8_arranges_1 : decode cX8_arranges 1 = .ok (.aload_n 0, 1) := by decide +kernel
theorem dX8_arranges_2 : decode cX8_arranges 2 = .ok (.getfield 7, 3) := by decide +kernel
theorem dX8_arranges_5 : decode cX8_arranges 5 = .ok (.iconst 0, 1) := by decide +kernel
theorem dX8_arranges_6 : decode cX8_arranges 6 = .ok (.iaload, 1) := by decide +kernel
theorem dX8_arranges_7 : decode cX8_arranges 7 = .ok (.invokevirtual 139, 3) := by decide +kernel
theorem dX8_arranges_10 : decode cX8_arranges 10 = .ok (.aload_n 0, 1) := by decide +kernel
theorem dX8_arranges_11 : decode cX8_arranges 11 = .ok (.getfield 119, 3) := by decide +kernel
theorem dX8_arranges_14 : decode cX8_arranges 14 = .ok (.ifCond .eq 14, 3) := by decide +kernel
theorem dX8_arranges_17 : decode cX8_arranges 17 = .ok (.aload_n 0, 1) := by decide +kernel
theorem dX8_arranges_18 : decode cX8_arranges 18 = .ok (.sipush 255, 3) := by decide +kernel
theorem dX8_arranges_21 : decode cX8_arranges 21 = .ok (.invokevirtual 142, 3) := by decide +kernel
theorem dX8_arranges_24 : decode cX8_arranges 24 = .ok (.iload_n 1, 1) := by decide +kernel
theorem dX8_arranges_25 : decode cX8_arranges 25 = .ok (.if_icmp .ge 5, 3) := by decide +kernel
theorem dX8_arranges_28 : decode cX8_arranges 28 = .ok (.iconst (-1), 1) := by decide +kernel
theorem dX8_arranges_29 : decode cX8_arranges 29 = .ok (.ireturn, 1) := by decide +kernel
theorem dX8_arranges_30 : decode cX8_arranges 30 = .ok (.bipush 9, 2) := by decide +kernel
theorem dX8_arranges_32 : decode cX8_arranges 32 = .ok (.istore_n 2, 1) := by decide +kernel
theorem dX8_arranges_33 : decode cX8_arranges 33 = .ok (.iconst 0, 1) := by decide +kernel
theorem dX8_arranges_34 : decode cX8_arranges 34 = .ok (.istore_n 3, 1) := by decide +kernel
theorem dX8_arranges_35 : decode cX8_arranges 35 = .ok (.iload_n 3, 1) := by decide +kernel
theorem dX8_arranges_36 : decode cX8_arranges 36 = .ok (.aload_n 0, 1) := by decide +kernel
theorem dX8_arranges_37 : decode cX8_arranges 37 = .ok (.getfield 122, 3) := by decide +kernel
theorem dX8_arranges_40 : decode cX8_arranges 40 = .ok (.if_icmp .ge 16, 3) := by decide +kernel
theorem dX8_arranges_43 : decode cX8_arranges 43 = .ok (.aload_n 0, 1) := by decide +kernel
theorem dX8_arranges_44 : decode cX8_arranges 44 = .ok (.getfield 47, 3) := by decide +kernel
theorem dX8_arranges_47 : decode cX8_arranges 47 = .ok (.iload_n 3, 1) := by decide +kernel
theorem dX8_arranges_48 : decode cX8_arranges 48 = .ok (.iconst 0, 1) := by decide +kernel
theorem dX8_arranges_49 : decode cX8_arranges 49 = .ok (.iastore, 1) := by decide +kernel
theorem dX8_arranges_50 : decode cX8_arranges 50 = .ok (.iinc 3 1, 3) := by decide +kernel
theorem dX8_arranges_53 : decode cX8_arranges 53 = .ok (.goto (-18), 3) := by decide +kernel
theorem dX8_arranges_56 : decode cX8_arranges 56 = .ok (.iconst 1, 1) := by decide +kernel
theorem dX8_arranges_57 : decode cX8_arranges 57 = .ok (.istore_n 3, 1) := by decide +kernel
theorem dX8_arranges_58 : decode cX8_arranges 58 = .ok (.iload_n 3, 1) := by decide +kernel
theorem dX8_arranges_59 : decode cX8_arranges 59 = .ok (.ifCond .eq 64, 3) := by decide +kernel
theorem dX8_arranges_62 : decode cX8_arranges 62 = .ok (.aload_n 0, 1) := by decide +kernel
theorem dX8_arranges_63 : decode cX8_arranges 63 = .ok (.iload_n 1, 1) := by decide +kernel
theorem dX8_arranges_64 : decode cX8_arranges 64 = .ok (.invokevirtual 145, 3) := by decide +kernel
theorem dX8_arranges_67 : decode cX8_arranges 67 = .ok (.istore 4, 2) := by decide +kernel
theorem dX8_arranges_69 : decode cX8_arranges 69 = .ok (.iload 4, 2) := by decide +kernel
theorem dX8_arranges_71 : decode cX8_arranges 71 = .ok (.ifCond .lt 44, 3) := by decide +kernel
theorem dX8_arranges_74 : decode cX8_arranges 74 = .ok (.iload 4, 2) := by decide +kernel
theorem dX8_arranges_76 : decode cX8_arranges 76 = .ok (.iload_n 2, 1) := by decide +kernel
theorem dX8_arranges_77 : decode cX8_arranges 77 = .ok (.if_icmp .ge 38, 3) := by decide +kernel
theorem dX8_arranges_80 : decode cX8_arranges 80 = .ok (.iload 4, 2) := by decide +kernel
theorem dX8_arranges_82 : decode cX8_arranges 82 = .ok (.istore_n 2, 1) := by decide +kernel
theorem dX8_arranges_83 : decode cX8_arranges 83 = .ok (.iconst 0, 1) := by decide +kernel
theorem dX8_arranges_84 : decode cX8_arranges 84 = .ok (.istore 5, 2) := by decide +kernel
theorem dX8_arranges_86 : decode cX8_arranges 86 = .ok (.iload 5, 2) := by decide +kernel
theorem dX8_arranges_88 : decode cX8_arranges 88 = .ok (.aload_n 0, 1) := by decide +kernel
theorem dX8_arranges_89 : decode cX8_arranges 89 = .ok (.getfield 122, 3) := by decide +kernel
theorem dX8_arranges_92 : decode cX8_arranges 92 = .ok (.if_icmp .ge 23, 3) := by decide +kernel
theorem dX8_arranges_95 : decode cX8_arranges 95 = .ok (.aload_n 0, 1) := by decide +kernel
theorem dX8_arranges_96 : decode cX8_arranges 96 = .ok (.getfield 50, 3) := by decide +kernel
theorem dX8_arranges_99 : decode cX8_arranges 99 = .ok (.iload 5, 2) := by decide +kernel
theorem dX8_arranges_101 : decode cX8_arranges 101 = .ok (.aload_n 0, 1) := by decide +kernel
theorem dX8_arranges_102 : decode cX8_arranges 102 = .ok (.getfield 47, 3) := by decide +kernel
theorem dX8_arranges_105 : decode cX8_arranges 105 = .ok (.iload 5, 2) := by decide +kernel
theorem dX8_arranges_107 : decode cX8_arranges 107 = .ok (.iaload, 1) := by decide +kernel
theorem dX8_arranges_108 : decode cX8_arranges 108 = .ok (.iastore, 1) := by decide +kernel
theorem dX8_arranges_109 : decode cX8_arranges 109 = .ok (.iinc 5 1, 3) := by decide +kernel
theorem dX8_arranges_112 : decode cX8_arranges 112 = .ok (.goto (-26), 3) := by decide +kernel
theorem dX8_arranges_115 : decode cX8_arranges 115 = .ok (.aload_n 0, 1) := by decide +kernel
theorem dX8_arranges_116 : decode cX8_arranges 116 = .ok (.invokevirtual 148, 3) := by decide +kernel
theorem dX8_arranges_119 : decode cX8_arranges 119 = .ok (.istore_n 3, 1) := by decide +kernel
theorem dX8_arranges_120 : decode cX8_arranges 120 = .ok (.goto (-62), 3) := by decide +kernel
theorem dX8_arranges_123 : decode cX8_arranges 123 = .ok (.aload_n 0, 1) := by decide +kernel
theorem dX8_arranges_124 : decode cX8_arranges 124 = .ok (.invokevirtual 152, 3) := by decide +kernel
theorem dX8_arranges_127 : decode cX8_arranges 127 = .ok (.iconst 0, 1) := by decide +kernel
theorem dX8_arranges_128 : decode cX8_arranges 128 = .ok (.istore 4, 2) := by decide +kernel
theorem dX8_arranges_130 : decode cX8_arranges 130 = .ok (.aload_n 0, 1) := by decide +kernel
theorem dX8_arranges_131 : decode cX8_arranges 131 = .ok (.getfield 25, 3) := by decide +kernel
theorem dX8_arranges_134 : decode cX8_arranges 134 = .ok (.iload 4, 2) := by decide +kernel
theorem dX8_arranges_136 : decode cX8_arranges 136 = .ok (.iaload, 1) := by decide +kernel
theorem dX8_arranges_137 : decode cX8_arranges 137 = .ok (.aload_n 0, 1) := by decide +kernel
theorem dX8_arranges_138 : decode cX8_arranges 138 = .ok (.getfield 53, 3) := by decide +kernel
theorem dX8_arranges_141 : decode cX8_arranges 141 = .ok (.iload 4, 2) := by decide +kernel
theorem dX8_arranges_143 : decode cX8_arranges 143 = .ok (.iaload, 1) := by decide +kernel
theorem dX8_arranges_144 : decode cX8_arranges 144 = .ok (.isub, 1) := by decide +kernel
theorem dX8_arranges_145 : decode cX8_arranges 145 = .ok (.iload_n 1, 1) := by decide +kernel
theorem dX8_arranges_146 : decode cX8_arranges 146 = .ok (.if_icmp .ge 9, 3) := by decide +kernel
theorem dX8_arranges_149 : decode cX8_arranges 149 = .ok (.iinc 4 1, 3) := by decide +kernel
theorem dX8_arranges_152 : decode cX8_arranges 152 = .ok (.goto (-22), 3) := by decide +kernel
theorem dX8_arranges_155 : decode cX8_arranges 155 = .ok (.aload_n 0, 1) := by decide +kernel
theorem dX8_arranges_156 : decode cX8_arranges 156 = .ok (.getfield 22, 3) := by decide +kernel
theorem dX8_arranges_159 : decode cX8_arranges 159 = .ok (.iload 4, 2) := by decide +kernel
theorem dX8_arranges_161 : decode cX8_arranges 161 = .ok (.iaload, 1) := by decide +kernel
theorem dX8_arranges_162 : decode cX8_arranges 162 = .ok (.aload_n 0, 1) := by decide +kernel
theorem dX8_arranges_163 : decode cX8_arranges 163 = .ok (.getfield 53, 3) := by decide +kernel
theorem dX8_arranges_166 : decode cX8_arranges 166 = .ok (.iload 4, 2) := by decide +kernel
theorem dX8_arranges_168 : decode cX8_arranges 168 = .ok (.iaload, 1) := by decide +kernel
theorem dX8_arranges_169 : decode cX8_arranges 169 = .ok (.iadd, 1) := by decide +kernel
theorem dX8_arranges_170 : decode cX8_arranges 170 = .ok (.ireturn, 1) := by decide +kernel
abbrev mX8_arranges : XM := (cX8_arranges, 6, RX8, (some .int), shw_8, 4)
noncomputable def rg_X8_arranges_0 (k35 : XK) : XK :=
 o_aload 0 <|
 o_aload 0 <|
 o_get shw_8 8 0 <|
 o_iconst 0 <|
 o_iald shw_8 <|
 o_callVg 2 0 [0] g_X8_fillsGaps v_X8_fillsGaps <|
 o_aload 0 <|
 o_get shw_8 8 8 <|
 o_if_eq (o_iconst (-1) <|
 o_ireturn)
 (o_aload 0 <|
 o_iconst 255 <|
 o_callVg 2 1 [0] g_X8_mostLeft v_X8_mostLeft <|
 o_iload 1 <|
 o_icmp_ge (o_iconst 9 <|
 o_istore 2 <|
 o_iconst 0 <|
 o_istore 3 <|
 o_cut [] k35)
 (o_iconst (-1) <|
 o_ireturn))
def en_X8_arranges_0 (p1 : Int) (a : Ob) : XSt := ([some (.inr (.inl (0, 0))), some (.inl p1), none, none, none, none], [], [a])
noncomputable def rg_X8_arranges_35 (k58 : XK) (k35 : XK) : XK :=
 o_iload 3 <|
 o_aload 0 <|
 o_get shw_8 8 11 <|
 o_icmp_ge (o_iconst 1 <|
 o_istore 3 <|
 o_cut [] k58)
 (o_aload 0 <|
 o_get shw_8 8 16 <|
 o_iload 3 <|
 o_iconst 0 <|
 o_iast shw_8 <|
 o_iinc 3 1 <|
 o_cut [] k35)
def en_X8_arranges_35 (p1 : Int) (a : Int × Int × Ob) : XSt := ([some (.inr (.inl (0, 0))), some (.inl p1), some (.inl a.1), some (.inl a.2.1), none, none], [], [a.2.2])
noncomputable def rg_X8_arranges_58 (k130 : XK) (k115 : XK) (k86 : XK) : XK :=
 o_iload 3 <|
 o_if_eq (o_aload 0 <|
 o_callVg 1 0 [0] g_X8_arrangesBest v_X8_arrangesBest <|
 o_iconst 0 <|
 o_istore 4 <|
 o_cut [2, 3] k130)
 (o_aload 0 <|
 o_iload 1 <|
 o_callVg 2 1 [0] g_X8_othersBy v_X8_othersBy <|
 o_istore 4 <|
 o_iload 4 <|
 o_if_lt (o_cut [3, 4] k115)
 (o_iload 4 <|
 o_iload 2 <|
 o_icmp_ge (o_cut [3, 4] k115)
 (o_iload 4 <|
 o_istore 2 <|
 o_iconst 0 <|
 o_istore 5 <|
 o_cut [3, 4] k86)))
def en_X8_arranges_58 (p1 : Int) (a : Int × Int × Ob) : XSt := ([some (.inr (.inl (0, 0))), some (.inl p1), some (.inl a.1), some (.inl a.2.1), none, none], [], [a.2.2])
noncomputable def rg_X8_arranges_86 (k115 : XK) (k86 : XK) : XK :=
 o_iload 5 <|
 o_aload 0 <|
 o_get shw_8 8 11 <|
 o_icmp_ge (o_cut [5] k115)
 (o_aload 0 <|
 o_get shw_8 8 17 <|
 o_iload 5 <|
 o_aload 0 <|
 o_get shw_8 8 16 <|
 o_iload 5 <|
 o_iald shw_8 <|
 o_iast shw_8 <|
 o_iinc 5 1 <|
 o_cut [] k86)
def en_X8_arranges_86 (p1 : Int) (a : Int × Int × Ob) : XSt := ([some (.inr (.inl (0, 0))), some (.inl p1), some (.inl a.1), none, none, some (.inl a.2.1)], [], [a.2.2])
noncomputable def rg_X8_arranges_115 (k58 : XK) : XK :=
 o_aload 0 <|
 o_callVg 1 1 [0] g_X8_turnsOn v_X8_turnsOn <|
 o_istore 3 <|
 o_cut [] k58
def en_X8_arranges_115 (p1 : Int) (a : Int × Ob) : XSt := ([some (.inr (.inl (0, 0))), some (.inl p1), some (.inl a.1), none, none, none], [], [a.2])
noncomputable def rg_X8_arranges_130 (k130 : XK) : XK :=
 o_aload 0 <|
 o_get shw_8 8 7 <|
 o_iload 4 <|
 o_iald shw_8 <|
 o_aload 0 <|
 o_get shw_8 8 18 <|
 o_iload 4 <|
 o_iald shw_8 <|
 o_isub <|
 o_iload 1 <|
 o_icmp_ge (o_aload 0 <|
 o_get shw_8 8 6 <|
 o_iload 4 <|
 o_iald shw_8 <|
 o_aload 0 <|
 o_get shw_8 8 18 <|
 o_iload 4 <|
 o_iald shw_8 <|
 o_iadd <|
 o_ireturn)
 (o_iinc 4 1 <|
 o_cut [] k130)
def en_X8_arranges_130 (p1 : Int) (a : Int × Ob) : XSt := ([some (.inr (.inl (0, 0))), some (.inl p1), none, none, some (.inl a.1), none], [], [a.2])
noncomputable def mg_X8_arranges_0 (p1 : Int) (k35 : (Int × Int × Ob) → Option Rt) (a : Ob) : Option Rt :=
 if oqV (ov_X8_fillsGaps (a 1 0) a) then (
 if xw ((oqO (ov_X8_fillsGaps (a 1 0) a) 0) 0 8) = 0 then (RI (-1) [(oqO (ov_X8_fillsGaps (a 1 0) a) 0)])
 else (if oqI (ov_X8_mostLeft (255 : Int) (oqO (ov_X8_fillsGaps (a 1 0) a) 0)) then (
 if xw (oqR (ov_X8_mostLeft (255 : Int) (oqO (ov_X8_fillsGaps (a 1 0) a) 0))) ≥ xw p1 then (k35 (9, 0, (oqO (ov_X8_mostLeft (255 : Int) (oqO (ov_X8_fillsGaps (a 1 0) a) 0)) 0)))
 else (RI (-1) [(oqO (ov_X8_mostLeft (255 : Int) (oqO (ov_X8_fillsGaps (a 1 0) a) 0)) 0)])) else none)) else none
set_option maxRecDepth 100000 in
set_option maxHeartbeats 4000000 in
theorem rq_X8_arranges_0 (p1 : Int) (k35 : XK) (a : Ob) : rg_X8_arranges_0 k35 (en_X8_arranges_0 p1 a) = mg_X8_arranges_0 p1 (fun b => k35 (en_X8_arranges_35 p1 b)) a := rfl
set_option maxRecDepth 100000 in
set_option maxHeartbeats 4000000 in
theorem sg_X8_arranges_0 {X : XDyn} {r0 : Rt} (C : XO X mX8_arranges) {k35 : XK} (q35 : XS X mX8_arranges r0 35 k35) : XS X mX8_arranges r0 0 (rg_X8_arranges_0 k35) := by
 unfold rg_X8_arranges_0
 exact s_aload_n (pc := 0) C dX8_arranges_0 rfl <|
    s_aload_n (pc := 1) C dX8_arranges_1 rfl <|
    s_get (pc := 2) C (ci := 8) (kf := 0) rfl inX8 (by decide) wd_871 dX8_arranges_2 <|
    s_iconst (pc := 5) C dX8_arranges_5 <|
    s_iald (pc := 6) C dX8_arranges_6 <|
    s_callVg (pc := 7) C ct_X8_fillsGaps (n := 2) (rk := 0) (mp := [0]) ⟨rfl, by decide, rfl⟩ (ci := 8) rfl rfl (by decide) (by decide) yi_X8_fillsGaps (by decide) wd_1038 wd_1040 wd_36 wd_81 wd_1041 dX8_arranges_7 <|
    s_aload_n (pc := 10) C dX8_arranges_10 rfl <|
    s_get (pc := 11) C (ci := 8) (kf := 8) rfl inX8 (by decide) wd_879 dX8_arranges_11 <|
    s_if_eq (pc := 14) C dX8_arranges_14 (by decide) (s_iconst (pc := 28) C dX8_arranges_28 <|
    s_ireturn (pc := 29) C rfl dX8_arranges_29)
    (s_aload_n (pc := 17) C dX8_arranges_17 rfl <|
    s_sipush (pc := 18) C dX8_arranges_18 (by decide) <|
    s_callVg (pc := 21) C ct_X8_mostLeft (n := 2) (rk := 1) (mp := [0]) ⟨rfl, by decide, rfl⟩ (ci := 8) rfl rfl (by decide) (by decide) yi_X8_mostLeft (by decide) wd_1042 wd_1044 wd_37 wd_81 wd_1045 dX8_arranges_21 <|
    s_iload_n (pc := 24) C dX8_arranges_24 rfl <|
    s_icmp_ge (pc := 25) C dX8_arranges_25 (by decide) (s_bipush (pc := 30) C dX8_arranges_30 (by decide) <|
    s_istore_n (pc := 32) C dX8_arranges_32 rfl <|
    s_iconst (pc := 33) C dX8_arranges_33 <|
    s_istore_n (pc := 34) C dX8_arranges_34 rfl <|
    s_cut q35)
    (s_iconst (pc := 28) C dX8_arranges_28 <|
    s_ireturn (pc := 29) C rfl dX8_arranges_29))
noncomputable def mg_X8_arranges_35 (p1 : Int) (k58 : (Int × Int × Ob) → Option Rt) (k35 : (Int × Int × Ob) → Option Rt) (a : Int × Int × Ob) : Option Rt :=
 if xw a.2.1 ≥ xw (a.2.2 0 11) then (k58 (a.1, 1, a.2.2))
 else (if xin a.2.1 8 then (
 k35 (a.1, (a.2.1 + 1), (xset a.2.2 13 (xw a.2.1).toNat 0))) else none)
set_option maxRecDepth 100000 in
set_option maxHeartbeats 4000000 in
theorem rq_X8_arranges_35 (p1 : Int) (k58 : XK) (k35 : XK) (a : Int × Int × Ob) : rg_X8_arranges_35 k58 k35 (en_X8_arranges_35 p1 a) = mg_X8_arranges_35 p1 (fun b => k58 (en_X8_arranges_58 p1 b)) (fun b => k35 (en_X8_arranges_35 p1 b)) a := rfl
set_option maxRecDepth 100000 in
set_option maxHeartbeats 4000000 in
theorem sg_X8_arranges_35 {X : XDyn} {r0 : Rt} (C : XO X mX8_arranges) {k58 : XK} (q58 : XS X mX8_arranges r0 58 k58) {k35 : XK} (q35 : XS X mX8_arranges r0 35 k35) : XS X mX8_arranges r0 35 (rg_X8_arranges_35 k58 k35) := by
 unfold rg_X8_arranges_35
 exact s_iload_n (pc := 35) C dX8_arranges_35 rfl <|
    s_aload_n (pc := 36) C dX8_arranges_36 rfl <|
    s_get (pc := 37) C (ci := 8) (kf := 11) rfl inX8 (by decide) wd_882 dX8_arranges_37 <|
    s_icmp_ge (pc := 40) C dX8_arranges_40 (by decide) (s_iconst (pc := 56) C dX8_arranges_56 <|
    s_istore_n (pc := 57) C dX8_arranges_57 rfl <|
    s_cut q58)
    (s_aload_n (pc := 43) C dX8_arranges_43 rfl <|
    s_get (pc := 44) C (ci := 8) (kf := 16) rfl inX8 (by decide) wd_887 dX8_arranges_44 <|
    s_iload_n (pc := 47) C dX8_arranges_47 rfl <|
    s_iconst (pc := 48) C dX8_arranges_48 <|
    s_iast (pc := 49) C dX8_arranges_49 <|
    s_iinc (pc := 50) C dX8_arranges_50 <|
    s_goto (pc := 53) C dX8_arranges_53 (by decide) <|
    s_cut q35)
noncomputable def mg_X8_arranges_58 (p1 : Int) (k130 : (Int × Ob) → Option Rt) (k115 : (Int × Ob) → Option Rt) (k86 : (Int × Int × Ob) → Option Rt) (a : Int × Int × Ob) : Option Rt :=
 if xw a.2.1 = 0 then (if oqV (ov_X8_arrangesBest a.2.2) then (
 k130 (0, (oqO (ov_X8_arrangesBest a.2.2) 0))) else none)
 else (if oqI (ov_X8_othersBy p1 a.2.2) then (
 if xw (oqR (ov_X8_othersBy p1 a.2.2)) < 0 then (k115 (a.1, (oqO (ov_X8_othersBy p1 a.2.2) 0)))
 else (if xw (oqR (ov_X8_othersBy p1 a.2.2)) ≥ xw a.1 then (k115 (a.1, (oqO (ov_X8_othersBy p1 a.2.2) 0)))
 else (k86 ((oqR (ov_X8_othersBy p1 a.2.2)), 0, (oqO (ov_X8_othersBy p1 a.2.2) 0))))) else none)
set_option maxRecDepth 100000 in
set_option maxHeartbeats 4000000 in
theorem rq_X8_arranges_58 (p1 : Int) (k130 : XK) (k115 : XK) (k86 : XK) (a : Int × Int × Ob) : rg_X8_arranges_58 k130 k115 k86 (en_X8_arranges_58 p1 a) = mg_X8_arranges_58 p1 (fun b => k130 (en_X8_arranges_130 p1 b)) (fun b => k115 (en_X8_arranges_115 p1 b)) (fun b => k86 (en_X8_arranges_86 p1 b)) a := rfl
set_option maxRecDepth 100000 in
set_option maxHeartbeats 4000000 in
theorem sg_X8_arranges_58 {X : XDyn} {r0 : Rt} (C : XO X mX8_arranges) {k130 : XK} (q130 : XS X mX8_arranges r0 130 k130) {k115 : XK} (q115 : XS X mX8_arranges r0 115 k115) {k86 : XK} (q86 : XS X mX8_arranges r0 86 k86) : XS X mX8_arranges r0 58 (rg_X8_arranges_58 k130 k115 k86) := by
 unfold rg_X8_arranges_58
 exact s_iload_n (pc := 58) C dX8_arranges_58 rfl <|
    s_if_eq (pc := 59) C dX8_arranges_59 (by decide) (s_aload_n (pc := 123) C dX8_arranges_123 rfl <|
    s_callVg (pc := 124) C ct_X8_arrangesBest (n := 1) (rk := 0) (mp := [0]) ⟨rfl, by decide, rfl⟩ (ci := 8) rfl rfl (by decide) (by decide) yi_X8_arrangesBest (by decide) wd_1069 wd_1071 wd_43 wd_81 wd_1072 dX8_arranges_124 <|
    s_iconst (pc := 127) C dX8_arranges_127 <|
    s_istore (pc := 128) C dX8_arranges_128 <|
    s_cut q130)
    (s_aload_n (pc := 62) C dX8_arranges_62 rfl <|
    s_iload_n (pc := 63) C dX8_arranges_63 rfl <|
    s_callVg (pc := 64) C ct_X8_othersBy (n := 2) (rk := 1) (mp := [0]) ⟨rfl, by decide, rfl⟩ (ci := 8) rfl rfl (by decide) (by decide) yi_X8_othersBy (by decide) wd_1061 wd_1063 wd_41 wd_81 wd_1064 dX8_arranges_64 <|
    s_istore (pc := 67) C dX8_arranges_67 <|
    s_iload (pc := 69) C dX8_arranges_69 <|
    s_if_lt (pc := 71) C dX8_arranges_71 (by decide) (s_cut q115)
    (s_iload (pc := 74) C dX8_arranges_74 <|
    s_iload_n (pc := 76) C dX8_arranges_76 rfl <|
    s_icmp_ge (pc := 77) C dX8_arranges_77 (by decide) (s_cut q115)
    (s_iload (pc := 80) C dX8_arranges_80 <|
    s_istore_n (pc := 82) C dX8_arranges_82 rfl <|
    s_iconst (pc := 83) C dX8_arranges_83 <|
    s_istore (pc := 84) C dX8_arranges_84 <|
    s_cut q86)))
noncomputable def mg_X8_arranges_86 (p1 : Int) (k115 : (Int × Ob) → Option Rt) (k86 : (Int × Int × Ob) → Option Rt) (a : Int × Int × Ob) : Option Rt :=
 if xw a.2.1 ≥ xw (a.2.2 0 11) then (k115 (a.1, a.2.2))
 else (if xin a.2.1 8 then (
 if xin a.2.1 8 then (
 k86 (a.1, (a.2.1 + 1), (xset a.2.2 14 (xw a.2.1).toNat (a.2.2 13 (xw a.2.1).toNat)))) else none) else none)
set_option maxRecDepth 100000 in
set_option maxHeartbeats 4000000 in
theorem rq_X8_arranges_86 (p1 : Int) (k115 : XK) (k86 : XK) (a : Int × Int × Ob) : rg_X8_arranges_86 k115 k86 (en_X8_arranges_86 p1 a) = mg_X8_arranges_86 p1 (fun b => k115 (en_X8_arranges_115 p1 b)) (fun b => k86 (en_X8_arranges_86 p1 b)) a := rfl
set_option maxRecDepth 100000 in
set_option maxHeartbeats 4000000 in
theorem sg_X8_arranges_86 {X : XDyn} {r0 : Rt} (C : XO X mX8_arranges) {k115 : XK} (q115 : XS X mX8_arranges r0 115 k115) {k86 : XK} (q86 : XS X mX8_arranges r0 86 k86) : XS X mX8_arranges r0 86 (rg_X8_arranges_86 k115 k86) := by
 unfold rg_X8_arranges_86
 exact s_iload (pc := 86) C dX8_arranges_86 <|
    s_aload_n (pc := 88) C dX8_arranges_88 rfl <|
    s_get (pc := 89) C (ci := 8) (kf := 11) rfl inX8 (by decide) wd_882 dX8_arranges_89 <|
    s_icmp_ge (pc := 92) C dX8_arranges_92 (by decide) (s_cut q115)
    (s_aload_n (pc := 95) C dX8_arranges_95 rfl <|
    s_get (pc := 96) C (ci := 8) (kf := 17) rfl inX8 (by decide) wd_888 dX8_arranges_96 <|
    s_iload (pc := 99) C dX8_arranges_99 <|
    s_aload_n (pc := 101) C dX8_arranges_101 rfl <|
    s_get (pc := 102) C (ci := 8) (kf := 16) rfl inX8 (by decide) wd_887 dX8_arranges_102 <|
    s_iload (pc := 105) C dX8_arranges_105 <|
    s_iald (pc := 107) C dX8_arranges_107 <|
    s_iast (pc := 108) C dX8_arranges_108 <|
    s_iinc (pc := 109) C dX8_arranges_109 <|
    s_goto (pc := 112) C dX8_arranges_112 (by decide) <|
    s_cut q86)
noncomputable def mg_X8_arranges_115 (p1 : Int) (k58 : (Int × Int × Ob) → Option Rt) (a : Int × Ob) : Option Rt :=
 if oqI (ov_X8_turnsOn a.2) then (
 k58 (a.1, (oqR (ov_X8_turnsOn a.2)), (oqO (ov_X8_turnsOn a.2) 0))) else none
set_option maxRecDepth 100000 in
set_option maxHeartbeats 4000000 in
theorem rq_X8_arranges_115 (p1 : Int) (k58 : XK) (a : Int × Ob) : rg_X8_arranges_115 k58 (en_X8_arranges_115 p1 a) = mg_X8_arranges_115 p1 (fun b => k58 (en_X8_arranges_58 p1 b)) a := rfl
set_option maxRecDepth 100000 in
set_option maxHeartbeats 4000000 in
theorem sg_X8_arranges_115 {X : XDyn} {r0 : Rt} (C : XO X mX8_arranges) {k58 : XK} (q58 : XS X mX8_arranges r0 58 k58) : XS X mX8_arranges r0 115 (rg_X8_arranges_115 k58) := by
 unfold rg_X8_arranges_115
 exact s_aload_n (pc := 115) C dX8_arranges_115 rfl <|
    s_callVg (pc := 116) C ct_X8_turnsOn (n := 1) (rk := 1) (mp := [0]) ⟨rfl, by decide, rfl⟩ (ci := 8) rfl rfl (by decide) (by decide) yi_X8_turnsOn (by decide) wd_1065 wd_1067 wd_42 wd_81 wd_1068 dX8_arranges_116 <|
    s_istore_n (pc := 119) C dX8_arranges_119 rfl <|
    s_goto (pc := 120) C dX8_arranges_120 (by decide) <|
    s_cut q58
noncomputable def mg_X8_arranges_130 (p1 : Int) (k130 : (Int × Ob) → Option Rt) (a : Int × Ob) : Option Rt :=
 if xin a.1 16 then (
 if xin a.1 16 then (
 if xw ((a.2 6 (xw a.1).toNat) - (a.2 15 (xw a.1).toNat)) ≥ xw p1 then (if xin a.1 16 then (
 if xin a.1 16 then (
 RI ((a.2 5 (xw a.1).toNat) + (a.2 15 (xw a.1).toNat)) [a.2]) else none) else none)
 else (k130 ((a.1 + 1), a.2))) else none) else none
set_option maxRecDepth 100000 in
set_option maxHeartbeats 4000000 in
theorem rq_X8_arranges_130 (p1 : Int) (k130 : XK) (a : Int × Ob) : rg_X8_arranges_130 k130 (en_X8_arranges_130 p1 a) = mg_X8_arranges_130 p1 (fun b => k130 (en_X8_arranges_130 p1 b)) a := rfl
set_option maxRecDepth 100000 in
set_option maxHeartbeats 4000000 in
theorem sg_X8_arranges_130 {X : XDyn} {r0 : Rt} (C : XO X mX8_arranges) {k130 : XK} (q130 : XS X mX8_arranges r0 130 k130) : XS X mX8_arranges r0 130 (rg_X8_arranges_130 k130) := by
 unfold rg_X8_arranges_130
 exact s_aload_n (pc := 130) C dX8_arranges_130 rfl <|
    s_get (pc := 131) C (ci := 8) (kf := 7) rfl inX8 (by decide) wd_878 dX8_arranges_131 <|
    s_iload (pc := 134) C dX8_arranges_134 <|
    s_iald (pc := 136) C dX8_arranges_136 <|
    s_aload_n (pc := 137) C dX8_arranges_137 rfl <|
    s_get (pc := 138) C (ci := 8) (kf := 18) rfl inX8 (by decide) wd_889 dX8_arranges_138 <|
    s_iload (pc := 141) C dX8_arranges_141 <|
    s_iald (pc := 143) C dX8_arranges_143 <|
    s_isub (pc := 144) C dX8_arranges_144 <|
    s_iload_n (pc := 145) C dX8_arranges_145 rfl <|
    s_icmp_ge (pc := 146) C dX8_arranges_146 (by decide) (s_aload_n (pc := 155) C dX8_arranges_155 rfl <|
    s_get (pc := 156) C (ci := 8) (kf := 6) rfl inX8 (by decide) wd_877 dX8_arranges_156 <|
    s_iload (pc := 159) C dX8_arranges_159 <|
    s_iald (pc := 161) C dX8_arranges_161 <|
    s_aload_n (pc := 162) C dX8_arranges_162 rfl <|
    s_get (pc := 163) C (ci := 8) (kf := 18) rfl inX8 (by decide) wd_889 dX8_arranges_163 <|
    s_iload (pc := 166) C dX8_arranges_166 <|
    s_iald (pc := 168) C dX8_arranges_168 <|
    s_iadd (pc := 169) C dX8_arranges_169 <|
    s_ireturn (pc := 170) C rfl dX8_arranges_170)
    (s_iinc (pc := 149) C dX8_arranges_149 <|
    s_goto (pc := 152) C dX8_arranges_152 (by decide) <|
    s_cut q130)
noncomputable def rw_X8_arranges_130 (f : Nat) : XK := tlp (fun k130 => rg_X8_arranges_130 k130) f
noncomputable def lb_X8_arranges_130 (p1 : Int) (f : Nat) : ((Int × Ob) → Option Rt) → Int × Ob → Option Rt := fun k130 => mg_X8_arranges_130 p1 k130
noncomputable def md_X8_arranges_130 (p1 : Int) (f : Nat) : Int × Ob → Option Rt := tlp (lb_X8_arranges_130 p1 f) f
theorem eq_X8_arranges_130 (p1 : Int) (f : Nat) (a : Int × Ob) : rw_X8_arranges_130 f (en_X8_arranges_130 p1 a) = md_X8_arranges_130 p1 f a :=
 tlp_enc (en_X8_arranges_130 p1) (fun k130 a => (rq_X8_arranges_130 p1 k130 a).trans (congrFun (congr (rfl : mg_X8_arranges_130 p1 = mg_X8_arranges_130 p1) rfl) a)) f a
theorem sd_X8_arranges_130 (f : Nat) {X : XDyn} {r0 : Rt} (C : XO X mX8_arranges) : XS X mX8_arranges r0 130 (rw_X8_arranges_130 f) := s_lp (fun k130 q130 => sg_X8_arranges_130 C q130) f
noncomputable def rw_X8_arranges_115 (f : Nat) (k58 : XK) : XK := rg_X8_arranges_115 k58
noncomputable def md_X8_arranges_115 (p1 : Int) (f : Nat) (k58 : (Int × Int × Ob) → Option Rt) : Int × Ob → Option Rt := mg_X8_arranges_115 p1 k58
theorem eq_X8_arranges_115 (p1 : Int) (f : Nat) (k58 : XK) (a : Int × Ob) : rw_X8_arranges_115 f k58 (en_X8_arranges_115 p1 a) = md_X8_arranges_115 p1 f (fun b => k58 (en_X8_arranges_58 p1 b)) a :=
 (rq_X8_arranges_115 p1 k58 a).trans (congrFun (congr (rfl : mg_X8_arranges_115 p1 = mg_X8_arranges_115 p1) rfl) a)
theorem sd_X8_arranges_115 (f : Nat) {X : XDyn} {r0 : Rt} (C : XO X mX8_arranges) {k58 : XK} (q58 : XS X mX8_arranges r0 58 k58) : XS X mX8_arranges r0 115 (rw_X8_arranges_115 f k58) := sg_X8_arranges_115 C q58
noncomputable def rw_X8_arranges_86 (f : Nat) (k58 : XK) : XK := tlp (fun k86 => rg_X8_arranges_86 (rw_X8_arranges_115 f k58) k86) f
noncomputable def lb_X8_arranges_86 (p1 : Int) (f : Nat) (k58 : (Int × Int × Ob) → Option Rt) : ((Int × Int × Ob) → Option Rt) → Int × Int × Ob → Option Rt := fun k86 => mg_X8_arranges_86 p1 (md_X8_arranges_115 p1 f k58) k86
noncomputable def md_X8_arranges_86 (p1 : Int) (f : Nat) (k58 : (Int × Int × Ob) → Option Rt) : Int × Int × Ob → Option Rt := tlp (lb_X8_arranges_86 p1 f k58) f
theorem eq_X8_arranges_86 (p1 : Int) (f : Nat) (k58 : XK) (a : Int × Int × Ob) : rw_X8_arranges_86 f k58 (en_X8_arranges_86 p1 a) = md_X8_arranges_86 p1 f (fun b => k58 (en_X8_arranges_58 p1 b)) a :=
 tlp_enc (en_X8_arranges_86 p1) (fun k86 a => (rq_X8_arranges_86 p1 (rw_X8_arranges_115 f k58) k86 a).trans (congrFun (congr (congr (rfl : mg_X8_arranges_86 p1 = mg_X8_arranges_86 p1) (funext (eq_X8_arranges_115 p1 f k58))) rfl) a)) f a
theorem sd_X8_arranges_86 (f : Nat) {X : XDyn} {r0 : Rt} (C : XO X mX8_arranges) {k58 : XK} (q58 : XS X mX8_arranges r0 58 k58) : XS X mX8_arranges r0 86 (rw_X8_arranges_86 f k58) := s_lp (fun k86 q86 => sg_X8_arranges_86 C (sd_X8_arranges_115 f C q58) q86) f
noncomputable def rw_X8_arranges_58 (f : Nat) : XK := tlp (fun k58 => rg_X8_arranges_58 (rw_X8_arranges_130 f) (rw_X8_arranges_115 f k58) (rw_X8_arranges_86 f k58)) f
noncomputable def lb_X8_arranges_58 (p1 : Int) (f : Nat) : ((Int × Int × Ob) → Option Rt) → Int × Int × Ob → Option Rt := fun k58 => mg_X8_arranges_58 p1 (md_X8_arranges_130 p1 f) (md_X8_arranges_115 p1 f k58) (md_X8_arranges_86 p1 f k58)
noncomputable def md_X8_arranges_58 (p1 : Int) (f : Nat) : Int × Int × Ob → Option Rt := tlp (lb_X8_arranges_58 p1 f) f
theorem eq_X8_arranges_58 (p1 : Int) (f : Nat) (a : Int × Int × Ob) : rw_X8_arranges_58 f (en_X8_arranges_58 p1 a) = md_X8_arranges_58 p1 f a :=
 tlp_enc (en_X8_arranges_58 p1) (fun k58 a => (rq_X8_arranges_58 p1 (rw_X8_arranges_130 f) (rw_X8_arranges_115 f k58) (rw_X8_arranges_86 f k58) a).trans (congrFun (congr (congr (congr (rfl : mg_X8_arranges_58 p1 = mg_X8_arranges_58 p1) (funext (eq_X8_arranges_130 p1 f))) (funext (eq_X8_arranges_115 p1 f k58))) (funext (eq_X8_arranges_86 p1 f k58))) a)) f a
theorem sd_X8_arranges_58 (f : Nat) {X : XDyn} {r0 : Rt} (C : XO X mX8_arranges) : XS X mX8_arranges r0 58 (rw_X8_arranges_58 f) := s_lp (fun k58 q58 => sg_X8_arranges_58 C (sd_X8_arranges_130 f C) (sd_X8_arranges_115 f C q58) (sd_X8_arranges_86 f C q58)) f
noncomputable def rw_X8_arranges_35 (f : Nat) : XK := tlp (fun k35 => rg_X8_arranges_35 (rw_X8_arranges_58 f) k35) f
noncomputable def lb_X8_arranges_35 (p1 : Int) (f : Nat) : ((Int × Int × Ob) → Option Rt) → Int × Int × Ob → Option Rt := fun k35 => mg_X8_arranges_35 p1 (md_X8_arranges_58 p1 f) k35
noncomputable def md_X8_arranges_35 (p1 : Int) (f : Nat) : Int × Int × Ob → Option Rt := tlp (lb_X8_arranges_35 p1 f) f
theorem eq_X8_arranges_35 (p1 : Int) (f : Nat) (a : Int × Int × Ob) : rw_X8_arranges_35 f (en_X8_arranges_35 p1 a) = md_X8_arranges_35 p1 f a :=
 tlp_enc (en_X8_arranges_35 p1) (fun k35 a => (rq_X8_arranges_35 p1 (rw_X8_arranges_58 f) k35 a).trans (congrFun (congr (congr (rfl : mg_X8_arranges_35 p1 = mg_X8_arranges_35 p1) (funext (eq_X8_arranges_58 p1 f))) rfl) a)) f a
theorem sd_X8_arranges_35 (f : Nat) {X : XDyn} {r0 : Rt} (C : XO X mX8_arranges) : XS X mX8_arranges r0 35 (rw_X8_arranges_35 f) := s_lp (fun k35 q35 => sg_X8_arranges_35 C (sd_X8_arranges_58 f C) q35) f
noncomputable def rw_X8_arranges_0 (f : Nat) : XK := rg_X8_arranges_0 (rw_X8_arranges_35 f)
noncomputable def md_X8_arranges_0 (p1 : Int) (f : Nat) : Ob → Option Rt := mg_X8_arranges_0 p1 (md_X8_arranges_35 p1 f)
theorem eq_X8_arranges_0 (p1 : Int) (f : Nat) (a : Ob) : rw_X8_arranges_0 f (en_X8_arranges_0 p1 a) = md_X8_arranges_0 p1 f a :=
 (rq_X8_arranges_0 p1 (rw_X8_arranges_35 f) a).trans (congrFun (congr (rfl : mg_X8_arranges_0 p1 = mg_X8_arranges_0 p1) (funext (eq_X8_arranges_35 p1 f))) a)
theorem sd_X8_arranges_0 (f : Nat) {X : XDyn} {r0 : Rt} (C : XO X mX8_arranges) : XS X mX8_arranges r0 0 (rw_X8_arranges_0 f) := sg_X8_arranges_0 C (sd_X8_arranges_35 f C)
theorem ctr_X8_arranges (f : Nat) : XCt yX8_arranges mX8_arranges (xF mX8_arranges (rw_X8_arranges_0 f)) := xMet (by decide +kernel) rfl (fun _ _ C => sd_X8_arranges_0 f C)
theorem eqf_X8_arranges (f : Nat) (p1 : Int) (h0 : Ob) : xF mX8_arranges (rw_X8_arranges_0 f) [.inr (.inl (0, 0)), .inl p1] [h0] = md_X8_arranges_0 p1 f h0 := eq_X8_arranges_0 p1 f h0
theorem yi_X8_arranges : yX8_arranges.cls = RX8 ∧ yX8_arranges.cls ≠ "java/lang/invoke/MethodHandle" ∧ yX8_arranges.cls ≠ "java/lang/invoke/VarHandle" ∧ (parseMethodDescriptor yX8_arranges.desc).map (fun d => d.parameters.length) = some 1 := ⟨rfl, by decide +kernel, by decide +kernel, by decide +kernel⟩
noncomputable def ov_X8_arranges (p1 : Int) (h0 : Ob) : Option Rt := xop (md_X8_arranges_0 p1 xfu h0)
theorem ov_X8_arranges_e (p1 : Int) (h0 : Ob) : ov_X8_arranges p1 h0 = md_X8_arranges_0 p1 xfu h0 := xop_eq _
theorem sp_X8_arranges (p1 : Int) (h0 : Ob) (hg : oqI (ov_X8_arranges p1 h0) = true) : md_X8_arranges_0 p1 xfu h0 = RI (oqR (ov_X8_arranges p1 h0)) [(oqO (ov_X8_arranges p1 h0) 0)] := (ov_X8_arranges_e p1 h0).symm.trans (oqI_eq hg)
noncomputable def g_X8_arranges : List AV → List Ob → Bool
  | [.inr (.inl (0, 0)), .inl p1], [h0] => oqI (ov_X8_arranges p1 h0)
  | _, _ => false
noncomputable def v_X8_arranges : List AV → List Ob → Rt
  | [.inr (.inl (0, 0)), .inl p1], [h0] => (some (.inl (oqR (ov_X8_arranges p1 h0))), [(oqO (ov_X8_arranges p1 h0) 0)])
  | _, _ => (none, [])
theorem ct_X8_arranges : XCt yX8_arranges mX8_arranges (fun as μ => if g_X8_arranges as μ then some (v_X8_arranges as μ) else none) := (ctr_X8_arranges xfu).of (fun as μ r h => by
  split at h
  · rename_i hg
    unfold g_X8_arranges at hg
    split at hg
    · rw [← h]
      exact (eqf_X8_arranges xfu _ _).trans (sp_X8_arranges _ _ hg)
    · cases hg
  · cases h)
