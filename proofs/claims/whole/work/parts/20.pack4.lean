theorem dX4_goesInto_0 : decode cX4_goesInto 0 = .ok (.aload_n 0, 1) := by decide +kernel
theorem dX4_goesInto_1 : decode cX4_goesInto 1 = .ok (.getfield 22, 3) := by decide +kernel
theorem dX4_goesInto_4 : decode cX4_goesInto 4 = .ok (.aload_n 1, 1) := by decide +kernel
theorem dX4_goesInto_5 : decode cX4_goesInto 5 = .ok (.invokevirtual 49, 3) := by decide +kernel
theorem dX4_goesInto_8 : decode cX4_goesInto 8 = .ok (.if_icmp .gt 14, 3) := by decide +kernel
theorem dX4_goesInto_11 : decode cX4_goesInto 11 = .ok (.aload_n 0, 1) := by decide +kernel
theorem dX4_goesInto_12 : decode cX4_goesInto 12 = .ok (.getfield 25, 3) := by decide +kernel
theorem dX4_goesInto_15 : decode cX4_goesInto 15 = .ok (.aload_n 1, 1) := by decide +kernel
theorem dX4_goesInto_16 : decode cX4_goesInto 16 = .ok (.invokevirtual 54, 3) := by decide +kernel
theorem dX4_goesInto_19 : decode cX4_goesInto 19 = .ok (.if_icmp .le 5, 3) := by decide +kernel
theorem dX4_goesInto_22 : decode cX4_goesInto 22 = .ok (.iconst 0, 1) := by decide +kernel
theorem dX4_goesInto_23 : decode cX4_goesInto 23 = .ok (.ireturn, 1) := by decide +kernel
theorem dX4_goesInto_24 : decode cX4_goesInto 24 = .ok (.iconst 1, 1) := by decide +kernel
theorem dX4_goesInto_25 : decode cX4_goesInto 25 = .ok (.aload_n 0, 1) := by decide +kernel
theorem dX4_goesInto_26 : decode cX4_goesInto 26 = .ok (.getfield 18, 3) := by decide +kernel
theorem dX4_goesInto_29 : decode cX4_goesInto 29 = .ok (.ishl, 1) := by decide +kernel
theorem dX4_goesInto_30 : decode cX4_goesInto 30 = .ok (.iconst 1, 1) := by decide +kernel
theorem dX4_goesInto_31 : decode cX4_goesInto 31 = .ok (.isub, 1) := by decide +kernel
theorem dX4_goesInto_32 : decode cX4_goesInto 32 = .ok (.istore_n 2, 1) := by decide +kernel
theorem dX4_goesInto_33 : decode cX4_goesInto 33 = .ok (.iconst 1, 1) := by decide +kernel
theorem dX4_goesInto_34 : decode cX4_goesInto 34 = .ok (.istore_n 3, 1) := by decide +kernel
theorem dX4_goesInto_35 : decode cX4_goesInto 35 = .ok (.iload_n 3, 1) := by decide +kernel
theorem dX4_goesInto_36 : decode cX4_goesInto 36 = .ok (.iload_n 2, 1) := by decide +kernel
theorem dX4_goesInto_37 : decode cX4_goesInto 37 = .ok (.if_icmp .gt 26, 3) := by decide +kernel
theorem dX4_goesInto_40 : decode cX4_goesInto 40 = .ok (.iload_n 3, 1) := by decide +kernel
theorem dX4_goesInto_41 : decode cX4_goesInto 41 = .ok (.aload_n 0, 1) := by decide +kernel
theorem dX4_goesInto_42 : decode cX4_goesInto 42 = .ok (.getfield 15, 3) := by decide +kernel
theorem dX4_goesInto_45 : decode cX4_goesInto 45 = .ok (.arraylength, 1) := by decide +kernel
theorem dX4_goesInto_46 : decode cX4_goesInto 46 = .ok (.if_icmp .ge 17, 3) := by decide +kernel
theorem dX4_goesInto_49 : decode cX4_goesInto 49 = .ok (.aload_n 0, 1) := by decide +kernel
theorem dX4_goesInto_50 : decode cX4_goesInto 50 = .ok (.getfield 15, 3) := by decide +kernel
theorem dX4_goesInto_53 : decode cX4_goesInto 53 = .ok (.iload_n 3, 1) := by decide +kernel
theorem dX4_goesInto_54 : decode cX4_goesInto 54 = .ok (.ldc 56, 2) := by decide +kernel
theorem dX4_goesInto_56 : decode cX4_goesInto 56 = .ok (.iastore, 1) := by decide +kernel
theorem dX4_goesInto_57 : decode cX4_goesInto 57 = .ok (.iinc 3 1, 3) := by decide +kernel
theorem dX4_goesInto_60 : decode cX4_goesInto 60 = .ok (.goto (-25), 3) := by decide +kernel
theorem dX4_goesInto_63 : decode cX4_goesInto 63 = .ok (.aload_n 0, 1) := by decide +kernel
theorem dX4_goesInto_64 : decode cX4_goesInto 64 = .ok (.getfield 15, 3) := by decide +kernel
theorem dX4_goesInto_67 : decode cX4_goesInto 67 = .ok (.iconst 0, 1) := by decide +kernel
theorem dX4_goesInto_68 : decode cX4_goesInto 68 = .ok (.iconst 0, 1) := by decide +kernel
theorem dX4_goesInto_69 : decode cX4_goesInto 69 = .ok (.iastore, 1) := by decide +kernel
theorem dX4_goesInto_70 : decode cX4_goesInto 70 = .ok (.iconst 0, 1) := by decide +kernel
theorem dX4_goesInto_71 : decode cX4_goesInto 71 = .ok (.istore_n 3, 1) := by decide +kernel
theorem dX4_goesInto_72 : decode cX4_goesInto 72 = .ok (.iload_n 3, 1) := by decide +kernel
theorem dX4_goesInto_73 : decode cX4_goesInto 73 = .ok (.iload_n 2, 1) := by decide +kernel
theorem dX4_goesInto_74 : decode cX4_goesInto 74 = .ok (.if_icmp .ge 105, 3) := by decide +kernel
theorem dX4_goesInto_77 : decode cX4_goesInto 77 = .ok (.iload_n 3, 1) := by decide +kernel
theorem dX4_goesInto_78 : decode cX4_goesInto 78 = .ok (.aload_n 0, 1) := by decide +kernel
theorem dX4_goesInto_79 : decode cX4_goesInto 79 = .ok (.getfield 15, 3) := by decide +kernel
theorem dX4_goesInto_82 : decode cX4_goesInto 82 = .ok (.arraylength, 1) := by decide +kernel
theorem dX4_goesInto_83 : decode cX4_goesInto 83 = .ok (.if_icmp .ge 96, 3) := by decide +kernel
theorem dX4_goesInto_86 : decode cX4_goesInto 86 = .ok (.iconst 0, 1) := by decide +kernel
theorem dX4_goesInto_87 : decode cX4_goesInto 87 = .ok (.istore 4, 2) := by decide +kernel
theorem dX4_goesInto_89 : decode cX4_goesInto 89 = .ok (.iload 4, 2) := by decide +kernel
theorem dX4_goesInto_91 : decode cX4_goesInto 91 = .ok (.aload_n 0, 1) := by decide +kernel
theorem dX4_goesInto_92 : decode cX4_goesInto 92 = .ok (.getfield 18, 3) := by decide +kernel
theorem dX4_goesInto_95 : decode cX4_goesInto 95 = .ok (.if_icmp .ge 78, 3) := by decide +kernel
theorem dX4_goesInto_98 : decode cX4_goesInto 98 = .ok (.aload_n 0, 1) := by decide +kernel
theorem dX4_goesInto_99 : decode cX4_goesInto 99 = .ok (.getfield 15, 3) := by decide +kernel
theorem dX4_goesInto_102 : decode cX4_goesInto 102 = .ok (.iload_n 3, 1) := by decide +kernel
theorem dX4_goesInto_103 : decode cX4_goesInto 103 = .ok (.iaload, 1) := by decide +kernel
theorem dX4_goesInto_104 : decode cX4_goesInto 104 = .ok (.ldc 56, 2) := by decide +kernel
theorem dX4_goesInto_106 : decode cX4_goesInto 106 = .ok (.if_icmp .ge 67, 3) := by decide +kernel
theorem dX4_goesInto_109 : decode cX4_goesInto 109 = .ok (.iload_n 3, 1) := by decide +kernel
theorem dX4_goesInto_110 : decode cX4_goesInto 110 = .ok (.iconst 1, 1) := by decide +kernel
theorem dX4_goesInto_111 : decode cX4_goesInto 111 = .ok (.iload 4, 2) := by decide +kernel
theorem dX4_goesInto_113 : decode cX4_goesInto 113 = .ok (.ishl, 1) := by decide +kernel
theorem dX4_goesInto_114 : decode cX4_goesInto 114 = .ok (.ior, 1) := by decide +kernel
theorem dX4_goesInto_115 : decode cX4_goesInto 115 = .ok (.istore 5, 2) := by decide +kernel
theorem dX4_goesInto_117 : decode cX4_goesInto 117 = .ok (.iload 5, 2) := by decide +kernel
theorem dX4_goesInto_119 : decode cX4_goesInto 119 = .ok (.iload_n 3, 1) := by decide +kernel
theorem dX4_goesInto_120 : decode cX4_goesInto 120 = .ok (.if_icmp .eq 47, 3) := by decide +kernel
theorem dX4_goesInto_123 : decode cX4_goesInto 123 = .ok (.iload 5, 2) := by decide +kernel
theorem dX4_goesInto_125 : decode cX4_goesInto 125 = .ok (.aload_n 0, 1) := by decide +kernel
theorem dX4_goesInto_126 : decode cX4_goesInto 126 = .ok (.getfield 15, 3) := by decide +kernel
theorem dX4_goesInto_129 : decode cX4_goesInto 129 = .ok (.arraylength, 1) := by decide +kernel
theorem dX4_goesInto_130 : decode cX4_goesInto 130 = .ok (.if_icmp .ge 37, 3) := by decide +kernel
theorem dX4_goesInto_133 : decode cX4_goesInto 133 = .ok (.aload_n 0, 1) := by decide +kernel
theorem dX4_goesInto_134 : decode cX4_goesInto 134 = .ok (.getfield 15, 3) := by decide +kernel
theorem dX4_goesInto_137 : decode cX4_goesInto 137 = .ok (.iload 5, 2) := by decide +kernel
theorem dX4_goesInto_139 : decode cX4_goesInto 139 = .ok (.aload_n 0, 1) := by decide +kernel
theorem dX4_goesInto_140 : decode cX4_goesInto 140 = .ok (.getfield 15, 3) := by decide +kernel
theorem dX4_goesInto_143 : decode cX4_goesInto 143 = .ok (.iload 5, 2) := by decide +kernel
theorem dX4_goesInto_145 : decode cX4_goesInto 145 = .ok (.iaload, 1) := by decide +kernel
theorem dX4_goesInto_146 : decode cX4_goesInto 146 = .ok (.aload_n 1, 1) := by decide +kernel
theorem dX4_goesInto_147 : decode cX4_goesInto 147 = .ok (.aload_n 0, 1) := by decide +kernel
theorem dX4_goesInto_148 : decode cX4_goesInto 148 = .ok (.getfield 15, 3) := by decide +kernel
theorem dX4_goesInto_151 : decode cX4_goesInto 151 = .ok (.iload_n 3, 1) := by decide +kernel
theorem dX4_goesInto_152 : decode cX4_goesInto 152 = .ok (.iaload, 1) := by decide +kernel
theorem dX4_goesInto_153 : decode cX4_goesInto 153 = .ok (.aload_n 0, 1) := by decide +kernel
theorem dX4_goesInto_154 : decode cX4_goesInto 154 = .ok (.getfield 9, 3) := by decide +kernel
theorem dX4_goesInto_157 : decode cX4_goesInto 157 = .ok (.iload 4, 2) := by decide +kernel
theorem dX4_goesInto_159 : decode cX4_goesInto 159 = .ok (.iaload, 1) := by decide +kernel
theorem dX4_goesInto_160 : decode cX4_goesInto 160 = .ok (.invokevirtual 57, 3) := by decide +kernel
theorem dX4_goesInto_163 : decode cX4_goesInto 163 = .ok (.invokestatic 61, 3) := by decide +kernel
theorem dX4_goesInto_166 : decode cX4_goesInto 166 = .ok (.iastore, 1) := by decide +kernel
theorem dX4_goesInto_167 : decode cX4_goesInto 167 = .ok (.iinc 4 1, 3) := by decide +kernel
theorem dX4_goesInto_170 : decode cX4_goesInto 170 = .ok (.goto (-81), 3) := by decide +kernel
theorem dX4_goesInto_173 : decode cX4_goesInto 173 = .ok (.iinc 3 1, 3) := by decide +kernel
theorem dX4_goesInto_176 : decode cX4_goesInto 176 = .ok (.goto (-104), 3) := by decide +kernel
theorem dX4_goesInto_179 : decode cX4_goesInto 179 = .ok (.iload_n 2, 1) := by decide +kernel
theorem dX4_goesInto_180 : decode cX4_goesInto 180 = .ok (.ifCond .lt 27, 3) := by decide +kernel
theorem dX4_goesInto_183 : decode cX4_goesInto 183 = .ok (.iload_n 2, 1) := by decide +kernel
theorem dX4_goesInto_184 : decode cX4_goesInto 184 = .ok (.aload_n 0, 1) := by decide +kernel
theorem dX4_goesInto_185 : decode cX4_goesInto 185 = .ok (.getfield 15, 3) := by decide +kernel
theorem dX4_goesInto_188 : decode cX4_goesInto 188 = .ok (.arraylength, 1) := by decide +kernel
theorem dX4_goesInto_189 : decode cX4_goesInto 189 = .ok (.if_icmp .ge 18, 3) := by decide +kernel
theorem dX4_goesInto_192 : decode cX4_goesInto 192 = .ok (.aload_n 0, 1) := by decide +kernel
theorem dX4_goesInto_193 : decode cX4_goesInto 193 = .ok (.getfield 15, 3) := by decide +kernel
theorem dX4_goesInto_196 : decode cX4_goesInto 196 = .ok (.iload_n 2, 1) := by decide +kernel
theorem dX4_goesInto_197 : decode cX4_goesInto 197 = .ok (.iaload, 1) := by decide +kernel
theorem dX4_goesInto_198 : decode cX4_goesInto 198 = .ok (.ldc 56, 2) := by decide +kernel
theorem dX4_goesInto_200 : decode cX4_goesInto 200 = .ok (.if_icmp .ge 7, 3) := by decide +kernel
theorem dX4_goesInto_203 : decode cX4_goesInto 203 = .ok (.iconst 1, 1) := by decide +kernel
theorem dX4_goesInto_204 : decode cX4_goesInto 204 = .ok (.goto 4, 3) := by decide +kernel
theorem dX4_goesInto_207 : decode cX4_goesInto 207 = .ok (.iconst 0, 1) := by decide +kernel
theorem dX4_goesInto_208 : decode cX4_goesInto 208 = .ok (.ireturn, 1) := by decide +kernel
abbrev mX4_goesInto : XM := (cX4_goesInto, 6, RX4, (some .boolean), shw_4_6, 2)
noncomputable def rg_X4_goesInto_0 (k35 : XK) : XK :=
 o_aload 0 <|
 o_get shw_4_6 4 3 <|
 o_aload 1 <|
 o_callVg 1 1 [1] g_X6_cells v_X6_cells <|
 o_icmp_gt (o_iconst 0 <|
 o_zreturn)
 (o_aload 0 <|
 o_get shw_4_6 4 4 <|
 o_aload 1 <|
 o_callVg 1 1 [1] g_X6_longest v_X6_longest <|
 o_icmp_le (o_iconst 1 <|
 o_aload 0 <|
 o_get shw_4_6 4 2 <|
 o_ishl <|
 o_iconst 1 <|
 o_isub <|
 o_istore 2 <|
 o_iconst 1 <|
 o_istore 3 <|
 o_cut [] k35)
 (o_iconst 0 <|
 o_zreturn))
def en_X4_goesInto_0 (h1 : Ob) (a : Ob) : XSt := ([some (.inr (.inl (0, 0))), some (.inr (.inl (1, 0))), none, none, none, none], [], [a, h1])
noncomputable def rg_X4_goesInto_35 (k63 : XK) (k35 : XK) : XK :=
 o_iload 3 <|
 o_iload 2 <|
 o_icmp_gt (o_cut [3] k63)
 (o_iload 3 <|
 o_aload 0 <|
 o_get shw_4_6 4 1 <|
 o_alen shw_4_6 <|
 o_icmp_ge (o_cut [3] k63)
 (o_aload 0 <|
 o_get shw_4_6 4 1 <|
 o_iload 3 <|
 o_iconst 65536 <|
 o_iast shw_4_6 <|
 o_iinc 3 1 <|
 o_cut [] k35))
def en_X4_goesInto_35 (h1 : Ob) (a : Int × Int × Ob) : XSt := ([some (.inr (.inl (0, 0))), some (.inr (.inl (1, 0))), some (.inl a.1), some (.inl a.2.1), none, none], [], [a.2.2, h1])
noncomputable def rg_X4_goesInto_63 (k72 : XK) : XK :=
 o_aload 0 <|
 o_get shw_4_6 4 1 <|
 o_iconst 0 <|
 o_iconst 0 <|
 o_iast shw_4_6 <|
 o_iconst 0 <|
 o_istore 3 <|
 o_cut [] k72
def en_X4_goesInto_63 (h1 : Ob) (a : Int × Ob) : XSt := ([some (.inr (.inl (0, 0))), some (.inr (.inl (1, 0))), some (.inl a.1), none, none, none], [], [a.2, h1])
noncomputable def rg_X4_goesInto_72 (k179 : XK) (k89 : XK) : XK :=
 o_iload 3 <|
 o_iload 2 <|
 o_icmp_ge (o_cut [1, 3] k179)
 (o_iload 3 <|
 o_aload 0 <|
 o_get shw_4_6 4 1 <|
 o_alen shw_4_6 <|
 o_icmp_ge (o_cut [1, 3] k179)
 (o_iconst 0 <|
 o_istore 4 <|
 o_cut [] k89))
def en_X4_goesInto_72 (h1 : Ob) (a : Int × Int × Ob) : XSt := ([some (.inr (.inl (0, 0))), some (.inr (.inl (1, 0))), some (.inl a.1), some (.inl a.2.1), none, none], [], [a.2.2, h1])
noncomputable def rg_X4_goesInto_89 (k173 : XK) (k167 : XK) : XK :=
 o_iload 4 <|
 o_aload 0 <|
 o_get shw_4_6 4 2 <|
 o_icmp_ge (o_cut [4] k173)
 (o_aload 0 <|
 o_get shw_4_6 4 1 <|
 o_iload 3 <|
 o_iald shw_4_6 <|
 o_iconst 65536 <|
 o_icmp_ge (o_cut [4] k173)
 (o_iload 3 <|
 o_iconst 1 <|
 o_iload 4 <|
 o_ishl <|
 o_ior <|
 o_istore 5 <|
 o_iload 5 <|
 o_iload 3 <|
 o_icmp_eq (o_cut [5] k167)
 (o_iload 5 <|
 o_aload 0 <|
 o_get shw_4_6 4 1 <|
 o_alen shw_4_6 <|
 o_icmp_ge (o_cut [5] k167)
 (o_aload 0 <|
 o_get shw_4_6 4 1 <|
 o_iload 5 <|
 o_aload 0 <|
 o_get shw_4_6 4 1 <|
 o_iload 5 <|
 o_iald shw_4_6 <|
 o_aload 1 <|
 o_aload 0 <|
 o_get shw_4_6 4 1 <|
 o_iload 3 <|
 o_iald shw_4_6 <|
 o_aload 0 <|
 o_get shw_4_6 4 0 <|
 o_iload 4 <|
 o_iald shw_4_6 <|
 o_callVg 3 1 [1] g_X6_usedWith v_X6_usedWith <|
 o_min <|
 o_iast shw_4_6 <|
 o_cut [5] k167))))
def en_X4_goesInto_89 (h1 : Ob) (a : Int × Int × Int × Ob) : XSt := ([some (.inr (.inl (0, 0))), some (.inr (.inl (1, 0))), some (.inl a.1), some (.inl a.2.1), some (.inl a.2.2.1), none], [], [a.2.2.2, h1])
noncomputable def rg_X4_goesInto_167 (k89 : XK) : XK :=
 o_iinc 4 1 <|
 o_cut [] k89
def en_X4_goesInto_167 (h1 : Ob) (a : Int × Int × Int × Ob) : XSt := ([some (.inr (.inl (0, 0))), some (.inr (.inl (1, 0))), some (.inl a.1), some (.inl a.2.1), some (.inl a.2.2.1), none], [], [a.2.2.2, h1])
noncomputable def rg_X4_goesInto_173 (k72 : XK) : XK :=
 o_iinc 3 1 <|
 o_cut [] k72
def en_X4_goesInto_173 (h1 : Ob) (a : Int × Int × Ob) : XSt := ([some (.inr (.inl (0, 0))), some (.inr (.inl (1, 0))), some (.inl a.1), some (.inl a.2.1), none, none], [], [a.2.2, h1])
noncomputable def rg_X4_goesInto_179 : XK :=
 o_iload 2 <|
 o_if_lt (o_iconst 0 <|
 o_zreturn)
 (o_iload 2 <|
 o_aload 0 <|
 o_get shw_4_6 4 1 <|
 o_alen shw_4_6 <|
 o_icmp_ge (o_iconst 0 <|
 o_zreturn)
 (o_aload 0 <|
 o_get shw_4_6 4 1 <|
 o_iload 2 <|
 o_iald shw_4_6 <|
 o_iconst 65536 <|
 o_icmp_ge (o_iconst 0 <|
 o_zreturn)
 (o_iconst 1 <|
 o_zreturn)))
def en_X4_goesInto_179 (h1 : Ob) (a : Int × Ob) : XSt := ([some (.inr (.inl (0, 0))), none, some (.inl a.1), none, none, none], [], [a.2, h1])
noncomputable def mg_X4_goesInto_0 (h1 : Ob) (k35 : (Int × Int × Ob) → Option Rt) (a : Ob) : Option Rt :=
 if rk h1 then (
 if xw (a 0 3) > xw (celR h1) then (RI 0 [a, h1])
 else (if rk h1 then (
 if xw (a 0 4) ≤ xw (lonR h1) then (k35 (((xshl 1 (a 0 2)) - 1), 1, a))
 else (RI 0 [a, h1])) else none)) else none
set_option maxRecDepth 100000 in
set_option maxHeartbeats 4000000 in
theorem rq_X4_goesInto_0 (h1 : Ob) (k35 : XK) (a : Ob) : rg_X4_goesInto_0 k35 (en_X4_goesInto_0 h1 a) = mg_X4_goesInto_0 h1 (fun b => k35 (en_X4_goesInto_35 h1 b)) a := rfl
set_option maxRecDepth 100000 in
set_option maxHeartbeats 4000000 in
theorem sg_X4_goesInto_0 {X : XDyn} {r0 : Rt} (C : XO X mX4_goesInto) {k35 : XK} (q35 : XS X mX4_goesInto r0 35 k35) : XS X mX4_goesInto r0 0 (rg_X4_goesInto_0 k35) := by
 unfold rg_X4_goesInto_0
 exact s_aload_n (pc := 0) C dX4_goesInto_0 rfl <|
    s_get (pc := 1) C (ci := 4) (kf := 3) rfl inX4 (by decide) wd_223 dX4_goesInto_1 <|
    s_aload_n (pc := 4) C dX4_goesInto_4 rfl <|
    s_callVg (pc := 5) C ct_X6_cells (n := 1) (rk := 1) (mp := [1]) ⟨rfl, by decide, rfl⟩ (ci := 6) rfl rfl (by decide) (by decide) yi_X6_cells (by decide) wd_461 wd_462 wd_463 wd_76 wd_464 dX4_goesInto_5 <|
    s_icmp_gt (pc := 8) C dX4_goesInto_8 (by decide) (s_iconst (pc := 22) C dX4_goesInto_22 <|
    s_zreturn (pc := 23) C rfl dX4_goesInto_23)
    (s_aload_n (pc := 11) C dX4_goesInto_11 rfl <|
    s_get (pc := 12) C (ci := 4) (kf := 4) rfl inX4 (by decide) wd_224 dX4_goesInto_12 <|
    s_aload_n (pc := 15) C dX4_goesInto_15 rfl <|
    s_callVg (pc := 16) C ct_X6_longest (n := 1) (rk := 1) (mp := [1]) ⟨rfl, by decide, rfl⟩ (ci := 6) rfl rfl (by decide) (by decide) yi_X6_longest (by decide) wd_465 wd_466 wd_467 wd_76 wd_468 dX4_goesInto_16 <|
    s_icmp_le (pc := 19) C dX4_goesInto_19 (by decide) (s_iconst (pc := 24) C dX4_goesInto_24 <|
    s_aload_n (pc := 25) C dX4_goesInto_25 rfl <|
    s_get (pc := 26) C (ci := 4) (kf := 2) rfl inX4 (by decide) wd_222 dX4_goesInto_26 <|
    s_ishl (pc := 29) C dX4_goesInto_29 <|
    s_iconst (pc := 30) C dX4_goesInto_30 <|
    s_isub (pc := 31) C dX4_goesInto_31 <|
    s_istore_n (pc := 32) C dX4_goesInto_32 rfl <|
    s_iconst (pc := 33) C dX4_goesInto_33 <|
    s_istore_n (pc := 34) C dX4_goesInto_34 rfl <|
    s_cut q35)
    (s_iconst (pc := 22) C dX4_goesInto_22 <|
    s_zreturn (pc := 23) C rfl dX4_goesInto_23))
noncomputable def mg_X4_goesInto_35 (h1 : Ob) (k63 : (Int × Ob) → Option Rt) (k35 : (Int × Int × Ob) → Option Rt) (a : Int × Int × Ob) : Option Rt :=
 if xw a.2.1 > xw a.1 then (k63 (a.1, a.2.2))
 else (if xw a.2.1 ≥ 2048 then (k63 (a.1, a.2.2))
 else (if xin a.2.1 2048 then (
 k35 (a.1, (a.2.1 + 1), (xset a.2.2 2 (xw a.2.1).toNat 65536))) else none))
set_option maxRecDepth 100000 in
set_option maxHeartbeats 4000000 in
theorem rq_X4_goesInto_35 (h1 : Ob) (k63 : XK) (k35 : XK) (a : Int × Int × Ob) : rg_X4_goesInto_35 k63 k35 (en_X4_goesInto_35 h1 a) = mg_X4_goesInto_35 h1 (fun b => k63 (en_X4_goesInto_63 h1 b)) (fun b => k35 (en_X4_goesInto_35 h1 b)) a := rfl
set_option maxRecDepth 100000 in
set_option maxHeartbeats 4000000 in
theorem sg_X4_goesInto_35 {X : XDyn} {r0 : Rt} (C : XO X mX4_goesInto) {k63 : XK} (q63 : XS X mX4_goesInto r0 63 k63) {k35 : XK} (q35 : XS X mX4_goesInto r0 35 k35) : XS X mX4_goesInto r0 35 (rg_X4_goesInto_35 k63 k35) := by
 unfold rg_X4_goesInto_35
 exact s_iload_n (pc := 35) C dX4_goesInto_35 rfl <|
    s_iload_n (pc := 36) C dX4_goesInto_36 rfl <|
    s_icmp_gt (pc := 37) C dX4_goesInto_37 (by decide) (s_cut q63)
    (s_iload_n (pc := 40) C dX4_goesInto_40 rfl <|
    s_aload_n (pc := 41) C dX4_goesInto_41 rfl <|
    s_get (pc := 42) C (ci := 4) (kf := 1) rfl inX4 (by decide) wd_221 dX4_goesInto_42 <|
    s_alen (pc := 45) C dX4_goesInto_45 <|
    s_icmp_ge (pc := 46) C dX4_goesInto_46 (by decide) (s_cut q63)
    (s_aload_n (pc := 49) C dX4_goesInto_49 rfl <|
    s_get (pc := 50) C (ci := 4) (kf := 1) rfl inX4 (by decide) wd_221 dX4_goesInto_50 <|
    s_iload_n (pc := 53) C dX4_goesInto_53 rfl <|
    s_ldc (pc := 54) C dX4_goesInto_54 wd_469 rfl <|
    s_iast (pc := 56) C dX4_goesInto_56 <|
    s_iinc (pc := 57) C dX4_goesInto_57 <|
    s_goto (pc := 60) C dX4_goesInto_60 (by decide) <|
    s_cut q35))
noncomputable def mg_X4_goesInto_63 (h1 : Ob) (k72 : (Int × Int × Ob) → Option Rt) (a : Int × Ob) : Option Rt :=
 k72 (a.1, 0, (xset a.2 2 0 0))
set_option maxRecDepth 100000 in
set_option maxHeartbeats 4000000 in
theorem rq_X4_goesInto_63 (h1 : Ob) (k72 : XK) (a : Int × Ob) : rg_X4_goesInto_63 k72 (en_X4_goesInto_63 h1 a) = mg_X4_goesInto_63 h1 (fun b => k72 (en_X4_goesInto_72 h1 b)) a := rfl
set_option maxRecDepth 100000 in
set_option maxHeartbeats 4000000 in
theorem sg_X4_goesInto_63 {X : XDyn} {r0 : Rt} (C : XO X mX4_goesInto) {k72 : XK} (q72 : XS X mX4_goesInto r0 72 k72) : XS X mX4_goesInto r0 63 (rg_X4_goesInto_63 k72) := by
 unfold rg_X4_goesInto_63
 exact s_aload_n (pc := 63) C dX4_goesInto_63 rfl <|
    s_get (pc := 64) C (ci := 4) (kf := 1) rfl inX4 (by decide) wd_221 dX4_goesInto_64 <|
    s_iconst (pc := 67) C dX4_goesInto_67 <|
    s_iconst (pc := 68) C dX4_goesInto_68 <|
    s_iast (pc := 69) C dX4_goesInto_69 <|
    s_iconst (pc := 70) C dX4_goesInto_70 <|
    s_istore_n (pc := 71) C dX4_goesInto_71 rfl <|
    s_cut q72
noncomputable def mg_X4_goesInto_72 (h1 : Ob) (k179 : (Int × Ob) → Option Rt) (k89 : (Int × Int × Int × Ob) → Option Rt) (a : Int × Int × Ob) : Option Rt :=
 if xw a.2.1 ≥ xw a.1 then (k179 (a.1, a.2.2))
 else (if xw a.2.1 ≥ 2048 then (k179 (a.1, a.2.2))
 else (k89 (a.1, a.2.1, 0, a.2.2)))
set_option maxRecDepth 100000 in
set_option maxHeartbeats 4000000 in
theorem rq_X4_goesInto_72 (h1 : Ob) (k179 : XK) (k89 : XK) (a : Int × Int × Ob) : rg_X4_goesInto_72 k179 k89 (en_X4_goesInto_72 h1 a) = mg_X4_goesInto_72 h1 (fun b => k179 (en_X4_goesInto_179 h1 b)) (fun b => k89 (en_X4_goesInto_89 h1 b)) a := rfl
set_option maxRecDepth 100000 in
set_option maxHeartbeats 4000000 in
theorem sg_X4_goesInto_72 {X : XDyn} {r0 : Rt} (C : XO X mX4_goesInto) {k179 : XK} (q179 : XS X mX4_goesInto r0 179 k179) {k89 : XK} (q89 : XS X mX4_goesInto r0 89 k89) : XS X mX4_goesInto r0 72 (rg_X4_goesInto_72 k179 k89) := by
 unfold rg_X4_goesInto_72
 exact s_iload_n (pc := 72) C dX4_goesInto_72 rfl <|
    s_iload_n (pc := 73) C dX4_goesInto_73 rfl <|
    s_icmp_ge (pc := 74) C dX4_goesInto_74 (by decide) (s_cut q179)
    (s_iload_n (pc := 77) C dX4_goesInto_77 rfl <|
    s_aload_n (pc := 78) C dX4_goesInto_78 rfl <|
    s_get (pc := 79) C (ci := 4) (kf := 1) rfl inX4 (by decide) wd_221 dX4_goesInto_79 <|
    s_alen (pc := 82) C dX4_goesInto_82 <|
    s_icmp_ge (pc := 83) C dX4_goesInto_83 (by decide) (s_cut q179)
    (s_iconst (pc := 86) C dX4_goesInto_86 <|
    s_istore (pc := 87) C dX4_goesInto_87 <|
    s_cut q89))
noncomputable def mg_X4_goesInto_89 (h1 : Ob) (k173 : (Int × Int × Ob) → Option Rt) (k167 : (Int × Int × Int × Ob) → Option Rt) (a : Int × Int × Int × Ob) : Option Rt :=
 if xw a.2.2.1 ≥ xw (a.2.2.2 0 2) then (k173 (a.1, a.2.1, a.2.2.2))
 else (if xin a.2.1 2048 then (
 if xw (a.2.2.2 2 (xw a.2.1).toNat) ≥ 65536 then (k173 (a.1, a.2.1, a.2.2.2))
 else (if xw (xor_ a.2.1 (xshl 1 a.2.2.1)) = xw a.2.1 then (k167 (a.1, a.2.1, a.2.2.1, a.2.2.2))
 else (if xw (xor_ a.2.1 (xshl 1 a.2.2.1)) ≥ 2048 then (k167 (a.1, a.2.1, a.2.2.1, a.2.2.2))
 else (if xin (xor_ a.2.1 (xshl 1 a.2.2.1)) 2048 then (
 if xin a.2.1 2048 then (
 if xin a.2.2.1 11 then (
 if rk h1 then (
 if xin (xor_ a.2.1 (xshl 1 a.2.2.1)) 2048 then (
 k167 (a.1, a.2.1, a.2.2.1, (xset a.2.2.2 2 (xw (xor_ a.2.1 (xshl 1 a.2.2.1))).toNat (xmin (a.2.2.2 2 (xw (xor_ a.2.1 (xshl 1 a.2.2.1))).toNat) (uwF h1 (a.2.2.2 2 (xw a.2.1).toNat) (a.2.2.2 1 (xw a.2.2.1).toNat)))))) else none) else none) else none) else none) else none)))) else none)
set_option maxRecDepth 100000 in
set_option maxHeartbeats 4000000 in
theorem rq_X4_goesInto_89 (h1 : Ob) (k173 : XK) (k167 : XK) (a : Int × Int × Int × Ob) : rg_X4_goesInto_89 k173 k167 (en_X4_goesInto_89 h1 a) = mg_X4_goesInto_89 h1 (fun b => k173 (en_X4_goesInto_173 h1 b)) (fun b => k167 (en_X4_goesInto_167 h1 b)) a := rfl
set_option maxRecDepth 100000 in
set_option maxHeartbeats 4000000 in
theorem sg_X4_goesInto_89 {X : XDyn} {r0 : Rt} (C : XO X mX4_goesInto) {k173 : XK} (q173 : XS X mX4_goesInto r0 173 k173) {k167 : XK} (q167 : XS X mX4_goesInto r0 167 k167) : XS X mX4_goesInto r0 89 (rg_X4_goesInto_89 k173 k167) := by
 unfold rg_X4_goesInto_89
 exact s_iload (pc := 89) C dX4_goesInto_89 <|
    s_aload_n (pc := 91) C dX4_goesInto_91 rfl <|
    s_get (pc := 92) C (ci := 4) (kf := 2) rfl inX4 (by decide) wd_222 dX4_goesInto_92 <|
    s_icmp_ge (pc := 95) C dX4_goesInto_95 (by decide) (s_cut q173)
    (s_aload_n (pc := 98) C dX4_goesInto_98 rfl <|
    s_get (pc := 99) C (ci := 4) (kf := 1) rfl inX4 (by decide) wd_221 dX4_goesInto_99 <|
    s_iload_n (pc := 102) C dX4_goesInto_102 rfl <|
    s_iald (pc := 103) C dX4_goesInto_103 <|
    s_ldc (pc := 104) C dX4_goesInto_104 wd_469 rfl <|
    s_icmp_ge (pc := 106) C dX4_goesInto_106 (by decide) (s_cut q173)
    (s_iload_n (pc := 109) C dX4_goesInto_109 rfl <|
    s_iconst (pc := 110) C dX4_goesInto_110 <|
    s_iload (pc := 111) C dX4_goesInto_111 <|
    s_ishl (pc := 113) C dX4_goesInto_113 <|
    s_ior (pc := 114) C dX4_goesInto_114 <|
    s_istore (pc := 115) C dX4_goesInto_115 <|
    s_iload (pc := 117) C dX4_goesInto_117 <|
    s_iload_n (pc := 119) C dX4_goesInto_119 rfl <|
    s_icmp_eq (pc := 120) C dX4_goesInto_120 (by decide) (s_cut q167)
    (s_iload (pc := 123) C dX4_goesInto_123 <|
    s_aload_n (pc := 125) C dX4_goesInto_125 rfl <|
    s_get (pc := 126) C (ci := 4) (kf := 1) rfl inX4 (by decide) wd_221 dX4_goesInto_126 <|
    s_alen (pc := 129) C dX4_goesInto_129 <|
    s_icmp_ge (pc := 130) C dX4_goesInto_130 (by decide) (s_cut q167)
    (s_aload_n (pc := 133) C dX4_goesInto_133 rfl <|
    s_get (pc := 134) C (ci := 4) (kf := 1) rfl inX4 (by decide) wd_221 dX4_goesInto_134 <|
    s_iload (pc := 137) C dX4_goesInto_137 <|
    s_aload_n (pc := 139) C dX4_goesInto_139 rfl <|
    s_get (pc := 140) C (ci := 4) (kf := 1) rfl inX4 (by decide) wd_221 dX4_goesInto_140 <|
    s_iload (pc := 143) C dX4_goesInto_143 <|
    s_iald (pc := 145) C dX4_goesInto_145 <|
    s_aload_n (pc := 146) C dX4_goesInto_146 rfl <|
    s_aload_n (pc := 147) C dX4_goesInto_147 rfl <|
    s_get (pc := 148) C (ci := 4) (kf := 1) rfl inX4 (by decide) wd_221 dX4_goesInto_148 <|
    s_iload_n (pc := 151) C dX4_goesInto_151 rfl <|
    s_iald (pc := 152) C dX4_goesInto_152 <|
    s_aload_n (pc := 153) C dX4_goesInto_153 rfl <|
    s_get (pc := 154) C (ci := 4) (kf := 0) rfl inX4 (by decide) wd_220 dX4_goesInto_154 <|
    s_iload (pc := 157) C dX4_goesInto_157 <|
    s_iald (pc := 159) C dX4_goesInto_159 <|
    s_callVg (pc := 160) C ct_X6_usedWith (n := 3) (rk := 1) (mp := [1]) ⟨rfl, by decide, rfl⟩ (ci := 6) rfl rfl (by decide) (by decide) yi_X6_usedWith (by decide) wd_470 wd_471 wd_472 wd_76 wd_473 dX4_goesInto_160 <|
    s_min (pc := 163) C (by decide) wd_475 wd_421 wd_82 wd_422 dX4_goesInto_163 <|
    s_iast (pc := 166) C dX4_goesInto_166 <|
    s_cut q167))))
noncomputable def mg_X4_goesInto_167 (h1 : Ob) (k89 : (Int × Int × Int × Ob) → Option Rt) (a : Int × Int × Int × Ob) : Option Rt :=
 k89 (a.1, a.2.1, (a.2.2.1 + 1), a.2.2.2)
set_option maxRecDepth 100000 in
set_option maxHeartbeats 4000000 in
theorem rq_X4_goesInto_167 (h1 : Ob) (k89 : XK) (a : Int × Int × Int × Ob) : rg_X4_goesInto_167 k89 (en_X4_goesInto_167 h1 a) = mg_X4_goesInto_167 h1 (fun b => k89 (en_X4_goesInto_89 h1 b)) a := rfl
set_option maxRecDepth 100000 in
set_option maxHeartbeats 4000000 in
theorem sg_X4_goesInto_167 {X : XDyn} {r0 : Rt} (C : XO X mX4_goesInto) {k89 : XK} (q89 : XS X mX4_goesInto r0 89 k89) : XS X mX4_goesInto r0 167 (rg_X4_goesInto_167 k89) := by
 unfold rg_X4_goesInto_167
 exact s_iinc (pc := 167) C dX4_goesInto_167 <|
    s_goto (pc := 170) C dX4_goesInto_170 (by decide) <|
    s_cut q89
noncomputable def mg_X4_goesInto_173 (h1 : Ob) (k72 : (Int × Int × Ob) → Option Rt) (a : Int × Int × Ob) : Option Rt :=
 k72 (a.1, (a.2.1 + 1), a.2.2)
set_option maxRecDepth 100000 in
set_option maxHeartbeats 4000000 in
theorem rq_X4_goesInto_173 (h1 : Ob) (k72 : XK) (a : Int × Int × Ob) : rg_X4_goesInto_173 k72 (en_X4_goesInto_173 h1 a) = mg_X4_goesInto_173 h1 (fun b => k72 (en_X4_goesInto_72 h1 b)) a := rfl
set_option maxRecDepth 100000 in
set_option maxHeartbeats 4000000 in
theorem sg_X4_goesInto_173 {X : XDyn} {r0 : Rt} (C : XO X mX4_goesInto) {k72 : XK} (q72 : XS X mX4_goesInto r0 72 k72) : XS X mX4_goesInto r0 173 (rg_X4_goesInto_173 k72) := by
 unfold rg_X4_goesInto_173
 exact s_iinc (pc := 173) C dX4_goesInto_173 <|
    s_goto (pc := 176) C dX4_goesInto_176 (by decide) <|
    s_cut q72
noncomputable def mg_X4_goesInto_179 (h1 : Ob) (a : Int × Ob) : Option Rt :=
 if xw a.1 < 0 then (RI 0 [a.2, h1])
 else (if xw a.1 ≥ 2048 then (RI 0 [a.2, h1])
 else (if xin a.1 2048 then (
 if xw (a.2 2 (xw a.1).toNat) ≥ 65536 then (RI 0 [a.2, h1])
 else (RI 1 [a.2, h1])) else none))
set_option maxRecDepth 100000 in
set_option maxHeartbeats 4000000 in
theorem rq_X4_goesInto_179 (h1 : Ob) (a : Int × Ob) : rg_X4_goesInto_179 (en_X4_goesInto_179 h1 a) = mg_X4_goesInto_179 h1 a := rfl
set_option maxRecDepth 100000 in
set_option maxHeartbeats 4000000 in
theorem sg_X4_goesInto_179 {X : XDyn} {r0 : Rt} (C : XO X mX4_goesInto) : XS X mX4_goesInto r0 179 (rg_X4_goesInto_179) := by
 unfold rg_X4_goesInto_179
 exact s_iload_n (pc := 179) C dX4_goesInto_179 rfl <|
    s_if_lt (pc := 180) C dX4_goesInto_180 (by decide) (s_iconst (pc := 207) C dX4_goesInto_207 <|
    s_zreturn (pc := 208) C rfl dX4_goesInto_208)
    (s_iload_n (pc := 183) C dX4_goesInto_183 rfl <|
    s_aload_n (pc := 184) C dX4_goesInto_184 rfl <|
    s_get (pc := 185) C (ci := 4) (kf := 1) rfl inX4 (by decide) wd_221 dX4_goesInto_185 <|
    s_alen (pc := 188) C dX4_goesInto_188 <|
    s_icmp_ge (pc := 189) C dX4_goesInto_189 (by decide) (s_iconst (pc := 207) C dX4_goesInto_207 <|
    s_zreturn (pc := 208) C rfl dX4_goesInto_208)
    (s_aload_n (pc := 192) C dX4_goesInto_192 rfl <|
    s_get (pc := 193) C (ci := 4) (kf := 1) rfl inX4 (by decide) wd_221 dX4_goesInto_193 <|
    s_iload_n (pc := 196) C dX4_goesInto_196 rfl <|
    s_iald (pc := 197) C dX4_goesInto_197 <|
    s_ldc (pc := 198) C dX4_goesInto_198 wd_469 rfl <|
    s_icmp_ge (pc := 200) C dX4_goesInto_200 (by decide) (s_iconst (pc := 207) C dX4_goesInto_207 <|
    s_zreturn (pc := 208) C rfl dX4_goesInto_208)
    (s_iconst (pc := 203) C dX4_goesInto_203 <|
    s_goto (pc := 204) C dX4_goesInto_204 (by decide) <|
    s_zreturn (pc := 208) C rfl dX4_goesInto_208)))
noncomputable def rw_X4_goesInto_179 (f : Nat) : XK := rg_X4_goesInto_179
noncomputable def md_X4_goesInto_179 (h1 : Ob) (f : Nat) : Int × Ob → Option Rt := mg_X4_goesInto_179 h1
theorem eq_X4_goesInto_179 (h1 : Ob) (f : Nat) (a : Int × Ob) : rw_X4_goesInto_179 f (en_X4_goesInto_179 h1 a) = md_X4_goesInto_179 h1 f a :=
 rq_X4_goesInto_179 h1 a
theorem sd_X4_goesInto_179 (f : Nat) {X : XDyn} {r0 : Rt} (C : XO X mX4_goesInto) : XS X mX4_goesInto r0 179 (rw_X4_goesInto_179 f) := sg_X4_goesInto_179 C
noncomputable def rw_X4_goesInto_173 (f : Nat) (k72 : XK) : XK := rg_X4_goesInto_173 k72
noncomputable def md_X4_goesInto_173 (h1 : Ob) (f : Nat) (k72 : (Int × Int × Ob) → Option Rt) : Int × Int × Ob → Option Rt := mg_X4_goesInto_173 h1 k72
theorem eq_X4_goesInto_173 (h1 : Ob) (f : Nat) (k72 : XK) (a : Int × Int × Ob) : rw_X4_goesInto_173 f k72 (en_X4_goesInto_173 h1 a) = md_X4_goesInto_173 h1 f (fun b => k72 (en_X4_goesInto_72 h1 b)) a :=
 (rq_X4_goesInto_173 h1 k72 a).trans (congrFun (congr (rfl : mg_X4_goesInto_173 h1 = mg_X4_goesInto_173 h1) rfl) a)
theorem sd_X4_goesInto_173 (f : Nat) {X : XDyn} {r0 : Rt} (C : XO X mX4_goesInto) {k72 : XK} (q72 : XS X mX4_goesInto r0 72 k72) : XS X mX4_goesInto r0 173 (rw_X4_goesInto_173 f k72) := sg_X4_goesInto_173 C q72
noncomputable def rw_X4_goesInto_167 (f : Nat) (k72 : XK) (k89 : XK) : XK := rg_X4_goesInto_167 k89
noncomputable def md_X4_goesInto_167 (h1 : Ob) (f : Nat) (k72 : (Int × Int × Ob) → Option Rt) (k89 : (Int × Int × Int × Ob) → Option Rt) : Int × Int × Int × Ob → Option Rt := mg_X4_goesInto_167 h1 k89
theorem eq_X4_goesInto_167 (h1 : Ob) (f : Nat) (k72 : XK) (k89 : XK) (a : Int × Int × Int × Ob) : rw_X4_goesInto_167 f k72 k89 (en_X4_goesInto_167 h1 a) = md_X4_goesInto_167 h1 f (fun b => k72 (en_X4_goesInto_72 h1 b)) (fun b => k89 (en_X4_goesInto_89 h1 b)) a :=
 (rq_X4_goesInto_167 h1 k89 a).trans (congrFun (congr (rfl : mg_X4_goesInto_167 h1 = mg_X4_goesInto_167 h1) rfl) a)
theorem sd_X4_goesInto_167 (f : Nat) {X : XDyn} {r0 : Rt} (C : XO X mX4_goesInto) {k72 : XK} (q72 : XS X mX4_goesInto r0 72 k72) {k89 : XK} (q89 : XS X mX4_goesInto r0 89 k89) : XS X mX4_goesInto r0 167 (rw_X4_goesInto_167 f k72 k89) := sg_X4_goesInto_167 C q89
noncomputable def rw_X4_goesInto_89 (f : Nat) (k72 : XK) : XK := tlp (fun k89 => rg_X4_goesInto_89 (rw_X4_goesInto_173 f k72) (rw_X4_goesInto_167 f k72 k89)) f
noncomputable def lb_X4_goesInto_89 (h1 : Ob) (f : Nat) (k72 : (Int × Int × Ob) → Option Rt) : ((Int × Int × Int × Ob) → Option Rt) → Int × Int × Int × Ob → Option Rt := fun k89 => mg_X4_goesInto_89 h1 (md_X4_goesInto_173 h1 f k72) (md_X4_goesInto_167 h1 f k72 k89)
noncomputable def md_X4_goesInto_89 (h1 : Ob) (f : Nat) (k72 : (Int × Int × Ob) → Option Rt) : Int × Int × Int × Ob → Option Rt := tlp (lb_X4_goesInto_89 h1 f k72) f
theorem eq_X4_goesInto_89 (h1 : Ob) (f : Nat) (k72 : XK) (a : Int × Int × Int × Ob) : rw_X4_goesInto_89 f k72 (en_X4_goesInto_89 h1 a) = md_X4_goesInto_89 h1 f (fun b => k72 (en_X4_goesInto_72 h1 b)) a :=
 tlp_enc (en_X4_goesInto_89 h1) (fun k89 a => (rq_X4_goesInto_89 h1 (rw_X4_goesInto_173 f k72) (rw_X4_goesInto_167 f k72 k89) a).trans (congrFun (congr (congr (rfl : mg_X4_goesInto_89 h1 = mg_X4_goesInto_89 h1) (funext (eq_X4_goesInto_173 h1 f k72))) (funext (eq_X4_goesInto_167 h1 f k72 k89))) a)) f a
theorem sd_X4_goesInto_89 (f : Nat) {X : XDyn} {r0 : Rt} (C : XO X mX4_goesInto) {k72 : XK} (q72 : XS X mX4_goesInto r0 72 k72) : XS X mX4_goesInto r0 89 (rw_X4_goesInto_89 f k72) := s_lp (fun k89 q89 => sg_X4_goesInto_89 C (sd_X4_goesInto_173 f C q72) (sd_X4_goesInto_167 f C q72 q89)) f
noncomputable def rw_X4_goesInto_72 (f : Nat) : XK := tlp (fun k72 => rg_X4_goesInto_72 (rw_X4_goesInto_179 f) (rw_X4_goesInto_89 f k72)) f
noncomputable def lb_X4_goesInto_72 (h1 : Ob) (f : Nat) : ((Int × Int × Ob) → Option Rt) → Int × Int × Ob → Option Rt := fun k72 => mg_X4_goesInto_72 h1 (md_X4_goesInto_179 h1 f) (md_X4_goesInto_89 h1 f k72)
noncomputable def md_X4_goesInto_72 (h1 : Ob) (f : Nat) : Int × Int × Ob → Option Rt := tlp (lb_X4_goesInto_72 h1 f) f
theorem eq_X4_goesInto_72 (h1 : Ob) (f : Nat) (a : Int × Int × Ob) : rw_X4_goesInto_72 f (en_X4_goesInto_72 h1 a) = md_X4_goesInto_72 h1 f a :=
 tlp_enc (en_X4_goesInto_72 h1) (fun k72 a => (rq_X4_goesInto_72 h1 (rw_X4_goesInto_179 f) (rw_X4_goesInto_89 f k72) a).trans (congrFun (congr (congr (rfl : mg_X4_goesInto_72 h1 = mg_X4_goesInto_72 h1) (funext (eq_X4_goesInto_179 h1 f))) (funext (eq_X4_goesInto_89 h1 f k72))) a)) f a
theorem sd_X4_goesInto_72 (f : Nat) {X : XDyn} {r0 : Rt} (C : XO X mX4_goesInto) : XS X mX4_goesInto r0 72 (rw_X4_goesInto_72 f) := s_lp (fun k72 q72 => sg_X4_goesInto_72 C (sd_X4_goesInto_179 f C) (sd_X4_goesInto_89 f C q72)) f
noncomputable def rw_X4_goesInto_63 (f : Nat) : XK := rg_X4_goesInto_63 (rw_X4_goesInto_72 f)
noncomputable def md_X4_goesInto_63 (h1 : Ob) (f : Nat) : Int × Ob → Option Rt := mg_X4_goesInto_63 h1 (md_X4_goesInto_72 h1 f)
theorem eq_X4_goesInto_63 (h1 : Ob) (f : Nat) (a : Int × Ob) : rw_X4_goesInto_63 f (en_X4_goesInto_63 h1 a) = md_X4_goesInto_63 h1 f a :=
 (rq_X4_goesInto_63 h1 (rw_X4_goesInto_72 f) a).trans (congrFun (congr (rfl : mg_X4_goesInto_63 h1 = mg_X4_goesInto_63 h1) (funext (eq_X4_goesInto_72 h1 f))) a)
theorem sd_X4_goesInto_63 (f : Nat) {X : XDyn} {r0 : Rt} (C : XO X mX4_goesInto) : XS X mX4_goesInto r0 63 (rw_X4_goesInto_63 f) := sg_X4_goesInto_63 C (sd_X4_goesInto_72 f C)
noncomputable def rw_X4_goesInto_35 (f : Nat) : XK := tlp (fun k35 => rg_X4_goesInto_35 (rw_X4_goesInto_63 f) k35) f
noncomputable def lb_X4_goesInto_35 (h1 : Ob) (f : Nat) : ((Int × Int × Ob) → Option Rt) → Int × Int × Ob → Option Rt := fun k35 => mg_X4_goesInto_35 h1 (md_X4_goesInto_63 h1 f) k35
noncomputable def md_X4_goesInto_35 (h1 : Ob) (f : Nat) : Int × Int × Ob → Option Rt := tlp (lb_X4_goesInto_35 h1 f) f
theorem eq_X4_goesInto_35 (h1 : Ob) (f : Nat) (a : Int × Int × Ob) : rw_X4_goesInto_35 f (en_X4_goesInto_35 h1 a) = md_X4_goesInto_35 h1 f a :=
 tlp_enc (en_X4_goesInto_35 h1) (fun k35 a => (rq_X4_goesInto_35 h1 (rw_X4_goesInto_63 f) k35 a).trans (congrFun (congr (congr (rfl : mg_X4_goesInto_35 h1 = mg_X4_goesInto_35 h1) (funext (eq_X4_goesInto_63 h1 f))) rfl) a)) f a
theorem sd_X4_goesInto_35 (f : Nat) {X : XDyn} {r0 : Rt} (C : XO X mX4_goesInto) : XS X mX4_goesInto r0 35 (rw_X4_goesInto_35 f) := s_lp (fun k35 q35 => sg_X4_goesInto_35 C (sd_X4_goesInto_63 f C) q35) f
noncomputable def rw_X4_goesInto_0 (f : Nat) : XK := rg_X4_goesInto_0 (rw_X4_goesInto_35 f)
noncomputable def md_X4_goesInto_0 (h1 : Ob) (f : Nat) : Ob → Option Rt := mg_X4_goesInto_0 h1 (md_X4_goesInto_35 h1 f)
theorem eq_X4_goesInto_0 (h1 : Ob) (f : Nat) (a : Ob) : rw_X4_goesInto_0 f (en_X4_goesInto_0 h1 a) = md_X4_goesInto_0 h1 f a :=
 (rq_X4_goesInto_0 h1 (rw_X4_goesInto_35 f) a).trans (congrFun (congr (rfl : mg_X4_goesInto_0 h1 = mg_X4_goesInto_0 h1) (funext (eq_X4_goesInto_35 h1 f))) a)
theorem sd_X4_goesInto_0 (f : Nat) {X : XDyn} {r0 : Rt} (C : XO X mX4_goesInto) : XS X mX4_goesInto r0 0 (rw_X4_goesInto_0 f) := sg_X4_goesInto_0 C (sd_X4_goesInto_35 f C)
theorem ctr_X4_goesInto (f : Nat) : XCt yX4_goesInto mX4_goesInto (xF mX4_goesInto (rw_X4_goesInto_0 f)) := xMet (by decide +kernel) rfl (fun _ _ C => sd_X4_goesInto_0 f C)
theorem eqf_X4_goesInto (f : Nat) (h0 : Ob) (h1 : Ob) : xF mX4_goesInto (rw_X4_goesInto_0 f) [.inr (.inl (0, 0)), .inr (.inl (1, 0))] [h0, h1] = md_X4_goesInto_0 h1 f h0 := eq_X4_goesInto_0 h1 f h0
theorem yi_X4_goesInto : yX4_goesInto.cls = RX4 ∧ yX4_goesInto.cls ≠ "java/lang/invoke/MethodHandle" ∧ yX4_goesInto.cls ≠ "java/lang/invoke/VarHandle" ∧ (parseMethodDescriptor yX4_goesInto.desc).map (fun d => d.parameters.length) = some 1 := ⟨rfl, by decide +kernel, by decide +kernel, by decide +kernel⟩
noncomputable def giO (f : Nat) (p r : Ob) : Ob := getO ((md_X4_goesInto_0 r f p).getD (none, [])).2 0
def giI (p r : Ob) (s i : Nat) (q : Ob) : Prop := (∀ j k, j ≠ 2 → q j k = p j k) ∧ q 2 0 = 0 ∧ (∀ T, T < 2 ^ (p 0 2).toNat → 0 ≤ q 2 T ∧ q 2 T ≤ 65536) ∧
  (∀ T, T < 2 ^ (p 0 2).toNat → T ≠ 0 → q 2 T < 65536 → ∃ (r' : Nat) (u : Int), 0 ≤ u ∧ q 2 T = (r' : Int) * 256 + u ∧ Ach (p 1) (p 0 2).toNat T (r 2) (r 0 2).toNat r' u) ∧
  (∀ S k, S < 2 ^ (p 0 2).toNat → k < (p 0 2).toNat → S.testBit k = false → (S < s ∨ (S = s ∧ k < i)) → q 2 (S ||| 2 ^ k) ≤ uwx (r 2) (r 0 2).toNat (q 2 S) (p 1 k))
theorem lod_0 (a : Nat → Int) (f : Nat → Nat) (j : Nat) : ∀ c, lod a f j c 0 = 0 := by
  intro c
  induction c with
  | zero => rfl
  | succ c ih => unfold lod; rw [ih]; simp
theorem ach_0 {a : Nat → Int} {c n : Nat} {len : Nat → Int} (hn : 0 < n) (hl : 0 ≤ len 0) : Ach a c 0 len n 0 0 :=
  ⟨hn, hl, fun _ => 0, fun i _ h => by simp at h, fun j hj => by omega, by rw [lod_0]; exact Int.le_refl _⟩
theorem gi_in {p r : Ob} (hG : GiG p r) (hn : 0 < (p 0 2).toNat → 0 < (r 0 2).toNat) {s : Nat} (hs : s < 2 ^ (p 0 2).toNat - 1) (f : Nat) (hf : 100 ≤ f) (al : Int) {q : Ob} (hI : giI p r s 0 q) :
    ∃ c : Int × Int × Ob, (∀ kx, tlp (fun k => mg_X4_goesInto_89 r (mg_X4_goesInto_173 r kx) (mg_X4_goesInto_167 r k)) f (al, (s : Int), 0, q) = kx c) ∧ ∃ q', c = (al, ((s + 1 : Nat) : Int), q') ∧ giI p r (s + 1) 0 q' := by
  have hs2 : s < 2 ^ (p 0 2).toNat := by omega
  obtain ⟨g1, g2, g3, -, -, -, g7, g8⟩ := id hG
  have hN : 2 ^ (p 0 2).toNat ≤ 2 ^ 11 := Nat.pow_le_pow_right (by omega) (by omega)
  have hN : 2 ^ (p 0 2).toNat ≤ 2048 := hN
  have hexit : ∀ q' i, giI p r s i q' → (i ≥ (p 0 2).toNat ∨ 65536 ≤ q' 2 s) → giI p r (s + 1) 0 q' := by
    intro q' i hq hc
    obtain ⟨h1, h2, h3, h4, h5⟩ := hq
    refine ⟨h1, h2, h3, h4, fun S k hS hk hb hx => ?_⟩
    by_cases hSs : S < s
    · exact h5 S k hS hk hb (Or.inl hSs)
    · have hSs : S = s := by omega
      subst hSs
      rcases hc with hc | hc
      · exact h5 S k hS hk hb (Or.inr ⟨rfl, by omega⟩)
      · unfold uwx
        rw [if_neg (by omega)]
        have hw : S ||| 2 ^ k < 2 ^ (p 0 2).toNat := Nat.or_lt_two_pow hS (Nat.pow_lt_pow_right (by omega) hk)
        exact (h3 _ hw).2
  refine tlp_to (B := fun kx k => mg_X4_goesInto_89 r (mg_X4_goesInto_173 r kx) (mg_X4_goesInto_167 r k)) (fun a => ∃ (i : Nat) (q' : Ob), a = (al, (s : Int), (i : Int), q') ∧ i ≤ (p 0 2).toNat ∧ giI p r s i q') (fun a => ((p 0 2) - a.2.2.1).toNat) (fun c => ∃ q', c = (al, ((s + 1 : Nat) : Int), q') ∧ giI p r (s + 1) 0 q') ?_ f _ ⟨0, q, rfl, Nat.zero_le _, hI⟩ (by show (p 0 2 - 0).toNat < f; omega)
  rintro a ⟨i, q', rfl, hi, hq⟩
  obtain ⟨h1, h2, h3, h4, h5⟩ := id hq
  have hc2 : q' 0 2 = p 0 2 := h1 0 2 (by omega)
  have hxc : xw (q' 0 2) = p 0 2 := by rw [hc2]; exact xw_id (by omega) (by omega)
  have hUs := h3 s hs2
  have hxs : xw (q' 2 s) = q' 2 s := xw_id (by omega) (by omega)
  by_cases hic : (i : Int) ≥ p 0 2
  · right
    refine ⟨(al, ((s + 1 : Nat) : Int), q'), fun kx k => ?_, q', rfl, hexit q' i hq (Or.inl (by omega))⟩
    simp only [mg_X4_goesInto_89, mg_X4_goesInto_173, hxc, xw_nat (show i < 2147483648 by omega)]
    rw [if_pos hic]
    rfl
  · by_cases hbig : q' 2 s ≥ 65536
    · right
      refine ⟨(al, ((s + 1 : Nat) : Int), q'), fun kx k => ?_, q', rfl, hexit q' i hq (Or.inr hbig)⟩
      simp only [mg_X4_goesInto_89, mg_X4_goesInto_173, hxc, xw_nat (show i < 2147483648 by omega), xw_nat (show s < 2147483648 by omega), xin_nat (show s < 2048 by omega) (show 2048 ≤ 2147483648 by omega), toNat_nat, hxs, if_true]
      rw [if_neg hic, if_pos hbig]
      rfl
    · left
      have hp2 : 2 ^ i < 2 ^ (p 0 2).toNat := Nat.pow_lt_pow_right (by omega) (by omega)
      have hw : s ||| 2 ^ i < 2 ^ (p 0 2).toNat := Nat.or_lt_two_pow (by omega) hp2
      have hxo : xor_ (s : Int) (xshl 1 (i : Int)) = ((s ||| 2 ^ i : Nat) : Int) := by rw [xshl_1 i (by omega), xor_nat (by omega) (by omega)]
      cases hb : s.testBit i with
      | true =>
        have hso : s ||| 2 ^ i = s := by
          apply Nat.eq_of_testBit_eq
          intro k
          rw [Nat.testBit_or, Nat.testBit_two_pow]
          by_cases hk : i = k
          · subst hk; simp [hb]
          · simp [hk]
        refine ⟨(al, (s : Int), ((i + 1 : Nat) : Int), q'), fun kx k => ?_, ⟨i + 1, q', rfl, by omega, h1, h2, h3, h4, fun S k hS hk hbk hx => ?_⟩, by show (p 0 2 - ((i + 1 : Nat) : Int)).toNat < (p 0 2 - (i : Int)).toNat; omega⟩
        · simp only [mg_X4_goesInto_89, mg_X4_goesInto_167, hxc, xw_nat (show i < 2147483648 by omega), xw_nat (show s < 2147483648 by omega), xin_nat (show s < 2048 by omega) (show 2048 ≤ 2147483648 by omega), toNat_nat, hxs, hxo, hso, if_true]
          rw [if_neg hic, if_neg hbig]
          rfl
        · rcases hx with hx | ⟨rfl, hx⟩
          · exact h5 S k hS hk hbk (Or.inl hx)
          · by_cases hki : k = i
            · subst hki; rw [hb] at hbk; cases hbk
            · exact h5 S k hS hk hbk (Or.inr ⟨rfl, by omega⟩)
      | false =>
        have hne : s ||| 2 ^ i ≠ s := fun z => by
          have : (s ||| 2 ^ i).testBit i = true := by rw [Nat.testBit_or, Nat.testBit_two_pow]; simp
          rw [z, hb] at this; cases this
        have hge : s ≤ s ||| 2 ^ i := Nat.left_le_or
        have hai := g3 i (by omega)
        have hq1 : q' 1 i = p 1 i := h1 1 i (by omega)
        have huw : uwF r (q' 2 s) (q' 1 i) = uwN (r 2) (r 0 2).toNat (q' 2 s) (p 1 i) := by rw [hq1]; exact uwF_uwN g7 g8 hUs.1 (by omega) (by omega) (by omega)
        -- what is known of the way so far
        have hA : ∃ (r' : Nat) (u : Int), 0 ≤ u ∧ q' 2 s = (r' : Int) * 256 + u ∧ Ach (p 1) (p 0 2).toNat s (r 2) (r 0 2).toNat r' u := by
          by_cases hs0 : s = 0
          · subst hs0
            exact ⟨0, 0, Int.le_refl _, by rw [h2]; rfl, ach_0 (hn (by omega)) (g8 0 (hn (by omega))).1⟩
          · exact h4 s (by omega) hs0 (by omega)
        obtain ⟨r', u, u0, hru, hach⟩ := hA
        have hr' := hach.1
        have hlr := g8 r' hr'
        have hul : u ≤ r 2 r' := hach.2.1
        have hwb : 0 ≤ uwN (r 2) (r 0 2).toNat (q' 2 s) (p 1 i) ∧ uwN (r 2) (r 0 2).toNat (q' 2 s) (p 1 i) ≤ 65536 := by
          unfold uwN
          split
          · rename_i hcc
            have := g8 ((q' 2 s) / 256).toNat (by omega)
            have := (rk_iff.mp g7)
            omega
          · split
            · rename_i i2 hi2
              have := List.mem_range.mp (List.mem_of_find?_eq_some hi2)
              have := (rk_iff.mp g7)
              omega
            · omega
        have hUw := h3 (s ||| 2 ^ i) hw
        have hmin : xmin (q' 2 (s ||| 2 ^ i)) (uwN (r 2) (r 0 2).toNat (q' 2 s) (p 1 i)) = if uwN (r 2) (r 0 2).toNat (q' 2 s) (p 1 i) < q' 2 (s ||| 2 ^ i) then uwN (r 2) (r 0 2).toNat (q' 2 s) (p 1 i) else q' 2 (s ||| 2 ^ i) := by
          unfold xmin
          rw [xw_id (x := q' 2 (s ||| 2 ^ i)) (by omega) (by omega), xw_id (x := uwN (r 2) (r 0 2).toNat (q' 2 s) (p 1 i)) (by omega) (by omega)]
        generalize hm : xmin (q' 2 (s ||| 2 ^ i)) (uwN (r 2) (r 0 2).toNat (q' 2 s) (p 1 i)) = mv at hmin
        have hmv : mv ≤ q' 2 (s ||| 2 ^ i) ∧ mv ≤ uwN (r 2) (r 0 2).toNat (q' 2 s) (p 1 i) ∧ 0 ≤ mv ∧ (mv = q' 2 (s ||| 2 ^ i) ∨ mv = uwN (r 2) (r 0 2).toNat (q' 2 s) (p 1 i)) := by
          rw [hmin]; split <;> omega
        have hset : ∀ T, xset q' 2 (s ||| 2 ^ i) mv 2 T = if T = s ||| 2 ^ i then mv else q' 2 T := fun T => by simp [xset]
        refine ⟨(al, (s : Int), ((i + 1 : Nat) : Int), xset q' 2 (s ||| 2 ^ i) mv), fun kx k => ?_, ⟨i + 1, _, rfl, by omega, fun j k hj => ?_, ?_, fun T hT => ?_, fun T hT hT0 hlt => ?_, fun S k hS hk hbk hx => ?_⟩, by show (p 0 2 - ((i + 1 : Nat) : Int)).toNat < (p 0 2 - (i : Int)).toNat; omega⟩
        · simp only [mg_X4_goesInto_89, mg_X4_goesInto_167, hxc, xw_nat (show i < 2147483648 by omega), xw_nat (show s < 2147483648 by omega), xin_nat (show s < 2048 by omega) (show 2048 ≤ 2147483648 by omega), xin_nat (show i < 11 by omega) (show 11 ≤ 2147483648 by omega), toNat_nat, hxs, hxo, xw_nat (show s ||| 2 ^ i < 2147483648 by omega), xin_nat (show s ||| 2 ^ i < 2048 by omega) (show 2048 ≤ 2147483648 by omega), g7, if_true]
          rw [if_neg hic, if_neg hbig, if_neg (by omega), if_neg (by omega), huw, hm]
          rfl
        · rw [xset_part _ _ _ _ hj]; exact h1 j k hj
        · rw [hset, if_neg (by omega)]; exact h2
        · rw [hset]
          split
          · omega
          · exact h3 T hT
        · rw [hset] at hlt ⊢
          by_cases hTw : T = s ||| 2 ^ i
          · rw [if_pos hTw] at hlt ⊢
            rcases hmv.2.2.2 with e | e
            · rw [e] at hlt ⊢
              rw [hTw] at hT0 hT ⊢
              exact h4 _ hT hT0 hlt
            · rw [e] at hlt ⊢
              rw [hru] at hlt ⊢
              have := uwN_sound (T := s ||| 2 ^ i) (i := i) g8 (by have := rk_iff.mp g7; omega) (fun k hk => by have := g3 k hk; omega) (show i < (p 0 2).toNat by omega) hb (by rw [Nat.testBit_or, Nat.testBit_two_pow]; simp) (fun k hk => by rw [Nat.testBit_or, Nat.testBit_two_pow]; simp [Ne.symm hk]) u0 hach hlt
              obtain ⟨r2, u2, a1, a2, a3⟩ := this
              rw [hTw]
              exact ⟨r2, u2, a1, a2, a3⟩
          · rw [if_neg hTw] at hlt ⊢
            exact h4 T hT hT0 hlt
        · have hSw : S ≠ s ||| 2 ^ i := by rcases hx with hx | ⟨rfl, _⟩ <;> omega
          rw [hset, hset, if_neg hSw]
          by_cases hki : S = s ∧ k = i
          · obtain ⟨rfl, rfl⟩ := hki
            rw [if_pos rfl]
            unfold uwx
            rw [if_pos (by omega)]
            exact hmv.2.1
          · have h6 := h5 S k hS hk hbk (by rcases hx with hx | ⟨e, hx⟩
                                            · exact Or.inl hx
                                            · exact Or.inr ⟨e, by omega⟩)
            split
            · rename_i e
              rw [e] at h6
              exact Int.le_trans hmv.1 h6
            · exact h6
theorem gi_ex (f : Nat) (hf : 5000 ≤ f) (p r : Ob) (hG : GiG p r) : ∃ p', md_X4_goesInto_0 r f p = RI (bz (gi p r)) [p', r] ∧ ∀ j k, j ≠ 2 → p' j k = p j k := by
  obtain ⟨g1, g2, g3, g4, g5, g6, g7, g8⟩ := id hG
  obtain ⟨k1, k2⟩ := rk_iff.mp g7
  have hN : 2 ^ (p 0 2).toNat ≤ 2 ^ 11 := Nat.pow_le_pow_right (by omega) (by omega)
  have hN : 2 ^ (p 0 2).toNat ≤ 2048 := hN
  have hN1 : 0 < 2 ^ (p 0 2).toNat := Nat.two_pow_pos _
  have hcel := celR_sm (r := r)
  have hsl := sm_bound (a := r 2) (b := 200) (n := (r 0 2).toNat) g8
  have hsa := sm_bound (a := p 1) (b := 200) (n := (p 0 2).toNat) (fun j hj => by have := g3 j hj; omega)
  have hlon := lonR_spec g8
  have hx3 : xw (p 0 3) = p 0 3 := xw_id (by omega) (by omega)
  have hxc : xw (celR r) = celR r := xw_id (by omega) (by omega)
  have hx4b : 0 ≤ p 0 4 ∧ p 0 4 ≤ 200 := by
    rcases g6 with h | ⟨i, h1, h2⟩
    · omega
    · have := g3 i h1; omega
  have hx4 : xw (p 0 4) = p 0 4 := xw_id (by omega) (by omega)
  have hxl : xw (lonR r) = lonR r := xw_id (by omega) (by omega)
  have hall : xshl 1 (p 0 2) - 1 = ((2 ^ (p 0 2).toNat - 1 : Nat) : Int) := by
    have h31 : (p 0 2).toNat < 31 := by clear hlon g6; omega
    rw [show p 0 2 = ((p 0 2).toNat : Int) from (Int.toNat_of_nonneg g1).symm, xshl_1 _ h31, toNat_nat]
    clear hlon g6
    omega
  simp only [md_X4_goesInto_0, mg_X4_goesInto_0, g7, if_true, hx3, hxc, hx4, hxl]
  by_cases e1 : p 0 3 > celR r
  · rw [if_pos e1]
    refine ⟨p, ?_, fun _ _ _ => rfl⟩
    have : gi p r = false := pd_f (fun hp => by have := packs_sum hp; omega)
    rw [this]; rfl
  · rw [if_neg e1]
    by_cases e2 : p 0 4 ≤ lonR r
    · rw [if_pos e2, hall]
      have hn : 0 < (p 0 2).toNat → 0 < (r 0 2).toNat := by
        intro hc
        have h1 := g3 0 hc
        have h2 := g5 0 hc
        rcases hlon.2.2.2 with h | ⟨j, j1, j2⟩ <;> omega
      -- all but the empty set: no way yet
      obtain ⟨c1, hc1, q1, hq1e, hq1⟩ : ∃ c : Int × Ob, (∀ kx, tlp (fun k => mg_X4_goesInto_35 r kx k) f (((2 ^ (p 0 2).toNat - 1 : Nat) : Int), 1, p) = kx c) ∧ ∃ q, c = (((2 ^ (p 0 2).toNat - 1 : Nat) : Int), q) ∧ ∀ j k, q j k = if j = 2 ∧ 1 ≤ k ∧ k < 2 ^ (p 0 2).toNat then 65536 else p j k := by
        refine tlp_to (B := fun kx k => mg_X4_goesInto_35 r kx k) (fun a => ∃ (s : Nat) (q : Ob), a = (((2 ^ (p 0 2).toNat - 1 : Nat) : Int), (s : Int), q) ∧ 1 ≤ s ∧ s ≤ 2 ^ (p 0 2).toNat ∧ ∀ j k, q j k = if j = 2 ∧ 1 ≤ k ∧ k < s then 65536 else p j k) (fun a => (2048 - a.2.1).toNat) _ ?_ f _ ⟨1, p, rfl, by omega, by omega, fun j k => by rw [if_neg (by omega)]⟩ (by show (2048 - 1 : Int).toNat < f; omega)
        rintro a ⟨s, q, rfl, s1, s2, hq⟩
        by_cases hs : s = 2 ^ (p 0 2).toNat
        · right
          refine ⟨(((2 ^ (p 0 2).toNat - 1 : Nat) : Int), q), fun kx k => ?_, q, rfl, fun j k => by rw [hq, hs]⟩
          simp only [mg_X4_goesInto_35, xw_nat (show s < 2147483648 by omega), xw_nat (show 2 ^ (p 0 2).toNat - 1 < 2147483648 by omega)]
          rw [if_pos (by omega)]
        · left
          refine ⟨(((2 ^ (p 0 2).toNat - 1 : Nat) : Int), ((s + 1 : Nat) : Int), xset q 2 s 65536), fun kx k => ?_, ⟨s + 1, _, rfl, by omega, by omega, fun j k => ?_⟩, by show (2048 - ((s + 1 : Nat) : Int)).toNat < (2048 - (s : Int)).toNat; omega⟩
          · simp only [mg_X4_goesInto_35, xw_nat (show s < 2147483648 by omega), xw_nat (show 2 ^ (p 0 2).toNat - 1 < 2147483648 by omega), xin_nat (show s < 2048 by omega) (show 2048 ≤ 2147483648 by omega), toNat_nat, if_true]
            rw [if_neg (by omega), if_neg (by omega)]
            rfl
          · simp only [xset, hq]
            by_cases hj : j = 2
            · by_cases hk : k = s
              · rw [if_pos ⟨hj, hk⟩, if_pos (by omega)]
              · rw [if_neg (fun z => hk z.2)]
                by_cases hk2 : 1 ≤ k ∧ k < s
                · rw [if_pos ⟨hj, hk2⟩, if_pos (by omega)]
                · rw [if_neg (fun z => hk2 z.2), if_neg (by omega)]
            · rw [if_neg (fun z => hj z.1), if_neg (fun z => hj z.1), if_neg (fun z => hj z.1)]
      have hI0 : giI p r 0 0 (xset q1 2 0 0) := by
        refine ⟨fun j k hj => ?_, xset_same _ _ _ _, fun T hT => ?_, fun T hT hT0 hlt => ?_, fun S k hS hk hb hx => by omega⟩
        · rw [xset_part _ _ _ _ hj, hq1, if_neg (fun z => hj z.1)]
        · by_cases hT0 : T = 0
          · subst hT0; rw [xset_same]; omega
          · rw [xset_idx _ _ _ _ hT0, hq1, if_pos (by omega)]; omega
        · rw [xset_idx _ _ _ _ hT0, hq1, if_pos (by omega)] at hlt; omega
      -- set by set
      obtain ⟨c2, hc2, q2, hq2e, hq2⟩ : ∃ c : Int × Ob, (∀ kx, tlp (fun k => mg_X4_goesInto_72 r kx (fun a => tlp (fun k' => mg_X4_goesInto_89 r (mg_X4_goesInto_173 r k) (mg_X4_goesInto_167 r k')) f a)) f (((2 ^ (p 0 2).toNat - 1 : Nat) : Int), 0, xset q1 2 0 0) = kx c) ∧ ∃ q, c = (((2 ^ (p 0 2).toNat - 1 : Nat) : Int), q) ∧ giI p r (2 ^ (p 0 2).toNat - 1) 0 q := by
        refine tlp_to (B := fun kx k => mg_X4_goesInto_72 r kx (fun a => tlp (fun k' => mg_X4_goesInto_89 r (mg_X4_goesInto_173 r k) (mg_X4_goesInto_167 r k')) f a)) (fun a => ∃ (s : Nat) (q : Ob), a = (((2 ^ (p 0 2).toNat - 1 : Nat) : Int), (s : Int), q) ∧ s ≤ 2 ^ (p 0 2).toNat - 1 ∧ giI p r s 0 q) (fun a => (2048 - a.2.1).toNat) _ ?_ f _ ⟨0, _, rfl, by omega, hI0⟩ (by show (2048 - 0 : Int).toNat < f; omega)
        rintro a ⟨s, q, rfl, s1, hq⟩
        by_cases hs : s = 2 ^ (p 0 2).toNat - 1
        · right
          refine ⟨(((2 ^ (p 0 2).toNat - 1 : Nat) : Int), q), fun kx k => ?_, q, rfl, by rw [← hs]; exact hq⟩
          simp only [mg_X4_goesInto_72, xw_nat (show s < 2147483648 by omega), xw_nat (show 2 ^ (p 0 2).toNat - 1 < 2147483648 by omega)]
          rw [if_pos (by omega)]
        · left
          obtain ⟨cc, hcc, q', rfl, hq'⟩ := gi_in hG hn (show s < 2 ^ (p 0 2).toNat - 1 by omega) f (by omega) ((2 ^ (p 0 2).toNat - 1 : Nat) : Int) hq
          refine ⟨_, fun kx k => ?_, ⟨s + 1, q', rfl, by omega, hq'⟩, by show (2048 - ((s + 1 : Nat) : Int)).toNat < (2048 - (s : Int)).toNat; omega⟩
          simp only [mg_X4_goesInto_72, xw_nat (show s < 2147483648 by omega), xw_nat (show 2 ^ (p 0 2).toNat - 1 < 2147483648 by omega)]
          rw [if_neg (by omega), if_neg (by omega)]
          exact hcc k
      have hrun : md_X4_goesInto_35 r f (((2 ^ (p 0 2).toNat - 1 : Nat) : Int), 1, p) = md_X4_goesInto_179 r f (((2 ^ (p 0 2).toNat - 1 : Nat) : Int), q2) := by
        have a1 : md_X4_goesInto_35 r f (((2 ^ (p 0 2).toNat - 1 : Nat) : Int), 1, p) = md_X4_goesInto_63 r f c1 := hc1 (md_X4_goesInto_63 r f)
        have a2 : md_X4_goesInto_72 r f (((2 ^ (p 0 2).toNat - 1 : Nat) : Int), 0, xset q1 2 0 0) = md_X4_goesInto_179 r f c2 := hc2 (md_X4_goesInto_179 r f)
        rw [a1, hq1e]
        rw [hq2e] at a2
        exact a2
      rw [hrun]
      obtain ⟨h1, h2, h3, h4, h5⟩ := hq2
      have hU := h3 (2 ^ (p 0 2).toNat - 1) (by omega)
      refine ⟨q2, ?_, h1⟩
      simp only [md_X4_goesInto_179, mg_X4_goesInto_179, xw_nat (show 2 ^ (p 0 2).toNat - 1 < 2147483648 by omega), xin_nat (show 2 ^ (p 0 2).toNat - 1 < 2048 by omega) (show 2048 ≤ 2147483648 by omega), toNat_nat, if_true, xw_id (x := q2 2 (2 ^ (p 0 2).toNat - 1)) (by omega) (by omega)]
      rw [if_neg (by omega), if_neg (by omega)]
      have hiff : q2 2 (2 ^ (p 0 2).toNat - 1) < 65536 ↔ Packs (p 1) (p 0 2).toNat (2 ^ (p 0 2).toNat - 1) (r 2) (r 0 2).toNat := by
        by_cases hc0 : (p 0 2).toNat = 0
        · rw [hc0]
          constructor
          · intro _
            exact ⟨fun _ => 0, fun i hi => by omega, fun j hj => (g8 j hj).1⟩
          · intro _
            show q2 2 0 < 65536
            rw [h2]; omega
        · have hfull : 2 ^ (p 0 2).toNat - 1 ≠ 0 := by
            have : 2 ^ 1 ≤ 2 ^ (p 0 2).toNat := Nat.pow_le_pow_right (by omega) (by omega)
            omega
          constructor
          · intro hlt
            obtain ⟨r', u, _, _, hA⟩ := h4 _ (by omega) hfull hlt
            exact ach_packs (fun j hj => (g8 j hj).1) hA
          · intro hP
            have hn0 := hn (by omega)
            obtain ⟨u, hu, hA⟩ := packs_ach hn0 hP
            have := dp_full (U := q2 2) g8 (fun k hk => (g3 k hk).1) (by omega) h2 (fun T hT => ⟨(h3 T hT).1, fun hlt => by
              by_cases hT0 : T = 0
              · subst hT0; rw [h2]; decide
              · obtain ⟨r', u', a1, a2, a3⟩ := h4 T hT hT0 hlt
                have b1 := a3.2.1
                have b2 := g8 r' a3.1
                omega⟩) (fun S k hS hk hb => h5 S k hS hk hb (Or.inl (by
                  have hne : S ≠ 2 ^ (p 0 2).toNat - 1 := fun z => by
                    rw [z, full_bit hk] at hb; cases hb
                  omega))) (2 ^ (p 0 2).toNat - 1) (by omega) _ u hA
            have b2 := g8 ((r 0 2).toNat - 1) (by omega)
            omega
      by_cases hlt : q2 2 (2 ^ (p 0 2).toNat - 1) < 65536
      · rw [if_neg (by omega)]
        have : gi p r = true := pd_t (hiff.mp hlt)
        rw [this]; rfl
      · rw [if_pos (by omega)]
        have : gi p r = false := pd_f (fun z => hlt (hiff.mpr z))
        rw [this]; rfl
    · rw [if_neg e2]
      refine ⟨p, ?_, fun _ _ _ => rfl⟩
      have : gi p r = false := pd_f (fun hp => by
        rcases g6 with h | ⟨i, h1, h2⟩
        · omega
        · obtain ⟨j, j1, j2⟩ := packs_max (fun k hk => by have := g3 k hk; omega) hp h1
          have := hlon.2.2.1 j j1
          omega)
      rw [this]; rfl
theorem sp_X4_goesInto (f : Nat) (hf : 5000 ≤ f) (h0 h1 : Ob) (hg : pd (GiG h0 h1) = true) : md_X4_goesInto_0 h1 f h0 = RI (bz (gi h0 h1)) [giO f h0 h1, h1] := by
  obtain ⟨p', e, -⟩ := gi_ex f hf h0 h1 (pd_of hg)
  unfold giO
  rw [e]
  rfl
theorem giO_off {f : Nat} (hf : 5000 ≤ f) {p r : Ob} (hG : GiG p r) : ∀ j k, j ≠ 2 → giO f p r j k = p j k := by
  obtain ⟨p', e, h⟩ := gi_ex f hf p r hG
  intro j k hj
  unfold giO
  rw [e]
  exact h j k hj

noncomputable def g_X4_goesInto : List AV → List Ob → Bool
  | [.inr (.inl (0, 0)), .inr (.inl (1, 0))], [h0, h1] => pd (GiG h0 h1)
  | _, _ => false
noncomputable def v_X4_goesInto : List AV → List Ob → Rt
  | [.inr (.inl (0, 0)), .inr (.inl (1, 0))], [h0, h1] => (some (.inl (bz (gi h0 h1))), [(giO xfu h0 h1), h1])
  | _, _ => (none, [])
theorem ct_X4_goesInto : XCt yX4_goesInto mX4_goesInto (fun as μ => if g_X4_goesInto as μ then some (v_X4_goesInto as μ) else none) := (ctr_X4_goesInto xfu).of (fun as μ r h => by
  split at h
  · rename_i hg
    unfold g_X4_goesInto at hg
    split at hg
    · rw [← h]
      exact (eqf_X4_goesInto xfu _ _).trans (sp_X4_goesInto xfu (xfu_ge (by decide)) _ _ hg)
    · cases hg
  · cases h)
