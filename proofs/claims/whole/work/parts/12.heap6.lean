theorem dX3_cellAt_0 : decode cX3_cellAt 0 = .ok (.aload_n 0, 1) := by decide +kernel
theorem dX3_cellAt_1 : decode cX3_cellAt 1 = .ok (.iload_n 1, 1) := by decide +kernel
theorem dX3_cellAt_2 : decode cX3_cellAt 2 = .ok (.invokevirtual 105, 3) := by decide +kernel
theorem dX3_cellAt_5 : decode cX3_cellAt 5 = .ok (.ifCond .ne 5, 3) := by decide +kernel
theorem dX3_cellAt_8 : decode cX3_cellAt 8 = .ok (.iconst 0, 1) := by decide +kernel
theorem dX3_cellAt_9 : decode cX3_cellAt 9 = .ok (.ireturn, 1) := by decide +kernel
theorem dX3_cellAt_10 : decode cX3_cellAt 10 = .ok (.iload_n 1, 1) := by decide +kernel
theorem dX3_cellAt_11 : decode cX3_cellAt 11 = .ok (.ifCond .ne 7, 3) := by decide +kernel
theorem dX3_cellAt_14 : decode cX3_cellAt 14 = .ok (.iconst 1, 1) := by decide +kernel
theorem dX3_cellAt_15 : decode cX3_cellAt 15 = .ok (.goto 4, 3) := by decide +kernel
theorem dX3_cellAt_18 : decode cX3_cellAt 18 = .ok (.iconst 0, 1) := by decide +kernel
theorem dX3_cellAt_19 : decode cX3_cellAt 19 = .ok (.istore_n 2, 1) := by decide +kernel
theorem dX3_cellAt_20 : decode cX3_cellAt 20 = .ok (.iconst 0, 1) := by decide +kernel
theorem dX3_cellAt_21 : decode cX3_cellAt 21 = .ok (.istore_n 3, 1) := by decide +kernel
theorem dX3_cellAt_22 : decode cX3_cellAt 22 = .ok (.iload_n 3, 1) := by decide +kernel
theorem dX3_cellAt_23 : decode cX3_cellAt 23 = .ok (.bipush 11, 2) := by decide +kernel
theorem dX3_cellAt_25 : decode cX3_cellAt 25 = .ok (.if_icmp .ge 96, 3) := by decide +kernel
theorem dX3_cellAt_28 : decode cX3_cellAt 28 = .ok (.aload_n 0, 1) := by decide +kernel
theorem dX3_cellAt_29 : decode cX3_cellAt 29 = .ok (.getfield 9, 3) := by decide +kernel
theorem dX3_cellAt_32 : decode cX3_cellAt 32 = .ok (.iload_n 3, 1) := by decide +kernel
theorem dX3_cellAt_33 : decode cX3_cellAt 33 = .ok (.iaload, 1) := by decide +kernel
theorem dX3_cellAt_34 : decode cX3_cellAt 34 = .ok (.iconst (-1), 1) := by decide +kernel
theorem dX3_cellAt_35 : decode cX3_cellAt 35 = .ok (.if_icmp .ne 7, 3) := by decide +kernel
theorem dX3_cellAt_38 : decode cX3_cellAt 38 = .ok (.iconst (-1), 1) := by decide +kernel
theorem dX3_cellAt_39 : decode cX3_cellAt 39 = .ok (.goto 11, 3) := by decide +kernel
theorem dX3_cellAt_42 : decode cX3_cellAt 42 = .ok (.iload_n 1, 1) := by decide +kernel
theorem dX3_cellAt_43 : decode cX3_cellAt 43 = .ok (.aload_n 0, 1) := by decide +kernel
theorem dX3_cellAt_44 : decode cX3_cellAt 44 = .ok (.getfield 9, 3) := by decide +kernel
theorem dX3_cellAt_47 : decode cX3_cellAt 47 = .ok (.iload_n 3, 1) := by decide +kernel
theorem dX3_cellAt_48 : decode cX3_cellAt 48 = .ok (.iaload, 1) := by decide +kernel
theorem dX3_cellAt_49 : decode cX3_cellAt 49 = .ok (.isub, 1) := by decide +kernel
theorem dX3_cellAt_50 : decode cX3_cellAt 50 = .ok (.istore 4, 2) := by decide +kernel
theorem dX3_cellAt_52 : decode cX3_cellAt 52 = .ok (.iload 4, 2) := by decide +kernel
theorem dX3_cellAt_54 : decode cX3_cellAt 54 = .ok (.ifCond .ne 20, 3) := by decide +kernel
theorem dX3_cellAt_57 : decode cX3_cellAt 57 = .ok (.bipush 64, 2) := by decide +kernel
theorem dX3_cellAt_59 : decode cX3_cellAt 59 = .ok (.aload_n 0, 1) := by decide +kernel
theorem dX3_cellAt_60 : decode cX3_cellAt 60 = .ok (.getfield 15, 3) := by decide +kernel
theorem dX3_cellAt_63 : decode cX3_cellAt 63 = .ok (.iload_n 3, 1) := by decide +kernel
theorem dX3_cellAt_64 : decode cX3_cellAt 64 = .ok (.iaload, 1) := by decide +kernel
theorem dX3_cellAt_65 : decode cX3_cellAt 65 = .ok (.iconst 1, 1) := by decide +kernel
theorem dX3_cellAt_66 : decode cX3_cellAt 66 = .ok (.iadd, 1) := by decide +kernel
theorem dX3_cellAt_67 : decode cX3_cellAt 67 = .ok (.imul, 1) := by decide +kernel
theorem dX3_cellAt_68 : decode cX3_cellAt 68 = .ok (.iload_n 3, 1) := by decide +kernel
theorem dX3_cellAt_69 : decode cX3_cellAt 69 = .ok (.invokestatic 108, 3) := by decide +kernel
theorem dX3_cellAt_72 : decode cX3_cellAt 72 = .ok (.iadd, 1) := by decide +kernel
theorem dX3_cellAt_73 : decode cX3_cellAt 73 = .ok (.ireturn, 1) := by decide +kernel
theorem dX3_cellAt_74 : decode cX3_cellAt 74 = .ok (.iload 4, 2) := by decide +kernel
theorem dX3_cellAt_76 : decode cX3_cellAt 76 = .ok (.ifCond .le 24, 3) := by decide +kernel
theorem dX3_cellAt_79 : decode cX3_cellAt 79 = .ok (.iload 4, 2) := by decide +kernel
theorem dX3_cellAt_81 : decode cX3_cellAt 81 = .ok (.aload_n 0, 1) := by decide +kernel
theorem dX3_cellAt_82 : decode cX3_cellAt 82 = .ok (.getfield 15, 3) := by decide +kernel
theorem dX3_cellAt_85 : decode cX3_cellAt 85 = .ok (.iload_n 3, 1) := by decide +kernel
theorem dX3_cellAt_86 : decode cX3_cellAt 86 = .ok (.iaload, 1) := by decide +kernel
theorem dX3_cellAt_87 : decode cX3_cellAt 87 = .ok (.if_icmp .gt 13, 3) := by decide +kernel
theorem dX3_cellAt_90 : decode cX3_cellAt 90 = .ok (.aload_n 0, 1) := by decide +kernel
theorem dX3_cellAt_91 : decode cX3_cellAt 91 = .ok (.iload_n 3, 1) := by decide +kernel
theorem dX3_cellAt_92 : decode cX3_cellAt 92 = .ok (.iload 4, 2) := by decide +kernel
theorem dX3_cellAt_94 : decode cX3_cellAt 94 = .ok (.iconst 1, 1) := by decide +kernel
theorem dX3_cellAt_95 : decode cX3_cellAt 95 = .ok (.isub, 1) := by decide +kernel
theorem dX3_cellAt_96 : decode cX3_cellAt 96 = .ok (.invokevirtual 111, 3) := by decide +kernel
theorem dX3_cellAt_99 : decode cX3_cellAt 99 = .ok (.ireturn, 1) := by decide +kernel
theorem dX3_cellAt_100 : decode cX3_cellAt 100 = .ok (.iload 4, 2) := by decide +kernel
theorem dX3_cellAt_102 : decode cX3_cellAt 102 = .ok (.aload_n 0, 1) := by decide +kernel
theorem dX3_cellAt_103 : decode cX3_cellAt 103 = .ok (.getfield 15, 3) := by decide +kernel
theorem dX3_cellAt_106 : decode cX3_cellAt 106 = .ok (.iload_n 3, 1) := by decide +kernel
theorem dX3_cellAt_107 : decode cX3_cellAt 107 = .ok (.iaload, 1) := by decide +kernel
theorem dX3_cellAt_108 : decode cX3_cellAt 108 = .ok (.iconst 1, 1) := by decide +kernel
theorem dX3_cellAt_109 : decode cX3_cellAt 109 = .ok (.iadd, 1) := by decide +kernel
theorem dX3_cellAt_110 : decode cX3_cellAt 110 = .ok (.if_icmp .ne 5, 3) := by decide +kernel
theorem dX3_cellAt_113 : decode cX3_cellAt 113 = .ok (.iconst 1, 1) := by decide +kernel
theorem dX3_cellAt_114 : decode cX3_cellAt 114 = .ok (.istore_n 2, 1) := by decide +kernel
theorem dX3_cellAt_115 : decode cX3_cellAt 115 = .ok (.iinc 3 1, 3) := by decide +kernel
theorem dX3_cellAt_118 : decode cX3_cellAt 118 = .ok (.goto (-96), 3) := by decide +kernel
theorem dX3_cellAt_121 : decode cX3_cellAt 121 = .ok (.iload_n 2, 1) := by decide +kernel
theorem dX3_cellAt_122 : decode cX3_cellAt 122 = .ok (.ifCond .eq 22, 3) := by decide +kernel
theorem dX3_cellAt_125 : decode cX3_cellAt 125 = .ok (.bipush 64, 2) := by decide +kernel
theorem dX3_cellAt_127 : decode cX3_cellAt 127 = .ok (.aload_n 0, 1) := by decide +kernel
theorem dX3_cellAt_128 : decode cX3_cellAt 128 = .ok (.iload_n 1, 1) := by decide +kernel
theorem dX3_cellAt_129 : decode cX3_cellAt 129 = .ok (.aload_n 0, 1) := by decide +kernel
theorem dX3_cellAt_130 : decode cX3_cellAt 130 = .ok (.getfield 40, 3) := by decide +kernel
theorem dX3_cellAt_133 : decode cX3_cellAt 133 = .ok (.invokevirtual 114, 3) := by decide +kernel
theorem dX3_cellAt_136 : decode cX3_cellAt 136 = .ok (.iload_n 1, 1) := by decide +kernel
theorem dX3_cellAt_137 : decode cX3_cellAt 137 = .ok (.isub, 1) := by decide +kernel
theorem dX3_cellAt_138 : decode cX3_cellAt 138 = .ok (.imul, 1) := by decide +kernel
theorem dX3_cellAt_139 : decode cX3_cellAt 139 = .ok (.iconst 0, 1) := by decide +kernel
theorem dX3_cellAt_140 : decode cX3_cellAt 140 = .ok (.iadd, 1) := by decide +kernel
theorem dX3_cellAt_141 : decode cX3_cellAt 141 = .ok (.goto 4, 3) := by decide +kernel
theorem dX3_cellAt_144 : decode cX3_cellAt 144 = .ok (.iconst 0, 1) := by decide +kernel
theorem dX3_cellAt_145 : decode cX3_cellAt 145 = .ok (.ireturn, 1) := by decide +kernel
abbrev mX3_cellAt : XM := (cX3_cellAt, 5, RX3, (some .int), shw_3, 3)
noncomputable def rg_X3_cellAt_0 (k19 : XK) : XK :=
 o_aload 0 <|
 o_iload 1 <|
 o_callV 2 1 [0] f_X3_isCell <|
 o_if_ne (o_iload 1 <|
 o_if_ne (o_iconst 0 <|
 o_cut [] k19)
 (o_iconst 1 <|
 o_cut [] k19))
 (o_iconst 0 <|
 o_ireturn)
def en_X3_cellAt_0 (p1 : Int) (h0 : Ob) (a : Unit) : XSt := ([some (.inr (.inl (0, 0))), some (.inl p1), none, none, none], [], [h0])
noncomputable def rg_X3_cellAt_19 (k22 : XK) : XK :=
 o_istore 2 <|
 o_iconst 0 <|
 o_istore 3 <|
 o_cut [] k22
def en_X3_cellAt_19 (p1 : Int) (h0 : Ob) (a : Int) : XSt := ([some (.inr (.inl (0, 0))), some (.inl p1), none, none, none], [.inl a], [h0])
noncomputable def rg_X3_cellAt_22 (k50 : XK) : XK :=
 o_iload 3 <|
 o_iconst 11 <|
 o_icmp_ge (o_iload 2 <|
 o_if_eq (o_iconst 0 <|
 o_ireturn)
 (o_iconst 64 <|
 o_aload 0 <|
 o_iload 1 <|
 o_aload 0 <|
 o_get shw_3 3 9 <|
 o_callV 3 1 [0] f_X3_endAt <|
 o_iload 1 <|
 o_isub <|
 o_imul <|
 o_iconst 0 <|
 o_iadd <|
 o_ireturn))
 (o_aload 0 <|
 o_get shw_3 3 0 <|
 o_iload 3 <|
 o_iald shw_3 <|
 o_iconst (-1) <|
 o_icmp_ne (o_iload 1 <|
 o_aload 0 <|
 o_get shw_3 3 0 <|
 o_iload 3 <|
 o_iald shw_3 <|
 o_isub <|
 o_cut [] k50)
 (o_iconst (-1) <|
 o_cut [] k50))
def en_X3_cellAt_22 (p1 : Int) (h0 : Ob) (a : Int × Int) : XSt := ([some (.inr (.inl (0, 0))), some (.inl p1), some (.inl a.1), some (.inl a.2), none], [], [h0])
noncomputable def rg_X3_cellAt_50 (k100 : XK) : XK :=
 o_istore 4 <|
 o_iload 4 <|
 o_if_ne (o_iload 4 <|
 o_if_le (o_cut [] k100)
 (o_iload 4 <|
 o_aload 0 <|
 o_get shw_3 3 1 <|
 o_iload 3 <|
 o_iald shw_3 <|
 o_icmp_gt (o_cut [] k100)
 (o_aload 0 <|
 o_iload 3 <|
 o_iload 4 <|
 o_iconst 1 <|
 o_isub <|
 o_callV 3 1 [0] f_X3_contentOf <|
 o_ireturn)))
 (o_iconst 64 <|
 o_aload 0 <|
 o_get shw_3 3 1 <|
 o_iload 3 <|
 o_iald shw_3 <|
 o_iconst 1 <|
 o_iadd <|
 o_imul <|
 o_iload 3 <|
 o_callS 1 1 [] f_X7_ownerOf <|
 o_iadd <|
 o_ireturn)
def en_X3_cellAt_50 (p1 : Int) (h0 : Ob) (a : Int × Int × Int) : XSt := ([some (.inr (.inl (0, 0))), some (.inl p1), some (.inl a.1), some (.inl a.2.1), none], [.inl a.2.2], [h0])
noncomputable def rg_X3_cellAt_100 (k115 : XK) : XK :=
 o_iload 4 <|
 o_aload 0 <|
 o_get shw_3 3 1 <|
 o_iload 3 <|
 o_iald shw_3 <|
 o_iconst 1 <|
 o_iadd <|
 o_icmp_ne (o_cut [4] k115)
 (o_iconst 1 <|
 o_istore 2 <|
 o_cut [4] k115)
def en_X3_cellAt_100 (p1 : Int) (h0 : Ob) (a : Int × Int × Int) : XSt := ([some (.inr (.inl (0, 0))), some (.inl p1), some (.inl a.1), some (.inl a.2.1), some (.inl a.2.2)], [], [h0])
noncomputable def rg_X3_cellAt_115 (k22 : XK) : XK :=
 o_iinc 3 1 <|
 o_cut [] k22
def en_X3_cellAt_115 (p1 : Int) (h0 : Ob) (a : Int × Int) : XSt := ([some (.inr (.inl (0, 0))), some (.inl p1), some (.inl a.1), some (.inl a.2), none], [], [h0])
noncomputable def mg_X3_cellAt_0 (p1 : Int) (h0 : Ob) (k19 : Int → Option Rt) (a : Unit) : Option Rt :=
 if xw (bz (isc h0 p1)) = 0 then (RI 0 [h0])
 else (if xw p1 = 0 then (k19 1)
 else (k19 0))
set_option maxRecDepth 100000 in
set_option maxHeartbeats 4000000 in
theorem rq_X3_cellAt_0 (p1 : Int) (h0 : Ob) (k19 : XK) (a : Unit) : rg_X3_cellAt_0 k19 (en_X3_cellAt_0 p1 h0 a) = mg_X3_cellAt_0 p1 h0 (fun b => k19 (en_X3_cellAt_19 p1 h0 b)) a := rfl
set_option maxRecDepth 100000 in
set_option maxHeartbeats 4000000 in
theorem sg_X3_cellAt_0 {X : XDyn} {r0 : Rt} (C : XO X mX3_cellAt) {k19 : XK} (q19 : XS X mX3_cellAt r0 19 k19) : XS X mX3_cellAt r0 0 (rg_X3_cellAt_0 k19) := by
 unfold rg_X3_cellAt_0
 exact s_aload_n (pc := 0) C dX3_cellAt_0 rfl <|
    s_iload_n (pc := 1) C dX3_cellAt_1 rfl <|
    s_callV (pc := 2) C ct_X3_isCell (n := 2) (rk := 1) (mp := [0]) ⟨rfl, by decide, rfl⟩ (ci := 3) rfl rfl (by decide) (by decide) yi_X3_isCell (by decide) wd_740 wd_741 wd_742 wd_74 wd_743 dX3_cellAt_2 <|
    s_if_ne (pc := 5) C dX3_cellAt_5 (by decide) (s_iload_n (pc := 10) C dX3_cellAt_10 rfl <|
    s_if_ne (pc := 11) C dX3_cellAt_11 (by decide) (s_iconst (pc := 18) C dX3_cellAt_18 <|
    s_cut q19)
    (s_iconst (pc := 14) C dX3_cellAt_14 <|
    s_goto (pc := 15) C dX3_cellAt_15 (by decide) <|
    s_cut q19))
    (s_iconst (pc := 8) C dX3_cellAt_8 <|
    s_ireturn (pc := 9) C rfl dX3_cellAt_9)
noncomputable def mg_X3_cellAt_19 (p1 : Int) (h0 : Ob) (k22 : (Int × Int) → Option Rt) (a : Int) : Option Rt :=
 k22 (a, 0)
set_option maxRecDepth 100000 in
set_option maxHeartbeats 4000000 in
theorem rq_X3_cellAt_19 (p1 : Int) (h0 : Ob) (k22 : XK) (a : Int) : rg_X3_cellAt_19 k22 (en_X3_cellAt_19 p1 h0 a) = mg_X3_cellAt_19 p1 h0 (fun b => k22 (en_X3_cellAt_22 p1 h0 b)) a := rfl
set_option maxRecDepth 100000 in
set_option maxHeartbeats 4000000 in
theorem sg_X3_cellAt_19 {X : XDyn} {r0 : Rt} (C : XO X mX3_cellAt) {k22 : XK} (q22 : XS X mX3_cellAt r0 22 k22) : XS X mX3_cellAt r0 19 (rg_X3_cellAt_19 k22) := by
 unfold rg_X3_cellAt_19
 exact s_istore_n (pc := 19) C dX3_cellAt_19 rfl <|
    s_iconst (pc := 20) C dX3_cellAt_20 <|
    s_istore_n (pc := 21) C dX3_cellAt_21 rfl <|
    s_cut q22
noncomputable def mg_X3_cellAt_22 (p1 : Int) (h0 : Ob) (k50 : (Int × Int × Int) → Option Rt) (a : Int × Int) : Option Rt :=
 if xw a.2 ≥ 11 then (if xw a.1 = 0 then (RI 0 [h0])
 else (RI ((64 * ((nxt h0 p1 (h0 0 9)) - p1)) + 0) [h0]))
 else (if xin a.2 11 then (
 if xw (h0 1 (xw a.2).toNat) = (-1) then (k50 (a.1, a.2, (-1)))
 else (if xin a.2 11 then (
 k50 (a.1, a.2, (p1 - (h0 1 (xw a.2).toNat)))) else none)) else none)
set_option maxRecDepth 100000 in
set_option maxHeartbeats 4000000 in
theorem rq_X3_cellAt_22 (p1 : Int) (h0 : Ob) (k50 : XK) (a : Int × Int) : rg_X3_cellAt_22 k50 (en_X3_cellAt_22 p1 h0 a) = mg_X3_cellAt_22 p1 h0 (fun b => k50 (en_X3_cellAt_50 p1 h0 b)) a := rfl
set_option maxRecDepth 100000 in
set_option maxHeartbeats 4000000 in
theorem sg_X3_cellAt_22 {X : XDyn} {r0 : Rt} (C : XO X mX3_cellAt) {k50 : XK} (q50 : XS X mX3_cellAt r0 50 k50) : XS X mX3_cellAt r0 22 (rg_X3_cellAt_22 k50) := by
 unfold rg_X3_cellAt_22
 exact s_iload_n (pc := 22) C dX3_cellAt_22 rfl <|
    s_bipush (pc := 23) C dX3_cellAt_23 (by decide) <|
    s_icmp_ge (pc := 25) C dX3_cellAt_25 (by decide) (s_iload_n (pc := 121) C dX3_cellAt_121 rfl <|
    s_if_eq (pc := 122) C dX3_cellAt_122 (by decide) (s_iconst (pc := 144) C dX3_cellAt_144 <|
    s_ireturn (pc := 145) C rfl dX3_cellAt_145)
    (s_bipush (pc := 125) C dX3_cellAt_125 (by decide) <|
    s_aload_n (pc := 127) C dX3_cellAt_127 rfl <|
    s_iload_n (pc := 128) C dX3_cellAt_128 rfl <|
    s_aload_n (pc := 129) C dX3_cellAt_129 rfl <|
    s_get (pc := 130) C (ci := 3) (kf := 9) rfl inX3 (by decide) wd_127 dX3_cellAt_130 <|
    s_callV (pc := 133) C ct_X3_endAt (n := 3) (rk := 1) (mp := [0]) ⟨rfl, by decide, rfl⟩ (ci := 3) rfl rfl (by decide) (by decide) yi_X3_endAt (by decide) wd_397 wd_398 wd_399 wd_74 wd_400 dX3_cellAt_133 <|
    s_iload_n (pc := 136) C dX3_cellAt_136 rfl <|
    s_isub (pc := 137) C dX3_cellAt_137 <|
    s_imul (pc := 138) C dX3_cellAt_138 <|
    s_iconst (pc := 139) C dX3_cellAt_139 <|
    s_iadd (pc := 140) C dX3_cellAt_140 <|
    s_goto (pc := 141) C dX3_cellAt_141 (by decide) <|
    s_ireturn (pc := 145) C rfl dX3_cellAt_145))
    (s_aload_n (pc := 28) C dX3_cellAt_28 rfl <|
    s_get (pc := 29) C (ci := 3) (kf := 0) rfl inX3 (by decide) wd_99 dX3_cellAt_29 <|
    s_iload_n (pc := 32) C dX3_cellAt_32 rfl <|
    s_iald (pc := 33) C dX3_cellAt_33 <|
    s_iconst (pc := 34) C dX3_cellAt_34 <|
    s_icmp_ne (pc := 35) C dX3_cellAt_35 (by decide) (s_iload_n (pc := 42) C dX3_cellAt_42 rfl <|
    s_aload_n (pc := 43) C dX3_cellAt_43 rfl <|
    s_get (pc := 44) C (ci := 3) (kf := 0) rfl inX3 (by decide) wd_99 dX3_cellAt_44 <|
    s_iload_n (pc := 47) C dX3_cellAt_47 rfl <|
    s_iald (pc := 48) C dX3_cellAt_48 <|
    s_isub (pc := 49) C dX3_cellAt_49 <|
    s_cut q50)
    (s_iconst (pc := 38) C dX3_cellAt_38 <|
    s_goto (pc := 39) C dX3_cellAt_39 (by decide) <|
    s_cut q50))
noncomputable def mg_X3_cellAt_50 (p1 : Int) (h0 : Ob) (k100 : (Int × Int × Int) → Option Rt) (a : Int × Int × Int) : Option Rt :=
 if xw a.2.2 = 0 then (if xin a.2.1 11 then (
 RI ((64 * ((h0 2 (xw a.2.1).toNat) + 1)) + (ownF a.2.1)) [h0]) else none)
 else (if xw a.2.2 ≤ 0 then (k100 (a.1, a.2.1, a.2.2))
 else (if xin a.2.1 11 then (
 if xw a.2.2 > xw (h0 2 (xw a.2.1).toNat) then (k100 (a.1, a.2.1, a.2.2))
 else (RI (conF h0 a.2.1 (a.2.2 - 1)) [h0])) else none))
set_option maxRecDepth 100000 in
set_option maxHeartbeats 4000000 in
theorem rq_X3_cellAt_50 (p1 : Int) (h0 : Ob) (k100 : XK) (a : Int × Int × Int) : rg_X3_cellAt_50 k100 (en_X3_cellAt_50 p1 h0 a) = mg_X3_cellAt_50 p1 h0 (fun b => k100 (en_X3_cellAt_100 p1 h0 b)) a := rfl
set_option maxRecDepth 100000 in
set_option maxHeartbeats 4000000 in
theorem sg_X3_cellAt_50 {X : XDyn} {r0 : Rt} (C : XO X mX3_cellAt) {k100 : XK} (q100 : XS X mX3_cellAt r0 100 k100) : XS X mX3_cellAt r0 50 (rg_X3_cellAt_50 k100) := by
 unfold rg_X3_cellAt_50
 exact s_istore (pc := 50) C dX3_cellAt_50 <|
    s_iload (pc := 52) C dX3_cellAt_52 <|
    s_if_ne (pc := 54) C dX3_cellAt_54 (by decide) (s_iload (pc := 74) C dX3_cellAt_74 <|
    s_if_le (pc := 76) C dX3_cellAt_76 (by decide) (s_cut q100)
    (s_iload (pc := 79) C dX3_cellAt_79 <|
    s_aload_n (pc := 81) C dX3_cellAt_81 rfl <|
    s_get (pc := 82) C (ci := 3) (kf := 1) rfl inX3 (by decide) wd_105 dX3_cellAt_82 <|
    s_iload_n (pc := 85) C dX3_cellAt_85 rfl <|
    s_iald (pc := 86) C dX3_cellAt_86 <|
    s_icmp_gt (pc := 87) C dX3_cellAt_87 (by decide) (s_cut q100)
    (s_aload_n (pc := 90) C dX3_cellAt_90 rfl <|
    s_iload_n (pc := 91) C dX3_cellAt_91 rfl <|
    s_iload (pc := 92) C dX3_cellAt_92 <|
    s_iconst (pc := 94) C dX3_cellAt_94 <|
    s_isub (pc := 95) C dX3_cellAt_95 <|
    s_callV (pc := 96) C ct_X3_contentOf (n := 3) (rk := 1) (mp := [0]) ⟨rfl, by decide, rfl⟩ (ci := 3) rfl rfl (by decide) (by decide) yi_X3_contentOf (by decide) wd_747 wd_568 wd_569 wd_74 wd_570 dX3_cellAt_96 <|
    s_ireturn (pc := 99) C rfl dX3_cellAt_99)))
    (s_bipush (pc := 57) C dX3_cellAt_57 (by decide) <|
    s_aload_n (pc := 59) C dX3_cellAt_59 rfl <|
    s_get (pc := 60) C (ci := 3) (kf := 1) rfl inX3 (by decide) wd_105 dX3_cellAt_60 <|
    s_iload_n (pc := 63) C dX3_cellAt_63 rfl <|
    s_iald (pc := 64) C dX3_cellAt_64 <|
    s_iconst (pc := 65) C dX3_cellAt_65 <|
    s_iadd (pc := 66) C dX3_cellAt_66 <|
    s_imul (pc := 67) C dX3_cellAt_67 <|
    s_iload_n (pc := 68) C dX3_cellAt_68 rfl <|
    s_callN (pc := 69) C ct_X7_ownerOf (n := 1) (rk := 1) (mp := []) ⟨rfl, by decide, rfl⟩ (by decide) (by decide) yi_X7_ownerOf wd_744 wd_745 wd_73 wd_746 dX3_cellAt_69 <|
    s_iadd (pc := 72) C dX3_cellAt_72 <|
    s_ireturn (pc := 73) C rfl dX3_cellAt_73)
noncomputable def mg_X3_cellAt_100 (p1 : Int) (h0 : Ob) (k115 : (Int × Int) → Option Rt) (a : Int × Int × Int) : Option Rt :=
 if xin a.2.1 11 then (
 if xw a.2.2 = xw ((h0 2 (xw a.2.1).toNat) + 1) then (k115 (1, a.2.1))
 else (k115 (a.1, a.2.1))) else none
set_option maxRecDepth 100000 in
set_option maxHeartbeats 4000000 in
theorem rq_X3_cellAt_100 (p1 : Int) (h0 : Ob) (k115 : XK) (a : Int × Int × Int) : rg_X3_cellAt_100 k115 (en_X3_cellAt_100 p1 h0 a) = mg_X3_cellAt_100 p1 h0 (fun b => k115 (en_X3_cellAt_115 p1 h0 b)) a := rfl
set_option maxRecDepth 100000 in
set_option maxHeartbeats 4000000 in
theorem sg_X3_cellAt_100 {X : XDyn} {r0 : Rt} (C : XO X mX3_cellAt) {k115 : XK} (q115 : XS X mX3_cellAt r0 115 k115) : XS X mX3_cellAt r0 100 (rg_X3_cellAt_100 k115) := by
 unfold rg_X3_cellAt_100
 exact s_iload (pc := 100) C dX3_cellAt_100 <|
    s_aload_n (pc := 102) C dX3_cellAt_102 rfl <|
    s_get (pc := 103) C (ci := 3) (kf := 1) rfl inX3 (by decide) wd_105 dX3_cellAt_103 <|
    s_iload_n (pc := 106) C dX3_cellAt_106 rfl <|
    s_iald (pc := 107) C dX3_cellAt_107 <|
    s_iconst (pc := 108) C dX3_cellAt_108 <|
    s_iadd (pc := 109) C dX3_cellAt_109 <|
    s_icmp_ne (pc := 110) C dX3_cellAt_110 (by decide) (s_cut q115)
    (s_iconst (pc := 113) C dX3_cellAt_113 <|
    s_istore_n (pc := 114) C dX3_cellAt_114 rfl <|
    s_cut q115)
noncomputable def mg_X3_cellAt_115 (p1 : Int) (h0 : Ob) (k22 : (Int × Int) → Option Rt) (a : Int × Int) : Option Rt :=
 k22 (a.1, (a.2 + 1))
set_option maxRecDepth 100000 in
set_option maxHeartbeats 4000000 in
theorem rq_X3_cellAt_115 (p1 : Int) (h0 : Ob) (k22 : XK) (a : Int × Int) : rg_X3_cellAt_115 k22 (en_X3_cellAt_115 p1 h0 a) = mg_X3_cellAt_115 p1 h0 (fun b => k22 (en_X3_cellAt_22 p1 h0 b)) a := rfl
set_option maxRecDepth 100000 in
set_option maxHeartbeats 4000000 in
theorem sg_X3_cellAt_115 {X : XDyn} {r0 : Rt} (C : XO X mX3_cellAt) {k22 : XK} (q22 : XS X mX3_cellAt r0 22 k22) : XS X mX3_cellAt r0 115 (rg_X3_cellAt_115 k22) := by
 unfold rg_X3_cellAt_115
 exact s_iinc (pc := 115) C dX3_cellAt_115 <|
    s_goto (pc := 118) C dX3_cellAt_118 (by decide) <|
    s_cut q22
noncomputable def rw_X3_cellAt_115 (f : Nat) (k22 : XK) : XK := rg_X3_cellAt_115 k22
noncomputable def md_X3_cellAt_115 (p1 : Int) (h0 : Ob) (f : Nat) (k22 : (Int × Int) → Option Rt) : Int × Int → Option Rt := mg_X3_cellAt_115 p1 h0 k22
theorem eq_X3_cellAt_115 (p1 : Int) (h0 : Ob) (f : Nat) (k22 : XK) (a : Int × Int) : rw_X3_cellAt_115 f k22 (en_X3_cellAt_115 p1 h0 a) = md_X3_cellAt_115 p1 h0 f (fun b => k22 (en_X3_cellAt_22 p1 h0 b)) a :=
 (rq_X3_cellAt_115 p1 h0 k22 a).trans (congrFun (congr (rfl : mg_X3_cellAt_115 p1 h0 = mg_X3_cellAt_115 p1 h0) rfl) a)
theorem sd_X3_cellAt_115 (f : Nat) {X : XDyn} {r0 : Rt} (C : XO X mX3_cellAt) {k22 : XK} (q22 : XS X mX3_cellAt r0 22 k22) : XS X mX3_cellAt r0 115 (rw_X3_cellAt_115 f k22) := sg_X3_cellAt_115 C q22
noncomputable def rw_X3_cellAt_100 (f : Nat) (k22 : XK) : XK := rg_X3_cellAt_100 (rw_X3_cellAt_115 f k22)
noncomputable def md_X3_cellAt_100 (p1 : Int) (h0 : Ob) (f : Nat) (k22 : (Int × Int) → Option Rt) : Int × Int × Int → Option Rt := mg_X3_cellAt_100 p1 h0 (md_X3_cellAt_115 p1 h0 f k22)
theorem eq_X3_cellAt_100 (p1 : Int) (h0 : Ob) (f : Nat) (k22 : XK) (a : Int × Int × Int) : rw_X3_cellAt_100 f k22 (en_X3_cellAt_100 p1 h0 a) = md_X3_cellAt_100 p1 h0 f (fun b => k22 (en_X3_cellAt_22 p1 h0 b)) a :=
 (rq_X3_cellAt_100 p1 h0 (rw_X3_cellAt_115 f k22) a).trans (congrFun (congr (rfl : mg_X3_cellAt_100 p1 h0 = mg_X3_cellAt_100 p1 h0) (funext (eq_X3_cellAt_115 p1 h0 f k22))) a)
theorem sd_X3_cellAt_100 (f : Nat) {X : XDyn} {r0 : Rt} (C : XO X mX3_cellAt) {k22 : XK} (q22 : XS X mX3_cellAt r0 22 k22) : XS X mX3_cellAt r0 100 (rw_X3_cellAt_100 f k22) := sg_X3_cellAt_100 C (sd_X3_cellAt_115 f C q22)
noncomputable def rw_X3_cellAt_50 (f : Nat) (k22 : XK) : XK := rg_X3_cellAt_50 (rw_X3_cellAt_100 f k22)
noncomputable def md_X3_cellAt_50 (p1 : Int) (h0 : Ob) (f : Nat) (k22 : (Int × Int) → Option Rt) : Int × Int × Int → Option Rt := mg_X3_cellAt_50 p1 h0 (md_X3_cellAt_100 p1 h0 f k22)
theorem eq_X3_cellAt_50 (p1 : Int) (h0 : Ob) (f : Nat) (k22 : XK) (a : Int × Int × Int) : rw_X3_cellAt_50 f k22 (en_X3_cellAt_50 p1 h0 a) = md_X3_cellAt_50 p1 h0 f (fun b => k22 (en_X3_cellAt_22 p1 h0 b)) a :=
 (rq_X3_cellAt_50 p1 h0 (rw_X3_cellAt_100 f k22) a).trans (congrFun (congr (rfl : mg_X3_cellAt_50 p1 h0 = mg_X3_cellAt_50 p1 h0) (funext (eq_X3_cellAt_100 p1 h0 f k22))) a)
theorem sd_X3_cellAt_50 (f : Nat) {X : XDyn} {r0 : Rt} (C : XO X mX3_cellAt) {k22 : XK} (q22 : XS X mX3_cellAt r0 22 k22) : XS X mX3_cellAt r0 50 (rw_X3_cellAt_50 f k22) := sg_X3_cellAt_50 C (sd_X3_cellAt_100 f C q22)
noncomputable def rw_X3_cellAt_22 (f : Nat) : XK := tlp (fun k22 => rg_X3_cellAt_22 (rw_X3_cellAt_50 f k22)) f
noncomputable def lb_X3_cellAt_22 (p1 : Int) (h0 : Ob) (f : Nat) : ((Int × Int) → Option Rt) → Int × Int → Option Rt := fun k22 => mg_X3_cellAt_22 p1 h0 (md_X3_cellAt_50 p1 h0 f k22)
noncomputable def md_X3_cellAt_22 (p1 : Int) (h0 : Ob) (f : Nat) : Int × Int → Option Rt := tlp (lb_X3_cellAt_22 p1 h0 f) f
theorem eq_X3_cellAt_22 (p1 : Int) (h0 : Ob) (f : Nat) (a : Int × Int) : rw_X3_cellAt_22 f (en_X3_cellAt_22 p1 h0 a) = md_X3_cellAt_22 p1 h0 f a :=
 tlp_enc (en_X3_cellAt_22 p1 h0) (fun k22 a => (rq_X3_cellAt_22 p1 h0 (rw_X3_cellAt_50 f k22) a).trans (congrFun (congr (rfl : mg_X3_cellAt_22 p1 h0 = mg_X3_cellAt_22 p1 h0) (funext (eq_X3_cellAt_50 p1 h0 f k22))) a)) f a
theorem sd_X3_cellAt_22 (f : Nat) {X : XDyn} {r0 : Rt} (C : XO X mX3_cellAt) : XS X mX3_cellAt r0 22 (rw_X3_cellAt_22 f) := s_lp (fun k22 q22 => sg_X3_cellAt_22 C (sd_X3_cellAt_50 f C q22)) f
noncomputable def rw_X3_cellAt_19 (f : Nat) : XK := rg_X3_cellAt_19 (rw_X3_cellAt_22 f)
noncomputable def md_X3_cellAt_19 (p1 : Int) (h0 : Ob) (f : Nat) : Int → Option Rt := mg_X3_cellAt_19 p1 h0 (md_X3_cellAt_22 p1 h0 f)
theorem eq_X3_cellAt_19 (p1 : Int) (h0 : Ob) (f : Nat) (a : Int) : rw_X3_cellAt_19 f (en_X3_cellAt_19 p1 h0 a) = md_X3_cellAt_19 p1 h0 f a :=
 (rq_X3_cellAt_19 p1 h0 (rw_X3_cellAt_22 f) a).trans (congrFun (congr (rfl : mg_X3_cellAt_19 p1 h0 = mg_X3_cellAt_19 p1 h0) (funext (eq_X3_cellAt_22 p1 h0 f))) a)
theorem sd_X3_cellAt_19 (f : Nat) {X : XDyn} {r0 : Rt} (C : XO X mX3_cellAt) : XS X mX3_cellAt r0 19 (rw_X3_cellAt_19 f) := sg_X3_cellAt_19 C (sd_X3_cellAt_22 f C)
noncomputable def rw_X3_cellAt_0 (f : Nat) : XK := rg_X3_cellAt_0 (rw_X3_cellAt_19 f)
noncomputable def md_X3_cellAt_0 (p1 : Int) (h0 : Ob) (f : Nat) : Unit → Option Rt := mg_X3_cellAt_0 p1 h0 (md_X3_cellAt_19 p1 h0 f)
theorem eq_X3_cellAt_0 (p1 : Int) (h0 : Ob) (f : Nat) (a : Unit) : rw_X3_cellAt_0 f (en_X3_cellAt_0 p1 h0 a) = md_X3_cellAt_0 p1 h0 f a :=
 (rq_X3_cellAt_0 p1 h0 (rw_X3_cellAt_19 f) a).trans (congrFun (congr (rfl : mg_X3_cellAt_0 p1 h0 = mg_X3_cellAt_0 p1 h0) (funext (eq_X3_cellAt_19 p1 h0 f))) a)
theorem sd_X3_cellAt_0 (f : Nat) {X : XDyn} {r0 : Rt} (C : XO X mX3_cellAt) : XS X mX3_cellAt r0 0 (rw_X3_cellAt_0 f) := sg_X3_cellAt_0 C (sd_X3_cellAt_19 f C)
theorem ctr_X3_cellAt (f : Nat) : XCt yX3_cellAt mX3_cellAt (xF mX3_cellAt (rw_X3_cellAt_0 f)) := xMet (by decide +kernel) rfl (fun _ _ C => sd_X3_cellAt_0 f C)
theorem eqf_X3_cellAt (f : Nat) (p1 : Int) (h0 : Ob) : xF mX3_cellAt (rw_X3_cellAt_0 f) [.inr (.inl (0, 0)), .inl p1] [h0] = md_X3_cellAt_0 p1 h0 f () := eq_X3_cellAt_0 p1 h0 f ()
theorem yi_X3_cellAt : yX3_cellAt.cls = RX3 ∧ yX3_cellAt.cls ≠ "java/lang/invoke/MethodHandle" ∧ yX3_cellAt.cls ≠ "java/lang/invoke/VarHandle" ∧ (parseMethodDescriptor yX3_cellAt.desc).map (fun d => d.parameters.length) = some 1 := ⟨rfl, by decide +kernel, by decide +kernel, by decide +kernel⟩
theorem sp_X3_cellAt (f : Nat) (hf : 1000 ≤ f) (p1 : Int) (h0 : Ob) (hg : pd (LW h0) = true) : md_X3_cellAt_0 p1 h0 f () = RI (celF h0 p1) [h0] := by
  have hL := pd_of hg
  obtain ⟨z1, z2, z3, z4, -⟩ := id hL
  simp only [md_X3_cellAt_0, mg_X3_cellAt_0, md_X3_cellAt_19, mg_X3_cellAt_19, bz_0]
  unfold celF
  by_cases hc : 0 ≤ xw p1 ∧ xw p1 < h0 0 9
  · have hi : isc h0 p1 = true := by unfold isc; rw [hL.xsz]; simp [hc]
    rw [hi, if_pos hc, if_neg (by simp)]
    have key : ∀ (d i f' : Nat) (b : Int) (hb : b = 0 ∨ b = 1), i + d = 11 → d < f' → tlp (lb_X3_cellAt_22 p1 h0 f) f' (b, (i : Int)) =
        (match (List.range' i d).find? (fun i => !decide (h0 1 i = -1) && decide (h0 1 i ≤ xw p1) && decide (xw p1 ≤ h0 1 i + h0 2 i)) with
        | some i => RI (if xw p1 = h0 1 i then 64 * (h0 2 i + 1) + ownF (i : Int) else conF h0 (i : Int) (p1 - h0 1 i - 1)) [h0]
        | none => RI (if pd (b = 1 ∨ ∃ j, i ≤ j ∧ j < 11 ∧ h0 1 j ≠ -1 ∧ xw p1 = h0 1 j + h0 2 j + 1) then 64 * (nxt h0 p1 (h0 0 9) - p1) else 0) [h0]) := by
      intro d
      induction d with
      | zero =>
        intro i f' b hb hi hf
        cases f' with
        | zero => omega
        | succ f' =>
          have : i = 11 := by omega
          subst this
          rw [tlp_succ]
          simp only [lb_X3_cellAt_22, mg_X3_cellAt_22]
          rw [if_pos (by decide)]
          have hn : ¬ ∃ j, 11 ≤ j ∧ j < 11 ∧ h0 1 j ≠ -1 ∧ xw p1 = h0 1 j + h0 2 j + 1 := fun ⟨j, a, b, _⟩ => by omega
          rcases hb with rfl | rfl
          · rw [if_pos xw0]
            have hq : pd ((0 : Int) = 1 ∨ ∃ j, 11 ≤ j ∧ j < 11 ∧ h0 1 j ≠ -1 ∧ xw p1 = h0 1 j + h0 2 j + 1) = false := pd_f (fun z => z.elim (fun q => by omega) hn)
            simp only [List.range'_zero, List.find?_nil, hq]
            rfl
          · rw [if_neg (by decide)]
            have hq : pd ((1 : Int) = 1 ∨ ∃ j, 11 ≤ j ∧ j < 11 ∧ h0 1 j ≠ -1 ∧ xw p1 = h0 1 j + h0 2 j + 1) = true := pd_t (Or.inl rfl)
            show RI (64 * (nxt h0 p1 (h0 0 9) - p1) + 0) [h0] = RI (if pd ((1 : Int) = 1 ∨ ∃ j, 11 ≤ j ∧ j < 11 ∧ h0 1 j ≠ -1 ∧ xw p1 = h0 1 j + h0 2 j + 1) = true then 64 * (nxt h0 p1 (h0 0 9) - p1) else 0) [h0]
            rw [hq, if_pos rfl, Int.add_zero]
      | succ d ih =>
        intro i f' b hb hi hf
        cases f' with
        | zero => omega
        | succ f' =>
          rw [tlp_succ]
          have hi11 : i < 11 := by omega
          have hz := z4 i hi11
          have hoff : h0 1 i ≠ -1 → xw (p1 - h0 1 i) = xw p1 - h0 1 i := by intro _; simp only [xw_def] at *; omega
          have hs : xw (h0 2 i) = h0 2 i := xw_id (by omega) (by omega)
          have hs1 : xw (h0 2 i + 1) = h0 2 i + 1 := xw_id (by omega) (by omega)
          simp only [lb_X3_cellAt_22, mg_X3_cellAt_22, md_X3_cellAt_50, mg_X3_cellAt_50, md_X3_cellAt_100, mg_X3_cellAt_100, md_X3_cellAt_115, mg_X3_cellAt_115, xw_nat (show i < 2147483648 by omega), xin_nat hi11 (show 11 ≤ 2147483648 by omega), toNat_nat, if_true, hL.xpl hi11, hs, hs1, xwm1, List.range'_succ, List.find?_cons]
          rw [if_neg (by omega)]
          have e1 : ((i : Int) + 1) = ((i + 1 : Nat) : Int) := by omega
          have ex : ∀ (P : Prop), (h0 1 i = -1 ∨ xw p1 ≠ h0 1 i + h0 2 i + 1) → ((P ∨ ∃ j, i ≤ j ∧ j < 11 ∧ h0 1 j ≠ -1 ∧ xw p1 = h0 1 j + h0 2 j + 1) ↔ (P ∨ ∃ j, i + 1 ≤ j ∧ j < 11 ∧ h0 1 j ≠ -1 ∧ xw p1 = h0 1 j + h0 2 j + 1)) := by
            intro P hP
            constructor
            · rintro (h | ⟨j, a1, a2, a3, a4⟩)
              · exact Or.inl h
              · by_cases hji : j = i
                · subst hji
                  rcases hP with h | h
                  · exact absurd h a3
                  · exact absurd a4 h
                · exact Or.inr ⟨j, by omega, a2, a3, a4⟩
            · rintro (h | ⟨j, a1, a2, a3, a4⟩)
              · exact Or.inl h
              · exact Or.inr ⟨j, by omega, a2, a3, a4⟩
          by_cases hp : h0 1 i = -1
          · rw [if_pos hp, if_neg (by omega), if_pos (by omega), if_neg (by omega), e1]
            simp only [hp, decide_true, Bool.not_true, Bool.false_and]
            rw [ih (i + 1) f' b hb (by omega) (by omega)]
            simp only [ex (b = 1) (Or.inl hp)]
          · rw [if_neg hp]
            have ho := hoff hp
            simp only [ho]
            by_cases o1 : xw p1 - h0 1 i = 0
            · rw [if_pos o1]
              have t1 : decide (h0 1 i ≤ xw p1) = true := decide_eq_true (by omega)
              have t2 : decide (xw p1 ≤ h0 1 i + h0 2 i) = true := decide_eq_true (by omega)
              simp only [hp, decide_false, Bool.not_false, t1, t2, Bool.and_self]
              rw [if_pos (by omega)]
            · rw [if_neg o1]
              by_cases o2 : xw p1 - h0 1 i ≤ 0
              · rw [if_pos o2, if_neg (by omega), e1]
                have t1 : decide (h0 1 i ≤ xw p1) = false := decide_eq_false (by omega)
                simp only [hp, decide_false, Bool.not_false, t1, Bool.and_false, Bool.false_and]
                rw [ih (i + 1) f' b hb (by omega) (by omega)]
                simp only [ex (b = 1) (Or.inr (by omega))]
              · rw [if_neg o2]
                by_cases o3 : xw p1 - h0 1 i > h0 2 i
                · rw [if_pos o3]
                  have t2 : decide (xw p1 ≤ h0 1 i + h0 2 i) = false := decide_eq_false (by omega)
                  simp only [t2, Bool.and_false]
                  by_cases o4 : xw p1 - h0 1 i = h0 2 i + 1
                  · rw [if_pos o4, e1, ih (i + 1) f' 1 (Or.inr rfl) (by omega) (by omega)]
                    have hE : ∃ j, i ≤ j ∧ j < 11 ∧ h0 1 j ≠ -1 ∧ xw p1 = h0 1 j + h0 2 j + 1 := ⟨i, Nat.le_refl _, hi11, hp, by omega⟩
                    rw [pd_t (Or.inl rfl), pd_t (Or.inr hE)]
                  · rw [if_neg o4, e1, ih (i + 1) f' b hb (by omega) (by omega)]
                    simp only [ex (b = 1) (Or.inr (by omega))]
                · rw [if_neg o3]
                  have t1 : decide (h0 1 i ≤ xw p1) = true := decide_eq_true (by omega)
                  have t2 : decide (xw p1 ≤ h0 1 i + h0 2 i) = true := decide_eq_true (by omega)
                  simp only [hp, decide_false, Bool.not_false, t1, t2, Bool.and_self]
                  rw [if_neg (by omega)]
    have fin : ∀ b : Int, (b = 0 ∨ b = 1) → (b = 1 ↔ xw p1 = 0) → md_X3_cellAt_22 p1 h0 f (b, 0) = _ := fun b hb hb2 => key 11 0 f b hb (by omega) (by omega)
    have rg : List.range 11 = List.range' 0 11 := List.range_eq_range' ..
    have ee : (∃ j, 0 ≤ j ∧ j < 11 ∧ h0 1 j ≠ -1 ∧ xw p1 = h0 1 j + h0 2 j + 1) ↔ ∃ i, i < 11 ∧ h0 1 i ≠ -1 ∧ xw p1 = h0 1 i + h0 2 i + 1 := ⟨fun ⟨j, _, a⟩ => ⟨j, a⟩, fun ⟨j, a⟩ => ⟨j, Nat.zero_le _, a⟩⟩
    rw [rg]
    by_cases h0z : xw p1 = 0
    · rw [if_pos h0z, fin 1 (Or.inr rfl) (by simp [h0z])]
      cases (List.range' 0 11).find? (fun i => !decide (h0 1 i = -1) && decide (h0 1 i ≤ xw p1) && decide (xw p1 ≤ h0 1 i + h0 2 i)) with
      | some i => rfl
      | none =>
        dsimp only
        rw [pd_t (Or.inl rfl), pd_t (Or.inl h0z)]
    · rw [if_neg h0z, fin 0 (Or.inl rfl) (by simp [h0z])]
      cases (List.range' 0 11).find? (fun i => !decide (h0 1 i = -1) && decide (h0 1 i ≤ xw p1) && decide (xw p1 ≤ h0 1 i + h0 2 i)) with
      | some i => rfl
      | none =>
        dsimp only
        simp only [h0z, false_or, ee, show ¬ (0 : Int) = 1 by omega]
  · have hi : isc h0 p1 = false := by unfold isc; rw [hL.xsz]; simp only [Bool.and_eq_false_iff, decide_eq_false_iff_not]; omega
    rw [hi, if_neg hc, if_pos rfl]
noncomputable def g_X3_cellAt : List AV → List Ob → Bool
  | [.inr (.inl (0, 0)), .inl p1], [h0] => pd (LW h0)
  | _, _ => false
noncomputable def v_X3_cellAt : List AV → List Ob → Rt
  | [.inr (.inl (0, 0)), .inl p1], [h0] => (some (.inl (celF h0 p1)), [h0])
  | _, _ => (none, [])
theorem ct_X3_cellAt : XCt yX3_cellAt mX3_cellAt (fun as μ => if g_X3_cellAt as μ then some (v_X3_cellAt as μ) else none) := (ctr_X3_cellAt xfu).of (fun as μ r h => by
  split at h
  · rename_i hg
    unfold g_X3_cellAt at hg
    split at hg
    · rw [← h]
      exact (eqf_X3_cellAt xfu _ _).trans (sp_X3_cellAt xfu (xfu_ge (by decide)) _ _ hg)
    · cases hg
  · cases h)
