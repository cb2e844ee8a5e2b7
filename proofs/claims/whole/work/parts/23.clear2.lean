theorem dX1_highest_0 : decode cX1_highest 0 = .ok (.aload_n 1, 1) := by decide +kernel
theorem dX1_highest_1 : decode cX1_highest 1 = .ok (.iload_n 2, 1) := by decide +kernel
theorem dX1_highest_2 : decode cX1_highest 2 = .ok (.invokevirtual 69, 3) := by decide +kernel
theorem dX1_highest_5 : decode cX1_highest 5 = .ok (.ifCond .ne 5, 3) := by decide +kernel
theorem dX1_highest_8 : decode cX1_highest 8 = .ok (.iconst (-1), 1) := by decide +kernel
theorem dX1_highest_9 : decode cX1_highest 9 = .ok (.ireturn, 1) := by decide +kernel
theorem dX1_highest_10 : decode cX1_highest 10 = .ok (.aload_n 1, 1) := by decide +kernel
theorem dX1_highest_11 : decode cX1_highest 11 = .ok (.getfield 72, 3) := by decide +kernel
theorem dX1_highest_14 : decode cX1_highest 14 = .ok (.iload_n 2, 1) := by decide +kernel
theorem dX1_highest_15 : decode cX1_highest 15 = .ok (.iaload, 1) := by decide +kernel
theorem dX1_highest_16 : decode cX1_highest 16 = .ok (.iconst 1, 1) := by decide +kernel
theorem dX1_highest_17 : decode cX1_highest 17 = .ok (.iadd, 1) := by decide +kernel
theorem dX1_highest_18 : decode cX1_highest 18 = .ok (.istore 5, 2) := by decide +kernel
theorem dX1_highest_20 : decode cX1_highest 20 = .ok (.aload_n 0, 1) := by decide +kernel
theorem dX1_highest_21 : decode cX1_highest 21 = .ok (.getfield 12, 3) := by decide +kernel
theorem dX1_highest_24 : decode cX1_highest 24 = .ok (.aload_n 1, 1) := by decide +kernel
theorem dX1_highest_25 : decode cX1_highest 25 = .ok (.iconst 1, 1) := by decide +kernel
theorem dX1_highest_26 : decode cX1_highest 26 = .ok (.iload_n 2, 1) := by decide +kernel
theorem dX1_highest_27 : decode cX1_highest 27 = .ok (.ishl, 1) := by decide +kernel
theorem dX1_highest_28 : decode cX1_highest 28 = .ok (.aload_n 1, 1) := by decide +kernel
theorem dX1_highest_29 : decode cX1_highest 29 = .ok (.getfield 33, 3) := by decide +kernel
theorem dX1_highest_32 : decode cX1_highest 32 = .ok (.invokevirtual 75, 3) := by decide +kernel
theorem dX1_highest_35 : decode cX1_highest 35 = .ok (.aload_n 0, 1) := by decide +kernel
theorem dX1_highest_36 : decode cX1_highest 36 = .ok (.getfield 12, 3) := by decide +kernel
theorem dX1_highest_39 : decode cX1_highest 39 = .ok (.getfield 79, 3) := by decide +kernel
theorem dX1_highest_42 : decode cX1_highest 42 = .ok (.iconst 1, 1) := by decide +kernel
theorem dX1_highest_43 : decode cX1_highest 43 = .ok (.isub, 1) := by decide +kernel
theorem dX1_highest_44 : decode cX1_highest 44 = .ok (.istore 6, 2) := by decide +kernel
theorem dX1_highest_46 : decode cX1_highest 46 = .ok (.iload 6, 2) := by decide +kernel
theorem dX1_highest_48 : decode cX1_highest 48 = .ok (.ifCond .lt 83, 3) := by decide +kernel
theorem dX1_highest_51 : decode cX1_highest 51 = .ok (.aload_n 0, 1) := by decide +kernel
theorem dX1_highest_52 : decode cX1_highest 52 = .ok (.getfield 12, 3) := by decide +kernel
theorem dX1_highest_55 : decode cX1_highest 55 = .ok (.getfield 82, 3) := by decide +kernel
theorem dX1_highest_58 : decode cX1_highest 58 = .ok (.iload 6, 2) := by decide +kernel
theorem dX1_highest_60 : decode cX1_highest 60 = .ok (.iaload, 1) := by decide +kernel
theorem dX1_highest_61 : decode cX1_highest 61 = .ok (.istore 7, 2) := by decide +kernel
theorem dX1_highest_63 : decode cX1_highest 63 = .ok (.iload 7, 2) := by decide +kernel
theorem dX1_highest_65 : decode cX1_highest 65 = .ok (.aload_n 0, 1) := by decide +kernel
theorem dX1_highest_66 : decode cX1_highest 66 = .ok (.getfield 12, 3) := by decide +kernel
theorem dX1_highest_69 : decode cX1_highest 69 = .ok (.getfield 85, 3) := by decide +kernel
theorem dX1_highest_72 : decode cX1_highest 72 = .ok (.iload 6, 2) := by decide +kernel
theorem dX1_highest_74 : decode cX1_highest 74 = .ok (.iaload, 1) := by decide +kernel
theorem dX1_highest_75 : decode cX1_highest 75 = .ok (.iadd, 1) := by decide +kernel
theorem dX1_highest_76 : decode cX1_highest 76 = .ok (.istore 8, 2) := by decide +kernel
theorem dX1_highest_78 : decode cX1_highest 78 = .ok (.iload 8, 2) := by decide +kernel
theorem dX1_highest_80 : decode cX1_highest 80 = .ok (.iload 7, 2) := by decide +kernel
theorem dX1_highest_82 : decode cX1_highest 82 = .ok (.iload_n 3, 1) := by decide +kernel
theorem dX1_highest_83 : decode cX1_highest 83 = .ok (.iload 4, 2) := by decide +kernel
theorem dX1_highest_85 : decode cX1_highest 85 = .ok (.iadd, 1) := by decide +kernel
theorem dX1_highest_86 : decode cX1_highest 86 = .ok (.invokestatic 48, 3) := by decide +kernel
theorem dX1_highest_89 : decode cX1_highest 89 = .ok (.isub, 1) := by decide +kernel
theorem dX1_highest_90 : decode cX1_highest 90 = .ok (.iload 5, 2) := by decide +kernel
theorem dX1_highest_92 : decode cX1_highest 92 = .ok (.if_icmp .lt 9, 3) := by decide +kernel
theorem dX1_highest_95 : decode cX1_highest 95 = .ok (.iload 8, 2) := by decide +kernel
theorem dX1_highest_97 : decode cX1_highest 97 = .ok (.iload 5, 2) := by decide +kernel
theorem dX1_highest_99 : decode cX1_highest 99 = .ok (.isub, 1) := by decide +kernel
theorem dX1_highest_100 : decode cX1_highest 100 = .ok (.ireturn, 1) := by decide +kernel
theorem dX1_highest_101 : decode cX1_highest 101 = .ok (.iload 8, 2) := by decide +kernel
theorem dX1_highest_103 : decode cX1_highest 103 = .ok (.iload_n 3, 1) := by decide +kernel
theorem dX1_highest_104 : decode cX1_highest 104 = .ok (.invokestatic 88, 3) := by decide +kernel
theorem dX1_highest_107 : decode cX1_highest 107 = .ok (.istore 9, 2) := by decide +kernel
theorem dX1_highest_109 : decode cX1_highest 109 = .ok (.iload 9, 2) := by decide +kernel
theorem dX1_highest_111 : decode cX1_highest 111 = .ok (.iload 7, 2) := by decide +kernel
theorem dX1_highest_113 : decode cX1_highest 113 = .ok (.isub, 1) := by decide +kernel
theorem dX1_highest_114 : decode cX1_highest 114 = .ok (.iload 5, 2) := by decide +kernel
theorem dX1_highest_116 : decode cX1_highest 116 = .ok (.if_icmp .lt 9, 3) := by decide +kernel
theorem dX1_highest_119 : decode cX1_highest 119 = .ok (.iload 9, 2) := by decide +kernel
theorem dX1_highest_121 : decode cX1_highest 121 = .ok (.iload 5, 2) := by decide +kernel
theorem dX1_highest_123 : decode cX1_highest 123 = .ok (.isub, 1) := by decide +kernel
theorem dX1_highest_124 : decode cX1_highest 124 = .ok (.ireturn, 1) := by decide +kernel
theorem dX1_highest_125 : decode cX1_highest 125 = .ok (.iinc 6 (-1), 3) := by decide +kernel
theorem dX1_highest_128 : decode cX1_highest 128 = .ok (.goto (-82), 3) := by decide +kernel
theorem dX1_highest_131 : decode cX1_highest 131 = .ok (.iconst (-1), 1) := by decide +kernel
theorem dX1_highest_132 : decode cX1_highest 132 = .ok (.ireturn, 1) := by decide +kernel
abbrev mX1_highest : XM := (cX1_highest, 10, RX1, (some .int), shw_1_6_3, 2)
noncomputable def rg_X1_highest_0 (k46 : XK) : XK :=
 o_aload 1 <|
 o_iload 2 <|
 o_callV 2 1 [2] f_X3_isFull <|
 o_if_ne (o_aload 1 <|
 o_get shw_1_6_3 3 1 <|
 o_iload 2 <|
 o_iald shw_1_6_3 <|
 o_iconst 1 <|
 o_iadd <|
 o_istore 5 <|
 o_aload 0 <|
 o_get shw_1_6_3 1 0 <|
 o_aload 1 <|
 o_iconst 1 <|
 o_iload 2 <|
 o_ishl <|
 o_aload 1 <|
 o_get shw_1_6_3 3 9 <|
 o_callVg 4 0 [1, 2] g_X6_read v_X6_read <|
 o_aload 0 <|
 o_get shw_1_6_3 1 0 <|
 o_get shw_1_6_3 6 2 <|
 o_iconst 1 <|
 o_isub <|
 o_istore 6 <|
 o_cut [1] k46)
 (o_iconst (-1) <|
 o_ireturn)
def en_X1_highest_0 (p2 : Int) (p3 : Int) (p4 : Int) (h0 : Ob) (h2 : Ob) (a : Ob) : XSt := ([some (.inr (.inl (0, 0))), some (.inr (.inl (2, 0))), some (.inl p2), some (.inl p3), some (.inl p4), none, none, none, none, none], [], [h0, a, h2])
noncomputable def rg_X1_highest_46 (k46 : XK) : XK :=
 o_iload 6 <|
 o_if_lt (o_iconst (-1) <|
 o_ireturn)
 (o_aload 0 <|
 o_get shw_1_6_3 1 0 <|
 o_get shw_1_6_3 6 0 <|
 o_iload 6 <|
 o_iald shw_1_6_3 <|
 o_istore 7 <|
 o_iload 7 <|
 o_aload 0 <|
 o_get shw_1_6_3 1 0 <|
 o_get shw_1_6_3 6 1 <|
 o_iload 6 <|
 o_iald shw_1_6_3 <|
 o_iadd <|
 o_istore 8 <|
 o_iload 8 <|
 o_iload 7 <|
 o_iload 3 <|
 o_iload 4 <|
 o_iadd <|
 o_max <|
 o_isub <|
 o_iload 5 <|
 o_icmp_lt (o_iload 8 <|
 o_iload 3 <|
 o_min <|
 o_istore 9 <|
 o_iload 9 <|
 o_iload 7 <|
 o_isub <|
 o_iload 5 <|
 o_icmp_lt (o_iinc 6 (-1) <|
 o_cut [7, 8, 9] k46)
 (o_iload 9 <|
 o_iload 5 <|
 o_isub <|
 o_ireturn))
 (o_iload 8 <|
 o_iload 5 <|
 o_isub <|
 o_ireturn))
def en_X1_highest_46 (p2 : Int) (p3 : Int) (p4 : Int) (h0 : Ob) (h2 : Ob) (a : Int × Int × Ob) : XSt := ([some (.inr (.inl (0, 0))), none, some (.inl p2), some (.inl p3), some (.inl p4), some (.inl a.1), some (.inl a.2.1), none, none, none], [], [h0, a.2.2, h2])
noncomputable def mg_X1_highest_0 (p2 : Int) (p3 : Int) (p4 : Int) (h0 : Ob) (h2 : Ob) (k46 : (Int × Int × Ob) → Option Rt) (a : Ob) : Option Rt :=
 if xw (bz (ful h2 p2)) = 0 then (RI (-1) [h0, a, h2])
 else (if xin p2 11 then (
 if pd (RdG h2 (h2 0 9)) then (
 k46 (((h2 2 (xw p2).toNat) + 1), (((rdO a (rnl h2 (xshl 1 p2) (h2 0 9))) 0 2) - 1), (rdO a (rnl h2 (xshl 1 p2) (h2 0 9))))) else none) else none)
set_option maxRecDepth 100000 in
set_option maxHeartbeats 4000000 in
theorem rq_X1_highest_0 (p2 : Int) (p3 : Int) (p4 : Int) (h0 : Ob) (h2 : Ob) (k46 : XK) (a : Ob) : rg_X1_highest_0 k46 (en_X1_highest_0 p2 p3 p4 h0 h2 a) = mg_X1_highest_0 p2 p3 p4 h0 h2 (fun b => k46 (en_X1_highest_46 p2 p3 p4 h0 h2 b)) a := rfl
set_option maxRecDepth 100000 in
set_option maxHeartbeats 4000000 in
theorem sg_X1_highest_0 {X : XDyn} {r0 : Rt} (C : XO X mX1_highest) {k46 : XK} (q46 : XS X mX1_highest r0 46 k46) : XS X mX1_highest r0 0 (rg_X1_highest_0 k46) := by
 unfold rg_X1_highest_0
 exact s_aload_n (pc := 0) C dX1_highest_0 rfl <|
    s_iload_n (pc := 1) C dX1_highest_1 rfl <|
    s_callV (pc := 2) C ct_X3_isFull (n := 2) (rk := 1) (mp := [2]) ⟨rfl, by decide, rfl⟩ (ci := 3) rfl rfl (by decide) (by decide) yi_X3_isFull (by decide) wd_606 wd_556 wd_557 wd_74 wd_558 dX1_highest_2 <|
    s_if_ne (pc := 5) C dX1_highest_5 (by decide) (s_aload_n (pc := 10) C dX1_highest_10 rfl <|
    s_get (pc := 11) C (ci := 3) (kf := 1) rfl inX3 (by decide) wd_109 dX1_highest_11 <|
    s_iload_n (pc := 14) C dX1_highest_14 rfl <|
    s_iald (pc := 15) C dX1_highest_15 <|
    s_iconst (pc := 16) C dX1_highest_16 <|
    s_iadd (pc := 17) C dX1_highest_17 <|
    s_istore (pc := 18) C dX1_highest_18 <|
    s_aload_n (pc := 20) C dX1_highest_20 rfl <|
    s_get (pc := 21) C (ci := 1) (kf := 0) rfl inX1 (by decide) wd_301 dX1_highest_21 <|
    s_aload_n (pc := 24) C dX1_highest_24 rfl <|
    s_iconst (pc := 25) C dX1_highest_25 <|
    s_iload_n (pc := 26) C dX1_highest_26 rfl <|
    s_ishl (pc := 27) C dX1_highest_27 <|
    s_aload_n (pc := 28) C dX1_highest_28 rfl <|
    s_get (pc := 29) C (ci := 3) (kf := 9) rfl inX3 (by decide) wd_126 dX1_highest_29 <|
    s_callVg (pc := 32) C ct_X6_read (n := 4) (rk := 0) (mp := [1, 2]) ⟨rfl, by decide, rfl⟩ (ci := 6) rfl rfl (by decide) (by decide) yi_X6_read (by decide) wd_607 wd_432 wd_433 wd_76 wd_434 dX1_highest_32 <|
    s_aload_n (pc := 35) C dX1_highest_35 rfl <|
    s_get (pc := 36) C (ci := 1) (kf := 0) rfl inX1 (by decide) wd_301 dX1_highest_36 <|
    s_get (pc := 39) C (ci := 6) (kf := 2) rfl inX6 (by decide) wd_205 dX1_highest_39 <|
    s_iconst (pc := 42) C dX1_highest_42 <|
    s_isub (pc := 43) C dX1_highest_43 <|
    s_istore (pc := 44) C dX1_highest_44 <|
    s_cut q46)
    (s_iconst (pc := 8) C dX1_highest_8 <|
    s_ireturn (pc := 9) C rfl dX1_highest_9)
noncomputable def mg_X1_highest_46 (p2 : Int) (p3 : Int) (p4 : Int) (h0 : Ob) (h2 : Ob) (k46 : (Int × Int × Ob) → Option Rt) (a : Int × Int × Ob) : Option Rt :=
 if xw a.2.1 < 0 then (RI (-1) [h0, a.2.2, h2])
 else (if xin a.2.1 12 then (
 if xin a.2.1 12 then (
 if xw (((a.2.2 1 (xw a.2.1).toNat) + (a.2.2 2 (xw a.2.1).toNat)) - (xmax (a.2.2 1 (xw a.2.1).toNat) (p3 + p4))) < xw a.1 then (if xw ((xmin ((a.2.2 1 (xw a.2.1).toNat) + (a.2.2 2 (xw a.2.1).toNat)) p3) - (a.2.2 1 (xw a.2.1).toNat)) < xw a.1 then (k46 (a.1, (a.2.1 + (-1)), a.2.2))
 else (RI ((xmin ((a.2.2 1 (xw a.2.1).toNat) + (a.2.2 2 (xw a.2.1).toNat)) p3) - a.1) [h0, a.2.2, h2]))
 else (RI (((a.2.2 1 (xw a.2.1).toNat) + (a.2.2 2 (xw a.2.1).toNat)) - a.1) [h0, a.2.2, h2])) else none) else none)
set_option maxRecDepth 100000 in
set_option maxHeartbeats 4000000 in
theorem rq_X1_highest_46 (p2 : Int) (p3 : Int) (p4 : Int) (h0 : Ob) (h2 : Ob) (k46 : XK) (a : Int × Int × Ob) : rg_X1_highest_46 k46 (en_X1_highest_46 p2 p3 p4 h0 h2 a) = mg_X1_highest_46 p2 p3 p4 h0 h2 (fun b => k46 (en_X1_highest_46 p2 p3 p4 h0 h2 b)) a := rfl
set_option maxRecDepth 100000 in
set_option maxHeartbeats 4000000 in
theorem sg_X1_highest_46 {X : XDyn} {r0 : Rt} (C : XO X mX1_highest) {k46 : XK} (q46 : XS X mX1_highest r0 46 k46) : XS X mX1_highest r0 46 (rg_X1_highest_46 k46) := by
 unfold rg_X1_highest_46
 exact s_iload (pc := 46) C dX1_highest_46 <|
    s_if_lt (pc := 48) C dX1_highest_48 (by decide) (s_iconst (pc := 131) C dX1_highest_131 <|
    s_ireturn (pc := 132) C rfl dX1_highest_132)
    (s_aload_n (pc := 51) C dX1_highest_51 rfl <|
    s_get (pc := 52) C (ci := 1) (kf := 0) rfl inX1 (by decide) wd_301 dX1_highest_52 <|
    s_get (pc := 55) C (ci := 6) (kf := 0) rfl inX6 (by decide) wd_199 dX1_highest_55 <|
    s_iload (pc := 58) C dX1_highest_58 <|
    s_iald (pc := 60) C dX1_highest_60 <|
    s_istore (pc := 61) C dX1_highest_61 <|
    s_iload (pc := 63) C dX1_highest_63 <|
    s_aload_n (pc := 65) C dX1_highest_65 rfl <|
    s_get (pc := 66) C (ci := 1) (kf := 0) rfl inX1 (by decide) wd_301 dX1_highest_66 <|
    s_get (pc := 69) C (ci := 6) (kf := 1) rfl inX6 (by decide) wd_202 dX1_highest_69 <|
    s_iload (pc := 72) C dX1_highest_72 <|
    s_iald (pc := 74) C dX1_highest_74 <|
    s_iadd (pc := 75) C dX1_highest_75 <|
    s_istore (pc := 76) C dX1_highest_76 <|
    s_iload (pc := 78) C dX1_highest_78 <|
    s_iload (pc := 80) C dX1_highest_80 <|
    s_iload_n (pc := 82) C dX1_highest_82 rfl <|
    s_iload (pc := 83) C dX1_highest_83 <|
    s_iadd (pc := 85) C dX1_highest_85 <|
    s_max (pc := 86) C (by decide) wd_608 wd_402 wd_82 wd_403 dX1_highest_86 <|
    s_isub (pc := 89) C dX1_highest_89 <|
    s_iload (pc := 90) C dX1_highest_90 <|
    s_icmp_lt (pc := 92) C dX1_highest_92 (by decide) (s_iload (pc := 101) C dX1_highest_101 <|
    s_iload_n (pc := 103) C dX1_highest_103 rfl <|
    s_min (pc := 104) C (by decide) wd_609 wd_421 wd_82 wd_422 dX1_highest_104 <|
    s_istore (pc := 107) C dX1_highest_107 <|
    s_iload (pc := 109) C dX1_highest_109 <|
    s_iload (pc := 111) C dX1_highest_111 <|
    s_isub (pc := 113) C dX1_highest_113 <|
    s_iload (pc := 114) C dX1_highest_114 <|
    s_icmp_lt (pc := 116) C dX1_highest_116 (by decide) (s_iinc (pc := 125) C dX1_highest_125 <|
    s_goto (pc := 128) C dX1_highest_128 (by decide) <|
    s_cut q46)
    (s_iload (pc := 119) C dX1_highest_119 <|
    s_iload (pc := 121) C dX1_highest_121 <|
    s_isub (pc := 123) C dX1_highest_123 <|
    s_ireturn (pc := 124) C rfl dX1_highest_124))
    (s_iload (pc := 95) C dX1_highest_95 <|
    s_iload (pc := 97) C dX1_highest_97 <|
    s_isub (pc := 99) C dX1_highest_99 <|
    s_ireturn (pc := 100) C rfl dX1_highest_100))
noncomputable def rw_X1_highest_46 (f : Nat) : XK := tlp (fun k46 => rg_X1_highest_46 k46) f
noncomputable def lb_X1_highest_46 (p2 : Int) (p3 : Int) (p4 : Int) (h0 : Ob) (h2 : Ob) (f : Nat) : ((Int × Int × Ob) → Option Rt) → Int × Int × Ob → Option Rt := fun k46 => mg_X1_highest_46 p2 p3 p4 h0 h2 k46
noncomputable def md_X1_highest_46 (p2 : Int) (p3 : Int) (p4 : Int) (h0 : Ob) (h2 : Ob) (f : Nat) : Int × Int × Ob → Option Rt := tlp (lb_X1_highest_46 p2 p3 p4 h0 h2 f) f
theorem eq_X1_highest_46 (p2 : Int) (p3 : Int) (p4 : Int) (h0 : Ob) (h2 : Ob) (f : Nat) (a : Int × Int × Ob) : rw_X1_highest_46 f (en_X1_highest_46 p2 p3 p4 h0 h2 a) = md_X1_highest_46 p2 p3 p4 h0 h2 f a :=
 tlp_enc (en_X1_highest_46 p2 p3 p4 h0 h2) (fun k46 a => (rq_X1_highest_46 p2 p3 p4 h0 h2 k46 a).trans (congrFun (congr (rfl : mg_X1_highest_46 p2 p3 p4 h0 h2 = mg_X1_highest_46 p2 p3 p4 h0 h2) rfl) a)) f a
theorem sd_X1_highest_46 (f : Nat) {X : XDyn} {r0 : Rt} (C : XO X mX1_highest) : XS X mX1_highest r0 46 (rw_X1_highest_46 f) := s_lp (fun k46 q46 => sg_X1_highest_46 C q46) f
noncomputable def rw_X1_highest_0 (f : Nat) : XK := rg_X1_highest_0 (rw_X1_highest_46 f)
noncomputable def md_X1_highest_0 (p2 : Int) (p3 : Int) (p4 : Int) (h0 : Ob) (h2 : Ob) (f : Nat) : Ob → Option Rt := mg_X1_highest_0 p2 p3 p4 h0 h2 (md_X1_highest_46 p2 p3 p4 h0 h2 f)
theorem eq_X1_highest_0 (p2 : Int) (p3 : Int) (p4 : Int) (h0 : Ob) (h2 : Ob) (f : Nat) (a : Ob) : rw_X1_highest_0 f (en_X1_highest_0 p2 p3 p4 h0 h2 a) = md_X1_highest_0 p2 p3 p4 h0 h2 f a :=
 (rq_X1_highest_0 p2 p3 p4 h0 h2 (rw_X1_highest_46 f) a).trans (congrFun (congr (rfl : mg_X1_highest_0 p2 p3 p4 h0 h2 = mg_X1_highest_0 p2 p3 p4 h0 h2) (funext (eq_X1_highest_46 p2 p3 p4 h0 h2 f))) a)
theorem sd_X1_highest_0 (f : Nat) {X : XDyn} {r0 : Rt} (C : XO X mX1_highest) : XS X mX1_highest r0 0 (rw_X1_highest_0 f) := sg_X1_highest_0 C (sd_X1_highest_46 f C)
theorem ctr_X1_highest (f : Nat) : XCt yX1_highest mX1_highest (xF mX1_highest (rw_X1_highest_0 f)) := xMet (by decide +kernel) rfl (fun _ _ C => sd_X1_highest_0 f C)
theorem eqf_X1_highest (f : Nat) (p2 : Int) (p3 : Int) (p4 : Int) (h0 : Ob) (h1 : Ob) (h2 : Ob) : xF mX1_highest (rw_X1_highest_0 f) [.inr (.inl (0, 0)), .inr (.inl (2, 0)), .inl p2, .inl p3, .inl p4] [h0, h1, h2] = md_X1_highest_0 p2 p3 p4 h0 h2 f h1 := eq_X1_highest_0 p2 p3 p4 h0 h2 f h1
theorem yi_X1_highest : yX1_highest.cls = RX1 ∧ yX1_highest.cls ≠ "java/lang/invoke/MethodHandle" ∧ yX1_highest.cls ≠ "java/lang/invoke/VarHandle" ∧ (parseMethodDescriptor yX1_highest.desc).map (fun d => d.parameters.length) = some 4 := ⟨rfl, by decide +kernel, by decide +kernel, by decide +kernel⟩
theorem MR_in {P : Int → Prop} {e x n : Int} (hn : 1 ≤ n) (hxe : x + n ≤ e) (hP : ∀ c, x ≤ c → c < x + n → P c) : ∀ {L : List (Int × Int)} {k : Int}, k ≤ x → MR P e k L → ∃ q ∈ L, q.1 ≤ x ∧ x + n ≤ q.1 + q.2
  | [], k, hk, h => absurd (hP x (Int.le_refl _) (by omega)) (h x hk (by omega))
  | (b, l) :: t, k, hk, h => by
    obtain ⟨a1, a2, a3, a4, a5, a6, a7⟩ := h
    by_cases h1 : x < b
    · exact absurd (hP x (Int.le_refl _) (by omega)) (a4 x hk h1)
    · by_cases h2 : x < b + l
      · refine ⟨(b, l), List.mem_cons_self, by show b ≤ x; omega, ?_⟩
        show x + n ≤ b + l
        by_cases h3 : x + n ≤ b + l
        · exact h3
        · exact absurd (hP (b + l) (by omega) (by omega)) (a6 (by omega))
      · obtain ⟨q, q1, q2⟩ := MR_in hn hxe hP (k := b + l) (by omega) a7
        exact ⟨q, List.mem_cons_of_mem _ q1, q2⟩
theorem MR_mem {P : Int → Prop} {e : Int} : ∀ {L : List (Int × Int)} {k : Int}, MR P e k L → ∀ q ∈ L, k ≤ q.1 ∧ 1 ≤ q.2 ∧ q.1 + q.2 ≤ e ∧ ∀ c, q.1 ≤ c → c < q.1 + q.2 → P c
  | [], _, _, q, hq => absurd hq List.not_mem_nil
  | (b, l) :: t, k, h, q, hq => by
    obtain ⟨a1, a2, a3, a4, a5, a6, a7⟩ := h
    rcases List.mem_cons.mp hq with rfl | hq
    · exact ⟨a1, a2, a3, a5⟩
    · have := MR_mem a7 q hq
      exact ⟨by omega, this.2⟩
theorem MR_sorted {P : Int → Prop} {e : Int} : ∀ {L : List (Int × Int)} {k : Int}, MR P e k L → L.Pairwise (fun q q' => q.1 + q.2 ≤ q'.1)
  | [], _, _ => List.Pairwise.nil
  | (b, l) :: t, k, h => List.pairwise_cons.mpr ⟨fun q hq => (MR_mem h.2.2.2.2.2.2 q hq).1, MR_sorted h.2.2.2.2.2.2⟩
theorem rnl_len {h : Ob} (hL : LW h) {s e : Int} (he1 : h 0 9 ≤ e) (he : e ≤ 200) : (rnl h s e).length ≤ 12 := by
  rw [rnl_e]
  unfold rnlI
  rw [List.length_reverse]
  have hcn : ∀ k : Int, (List.range 11).countP (fun i => !decide (h 1 i = -1) && decide (h 1 i < k)) ≤ 11 := fun k => by
    have := List.countP_le_length (p := fun i => !decide (h 1 i = -1) && decide (h 1 i < k)) (l := List.range 11)
    simpa using this
  have hmono : ∀ k k' : Int, k ≤ k' → (List.range 11).countP (fun i => !decide (h 1 i = -1) && decide (h 1 i < k)) ≤ (List.range 11).countP (fun i => !decide (h 1 i = -1) && decide (h 1 i < k')) := fun k k' hk => List.countP_mono_left (fun i _ hi => by
    simp only [Bool.and_eq_true, decide_eq_true_eq] at hi ⊢
    exact ⟨hi.1, by omega⟩)
  have := wls_fold (S := Bool × List (Int × Int)) hL he1 he (rst h s e) (fun k q => (q.1 = true → q.2 ≠ []) ∧ q.2.length ≤ (List.range 11).countP (fun i => !decide (h 1 i = -1) && decide (h 1 i < k)) + (if q.1 then 1 else 0)) (fun k q hk hke hN hq => ?_) (false, []) ⟨fun z => by simp at z, by simp⟩
  · have h1 := hcn e
    have h2 := this.2
    split at h2 <;> omega
  · obtain ⟨go, Q⟩ := q
    obtain ⟨i1, i2⟩ := hq
    dsimp only at i1 i2
    have hlt : k < nxt h k e := by
      have := hL.nxc hk hke he1 he
      omega
    have hm := hmono k (nxt h k e) (by omega)
    cases hop : (decide (hol h k = -1) || inS s (hol h k)) with
    | false =>
      simp only [rst, hop, Bool.false_eq_true, if_false]
      refine ⟨fun z => absurd z (by simp), ?_⟩
      simp only [Bool.or_eq_false_iff, decide_eq_false_iff_not] at hop
      have hcl : (List.range 11).countP (fun i => !decide (h 1 i = -1) && decide (h 1 i < k)) + 1 ≤ (List.range 11).countP (fun i => !decide (h 1 i = -1) && decide (h 1 i < nxt h k e)) := by
        rcases hL.holc (k := k) hk (by omega) with ⟨i, g1, g2, g3⟩ | ⟨g1, g3⟩
        · refine countP_lt _ _ (fun x hx => ?_) (List.range 11) i (List.mem_range.mpr g1) ?_ ?_
          · simp only [Bool.and_eq_true, decide_eq_true_eq] at hx ⊢
            exact ⟨hx.1, by omega⟩
          · simp only [Bool.and_eq_true, Bool.not_eq_true', decide_eq_false_iff_not, decide_eq_true_eq]; omega
          · simp only [Bool.and_eq_false_iff, decide_eq_false_iff_not]; omega
        · exact absurd g3 hop.1
      have : (if go = true then 1 else 0) ≤ 1 := by split <;> omega
      omega
    | true =>
      simp only [rst, hop, if_true]
      cases go with
      | false =>
        simp only [Bool.false_eq_true, if_false] at i2 ⊢
        exact ⟨fun _ => by simp, by simp only [List.length_cons]; omega⟩
      | true =>
        simp only [if_true] at i2 ⊢
        match Q, i1 rfl with
        | (qb, ql) :: t, _ =>
          simp only [List.length_cons] at i2 ⊢
          exact ⟨fun _ => by simp, by omega⟩
theorem rdO_at (r : Ob) {L : List (Int × Int)} {d : Nat} {q : Int × Int} (h : L[d]? = some q) : rdO r L 1 d = q.1 ∧ rdO r L 2 d = q.2 := by
  obtain ⟨hl, rfl⟩ := List.getElem?_eq_some_iff.mp h
  simp [rdO, hl]
theorem sp_X1_highest (f : Nat) (hf : 1000 ≤ f) (p2 p3 p4 : Int) (h0 h1 h2 : Ob) (hg : pd (LW h2 ∧ 0 ≤ p2 ∧ p2 < 8 ∧ 0 ≤ p3 ∧ 0 ≤ p4 ∧ p3 + p4 ≤ 200 ∧ (1 ≤ p4 ∨ p3 = 0)) = true) : md_X1_highest_0 p2 p3 p4 h0 h2 f h1 = RI (hiF h2 p2 p3 p4) [h0, hiO h1 h2 p2, h2] := by
  obtain ⟨hL, g1, g2, g3, g4, g5, g6⟩ := pd_of hg
  obtain ⟨z1, z2, z3, z4, -⟩ := id hL
  have x2 : xw p2 = p2 := xw_id (by omega) (by omega)
  have hb11 : p2.toNat < 11 := by omega
  have hb := z4 p2.toNat hb11
  simp only [md_X1_highest_0, mg_X1_highest_0, bz_0, x2]
  unfold hiF hiO
  cases hful : ful h2 p2
  · rfl
  · rw [if_neg (by simp), xin_of (n := 11) (by omega) (by omega), if_pos rfl, pd_t (show RdG h2 (h2 0 9) from ⟨hL, Int.le_refl _, by omega⟩), if_pos rfl, if_pos rfl, if_pos rfl, rdO_cnt, xop_eq]
    have hM := hL.mr (s := xshl 1 p2) (e := h2 0 9) (Int.le_refl _) (by omega)
    have hlen := rnl_len hL (s := xshl 1 p2) (e := h2 0 9) (Int.le_refl _) (by omega)
    generalize rnl h2 (xshl 1 p2) (h2 0 9) = L at hM hlen
    have hmem := MR_mem hM
    have hsort := MR_sorted hM
    have hin : ∀ x, hiP h2 p2 p3 p4 x → ∃ q ∈ L, q.1 ≤ x ∧ x + (h2 2 p2.toNat + 1) ≤ q.1 + q.2 := fun x hx => MR_in (by omega) hx.2.1 (fun c c1 c2 => (hx.2.2 c c1 c2).1) hx.1 hM
    have key : ∀ (d f' : Nat), d ≤ L.length → d < f' → (∀ x, hiP h2 p2 p3 p4 x → ∃ i q, i < d ∧ L[i]? = some q ∧ q.1 ≤ x ∧ x + (h2 2 p2.toNat + 1) ≤ q.1 + q.2) → tlp (lb_X1_highest_46 p2 p3 p4 h0 h2 f) f' (h2 2 p2.toNat + 1, (d : Int) - 1, rdO h1 L) = RI (gmx (hiP h2 p2 p3 p4) 200) [h0, rdO h1 L, h2] := by
      intro d
      induction d with
      | zero =>
        intro f' hd hf' hH
        cases f' with
        | zero => omega
        | succ f' =>
          rw [tlp_succ]
          simp only [lb_X1_highest_46, mg_X1_highest_46]
          rw [if_pos (by decide), gmx_none (fun y y1 y2 hy => by
            obtain ⟨i, q, h1, _⟩ := hH y hy
            omega)]
      | succ d ih =>
        intro f' hd hf' hH
        cases f' with
        | zero => omega
        | succ f' =>
          rw [tlp_succ]
          obtain ⟨q, hq⟩ : ∃ q, L[d]? = some q := ⟨L[d]'(by omega), List.getElem?_eq_getElem (by omega)⟩
          obtain ⟨b0, l0⟩ := q
          obtain ⟨r1, r2⟩ := rdO_at h1 hq
          dsimp only at r1 r2
          obtain ⟨m1, m2, m3, m4⟩ := hmem _ (List.mem_of_getElem? hq)
          dsimp only at m1 m2 m3 m4
          have e1 : ((d + 1 : Nat) : Int) - 1 = (d : Int) := by omega
          have xm : xmax b0 (p3 + p4) = if b0 < p3 + p4 then p3 + p4 else b0 := by
            unfold xmax
            rw [xw_id (x := b0) (by omega) (by omega), xw_id (x := p3 + p4) (by omega) (by omega)]
          have xn : xmin (b0 + l0) p3 = if p3 < b0 + l0 then p3 else b0 + l0 := by
            unfold xmin
            rw [xw_id (x := b0 + l0) (by omega) (by omega), xw_id (x := p3) (by omega) (by omega)]
          simp only [lb_X1_highest_46, mg_X1_highest_46, e1, xw_nat (show d < 2147483648 by omega), xin_nat (show d < 12 by omega) (show 12 ≤ 2147483648 by omega), toNat_nat, if_true, r1, r2, xw_id (x := h2 2 p2.toNat + 1) (by omega) (by omega), xm, xn]
          generalize hmx : (if b0 < p3 + p4 then p3 + p4 else b0) = mx
          generalize hmn : (if p3 < b0 + l0 then p3 else b0 + l0) = mn
          have hmx1 : b0 ≤ mx ∧ p3 + p4 ≤ mx ∧ mx ≤ 200 ∧ (mx = b0 ∨ mx = p3 + p4) := by rw [← hmx]; split <;> omega
          have hmn1 : mn ≤ b0 + l0 ∧ mn ≤ p3 ∧ 0 ≤ mn ∧ (mn = b0 + l0 ∨ mn = p3) := by rw [← hmn]; split <;> omega
          rw [if_neg (by omega), xw_id (x := b0 + l0 - mx) (by omega) (by omega), xw_id (x := mn - b0) (by omega) (by omega)]
          -- earlier runs lie lower
          have hlow : ∀ i q', i < d → L[i]? = some q' → q'.1 + q'.2 ≤ b0 := by
            intro i q' hi hq'
            have hl1 := (List.getElem?_eq_some_iff.mp hq').1
            have hl2 := (List.getElem?_eq_some_iff.mp hq).1
            have := List.pairwise_iff_getElem.mp hsort i d hl1 hl2 hi
            rw [(List.getElem?_eq_some_iff.mp hq').2, (List.getElem?_eq_some_iff.mp hq).2] at this
            exact this
          have hapart : ∀ y, hiP h2 p2 p3 p4 y → y + (h2 2 p2.toNat + 1) ≤ p3 ∨ p3 + p4 ≤ y := by
            intro y hy
            have hy0 := hy.1
            by_cases c1 : y + (h2 2 p2.toNat + 1) ≤ p3
            · exact Or.inl c1
            · by_cases c2 : p3 + p4 ≤ y
              · exact Or.inr c2
              · exfalso
                by_cases c3 : y ≤ p3
                · exact (hy.2.2 p3 c3 (by omega)).2 (by omega)
                · exact (hy.2.2 y (Int.le_refl _) (by omega)).2 (by omega)
          have hcase : ∀ y, hiP h2 p2 p3 p4 y → (y + (h2 2 p2.toNat + 1) ≤ b0) ∨ (b0 ≤ y ∧ y + (h2 2 p2.toNat + 1) ≤ b0 + l0) := by
            intro y hy
            obtain ⟨i, q', i1, i2, i3, i4⟩ := hH y hy
            by_cases hid : i = d
            · subst hid
              rw [hq] at i2
              cases i2
              exact Or.inr ⟨i3, i4⟩
            · have := hlow i q' (by omega) i2
              exact Or.inl (by omega)
          by_cases cA : b0 + l0 - mx < h2 2 p2.toNat + 1
          · rw [if_pos cA]
            by_cases cB : mn - b0 < h2 2 p2.toNat + 1
            · rw [if_pos cB]
              have e2 : (d : Int) + -1 = (d : Int) - 1 := by omega
              rw [e2]
              refine ih f' (by omega) (by omega) (fun x hx => ?_)
              obtain ⟨i, q', i1, i2, i3, i4⟩ := hH x hx
              by_cases hid : i = d
              · subst hid
                rw [hq] at i2
                cases i2
                dsimp only at i3 i4
                rcases hapart x hx with c | c <;> omega
              · exact ⟨i, q', by omega, i2, i3, i4⟩
            · rw [if_neg cB]
              rw [gmx_some (x := mn - (h2 2 p2.toNat + 1)) (by omega) ⟨by omega, by omega, fun c c1 c2 => ⟨m4 c (by omega) (by omega), by omega⟩⟩ (by omega) (fun y y1 y2 hy => by
                rcases hcase y hy with c | c
                · omega
                · rcases hapart y hy with c' | c' <;> omega)]
          · rw [if_neg cA]
            rw [gmx_some (x := b0 + l0 - (h2 2 p2.toNat + 1)) (by omega) ⟨by omega, by omega, fun c c1 c2 => ⟨m4 c (by omega) (by omega), by omega⟩⟩ (by omega) (fun y y1 y2 hy => by
              rcases hcase y hy with c | c <;> omega)]
    have := key L.length f (Nat.le_refl _) (by omega) (fun x hx => by
      obtain ⟨q, q1, q2, q3⟩ := hin x hx
      obtain ⟨i, hi⟩ := List.getElem?_of_mem q1
      exact ⟨i, q, (List.getElem?_eq_some_iff.mp hi).1, hi, q2, q3⟩)
    exact this
noncomputable def g_X1_highest : List AV → List Ob → Bool
  | [.inr (.inl (0, 0)), .inr (.inl (2, 0)), .inl p2, .inl p3, .inl p4], [h0, h1, h2] => pd (LW h2 ∧ 0 ≤ p2 ∧ p2 < 8 ∧ 0 ≤ p3 ∧ 0 ≤ p4 ∧ p3 + p4 ≤ 200 ∧ (1 ≤ p4 ∨ p3 = 0))
  | _, _ => false
noncomputable def v_X1_highest : List AV → List Ob → Rt
  | [.inr (.inl (0, 0)), .inr (.inl (2, 0)), .inl p2, .inl p3, .inl p4], [h0, h1, h2] => (some (.inl (hiF h2 p2 p3 p4)), [h0, (hiO h1 h2 p2), h2])
  | _, _ => (none, [])
theorem ct_X1_highest : XCt yX1_highest mX1_highest (fun as μ => if g_X1_highest as μ then some (v_X1_highest as μ) else none) := (ctr_X1_highest xfu).of (fun as μ r h => by
  split at h
  · rename_i hg
    unfold g_X1_highest at hg
    split at hg
    · rw [← h]
      exact (eqf_X1_highest xfu _ _ _ _ _ _).trans (sp_X1_highest xfu (xfu_ge (by decide)) _ _ _ _ _ _ hg)
    · cases hg
  · cases h)
