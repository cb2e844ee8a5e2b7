def layG (A : Ob) (g : Nat) (n : Nat) (q : Int × Ob) : Int × Ob := (List.range n).foldl (fun (q : Int × Ob) (k : Nat) => if xw (A 4 k) = (g : Int) then (q.1 + A 2 k, xset q.2 1 (xw (A 1 k)).toNat q.1) else q) q
def layI (A G : Ob) (n : Int) (h : Ob) : Int × Ob := (List.range (G 0 2).toNat).foldl (fun (q : Int × Ob) (g : Nat) => (if xw q.1 = -1 ∧ xw n ≤ xw (A 5 g) then (layG A g (A 0 7).toNat (G 1 g, q.2)).1 else q.1, (layG A g (A 0 7).toNat (G 1 g, q.2)).2)) (-1, h)
noncomputable def layF : Ob → Ob → Int → Ob → Int × Ob := xop layI
theorem layF_e (A G : Ob) (n : Int) (h : Ob) : layF A G n h = layI A G n h := congrFun (congrFun (congrFun (congrFun (xop_eq layI) A) G) n) h
def LyG (A G : Ob) : Prop := rk G = true ∧ 0 ≤ A 0 7 ∧ A 0 7 ≤ 8 ∧ ∀ k, k < (A 0 7).toNat → 0 ≤ A 1 k ∧ A 1 k < 11
theorem dX0_lay_0 : decode cX0_lay 0 = .ok (.iconst (-1), 1) := by decide +kernel
theorem dX0_lay_1 : decode cX0_lay 1 = .ok (.istore_n 3, 1) := by decide +kernel
theorem dX0_lay_2 : decode cX0_lay 2 = .ok (.iconst 0, 1) := by decide +kernel
theorem dX0_lay_3 : decode cX0_lay 3 = .ok (.istore 4, 2) := by decide +kernel
theorem dX0_lay_5 : decode cX0_lay 5 = .ok (.iload 4, 2) := by decide +kernel
theorem dX0_lay_7 : decode cX0_lay 7 = .ok (.aload_n 0, 1) := by decide +kernel
theorem dX0_lay_8 : decode cX0_lay 8 = .ok (.getfield 12, 3) := by decide +kernel
theorem dX0_lay_11 : decode cX0_lay 11 = .ok (.getfield 115, 3) := by decide +kernel
theorem dX0_lay_14 : decode cX0_lay 14 = .ok (.if_icmp .ge 96, 3) := by decide +kernel
theorem dX0_lay_17 : decode cX0_lay 17 = .ok (.aload_n 0, 1) := by decide +kernel
theorem dX0_lay_18 : decode cX0_lay 18 = .ok (.getfield 12, 3) := by decide +kernel
theorem dX0_lay_21 : decode cX0_lay 21 = .ok (.getfield 116, 3) := by decide +kernel
theorem dX0_lay_24 : decode cX0_lay 24 = .ok (.iload 4, 2) := by decide +kernel
theorem dX0_lay_26 : decode cX0_lay 26 = .ok (.iaload, 1) := by decide +kernel
theorem dX0_lay_27 : decode cX0_lay 27 = .ok (.istore 5, 2) := by decide +kernel
theorem dX0_lay_29 : decode cX0_lay 29 = .ok (.iconst 0, 1) := by decide +kernel
theorem dX0_lay_30 : decode cX0_lay 30 = .ok (.istore 6, 2) := by decide +kernel
theorem dX0_lay_32 : decode cX0_lay 32 = .ok (.iload 6, 2) := by decide +kernel
theorem dX0_lay_34 : decode cX0_lay 34 = .ok (.aload_n 0, 1) := by decide +kernel
theorem dX0_lay_35 : decode cX0_lay 35 = .ok (.getfield 71, 3) := by decide +kernel
theorem dX0_lay_38 : decode cX0_lay 38 = .ok (.if_icmp .ge 47, 3) := by decide +kernel
theorem dX0_lay_41 : decode cX0_lay 41 = .ok (.aload_n 0, 1) := by decide +kernel
theorem dX0_lay_42 : decode cX0_lay 42 = .ok (.getfield 35, 3) := by decide +kernel
theorem dX0_lay_45 : decode cX0_lay 45 = .ok (.iload 6, 2) := by decide +kernel
theorem dX0_lay_47 : decode cX0_lay 47 = .ok (.iaload, 1) := by decide +kernel
theorem dX0_lay_48 : decode cX0_lay 48 = .ok (.iload 4, 2) := by decide +kernel
theorem dX0_lay_50 : decode cX0_lay 50 = .ok (.if_icmp .ne 29, 3) := by decide +kernel
theorem dX0_lay_53 : decode cX0_lay 53 = .ok (.aload_n 1, 1) := by decide +kernel
theorem dX0_lay_54 : decode cX0_lay 54 = .ok (.getfield 119, 3) := by decide +kernel
theorem dX0_lay_57 : decode cX0_lay 57 = .ok (.aload_n 0, 1) := by decide +kernel
theorem dX0_lay_58 : decode cX0_lay 58 = .ok (.getfield 25, 3) := by decide +kernel
theorem dX0_lay_61 : decode cX0_lay 61 = .ok (.iload 6, 2) := by decide +kernel
theorem dX0_lay_63 : decode cX0_lay 63 = .ok (.iaload, 1) := by decide +kernel
theorem dX0_lay_64 : decode cX0_lay 64 = .ok (.iload 5, 2) := by decide +kernel
theorem dX0_lay_66 : decode cX0_lay 66 = .ok (.iastore, 1) := by decide +kernel
theorem dX0_lay_67 : decode cX0_lay 67 = .ok (.iload 5, 2) := by decide +kernel
theorem dX0_lay_69 : decode cX0_lay 69 = .ok (.aload_n 0, 1) := by decide +kernel
theorem dX0_lay_70 : decode cX0_lay 70 = .ok (.getfield 29, 3) := by decide +kernel
theorem dX0_lay_73 : decode cX0_lay 73 = .ok (.iload 6, 2) := by decide +kernel
theorem dX0_lay_75 : decode cX0_lay 75 = .ok (.iaload, 1) := by decide +kernel
theorem dX0_lay_76 : decode cX0_lay 76 = .ok (.iadd, 1) := by decide +kernel
theorem dX0_lay_77 : decode cX0_lay 77 = .ok (.istore 5, 2) := by decide +kernel
theorem dX0_lay_79 : decode cX0_lay 79 = .ok (.iinc 6 1, 3) := by decide +kernel
theorem dX0_lay_82 : decode cX0_lay 82 = .ok (.goto (-50), 3) := by decide +kernel
theorem dX0_lay_85 : decode cX0_lay 85 = .ok (.iload_n 3, 1) := by decide +kernel
theorem dX0_lay_86 : decode cX0_lay 86 = .ok (.iconst (-1), 1) := by decide +kernel
theorem dX0_lay_87 : decode cX0_lay 87 = .ok (.if_icmp .ne 17, 3) := by decide +kernel
theorem dX0_lay_90 : decode cX0_lay 90 = .ok (.aload_n 0, 1) := by decide +kernel
theorem dX0_lay_91 : decode cX0_lay 91 = .ok (.getfield 38, 3) := by decide +kernel
theorem dX0_lay_94 : decode cX0_lay 94 = .ok (.iload 4, 2) := by decide +kernel
theorem dX0_lay_96 : decode cX0_lay 96 = .ok (.iaload, 1) := by decide +kernel
theorem dX0_lay_97 : decode cX0_lay 97 = .ok (.iload_n 2, 1) := by decide +kernel
theorem dX0_lay_98 : decode cX0_lay 98 = .ok (.if_icmp .lt 6, 3) := by decide +kernel
theorem dX0_lay_101 : decode cX0_lay 101 = .ok (.iload 5, 2) := by decide +kernel
theorem dX0_lay_103 : decode cX0_lay 103 = .ok (.istore_n 3, 1) := by decide +kernel
theorem dX0_lay_104 : decode cX0_lay 104 = .ok (.iinc 4 1, 3) := by decide +kernel
theorem dX0_lay_107 : decode cX0_lay 107 = .ok (.goto (-102), 3) := by decide +kernel
theorem dX0_lay_110 : decode cX0_lay 110 = .ok (.iload_n 3, 1) := by decide +kernel
theorem dX0_lay_111 : decode cX0_lay 111 = .ok (.ireturn, 1) := by decide +kernel
abbrev mX0_lay : XM := (cX0_lay, 7, RX0, (some .int), shw_0_6_4_3, 0)
noncomputable def rg_X0_lay_0 (k5 : XK) : XK :=
 o_iconst (-1) <|
 o_istore 3 <|
 o_iconst 0 <|
 o_istore 4 <|
 o_cut [] k5
def en_X0_lay_0 (p2 : Int) (h0 : Ob) (h1 : Ob) (h2 : Ob) (a : Ob) : XSt := ([some (.inr (.inl (0, 0))), some (.inr (.inl (3, 0))), some (.inl p2), none, none, none, none], [], [h0, h1, h2, a])
noncomputable def rg_X0_lay_5 (k32 : XK) : XK :=
 o_iload 4 <|
 o_aload 0 <|
 o_get shw_0_6_4_3 0 0 <|
 o_get shw_0_6_4_3 6 2 <|
 o_icmp_ge (o_iload 3 <|
 o_ireturn)
 (o_aload 0 <|
 o_get shw_0_6_4_3 0 0 <|
 o_get shw_0_6_4_3 6 0 <|
 o_iload 4 <|
 o_iald shw_0_6_4_3 <|
 o_istore 5 <|
 o_iconst 0 <|
 o_istore 6 <|
 o_cut [] k32)
def en_X0_lay_5 (p2 : Int) (h0 : Ob) (h1 : Ob) (h2 : Ob) (a : Int × Int × Ob) : XSt := ([some (.inr (.inl (0, 0))), some (.inr (.inl (3, 0))), some (.inl p2), some (.inl a.1), some (.inl a.2.1), none, none], [], [h0, h1, h2, a.2.2])
noncomputable def rg_X0_lay_32 (k104 : XK) (k79 : XK) : XK :=
 o_iload 6 <|
 o_aload 0 <|
 o_get shw_0_6_4_3 0 7 <|
 o_icmp_ge (o_iload 3 <|
 o_iconst (-1) <|
 o_icmp_ne (o_cut [5, 6] k104)
 (o_aload 0 <|
 o_get shw_0_6_4_3 0 6 <|
 o_iload 4 <|
 o_iald shw_0_6_4_3 <|
 o_iload 2 <|
 o_icmp_lt (o_cut [5, 6] k104)
 (o_iload 5 <|
 o_istore 3 <|
 o_cut [5, 6] k104)))
 (o_aload 0 <|
 o_get shw_0_6_4_3 0 5 <|
 o_iload 6 <|
 o_iald shw_0_6_4_3 <|
 o_iload 4 <|
 o_icmp_ne (o_cut [] k79)
 (o_aload 1 <|
 o_get shw_0_6_4_3 3 0 <|
 o_aload 0 <|
 o_get shw_0_6_4_3 0 2 <|
 o_iload 6 <|
 o_iald shw_0_6_4_3 <|
 o_iload 5 <|
 o_iast shw_0_6_4_3 <|
 o_iload 5 <|
 o_aload 0 <|
 o_get shw_0_6_4_3 0 3 <|
 o_iload 6 <|
 o_iald shw_0_6_4_3 <|
 o_iadd <|
 o_istore 5 <|
 o_cut [] k79))
def en_X0_lay_32 (p2 : Int) (h0 : Ob) (h1 : Ob) (h2 : Ob) (a : Int × Int × Int × Int × Ob) : XSt := ([some (.inr (.inl (0, 0))), some (.inr (.inl (3, 0))), some (.inl p2), some (.inl a.1), some (.inl a.2.1), some (.inl a.2.2.1), some (.inl a.2.2.2.1)], [], [h0, h1, h2, a.2.2.2.2])
noncomputable def rg_X0_lay_79 (k32 : XK) : XK :=
 o_iinc 6 1 <|
 o_cut [] k32
def en_X0_lay_79 (p2 : Int) (h0 : Ob) (h1 : Ob) (h2 : Ob) (a : Int × Int × Int × Int × Ob) : XSt := ([some (.inr (.inl (0, 0))), some (.inr (.inl (3, 0))), some (.inl p2), some (.inl a.1), some (.inl a.2.1), some (.inl a.2.2.1), some (.inl a.2.2.2.1)], [], [h0, h1, h2, a.2.2.2.2])
noncomputable def rg_X0_lay_104 (k5 : XK) : XK :=
 o_iinc 4 1 <|
 o_cut [] k5
def en_X0_lay_104 (p2 : Int) (h0 : Ob) (h1 : Ob) (h2 : Ob) (a : Int × Int × Ob) : XSt := ([some (.inr (.inl (0, 0))), some (.inr (.inl (3, 0))), some (.inl p2), some (.inl a.1), some (.inl a.2.1), none, none], [], [h0, h1, h2, a.2.2])
noncomputable def mg_X0_lay_0 (p2 : Int) (h0 : Ob) (h1 : Ob) (h2 : Ob) (k5 : (Int × Int × Ob) → Option Rt) (a : Ob) : Option Rt :=
 k5 ((-1), 0, a)
set_option maxRecDepth 100000 in
set_option maxHeartbeats 4000000 in
theorem rq_X0_lay_0 (p2 : Int) (h0 : Ob) (h1 : Ob) (h2 : Ob) (k5 : XK) (a : Ob) : rg_X0_lay_0 k5 (en_X0_lay_0 p2 h0 h1 h2 a) = mg_X0_lay_0 p2 h0 h1 h2 (fun b => k5 (en_X0_lay_5 p2 h0 h1 h2 b)) a := rfl
set_option maxRecDepth 100000 in
set_option maxHeartbeats 4000000 in
theorem sg_X0_lay_0 {X : XDyn} {r0 : Rt} (C : XO X mX0_lay) {k5 : XK} (q5 : XS X mX0_lay r0 5 k5) : XS X mX0_lay r0 0 (rg_X0_lay_0 k5) := by
 unfold rg_X0_lay_0
 exact s_iconst (pc := 0) C dX0_lay_0 <|
    s_istore_n (pc := 1) C dX0_lay_1 rfl <|
    s_iconst (pc := 2) C dX0_lay_2 <|
    s_istore (pc := 3) C dX0_lay_3 <|
    s_cut q5
noncomputable def mg_X0_lay_5 (p2 : Int) (h0 : Ob) (h1 : Ob) (h2 : Ob) (k32 : (Int × Int × Int × Int × Ob) → Option Rt) (a : Int × Int × Ob) : Option Rt :=
 if xw a.2.1 ≥ xw (h1 0 2) then (RI a.1 [h0, h1, h2, a.2.2])
 else (if xin a.2.1 12 then (
 k32 (a.1, a.2.1, (h1 1 (xw a.2.1).toNat), 0, a.2.2)) else none)
set_option maxRecDepth 100000 in
set_option maxHeartbeats 4000000 in
theorem rq_X0_lay_5 (p2 : Int) (h0 : Ob) (h1 : Ob) (h2 : Ob) (k32 : XK) (a : Int × Int × Ob) : rg_X0_lay_5 k32 (en_X0_lay_5 p2 h0 h1 h2 a) = mg_X0_lay_5 p2 h0 h1 h2 (fun b => k32 (en_X0_lay_32 p2 h0 h1 h2 b)) a := rfl
set_option maxRecDepth 100000 in
set_option maxHeartbeats 4000000 in
theorem sg_X0_lay_5 {X : XDyn} {r0 : Rt} (C : XO X mX0_lay) {k32 : XK} (q32 : XS X mX0_lay r0 32 k32) : XS X mX0_lay r0 5 (rg_X0_lay_5 k32) := by
 unfold rg_X0_lay_5
 exact s_iload (pc := 5) C dX0_lay_5 <|
    s_aload_n (pc := 7) C dX0_lay_7 rfl <|
    s_get (pc := 8) C (ci := 0) (kf := 0) rfl inX0 (by decide) wd_252 dX0_lay_8 <|
    s_get (pc := 11) C (ci := 6) (kf := 2) rfl inX6 (by decide) wd_204 dX0_lay_11 <|
    s_icmp_ge (pc := 14) C dX0_lay_14 (by decide) (s_iload_n (pc := 110) C dX0_lay_110 rfl <|
    s_ireturn (pc := 111) C rfl dX0_lay_111)
    (s_aload_n (pc := 17) C dX0_lay_17 rfl <|
    s_get (pc := 18) C (ci := 0) (kf := 0) rfl inX0 (by decide) wd_252 dX0_lay_18 <|
    s_get (pc := 21) C (ci := 6) (kf := 0) rfl inX6 (by decide) wd_198 dX0_lay_21 <|
    s_iload (pc := 24) C dX0_lay_24 <|
    s_iald (pc := 26) C dX0_lay_26 <|
    s_istore (pc := 27) C dX0_lay_27 <|
    s_iconst (pc := 29) C dX0_lay_29 <|
    s_istore (pc := 30) C dX0_lay_30 <|
    s_cut q32)
noncomputable def mg_X0_lay_32 (p2 : Int) (h0 : Ob) (h1 : Ob) (h2 : Ob) (k104 : (Int × Int × Ob) → Option Rt) (k79 : (Int × Int × Int × Int × Ob) → Option Rt) (a : Int × Int × Int × Int × Ob) : Option Rt :=
 if xw a.2.2.2.1 ≥ xw (h0 0 7) then (if xw a.1 = (-1) then (if xin a.2.1 12 then (
 if xw (h0 5 (xw a.2.1).toNat) < xw p2 then (k104 (a.1, a.2.1, a.2.2.2.2))
 else (k104 (a.2.2.1, a.2.1, a.2.2.2.2))) else none)
 else (k104 (a.1, a.2.1, a.2.2.2.2)))
 else (if xin a.2.2.2.1 8 then (
 if xw (h0 4 (xw a.2.2.2.1).toNat) = xw a.2.1 then (if xin a.2.2.2.1 8 then (
 if xin (h0 1 (xw a.2.2.2.1).toNat) 11 then (
 if xin a.2.2.2.1 8 then (
 k79 (a.1, a.2.1, (a.2.2.1 + (h0 2 (xw a.2.2.2.1).toNat)), a.2.2.2.1, (xset a.2.2.2.2 1 (xw (h0 1 (xw a.2.2.2.1).toNat)).toNat a.2.2.1))) else none) else none) else none)
 else (k79 (a.1, a.2.1, a.2.2.1, a.2.2.2.1, a.2.2.2.2))) else none)
set_option maxRecDepth 100000 in
set_option maxHeartbeats 4000000 in
theorem rq_X0_lay_32 (p2 : Int) (h0 : Ob) (h1 : Ob) (h2 : Ob) (k104 : XK) (k79 : XK) (a : Int × Int × Int × Int × Ob) : rg_X0_lay_32 k104 k79 (en_X0_lay_32 p2 h0 h1 h2 a) = mg_X0_lay_32 p2 h0 h1 h2 (fun b => k104 (en_X0_lay_104 p2 h0 h1 h2 b)) (fun b => k79 (en_X0_lay_79 p2 h0 h1 h2 b)) a := rfl
set_option maxRecDepth 100000 in
set_option maxHeartbeats 4000000 in
theorem sg_X0_lay_32 {X : XDyn} {r0 : Rt} (C : XO X mX0_lay) {k104 : XK} (q104 : XS X mX0_lay r0 104 k104) {k79 : XK} (q79 : XS X mX0_lay r0 79 k79) : XS X mX0_lay r0 32 (rg_X0_lay_32 k104 k79) := by
 unfold rg_X0_lay_32
 exact s_iload (pc := 32) C dX0_lay_32 <|
    s_aload_n (pc := 34) C dX0_lay_34 rfl <|
    s_get (pc := 35) C (ci := 0) (kf := 7) rfl inX0 (by decide) wd_259 dX0_lay_35 <|
    s_icmp_ge (pc := 38) C dX0_lay_38 (by decide) (s_iload_n (pc := 85) C dX0_lay_85 rfl <|
    s_iconst (pc := 86) C dX0_lay_86 <|
    s_icmp_ne (pc := 87) C dX0_lay_87 (by decide) (s_cut q104)
    (s_aload_n (pc := 90) C dX0_lay_90 rfl <|
    s_get (pc := 91) C (ci := 0) (kf := 6) rfl inX0 (by decide) wd_258 dX0_lay_91 <|
    s_iload (pc := 94) C dX0_lay_94 <|
    s_iald (pc := 96) C dX0_lay_96 <|
    s_iload_n (pc := 97) C dX0_lay_97 rfl <|
    s_icmp_lt (pc := 98) C dX0_lay_98 (by decide) (s_cut q104)
    (s_iload (pc := 101) C dX0_lay_101 <|
    s_istore_n (pc := 103) C dX0_lay_103 rfl <|
    s_cut q104)))
    (s_aload_n (pc := 41) C dX0_lay_41 rfl <|
    s_get (pc := 42) C (ci := 0) (kf := 5) rfl inX0 (by decide) wd_257 dX0_lay_42 <|
    s_iload (pc := 45) C dX0_lay_45 <|
    s_iald (pc := 47) C dX0_lay_47 <|
    s_iload (pc := 48) C dX0_lay_48 <|
    s_icmp_ne (pc := 50) C dX0_lay_50 (by decide) (s_cut q79)
    (s_aload_n (pc := 53) C dX0_lay_53 rfl <|
    s_get (pc := 54) C (ci := 3) (kf := 0) rfl inX3 (by decide) wd_102 dX0_lay_54 <|
    s_aload_n (pc := 57) C dX0_lay_57 rfl <|
    s_get (pc := 58) C (ci := 0) (kf := 2) rfl inX0 (by decide) wd_254 dX0_lay_58 <|
    s_iload (pc := 61) C dX0_lay_61 <|
    s_iald (pc := 63) C dX0_lay_63 <|
    s_iload (pc := 64) C dX0_lay_64 <|
    s_iast (pc := 66) C dX0_lay_66 <|
    s_iload (pc := 67) C dX0_lay_67 <|
    s_aload_n (pc := 69) C dX0_lay_69 rfl <|
    s_get (pc := 70) C (ci := 0) (kf := 3) rfl inX0 (by decide) wd_255 dX0_lay_70 <|
    s_iload (pc := 73) C dX0_lay_73 <|
    s_iald (pc := 75) C dX0_lay_75 <|
    s_iadd (pc := 76) C dX0_lay_76 <|
    s_istore (pc := 77) C dX0_lay_77 <|
    s_cut q79))
noncomputable def mg_X0_lay_79 (p2 : Int) (h0 : Ob) (h1 : Ob) (h2 : Ob) (k32 : (Int × Int × Int × Int × Ob) → Option Rt) (a : Int × Int × Int × Int × Ob) : Option Rt :=
 k32 (a.1, a.2.1, a.2.2.1, (a.2.2.2.1 + 1), a.2.2.2.2)
set_option maxRecDepth 100000 in
set_option maxHeartbeats 4000000 in
theorem rq_X0_lay_79 (p2 : Int) (h0 : Ob) (h1 : Ob) (h2 : Ob) (k32 : XK) (a : Int × Int × Int × Int × Ob) : rg_X0_lay_79 k32 (en_X0_lay_79 p2 h0 h1 h2 a) = mg_X0_lay_79 p2 h0 h1 h2 (fun b => k32 (en_X0_lay_32 p2 h0 h1 h2 b)) a := rfl
set_option maxRecDepth 100000 in
set_option maxHeartbeats 4000000 in
theorem sg_X0_lay_79 {X : XDyn} {r0 : Rt} (C : XO X mX0_lay) {k32 : XK} (q32 : XS X mX0_lay r0 32 k32) : XS X mX0_lay r0 79 (rg_X0_lay_79 k32) := by
 unfold rg_X0_lay_79
 exact s_iinc (pc := 79) C dX0_lay_79 <|
    s_goto (pc := 82) C dX0_lay_82 (by decide) <|
    s_cut q32
noncomputable def mg_X0_lay_104 (p2 : Int) (h0 : Ob) (h1 : Ob) (h2 : Ob) (k5 : (Int × Int × Ob) → Option Rt) (a : Int × Int × Ob) : Option Rt :=
 k5 (a.1, (a.2.1 + 1), a.2.2)
set_option maxRecDepth 100000 in
set_option maxHeartbeats 4000000 in
theorem rq_X0_lay_104 (p2 : Int) (h0 : Ob) (h1 : Ob) (h2 : Ob) (k5 : XK) (a : Int × Int × Ob) : rg_X0_lay_104 k5 (en_X0_lay_104 p2 h0 h1 h2 a) = mg_X0_lay_104 p2 h0 h1 h2 (fun b => k5 (en_X0_lay_5 p2 h0 h1 h2 b)) a := rfl
set_option maxRecDepth 100000 in
set_option maxHeartbeats 4000000 in
theorem sg_X0_lay_104 {X : XDyn} {r0 : Rt} (C : XO X mX0_lay) {k5 : XK} (q5 : XS X mX0_lay r0 5 k5) : XS X mX0_lay r0 104 (rg_X0_lay_104 k5) := by
 unfold rg_X0_lay_104
 exact s_iinc (pc := 104) C dX0_lay_104 <|
    s_goto (pc := 107) C dX0_lay_107 (by decide) <|
    s_cut q5
noncomputable def rw_X0_lay_104 (f : Nat) (k5 : XK) : XK := rg_X0_lay_104 k5
noncomputable def md_X0_lay_104 (p2 : Int) (h0 : Ob) (h1 : Ob) (h2 : Ob) (f : Nat) (k5 : (Int × Int × Ob) → Option Rt) : Int × Int × Ob → Option Rt := mg_X0_lay_104 p2 h0 h1 h2 k5
theorem eq_X0_lay_104 (p2 : Int) (h0 : Ob) (h1 : Ob) (h2 : Ob) (f : Nat) (k5 : XK) (a : Int × Int × Ob) : rw_X0_lay_104 f k5 (en_X0_lay_104 p2 h0 h1 h2 a) = md_X0_lay_104 p2 h0 h1 h2 f (fun b => k5 (en_X0_lay_5 p2 h0 h1 h2 b)) a :=
 (rq_X0_lay_104 p2 h0 h1 h2 k5 a).trans (congrFun (congr (rfl : mg_X0_lay_104 p2 h0 h1 h2 = mg_X0_lay_104 p2 h0 h1 h2) rfl) a)
theorem sd_X0_lay_104 (f : Nat) {X : XDyn} {r0 : Rt} (C : XO X mX0_lay) {k5 : XK} (q5 : XS X mX0_lay r0 5 k5) : XS X mX0_lay r0 104 (rw_X0_lay_104 f k5) := sg_X0_lay_104 C q5
noncomputable def rw_X0_lay_79 (f : Nat) (k5 : XK) (k32 : XK) : XK := rg_X0_lay_79 k32
noncomputable def md_X0_lay_79 (p2 : Int) (h0 : Ob) (h1 : Ob) (h2 : Ob) (f : Nat) (k5 : (Int × Int × Ob) → Option Rt) (k32 : (Int × Int × Int × Int × Ob) → Option Rt) : Int × Int × Int × Int × Ob → Option Rt := mg_X0_lay_79 p2 h0 h1 h2 k32
theorem eq_X0_lay_79 (p2 : Int) (h0 : Ob) (h1 : Ob) (h2 : Ob) (f : Nat) (k5 : XK) (k32 : XK) (a : Int × Int × Int × Int × Ob) : rw_X0_lay_79 f k5 k32 (en_X0_lay_79 p2 h0 h1 h2 a) = md_X0_lay_79 p2 h0 h1 h2 f (fun b => k5 (en_X0_lay_5 p2 h0 h1 h2 b)) (fun b => k32 (en_X0_lay_32 p2 h0 h1 h2 b)) a :=
 (rq_X0_lay_79 p2 h0 h1 h2 k32 a).trans (congrFun (congr (rfl : mg_X0_lay_79 p2 h0 h1 h2 = mg_X0_lay_79 p2 h0 h1 h2) rfl) a)
theorem sd_X0_lay_79 (f : Nat) {X : XDyn} {r0 : Rt} (C : XO X mX0_lay) {k5 : XK} (q5 : XS X mX0_lay r0 5 k5) {k32 : XK} (q32 : XS X mX0_lay r0 32 k32) : XS X mX0_lay r0 79 (rw_X0_lay_79 f k5 k32) := sg_X0_lay_79 C q32
noncomputable def rw_X0_lay_32 (f : Nat) (k5 : XK) : XK := tlp (fun k32 => rg_X0_lay_32 (rw_X0_lay_104 f k5) (rw_X0_lay_79 f k5 k32)) f
noncomputable def lb_X0_lay_32 (p2 : Int) (h0 : Ob) (h1 : Ob) (h2 : Ob) (f : Nat) (k5 : (Int × Int × Ob) → Option Rt) : ((Int × Int × Int × Int × Ob) → Option Rt) → Int × Int × Int × Int × Ob → Option Rt := fun k32 => mg_X0_lay_32 p2 h0 h1 h2 (md_X0_lay_104 p2 h0 h1 h2 f k5) (md_X0_lay_79 p2 h0 h1 h2 f k5 k32)
noncomputable def md_X0_lay_32 (p2 : Int) (h0 : Ob) (h1 : Ob) (h2 : Ob) (f : Nat) (k5 : (Int × Int × Ob) → Option Rt) : Int × Int × Int × Int × Ob → Option Rt := tlp (lb_X0_lay_32 p2 h0 h1 h2 f k5) f
theorem eq_X0_lay_32 (p2 : Int) (h0 : Ob) (h1 : Ob) (h2 : Ob) (f : Nat) (k5 : XK) (a : Int × Int × Int × Int × Ob) : rw_X0_lay_32 f k5 (en_X0_lay_32 p2 h0 h1 h2 a) = md_X0_lay_32 p2 h0 h1 h2 f (fun b => k5 (en_X0_lay_5 p2 h0 h1 h2 b)) a :=
 tlp_enc (en_X0_lay_32 p2 h0 h1 h2) (fun k32 a => (rq_X0_lay_32 p2 h0 h1 h2 (rw_X0_lay_104 f k5) (rw_X0_lay_79 f k5 k32) a).trans (congrFun (congr (congr (rfl : mg_X0_lay_32 p2 h0 h1 h2 = mg_X0_lay_32 p2 h0 h1 h2) (funext (eq_X0_lay_104 p2 h0 h1 h2 f k5))) (funext (eq_X0_lay_79 p2 h0 h1 h2 f k5 k32))) a)) f a
theorem sd_X0_lay_32 (f : Nat) {X : XDyn} {r0 : Rt} (C : XO X mX0_lay) {k5 : XK} (q5 : XS X mX0_lay r0 5 k5) : XS X mX0_lay r0 32 (rw_X0_lay_32 f k5) := s_lp (fun k32 q32 => sg_X0_lay_32 C (sd_X0_lay_104 f C q5) (sd_X0_lay_79 f C q5 q32)) f
noncomputable def rw_X0_lay_5 (f : Nat) : XK := tlp (fun k5 => rg_X0_lay_5 (rw_X0_lay_32 f k5)) f
noncomputable def lb_X0_lay_5 (p2 : Int) (h0 : Ob) (h1 : Ob) (h2 : Ob) (f : Nat) : ((Int × Int × Ob) → Option Rt) → Int × Int × Ob → Option Rt := fun k5 => mg_X0_lay_5 p2 h0 h1 h2 (md_X0_lay_32 p2 h0 h1 h2 f k5)
noncomputable def md_X0_lay_5 (p2 : Int) (h0 : Ob) (h1 : Ob) (h2 : Ob) (f : Nat) : Int × Int × Ob → Option Rt := tlp (lb_X0_lay_5 p2 h0 h1 h2 f) f
theorem eq_X0_lay_5 (p2 : Int) (h0 : Ob) (h1 : Ob) (h2 : Ob) (f : Nat) (a : Int × Int × Ob) : rw_X0_lay_5 f (en_X0_lay_5 p2 h0 h1 h2 a) = md_X0_lay_5 p2 h0 h1 h2 f a :=
 tlp_enc (en_X0_lay_5 p2 h0 h1 h2) (fun k5 a => (rq_X0_lay_5 p2 h0 h1 h2 (rw_X0_lay_32 f k5) a).trans (congrFun (congr (rfl : mg_X0_lay_5 p2 h0 h1 h2 = mg_X0_lay_5 p2 h0 h1 h2) (funext (eq_X0_lay_32 p2 h0 h1 h2 f k5))) a)) f a
theorem sd_X0_lay_5 (f : Nat) {X : XDyn} {r0 : Rt} (C : XO X mX0_lay) : XS X mX0_lay r0 5 (rw_X0_lay_5 f) := s_lp (fun k5 q5 => sg_X0_lay_5 C (sd_X0_lay_32 f C q5)) f
noncomputable def rw_X0_lay_0 (f : Nat) : XK := rg_X0_lay_0 (rw_X0_lay_5 f)
noncomputable def md_X0_lay_0 (p2 : Int) (h0 : Ob) (h1 : Ob) (h2 : Ob) (f : Nat) : Ob → Option Rt := mg_X0_lay_0 p2 h0 h1 h2 (md_X0_lay_5 p2 h0 h1 h2 f)
theorem eq_X0_lay_0 (p2 : Int) (h0 : Ob) (h1 : Ob) (h2 : Ob) (f : Nat) (a : Ob) : rw_X0_lay_0 f (en_X0_lay_0 p2 h0 h1 h2 a) = md_X0_lay_0 p2 h0 h1 h2 f a :=
 (rq_X0_lay_0 p2 h0 h1 h2 (rw_X0_lay_5 f) a).trans (congrFun (congr (rfl : mg_X0_lay_0 p2 h0 h1 h2 = mg_X0_lay_0 p2 h0 h1 h2) (funext (eq_X0_lay_5 p2 h0 h1 h2 f))) a)
theorem sd_X0_lay_0 (f : Nat) {X : XDyn} {r0 : Rt} (C : XO X mX0_lay) : XS X mX0_lay r0 0 (rw_X0_lay_0 f) := sg_X0_lay_0 C (sd_X0_lay_5 f C)
theorem ctr_X0_lay (f : Nat) : XCt yX0_lay mX0_lay (xF mX0_lay (rw_X0_lay_0 f)) := xMet (by decide +kernel) rfl (fun _ _ C => sd_X0_lay_0 f C)
theorem eqf_X0_lay (f : Nat) (p2 : Int) (h0 : Ob) (h1 : Ob) (h2 : Ob) (h3 : Ob) : xF mX0_lay (rw_X0_lay_0 f) [.inr (.inl (0, 0)), .inr (.inl (3, 0)), .inl p2] [h0, h1, h2, h3] = md_X0_lay_0 p2 h0 h1 h2 f h3 := eq_X0_lay_0 p2 h0 h1 h2 f h3
theorem yi_X0_lay : yX0_lay.cls = RX0 ∧ yX0_lay.cls ≠ "java/lang/invoke/MethodHandle" ∧ yX0_lay.cls ≠ "java/lang/invoke/VarHandle" ∧ (parseMethodDescriptor yX0_lay.desc).map (fun d => d.parameters.length) = some 2 := ⟨rfl, by decide +kernel, by decide +kernel, by decide +kernel⟩
theorem lay_in (f : Nat) (hf : 1000 ≤ f) (p2 : Int) (h0 h1 h2 : Ob) (hG : LyG h0 h1) (k5 : Int × Int × Ob → Option Rt) (fd : Int) (g : Nat) (hg : g < 12) (at_ : Int) (h : Ob) : md_X0_lay_32 p2 h0 h1 h2 f k5 (fd, (g : Int), at_, 0, h) = k5 (if xw fd = -1 ∧ xw p2 ≤ xw (h0 5 g) then (layG h0 g (h0 0 7).toNat (at_, h)).1 else fd, (g : Int) + 1, (layG h0 g (h0 0 7).toNat (at_, h)).2) := by
  obtain ⟨hr, g1, g2, g3⟩ := hG
  have hx : xw (h0 0 7) = h0 0 7 := xw_id (by omega) (by omega)
  have := (loop_fold (B := lb_X0_lay_32 p2 h0 h1 h2 f k5) (h0 0 7).toNat (fun (q : Int × Ob) (k : Nat) => if xw (h0 4 k) = (g : Int) then (q.1 + h0 2 k, xset q.2 1 (xw (h0 1 k)).toNat q.1) else q) (fun q => k5 (if xw fd = -1 ∧ xw p2 ≤ xw (h0 5 g) then q.1 else fd, (g : Int) + 1, q.2)) (fun i q => (fd, (g : Int), q.1, (i : Int), q.2)) (fun _ _ => True) (fun kk i q hi _ => ⟨?_, trivial⟩) (fun kk q _ => ?_) f (at_, h) (by omega) trivial).1
  · exact this
  · have h1k := g3 i hi
    have hxk : xw (h0 1 i) = h0 1 i := xw_id (by omega) (by omega)
    simp only [lb_X0_lay_32, mg_X0_lay_32, md_X0_lay_79, mg_X0_lay_79, md_X0_lay_104, mg_X0_lay_104, hx, xw_nat (show i < 2147483648 by omega), xw_nat (show g < 2147483648 by omega), xin_nat (show i < 8 by omega) (show 8 ≤ 2147483648 by omega), toNat_nat, if_true, xin_of (i := h0 1 i) (n := 11) (by omega) (by omega)]
    rw [if_neg (by omega)]
    by_cases hc : xw (h0 4 i) = (g : Int)
    · rw [if_pos hc, if_pos hc]
      rfl
    · rw [if_neg hc, if_neg hc]
      rfl
  · simp only [lb_X0_lay_32, mg_X0_lay_32, md_X0_lay_79, mg_X0_lay_79, md_X0_lay_104, mg_X0_lay_104, hx, xw_nat (show (h0 0 7).toNat < 2147483648 by omega), xin_nat (show g < 12 by omega) (show 12 ≤ 2147483648 by omega), xw_nat (show g < 2147483648 by omega), toNat_nat, if_true]
    rw [if_pos (by omega)]
    by_cases c1 : xw fd = -1
    · by_cases c2 : xw (h0 5 g) < xw p2
      · rw [if_pos c1, if_pos c2, if_neg (by omega)]
      · rw [if_pos c1, if_neg c2, if_pos (by omega)]
    · rw [if_neg c1, if_neg (by omega)]
theorem sp_X0_lay (f : Nat) (hf : 1000 ≤ f) (p2 : Int) (h0 h1 h2 h3 : Ob) (hg : pd (LyG h0 h1) = true) : md_X0_lay_0 p2 h0 h1 h2 f h3 = RI (layF h0 h1 p2 h3).1 [h0, h1, h2, (layF h0 h1 p2 h3).2] := by
  have hG := pd_of hg
  obtain ⟨hr, -⟩ := id hG
  obtain ⟨r1, r2⟩ := rk_iff.mp hr
  have hx : xw (h1 0 2) = h1 0 2 := xw_id (by omega) (by omega)
  rw [layF_e]
  show md_X0_lay_5 p2 h0 h1 h2 f ((-1), 0, h3) = _
  refine (loop_fold (B := lb_X0_lay_5 p2 h0 h1 h2 f) (h1 0 2).toNat _ (fun q => RI q.1 [h0, h1, h2, q.2]) (fun i (q : Int × Ob) => (q.1, (i : Int), q.2)) (fun _ _ => True) (fun kk i q hi _ => ⟨?_, trivial⟩) (fun kk q _ => ?_) f (-1, h3) (by omega) trivial).1
  · simp only [lb_X0_lay_5, mg_X0_lay_5, hx, xw_nat (show i < 2147483648 by omega), xin_nat (show i < 12 by omega) (show 12 ≤ 2147483648 by omega), toNat_nat, if_true]
    rw [if_neg (by omega), lay_in f hf p2 h0 h1 h2 hG kk q.1 i (by omega)]
    rfl
  · simp only [lb_X0_lay_5, mg_X0_lay_5, hx, xw_nat (show (h1 0 2).toNat < 2147483648 by omega)]
    rw [if_pos (by omega)]
noncomputable def g_X0_lay : List AV → List Ob → Bool
  | [.inr (.inl (0, 0)), .inr (.inl (3, 0)), .inl p2], [h0, h1, h2, h3] => pd (LyG h0 h1)
  | _, _ => false
noncomputable def v_X0_lay : List AV → List Ob → Rt
  | [.inr (.inl (0, 0)), .inr (.inl (3, 0)), .inl p2], [h0, h1, h2, h3] => (some (.inl ((layF h0 h1 p2 h3).1)), [h0, h1, h2, ((layF h0 h1 p2 h3).2)])
  | _, _ => (none, [])
theorem ct_X0_lay : XCt yX0_lay mX0_lay (fun as μ => if g_X0_lay as μ then some (v_X0_lay as μ) else none) := (ctr_X0_lay xfu).of (fun as μ r h => by
  split at h
  · rename_i hg
    unfold g_X0_lay at hg
    split at hg
    · rw [← h]
      exact (eqf_X0_lay xfu _ _ _ _ _).trans (sp_X0_lay xfu (xfu_ge (by decide)) _ _ _ _ _ hg)
    · cases hg
  · cases h)
