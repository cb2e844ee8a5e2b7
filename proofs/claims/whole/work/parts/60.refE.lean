theorem dX8_isOpen_0 : decode cX8_isOpen 0 = .ok (.iload_n 1, 1) := by decide +kernel
theorem dX8_isOpen_1 : decode cX8_isOpen 1 = .ok (.iload_n 2, 1) := by decide +kernel
theorem dX8_isOpen_2 : decode cX8_isOpen 2 = .ok (.iadd, 1) := by decide +kernel
theorem dX8_isOpen_3 : decode cX8_isOpen 3 = .ok (.aload_n 0, 1) := by decide +kernel
theorem dX8_isOpen_4 : decode cX8_isOpen 4 = .ok (.getfield 7, 3) := by decide +kernel
theorem dX8_isOpen_7 : decode cX8_isOpen 7 = .ok (.iconst 0, 1) := by decide +kernel
theorem dX8_isOpen_8 : decode cX8_isOpen 8 = .ok (.iaload, 1) := by decide +kernel
theorem dX8_isOpen_9 : decode cX8_isOpen 9 = .ok (.if_icmp .gt 32, 3) := by decide +kernel
theorem dX8_isOpen_12 : decode cX8_isOpen 12 = .ok (.aload_n 0, 1) := by decide +kernel
theorem dX8_isOpen_13 : decode cX8_isOpen 13 = .ok (.getfield 19, 3) := by decide +kernel
theorem dX8_isOpen_16 : decode cX8_isOpen 16 = .ok (.iload_n 1, 1) := by decide +kernel
theorem dX8_isOpen_17 : decode cX8_isOpen 17 = .ok (.iaload, 1) := by decide +kernel
theorem dX8_isOpen_18 : decode cX8_isOpen 18 = .ok (.ifCond .le 25, 3) := by decide +kernel
theorem dX8_isOpen_21 : decode cX8_isOpen 21 = .ok (.aload_n 0, 1) := by decide +kernel
theorem dX8_isOpen_22 : decode cX8_isOpen 22 = .ok (.getfield 7, 3) := by decide +kernel
theorem dX8_isOpen_25 : decode cX8_isOpen 25 = .ok (.bipush 13, 2) := by decide +kernel
theorem dX8_isOpen_27 : decode cX8_isOpen 27 = .ok (.aload_n 0, 1) := by decide +kernel
theorem dX8_isOpen_28 : decode cX8_isOpen 28 = .ok (.getfield 19, 3) := by decide +kernel
theorem dX8_isOpen_31 : decode cX8_isOpen 31 = .ok (.iload_n 1, 1) := by decide +kernel
theorem dX8_isOpen_32 : decode cX8_isOpen 32 = .ok (.iaload, 1) := by decide +kernel
theorem dX8_isOpen_33 : decode cX8_isOpen 33 = .ok (.iadd, 1) := by decide +kernel
theorem dX8_isOpen_34 : decode cX8_isOpen 34 = .ok (.iconst 1, 1) := by decide +kernel
theorem dX8_isOpen_35 : decode cX8_isOpen 35 = .ok (.isub, 1) := by decide +kernel
theorem dX8_isOpen_36 : decode cX8_isOpen 36 = .ok (.iaload, 1) := by decide +kernel
theorem dX8_isOpen_37 : decode cX8_isOpen 37 = .ok (.iload_n 1, 1) := by decide +kernel
theorem dX8_isOpen_38 : decode cX8_isOpen 38 = .ok (.if_icmp .eq 5, 3) := by decide +kernel
theorem dX8_isOpen_41 : decode cX8_isOpen 41 = .ok (.iconst 0, 1) := by decide +kernel
theorem dX8_isOpen_42 : decode cX8_isOpen 42 = .ok (.ireturn, 1) := by decide +kernel
theorem dX8_isOpen_43 : decode cX8_isOpen 43 = .ok (.aload_n 0, 1) := by decide +kernel
theorem dX8_isOpen_44 : decode cX8_isOpen 44 = .ok (.getfield 19, 3) := by decide +kernel
theorem dX8_isOpen_47 : decode cX8_isOpen 47 = .ok (.iload_n 1, 1) := by decide +kernel
theorem dX8_isOpen_48 : decode cX8_isOpen 48 = .ok (.iaload, 1) := by decide +kernel
theorem dX8_isOpen_49 : decode cX8_isOpen 49 = .ok (.ifCond .ne 20, 3) := by decide +kernel
theorem dX8_isOpen_52 : decode cX8_isOpen 52 = .ok (.iload_n 1, 1) := by decide +kernel
theorem dX8_isOpen_53 : decode cX8_isOpen 53 = .ok (.ifCond .le 16, 3) := by decide +kernel
theorem dX8_isOpen_56 : decode cX8_isOpen 56 = .ok (.aload_n 0, 1) := by decide +kernel
theorem dX8_isOpen_57 : decode cX8_isOpen 57 = .ok (.getfield 19, 3) := by decide +kernel
theorem dX8_isOpen_60 : decode cX8_isOpen 60 = .ok (.iload_n 1, 1) := by decide +kernel
theorem dX8_isOpen_61 : decode cX8_isOpen 61 = .ok (.iconst 1, 1) := by decide +kernel
theorem dX8_isOpen_62 : decode cX8_isOpen 62 = .ok (.isub, 1) := by decide +kernel
theorem dX8_isOpen_63 : decode cX8_isOpen 63 = .ok (.iaload, 1) := by decide +kernel
theorem dX8_isOpen_64 : decode cX8_isOpen 64 = .ok (.ifCond .ne 5, 3) := by decide +kernel
theorem dX8_isOpen_67 : decode cX8_isOpen 67 = .ok (.iconst 0, 1) := by decide +kernel
theorem dX8_isOpen_68 : decode cX8_isOpen 68 = .ok (.ireturn, 1) := by decide +kernel
theorem dX8_isOpen_69 : decode cX8_isOpen 69 = .ok (.iload_n 1, 1) := by decide +kernel
theorem dX8_isOpen_70 : decode cX8_isOpen 70 = .ok (.istore_n 3, 1) := by decide +kernel
theorem dX8_isOpen_71 : decode cX8_isOpen 71 = .ok (.iload_n 3, 1) := by decide +kernel
theorem dX8_isOpen_72 : decode cX8_isOpen 72 = .ok (.iload_n 1, 1) := by decide +kernel
theorem dX8_isOpen_73 : decode cX8_isOpen 73 = .ok (.iload_n 2, 1) := by decide +kernel
theorem dX8_isOpen_74 : decode cX8_isOpen 74 = .ok (.iadd, 1) := by decide +kernel
theorem dX8_isOpen_75 : decode cX8_isOpen 75 = .ok (.if_icmp .ge 19, 3) := by decide +kernel
theorem dX8_isOpen_78 : decode cX8_isOpen 78 = .ok (.aload_n 0, 1) := by decide +kernel
theorem dX8_isOpen_79 : decode cX8_isOpen 79 = .ok (.iload_n 3, 1) := by decide +kernel
theorem dX8_isOpen_80 : decode cX8_isOpen 80 = .ok (.invokevirtual 100, 3) := by decide +kernel
theorem dX8_isOpen_83 : decode cX8_isOpen 83 = .ok (.ifCond .eq 5, 3) := by decide +kernel
theorem dX8_isOpen_86 : decode cX8_isOpen 86 = .ok (.iconst 0, 1) := by decide +kernel
theorem dX8_isOpen_87 : decode cX8_isOpen 87 = .ok (.ireturn, 1) := by decide +kernel
theorem dX8_isOpen_88 : decode cX8_isOpen 88 = .ok (.iinc 3 1, 3) := by decide +kernel
theorem dX8_isOpen_91 : decode cX8_isOpen 91 = .ok (.goto (-20), 3) := by decide +kernel
theorem dX8_isOpen_94 : decode cX8_isOpen 94 = .ok (.iconst 1, 1) := by decide +kernel
theorem dX8_isOpen_95 : decode cX8_isOpen 95 = .ok (.ireturn, 1) := by decide +kernel
abbrev mX8_isOpen : XM := (cX8_isOpen, 4, RX8, (some .boolean), shw_8, 1)
noncomputable def rg_X8_isOpen_0 (k43 : XK) : XK :=
 o_iload 1 <|
 o_iload 2 <|
 o_iadd <|
 o_aload 0 <|
 o_get shw_8 8 0 <|
 o_iconst 0 <|
 o_iald shw_8 <|
 o_icmp_gt (o_iconst 0 <|
 o_zreturn)
 (o_aload 0 <|
 o_get shw_8 8 5 <|
 o_iload 1 <|
 o_iald shw_8 <|
 o_if_le (o_cut [] k43)
 (o_aload 0 <|
 o_get shw_8 8 0 <|
 o_iconst 13 <|
 o_aload 0 <|
 o_get shw_8 8 5 <|
 o_iload 1 <|
 o_iald shw_8 <|
 o_iadd <|
 o_iconst 1 <|
 o_isub <|
 o_iald shw_8 <|
 o_iload 1 <|
 o_icmp_eq (o_cut [] k43)
 (o_iconst 0 <|
 o_zreturn)))
def en_X8_isOpen_0 (p1 : Int) (p2 : Int) (h0 : Ob) (a : Unit) : XSt := ([some (.inr (.inl (0, 0))), some (.inl p1), some (.inl p2), none], [], [h0])
noncomputable def rg_X8_isOpen_43 (k69 : XK) : XK :=
 o_aload 0 <|
 o_get shw_8 8 5 <|
 o_iload 1 <|
 o_iald shw_8 <|
 o_if_ne (o_cut [] k69)
 (o_iload 1 <|
 o_if_le (o_cut [] k69)
 (o_aload 0 <|
 o_get shw_8 8 5 <|
 o_iload 1 <|
 o_iconst 1 <|
 o_isub <|
 o_iald shw_8 <|
 o_if_ne (o_cut [] k69)
 (o_iconst 0 <|
 o_zreturn)))
def en_X8_isOpen_43 (p1 : Int) (p2 : Int) (h0 : Ob) (a : Unit) : XSt := ([some (.inr (.inl (0, 0))), some (.inl p1), some (.inl p2), none], [], [h0])
noncomputable def rg_X8_isOpen_69 (k71 : XK) : XK :=
 o_iload 1 <|
 o_istore 3 <|
 o_cut [] k71
def en_X8_isOpen_69 (p1 : Int) (p2 : Int) (h0 : Ob) (a : Unit) : XSt := ([some (.inr (.inl (0, 0))), some (.inl p1), some (.inl p2), none], [], [h0])
noncomputable def rg_X8_isOpen_71 (k71 : XK) : XK :=
 o_iload 3 <|
 o_iload 1 <|
 o_iload 2 <|
 o_iadd <|
 o_icmp_ge (o_iconst 1 <|
 o_zreturn)
 (o_aload 0 <|
 o_iload 3 <|
 o_callVg 2 1 [0] g_X8_isFixedAt v_X8_isFixedAt <|
 o_if_eq (o_iinc 3 1 <|
 o_cut [] k71)
 (o_iconst 0 <|
 o_zreturn))
def en_X8_isOpen_71 (p1 : Int) (p2 : Int) (h0 : Ob) (a : Int) : XSt := ([some (.inr (.inl (0, 0))), some (.inl p1), some (.inl p2), some (.inl a)], [], [h0])
noncomputable def mg_X8_isOpen_0 (p1 : Int) (p2 : Int) (h0 : Ob) (k43 : Unit → Option Rt) (a : Unit) : Option Rt :=
 if xw (p1 + p2) > xw (h0 1 0) then (RI 0 [h0])
 else (if xin p1 200 then (
 if xw (h0 4 (xw p1).toNat) ≤ 0 then (k43 ())
 else (if xin p1 200 then (
 if xin ((13 + (h0 4 (xw p1).toNat)) - 1) 735 then (
 if xw (h0 1 (xw ((13 + (h0 4 (xw p1).toNat)) - 1)).toNat) = xw p1 then (k43 ())
 else (RI 0 [h0])) else none) else none)) else none)
set_option maxRecDepth 100000 in
set_option maxHeartbeats 4000000 in
theorem rq_X8_isOpen_0 (p1 : Int) (p2 : Int) (h0 : Ob) (k43 : XK) (a : Unit) : rg_X8_isOpen_0 k43 (en_X8_isOpen_0 p1 p2 h0 a) = mg_X8_isOpen_0 p1 p2 h0 (fun b => k43 (en_X8_isOpen_43 p1 p2 h0 b)) a := rfl
set_option maxRecDepth 100000 in
set_option maxHeartbeats 4000000 in
theorem sg_X8_isOpen_0 {X : XDyn} {r0 : Rt} (C : XO X mX8_isOpen) {k43 : XK} (q43 : XS X mX8_isOpen r0 43 k43) : XS X mX8_isOpen r0 0 (rg_X8_isOpen_0 k43) := by
 unfold rg_X8_isOpen_0
 exact s_iload_n (pc := 0) C dX8_isOpen_0 rfl <|
    s_iload_n (pc := 1) C dX8_isOpen_1 rfl <|
    s_iadd (pc := 2) C dX8_isOpen_2 <|
    s_aload_n (pc := 3) C dX8_isOpen_3 rfl <|
    s_get (pc := 4) C (ci := 8) (kf := 0) rfl inX8 (by decide) wd_871 dX8_isOpen_4 <|
    s_iconst (pc := 7) C dX8_isOpen_7 <|
    s_iald (pc := 8) C dX8_isOpen_8 <|
    s_icmp_gt (pc := 9) C dX8_isOpen_9 (by decide) (s_iconst (pc := 41) C dX8_isOpen_41 <|
    s_zreturn (pc := 42) C rfl dX8_isOpen_42)
    (s_aload_n (pc := 12) C dX8_isOpen_12 rfl <|
    s_get (pc := 13) C (ci := 8) (kf := 5) rfl inX8 (by decide) wd_876 dX8_isOpen_13 <|
    s_iload_n (pc := 16) C dX8_isOpen_16 rfl <|
    s_iald (pc := 17) C dX8_isOpen_17 <|
    s_if_le (pc := 18) C dX8_isOpen_18 (by decide) (s_cut q43)
    (s_aload_n (pc := 21) C dX8_isOpen_21 rfl <|
    s_get (pc := 22) C (ci := 8) (kf := 0) rfl inX8 (by decide) wd_871 dX8_isOpen_22 <|
    s_bipush (pc := 25) C dX8_isOpen_25 (by decide) <|
    s_aload_n (pc := 27) C dX8_isOpen_27 rfl <|
    s_get (pc := 28) C (ci := 8) (kf := 5) rfl inX8 (by decide) wd_876 dX8_isOpen_28 <|
    s_iload_n (pc := 31) C dX8_isOpen_31 rfl <|
    s_iald (pc := 32) C dX8_isOpen_32 <|
    s_iadd (pc := 33) C dX8_isOpen_33 <|
    s_iconst (pc := 34) C dX8_isOpen_34 <|
    s_isub (pc := 35) C dX8_isOpen_35 <|
    s_iald (pc := 36) C dX8_isOpen_36 <|
    s_iload_n (pc := 37) C dX8_isOpen_37 rfl <|
    s_icmp_eq (pc := 38) C dX8_isOpen_38 (by decide) (s_cut q43)
    (s_iconst (pc := 41) C dX8_isOpen_41 <|
    s_zreturn (pc := 42) C rfl dX8_isOpen_42)))
noncomputable def mg_X8_isOpen_43 (p1 : Int) (p2 : Int) (h0 : Ob) (k69 : Unit → Option Rt) (a : Unit) : Option Rt :=
 if xin p1 200 then (
 if xw (h0 4 (xw p1).toNat) = 0 then (if xw p1 ≤ 0 then (k69 ())
 else (if xin (p1 - 1) 200 then (
 if xw (h0 4 (xw (p1 - 1)).toNat) = 0 then (RI 0 [h0])
 else (k69 ())) else none))
 else (k69 ())) else none
set_option maxRecDepth 100000 in
set_option maxHeartbeats 4000000 in
theorem rq_X8_isOpen_43 (p1 : Int) (p2 : Int) (h0 : Ob) (k69 : XK) (a : Unit) : rg_X8_isOpen_43 k69 (en_X8_isOpen_43 p1 p2 h0 a) = mg_X8_isOpen_43 p1 p2 h0 (fun b => k69 (en_X8_isOpen_69 p1 p2 h0 b)) a := rfl
set_option maxRecDepth 100000 in
set_option maxHeartbeats 4000000 in
theorem sg_X8_isOpen_43 {X : XDyn} {r0 : Rt} (C : XO X mX8_isOpen) {k69 : XK} (q69 : XS X mX8_isOpen r0 69 k69) : XS X mX8_isOpen r0 43 (rg_X8_isOpen_43 k69) := by
 unfold rg_X8_isOpen_43
 exact s_aload_n (pc := 43) C dX8_isOpen_43 rfl <|
    s_get (pc := 44) C (ci := 8) (kf := 5) rfl inX8 (by decide) wd_876 dX8_isOpen_44 <|
    s_iload_n (pc := 47) C dX8_isOpen_47 rfl <|
    s_iald (pc := 48) C dX8_isOpen_48 <|
    s_if_ne (pc := 49) C dX8_isOpen_49 (by decide) (s_cut q69)
    (s_iload_n (pc := 52) C dX8_isOpen_52 rfl <|
    s_if_le (pc := 53) C dX8_isOpen_53 (by decide) (s_cut q69)
    (s_aload_n (pc := 56) C dX8_isOpen_56 rfl <|
    s_get (pc := 57) C (ci := 8) (kf := 5) rfl inX8 (by decide) wd_876 dX8_isOpen_57 <|
    s_iload_n (pc := 60) C dX8_isOpen_60 rfl <|
    s_iconst (pc := 61) C dX8_isOpen_61 <|
    s_isub (pc := 62) C dX8_isOpen_62 <|
    s_iald (pc := 63) C dX8_isOpen_63 <|
    s_if_ne (pc := 64) C dX8_isOpen_64 (by decide) (s_cut q69)
    (s_iconst (pc := 67) C dX8_isOpen_67 <|
    s_zreturn (pc := 68) C rfl dX8_isOpen_68)))
noncomputable def mg_X8_isOpen_69 (p1 : Int) (p2 : Int) (h0 : Ob) (k71 : Int → Option Rt) (a : Unit) : Option Rt :=
 k71 p1
set_option maxRecDepth 100000 in
set_option maxHeartbeats 4000000 in
theorem rq_X8_isOpen_69 (p1 : Int) (p2 : Int) (h0 : Ob) (k71 : XK) (a : Unit) : rg_X8_isOpen_69 k71 (en_X8_isOpen_69 p1 p2 h0 a) = mg_X8_isOpen_69 p1 p2 h0 (fun b => k71 (en_X8_isOpen_71 p1 p2 h0 b)) a := rfl
set_option maxRecDepth 100000 in
set_option maxHeartbeats 4000000 in
theorem sg_X8_isOpen_69 {X : XDyn} {r0 : Rt} (C : XO X mX8_isOpen) {k71 : XK} (q71 : XS X mX8_isOpen r0 71 k71) : XS X mX8_isOpen r0 69 (rg_X8_isOpen_69 k71) := by
 unfold rg_X8_isOpen_69
 exact s_iload_n (pc := 69) C dX8_isOpen_69 rfl <|
    s_istore_n (pc := 70) C dX8_isOpen_70 rfl <|
    s_cut q71
noncomputable def mg_X8_isOpen_71 (p1 : Int) (p2 : Int) (h0 : Ob) (k71 : Int → Option Rt) (a : Int) : Option Rt :=
 if xw a ≥ xw (p1 + p2) then (RI 1 [h0])
 else (if pd (ov_X8_isFixedAt a h0 = RI (oqR (ov_X8_isFixedAt a h0)) [h0]) then (
 if xw (oqR (ov_X8_isFixedAt a h0)) = 0 then (k71 (a + 1))
 else (RI 0 [h0])) else none)
set_option maxRecDepth 100000 in
set_option maxHeartbeats 4000000 in
theorem rq_X8_isOpen_71 (p1 : Int) (p2 : Int) (h0 : Ob) (k71 : XK) (a : Int) : rg_X8_isOpen_71 k71 (en_X8_isOpen_71 p1 p2 h0 a) = mg_X8_isOpen_71 p1 p2 h0 (fun b => k71 (en_X8_isOpen_71 p1 p2 h0 b)) a := rfl
set_option maxRecDepth 100000 in
set_option maxHeartbeats 4000000 in
theorem sg_X8_isOpen_71 {X : XDyn} {r0 : Rt} (C : XO X mX8_isOpen) {k71 : XK} (q71 : XS X mX8_isOpen r0 71 k71) : XS X mX8_isOpen r0 71 (rg_X8_isOpen_71 k71) := by
 unfold rg_X8_isOpen_71
 exact s_iload_n (pc := 71) C dX8_isOpen_71 rfl <|
    s_iload_n (pc := 72) C dX8_isOpen_72 rfl <|
    s_iload_n (pc := 73) C dX8_isOpen_73 rfl <|
    s_iadd (pc := 74) C dX8_isOpen_74 <|
    s_icmp_ge (pc := 75) C dX8_isOpen_75 (by decide) (s_iconst (pc := 94) C dX8_isOpen_94 <|
    s_zreturn (pc := 95) C rfl dX8_isOpen_95)
    (s_aload_n (pc := 78) C dX8_isOpen_78 rfl <|
    s_iload_n (pc := 79) C dX8_isOpen_79 rfl <|
    s_callVg (pc := 80) C ct_X8_isFixedAt (n := 2) (rk := 1) (mp := [0]) ⟨rfl, by decide, rfl⟩ (ci := 8) rfl rfl (by decide) (by decide) yi_X8_isFixedAt (by decide) wd_1022 wd_1024 wd_32 wd_81 wd_1025 dX8_isOpen_80 <|
    s_if_eq (pc := 83) C dX8_isOpen_83 (by decide) (s_iinc (pc := 88) C dX8_isOpen_88 <|
    s_goto (pc := 91) C dX8_isOpen_91 (by decide) <|
    s_cut q71)
    (s_iconst (pc := 86) C dX8_isOpen_86 <|
    s_zreturn (pc := 87) C rfl dX8_isOpen_87))
noncomputable def rw_X8_isOpen_71 (f : Nat) : XK := tlp (fun k71 => rg_X8_isOpen_71 k71) f
noncomputable def lb_X8_isOpen_71 (p1 : Int) (p2 : Int) (h0 : Ob) (f : Nat) : ((Int) → Option Rt) → Int → Option Rt := fun k71 => mg_X8_isOpen_71 p1 p2 h0 k71
noncomputable def md_X8_isOpen_71 (p1 : Int) (p2 : Int) (h0 : Ob) (f : Nat) : Int → Option Rt := tlp (lb_X8_isOpen_71 p1 p2 h0 f) f
theorem eq_X8_isOpen_71 (p1 : Int) (p2 : Int) (h0 : Ob) (f : Nat) (a : Int) : rw_X8_isOpen_71 f (en_X8_isOpen_71 p1 p2 h0 a) = md_X8_isOpen_71 p1 p2 h0 f a :=
 tlp_enc (en_X8_isOpen_71 p1 p2 h0) (fun k71 a => (rq_X8_isOpen_71 p1 p2 h0 k71 a).trans (congrFun (congr (rfl : mg_X8_isOpen_71 p1 p2 h0 = mg_X8_isOpen_71 p1 p2 h0) rfl) a)) f a
theorem sd_X8_isOpen_71 (f : Nat) {X : XDyn} {r0 : Rt} (C : XO X mX8_isOpen) : XS X mX8_isOpen r0 71 (rw_X8_isOpen_71 f) := s_lp (fun k71 q71 => sg_X8_isOpen_71 C q71) f
noncomputable def rw_X8_isOpen_69 (f : Nat) : XK := rg_X8_isOpen_69 (rw_X8_isOpen_71 f)
noncomputable def md_X8_isOpen_69 (p1 : Int) (p2 : Int) (h0 : Ob) (f : Nat) : Unit → Option Rt := mg_X8_isOpen_69 p1 p2 h0 (md_X8_isOpen_71 p1 p2 h0 f)
theorem eq_X8_isOpen_69 (p1 : Int) (p2 : Int) (h0 : Ob) (f : Nat) (a : Unit) : rw_X8_isOpen_69 f (en_X8_isOpen_69 p1 p2 h0 a) = md_X8_isOpen_69 p1 p2 h0 f a :=
 (rq_X8_isOpen_69 p1 p2 h0 (rw_X8_isOpen_71 f) a).trans (congrFun (congr (rfl : mg_X8_isOpen_69 p1 p2 h0 = mg_X8_isOpen_69 p1 p2 h0) (funext (eq_X8_isOpen_71 p1 p2 h0 f))) a)
theorem sd_X8_isOpen_69 (f : Nat) {X : XDyn} {r0 : Rt} (C : XO X mX8_isOpen) : XS X mX8_isOpen r0 69 (rw_X8_isOpen_69 f) := sg_X8_isOpen_69 C (sd_X8_isOpen_71 f C)
noncomputable def rw_X8_isOpen_43 (f : Nat) : XK := rg_X8_isOpen_43 (rw_X8_isOpen_69 f)
noncomputable def md_X8_isOpen_43 (p1 : Int) (p2 : Int) (h0 : Ob) (f : Nat) : Unit → Option Rt := mg_X8_isOpen_43 p1 p2 h0 (md_X8_isOpen_69 p1 p2 h0 f)
theorem eq_X8_isOpen_43 (p1 : Int) (p2 : Int) (h0 : Ob) (f : Nat) (a : Unit) : rw_X8_isOpen_43 f (en_X8_isOpen_43 p1 p2 h0 a) = md_X8_isOpen_43 p1 p2 h0 f a :=
 (rq_X8_isOpen_43 p1 p2 h0 (rw_X8_isOpen_69 f) a).trans (congrFun (congr (rfl : mg_X8_isOpen_43 p1 p2 h0 = mg_X8_isOpen_43 p1 p2 h0) (funext (eq_X8_isOpen_69 p1 p2 h0 f))) a)
theorem sd_X8_isOpen_43 (f : Nat) {X : XDyn} {r0 : Rt} (C : XO X mX8_isOpen) : XS X mX8_isOpen r0 43 (rw_X8_isOpen_43 f) := sg_X8_isOpen_43 C (sd_X8_isOpen_69 f C)
noncomputable def rw_X8_isOpen_0 (f : Nat) : XK := rg_X8_isOpen_0 (rw_X8_isOpen_43 f)
noncomputable def md_X8_isOpen_0 (p1 : Int) (p2 : Int) (h0 : Ob) (f : Nat) : Unit → Option Rt := mg_X8_isOpen_0 p1 p2 h0 (md_X8_isOpen_43 p1 p2 h0 f)
theorem eq_X8_isOpen_0 (p1 : Int) (p2 : Int) (h0 : Ob) (f : Nat) (a : Unit) : rw_X8_isOpen_0 f (en_X8_isOpen_0 p1 p2 h0 a) = md_X8_isOpen_0 p1 p2 h0 f a :=
 (rq_X8_isOpen_0 p1 p2 h0 (rw_X8_isOpen_43 f) a).trans (congrFun (congr (rfl : mg_X8_isOpen_0 p1 p2 h0 = mg_X8_isOpen_0 p1 p2 h0) (funext (eq_X8_isOpen_43 p1 p2 h0 f))) a)
theorem sd_X8_isOpen_0 (f : Nat) {X : XDyn} {r0 : Rt} (C : XO X mX8_isOpen) : XS X mX8_isOpen r0 0 (rw_X8_isOpen_0 f) := sg_X8_isOpen_0 C (sd_X8_isOpen_43 f C)
theorem ctr_X8_isOpen (f : Nat) : XCt yX8_isOpen mX8_isOpen (xF mX8_isOpen (rw_X8_isOpen_0 f)) := xMet (by decide +kernel) rfl (fun _ _ C => sd_X8_isOpen_0 f C)
theorem eqf_X8_isOpen (f : Nat) (p1 : Int) (p2 : Int) (h0 : Ob) : xF mX8_isOpen (rw_X8_isOpen_0 f) [.inr (.inl (0, 0)), .inl p1, .inl p2] [h0] = md_X8_isOpen_0 p1 p2 h0 f () := eq_X8_isOpen_0 p1 p2 h0 f ()
theorem yi_X8_isOpen : yX8_isOpen.cls = RX8 ∧ yX8_isOpen.cls ≠ "java/lang/invoke/MethodHandle" ∧ yX8_isOpen.cls ≠ "java/lang/invoke/VarHandle" ∧ (parseMethodDescriptor yX8_isOpen.desc).map (fun d => d.parameters.length) = some 2 := ⟨rfl, by decide +kernel, by decide +kernel, by decide +kernel⟩
noncomputable def ov_X8_isOpen (p1 p2 : Int) (h0 : Ob) : Option Rt := xop (md_X8_isOpen_0 p1 p2 h0 xfu ())
theorem ov_X8_isOpen_e (p1 p2 : Int) (h0 : Ob) : ov_X8_isOpen p1 p2 h0 = md_X8_isOpen_0 p1 p2 h0 xfu () := xop_eq _
theorem sp_X8_isOpen (p1 p2 : Int) (h0 : Ob) (hg : pd (ov_X8_isOpen p1 p2 h0 = RI (oqR (ov_X8_isOpen p1 p2 h0)) [h0]) = true) : md_X8_isOpen_0 p1 p2 h0 xfu () = RI (oqR (ov_X8_isOpen p1 p2 h0)) [h0] := (ov_X8_isOpen_e p1 p2 h0).symm.trans (pd_of hg)
noncomputable def g_X8_isOpen : List AV → List Ob → Bool
  | [.inr (.inl (0, 0)), .inl p1, .inl p2], [h0] => pd (ov_X8_isOpen p1 p2 h0 = RI (oqR (ov_X8_isOpen p1 p2 h0)) [h0])
  | _, _ => false
noncomputable def v_X8_isOpen : List AV → List Ob → Rt
  | [.inr (.inl (0, 0)), .inl p1, .inl p2], [h0] => (some (.inl (oqR (ov_X8_isOpen p1 p2 h0))), [h0])
  | _, _ => (none, [])
theorem ct_X8_isOpen : XCt yX8_isOpen mX8_isOpen (fun as μ => if g_X8_isOpen as μ then some (v_X8_isOpen as μ) else none) := (ctr_X8_isOpen xfu).of (fun as μ r h => by
  split at h
  · rename_i hg
    unfold g_X8_isOpen at hg
    split at hg
    · rw [← h]
      exact (eqf_X8_isOpen xfu _ _ _).trans (sp_X8_isOpen _ _ _ hg)
    · cases hg
  · cases h)
theorem dX8_fillsWay_0 : decode cX8_fillsWay 0 = .ok (.aload_n 0, 1) := by decide +kernel
theorem dX8_fillsWay_1 : decode cX8_fillsWay 1 = .ok (.iconst 0, 1) := by decide +kernel
theorem dX8_fillsWay_2 : decode cX8_fillsWay 2 = .ok (.putfield 237, 3) := by decide +kernel
theorem dX8_fillsWay_5 : decode cX8_fillsWay 5 = .ok (.iload_n 1, 1) := by decide +kernel
theorem dX8_fillsWay_6 : decode cX8_fillsWay 6 = .ok (.istore_n 3, 1) := by decide +kernel
theorem dX8_fillsWay_7 : decode cX8_fillsWay 7 = .ok (.iload_n 3, 1) := by decide +kernel
theorem dX8_fillsWay_8 : decode cX8_fillsWay 8 = .ok (.iload_n 1, 1) := by decide +kernel
theorem dX8_fillsWay_9 : decode cX8_fillsWay 9 = .ok (.iload_n 2, 1) := by decide +kernel
theorem dX8_fillsWay_10 : decode cX8_fillsWay 10 = .ok (.iadd, 1) := by decide +kernel
theorem dX8_fillsWay_11 : decode cX8_fillsWay 11 = .ok (.if_icmp .ge 77, 3) := by decide +kernel
theorem dX8_fillsWay_14 : decode cX8_fillsWay 14 = .ok (.aload_n 0, 1) := by decide +kernel
theorem dX8_fillsWay_15 : decode cX8_fillsWay 15 = .ok (.getfield 19, 3) := by decide +kernel
theorem dX8_fillsWay_18 : decode cX8_fillsWay 18 = .ok (.iload_n 3, 1) := by decide +kernel
theorem dX8_fillsWay_19 : decode cX8_fillsWay 19 = .ok (.iaload, 1) := by decide +kernel
theorem dX8_fillsWay_20 : decode cX8_fillsWay 20 = .ok (.ifCond .eq 62, 3) := by decide +kernel
theorem dX8_fillsWay_23 : decode cX8_fillsWay 23 = .ok (.aload_n 0, 1) := by decide +kernel
theorem dX8_fillsWay_24 : decode cX8_fillsWay 24 = .ok (.getfield 237, 3) := by decide +kernel
theorem dX8_fillsWay_27 : decode cX8_fillsWay 27 = .ok (.ifCond .le 28, 3) := by decide +kernel
theorem dX8_fillsWay_30 : decode cX8_fillsWay 30 = .ok (.aload_n 0, 1) := by decide +kernel
theorem dX8_fillsWay_31 : decode cX8_fillsWay 31 = .ok (.getfield 56, 3) := by decide +kernel
theorem dX8_fillsWay_34 : decode cX8_fillsWay 34 = .ok (.aload_n 0, 1) := by decide +kernel
theorem dX8_fillsWay_35 : decode cX8_fillsWay 35 = .ok (.getfield 237, 3) := by decide +kernel
theorem dX8_fillsWay_38 : decode cX8_fillsWay 38 = .ok (.iconst 1, 1) := by decide +kernel
theorem dX8_fillsWay_39 : decode cX8_fillsWay 39 = .ok (.isub, 1) := by decide +kernel
theorem dX8_fillsWay_40 : decode cX8_fillsWay 40 = .ok (.iaload, 1) := by decide +kernel
theorem dX8_fillsWay_41 : decode cX8_fillsWay 41 = .ok (.aload_n 0, 1) := by decide +kernel
theorem dX8_fillsWay_42 : decode cX8_fillsWay 42 = .ok (.getfield 19, 3) := by decide +kernel
theorem dX8_fillsWay_45 : decode cX8_fillsWay 45 = .ok (.iload_n 3, 1) := by decide +kernel
theorem dX8_fillsWay_46 : decode cX8_fillsWay 46 = .ok (.iaload, 1) := by decide +kernel
theorem dX8_fillsWay_47 : decode cX8_fillsWay 47 = .ok (.iconst 1, 1) := by decide +kernel
theorem dX8_fillsWay_48 : decode cX8_fillsWay 48 = .ok (.isub, 1) := by decide +kernel
theorem dX8_fillsWay_49 : decode cX8_fillsWay 49 = .ok (.if_icmp .ne 6, 3) := by decide +kernel
theorem dX8_fillsWay_52 : decode cX8_fillsWay 52 = .ok (.goto 30, 3) := by decide +kernel
theorem dX8_fillsWay_55 : decode cX8_fillsWay 55 = .ok (.aload_n 0, 1) := by decide +kernel
theorem dX8_fillsWay_56 : decode cX8_fillsWay 56 = .ok (.getfield 56, 3) := by decide +kernel
theorem dX8_fillsWay_59 : decode cX8_fillsWay 59 = .ok (.aload_n 0, 1) := by decide +kernel
theorem dX8_fillsWay_60 : decode cX8_fillsWay 60 = .ok (.getfield 237, 3) := by decide +kernel
theorem dX8_fillsWay_63 : decode cX8_fillsWay 63 = .ok (.aload_n 0, 1) := by decide +kernel
theorem dX8_fillsWay_64 : decode cX8_fillsWay 64 = .ok (.getfield 19, 3) := by decide +kernel
theorem dX8_fillsWay_67 : decode cX8_fillsWay 67 = .ok (.iload_n 3, 1) := by decide +kernel
theorem dX8_fillsWay_68 : decode cX8_fillsWay 68 = .ok (.iaload, 1) := by decide +kernel
theorem dX8_fillsWay_69 : decode cX8_fillsWay 69 = .ok (.iconst 1, 1) := by decide +kernel
theorem dX8_fillsWay_70 : decode cX8_fillsWay 70 = .ok (.isub, 1) := by decide +kernel
theorem dX8_fillsWay_71 : decode cX8_fillsWay 71 = .ok (.iastore, 1) := by decide +kernel
theorem dX8_fillsWay_72 : decode cX8_fillsWay 72 = .ok (.aload_n 0, 1) := by decide +kernel
theorem dX8_fillsWay_73 : decode cX8_fillsWay 73 = .ok (.dup, 1) := by decide +kernel
theorem dX8_fillsWay_74 : decode cX8_fillsWay 74 = .ok (.getfield 237, 3) := by decide +kernel
theorem dX8_fillsWay_77 : decode cX8_fillsWay 77 = .ok (.iconst 1, 1) := by decide +kernel
theorem dX8_fillsWay_78 : decode cX8_fillsWay 78 = .ok (.iadd, 1) := by decide +kernel
theorem dX8_fillsWay_79 : decode cX8_fillsWay 79 = .ok (.putfield 237, 3) := by decide +kernel
theorem dX8_fillsWay_82 : decode cX8_fillsWay 82 = .ok (.iinc 3 1, 3) := by decide +kernel
theorem dX8_fillsWay_85 : decode cX8_fillsWay 85 = .ok (.goto (-78), 3) := by decide +kernel
theorem dX8_fillsWay_88 : decode cX8_fillsWay 88 = .ok (.return_, 1) := by decide +kernel
abbrev mX8_fillsWay : XM := (cX8_fillsWay, 4, RX8, none, shw_8, 0)
noncomputable def rg_X8_fillsWay_0 (k7 : XK) : XK :=
 o_aload 0 <|
 o_iconst 0 <|
 o_put shw_8 8 23 false <|
 o_iload 1 <|
 o_istore 3 <|
 o_cut [] k7
def en_X8_fillsWay_0 (p1 : Int) (p2 : Int) (a : Ob) : XSt := ([some (.inr (.inl (0, 0))), some (.inl p1), some (.inl p2), none], [], [a])
noncomputable def rg_X8_fillsWay_7 (k82 : XK) (k55 : XK) : XK :=
 o_iload 3 <|
 o_iload 1 <|
 o_iload 2 <|
 o_iadd <|
 o_icmp_ge (o_return)
 (o_aload 0 <|
 o_get shw_8 8 5 <|
 o_iload 3 <|
 o_iald shw_8 <|
 o_if_eq (o_cut [] k82)
 (o_aload 0 <|
 o_get shw_8 8 23 <|
 o_if_le (o_cut [] k55)
 (o_aload 0 <|
 o_get shw_8 8 22 <|
 o_aload 0 <|
 o_get shw_8 8 23 <|
 o_iconst 1 <|
 o_isub <|
 o_iald shw_8 <|
 o_aload 0 <|
 o_get shw_8 8 5 <|
 o_iload 3 <|
 o_iald shw_8 <|
 o_iconst 1 <|
 o_isub <|
 o_icmp_ne (o_cut [] k55)
 (o_cut [] k82))))
def en_X8_fillsWay_7 (p1 : Int) (p2 : Int) (a : Int × Ob) : XSt := ([some (.inr (.inl (0, 0))), some (.inl p1), some (.inl p2), some (.inl a.1)], [], [a.2])
noncomputable def rg_X8_fillsWay_55 (k82 : XK) : XK :=
 o_aload 0 <|
 o_get shw_8 8 22 <|
 o_aload 0 <|
 o_get shw_8 8 23 <|
 o_aload 0 <|
 o_get shw_8 8 5 <|
 o_iload 3 <|
 o_iald shw_8 <|
 o_iconst 1 <|
 o_isub <|
 o_iast shw_8 <|
 o_aload 0 <|
 o_dup <|
 o_get shw_8 8 23 <|
 o_iconst 1 <|
 o_iadd <|
 o_put shw_8 8 23 false <|
 o_cut [] k82
def en_X8_fillsWay_55 (p1 : Int) (p2 : Int) (a : Int × Ob) : XSt := ([some (.inr (.inl (0, 0))), some (.inl p1), some (.inl p2), some (.inl a.1)], [], [a.2])
noncomputable def rg_X8_fillsWay_82 (k7 : XK) : XK :=
 o_iinc 3 1 <|
 o_cut [] k7
def en_X8_fillsWay_82 (p1 : Int) (p2 : Int) (a : Int × Ob) : XSt := ([some (.inr (.inl (0, 0))), some (.inl p1), some (.inl p2), some (.inl a.1)], [], [a.2])
noncomputable def mg_X8_fillsWay_0 (p1 : Int) (p2 : Int) (k7 : (Int × Ob) → Option Rt) (a : Ob) : Option Rt :=
 k7 (p1, (xset a 0 23 0))
set_option maxRecDepth 100000 in
set_option maxHeartbeats 4000000 in
theorem rq_X8_fillsWay_0 (p1 : Int) (p2 : Int) (k7 : XK) (a : Ob) : rg_X8_fillsWay_0 k7 (en_X8_fillsWay_0 p1 p2 a) = mg_X8_fillsWay_0 p1 p2 (fun b => k7 (en_X8_fillsWay_7 p1 p2 b)) a := rfl
set_option maxRecDepth 100000 in
set_option maxHeartbeats 4000000 in
theorem sg_X8_fillsWay_0 {X : XDyn} {r0 : Rt} (C : XO X mX8_fillsWay) {k7 : XK} (q7 : XS X mX8_fillsWay r0 7 k7) : XS X mX8_fillsWay r0 0 (rg_X8_fillsWay_0 k7) := by
 unfold rg_X8_fillsWay_0
 exact s_aload_n (pc := 0) C dX8_fillsWay_0 rfl <|
    s_iconst (pc := 1) C dX8_fillsWay_1 <|
    s_put (pc := 2) (z := false) C (ci := 8) (kf := 23) rfl inX8 tyX8_ok nmX8 (by decide) wd_894 rfl rfl dX8_fillsWay_2 <|
    s_iload_n (pc := 5) C dX8_fillsWay_5 rfl <|
    s_istore_n (pc := 6) C dX8_fillsWay_6 rfl <|
    s_cut q7
noncomputable def mg_X8_fillsWay_7 (p1 : Int) (p2 : Int) (k82 : (Int × Ob) → Option Rt) (k55 : (Int × Ob) → Option Rt) (a : Int × Ob) : Option Rt :=
 if xw a.1 ≥ xw (p1 + p2) then (RV [a.2])
 else (if xin a.1 200 then (
 if xw (a.2 4 (xw a.1).toNat) = 0 then (k82 (a.1, a.2))
 else (if xw (a.2 0 23) ≤ 0 then (k55 (a.1, a.2))
 else (if xin ((a.2 0 23) - 1) 8 then (
 if xin a.1 200 then (
 if xw (a.2 16 (xw ((a.2 0 23) - 1)).toNat) = xw ((a.2 4 (xw a.1).toNat) - 1) then (k82 (a.1, a.2))
 else (k55 (a.1, a.2))) else none) else none))) else none)
set_option maxRecDepth 100000 in
set_option maxHeartbeats 4000000 in
theorem rq_X8_fillsWay_7 (p1 : Int) (p2 : Int) (k82 : XK) (k55 : XK) (a : Int × Ob) : rg_X8_fillsWay_7 k82 k55 (en_X8_fillsWay_7 p1 p2 a) = mg_X8_fillsWay_7 p1 p2 (fun b => k82 (en_X8_fillsWay_82 p1 p2 b)) (fun b => k55 (en_X8_fillsWay_55 p1 p2 b)) a := rfl
set_option maxRecDepth 100000 in
set_option maxHeartbeats 4000000 in
theorem sg_X8_fillsWay_7 {X : XDyn} {r0 : Rt} (C : XO X mX8_fillsWay) {k82 : XK} (q82 : XS X mX8_fillsWay r0 82 k82) {k55 : XK} (q55 : XS X mX8_fillsWay r0 55 k55) : XS X mX8_fillsWay r0 7 (rg_X8_fillsWay_7 k82 k55) := by
 unfold rg_X8_fillsWay_7
 exact s_iload_n (pc := 7) C dX8_fillsWay_7 rfl <|
    s_iload_n (pc := 8) C dX8_fillsWay_8 rfl <|
    s_iload_n (pc := 9) C dX8_fillsWay_9 rfl <|
    s_iadd (pc := 10) C dX8_fillsWay_10 <|
    s_icmp_ge (pc := 11) C dX8_fillsWay_11 (by decide) (s_return (pc := 88) C rfl dX8_fillsWay_88)
    (s_aload_n (pc := 14) C dX8_fillsWay_14 rfl <|
    s_get (pc := 15) C (ci := 8) (kf := 5) rfl inX8 (by decide) wd_876 dX8_fillsWay_15 <|
    s_iload_n (pc := 18) C dX8_fillsWay_18 rfl <|
    s_iald (pc := 19) C dX8_fillsWay_19 <|
    s_if_eq (pc := 20) C dX8_fillsWay_20 (by decide) (s_cut q82)
    (s_aload_n (pc := 23) C dX8_fillsWay_23 rfl <|
    s_get (pc := 24) C (ci := 8) (kf := 23) rfl inX8 (by decide) wd_894 dX8_fillsWay_24 <|
    s_if_le (pc := 27) C dX8_fillsWay_27 (by decide) (s_cut q55)
    (s_aload_n (pc := 30) C dX8_fillsWay_30 rfl <|
    s_get (pc := 31) C (ci := 8) (kf := 22) rfl inX8 (by decide) wd_893 dX8_fillsWay_31 <|
    s_aload_n (pc := 34) C dX8_fillsWay_34 rfl <|
    s_get (pc := 35) C (ci := 8) (kf := 23) rfl inX8 (by decide) wd_894 dX8_fillsWay_35 <|
    s_iconst (pc := 38) C dX8_fillsWay_38 <|
    s_isub (pc := 39) C dX8_fillsWay_39 <|
    s_iald (pc := 40) C dX8_fillsWay_40 <|
    s_aload_n (pc := 41) C dX8_fillsWay_41 rfl <|
    s_get (pc := 42) C (ci := 8) (kf := 5) rfl inX8 (by decide) wd_876 dX8_fillsWay_42 <|
    s_iload_n (pc := 45) C dX8_fillsWay_45 rfl <|
    s_iald (pc := 46) C dX8_fillsWay_46 <|
    s_iconst (pc := 47) C dX8_fillsWay_47 <|
    s_isub (pc := 48) C dX8_fillsWay_48 <|
    s_icmp_ne (pc := 49) C dX8_fillsWay_49 (by decide) (s_cut q55)
    (s_goto (pc := 52) C dX8_fillsWay_52 (by decide) <|
    s_cut q82))))
noncomputable def mg_X8_fillsWay_55 (p1 : Int) (p2 : Int) (k82 : (Int × Ob) → Option Rt) (a : Int × Ob) : Option Rt :=
 if xin a.1 200 then (
 if xin (a.2 0 23) 8 then (
 k82 (a.1, (xset (xset a.2 16 (xw (a.2 0 23)).toNat ((a.2 4 (xw a.1).toNat) - 1)) 0 23 (((xset a.2 16 (xw (a.2 0 23)).toNat ((a.2 4 (xw a.1).toNat) - 1)) 0 23) + 1)))) else none) else none
set_option maxRecDepth 100000 in
set_option maxHeartbeats 4000000 in
theorem rq_X8_fillsWay_55 (p1 : Int) (p2 : Int) (k82 : XK) (a : Int × Ob) : rg_X8_fillsWay_55 k82 (en_X8_fillsWay_55 p1 p2 a) = mg_X8_fillsWay_55 p1 p2 (fun b => k82 (en_X8_fillsWay_82 p1 p2 b)) a := rfl
set_option maxRecDepth 100000 in
set_option maxHeartbeats 4000000 in
theorem sg_X8_fillsWay_55 {X : XDyn} {r0 : Rt} (C : XO X mX8_fillsWay) {k82 : XK} (q82 : XS X mX8_fillsWay r0 82 k82) : XS X mX8_fillsWay r0 55 (rg_X8_fillsWay_55 k82) := by
 unfold rg_X8_fillsWay_55
 exact s_aload_n (pc := 55) C dX8_fillsWay_55 rfl <|
    s_get (pc := 56) C (ci := 8) (kf := 22) rfl inX8 (by decide) wd_893 dX8_fillsWay_56 <|
    s_aload_n (pc := 59) C dX8_fillsWay_59 rfl <|
    s_get (pc := 60) C (ci := 8) (kf := 23) rfl inX8 (by decide) wd_894 dX8_fillsWay_60 <|
    s_aload_n (pc := 63) C dX8_fillsWay_63 rfl <|
    s_get (pc := 64) C (ci := 8) (kf := 5) rfl inX8 (by decide) wd_876 dX8_fillsWay_64 <|
    s_iload_n (pc := 67) C dX8_fillsWay_67 rfl <|
    s_iald (pc := 68) C dX8_fillsWay_68 <|
    s_iconst (pc := 69) C dX8_fillsWay_69 <|
    s_isub (pc := 70) C dX8_fillsWay_70 <|
    s_iast (pc := 71) C dX8_fillsWay_71 <|
    s_aload_n (pc := 72) C dX8_fillsWay_72 rfl <|
    s_dup (pc := 73) C dX8_fillsWay_73 <|
    s_get (pc := 74) C (ci := 8) (kf := 23) rfl inX8 (by decide) wd_894 dX8_fillsWay_74 <|
    s_iconst (pc := 77) C dX8_fillsWay_77 <|
    s_iadd (pc := 78) C dX8_fillsWay_78 <|
    s_put (pc := 79) (z := false) C (ci := 8) (kf := 23) rfl inX8 tyX8_ok nmX8 (by decide) wd_894 rfl rfl dX8_fillsWay_79 <|
    s_cut q82
noncomputable def mg_X8_fillsWay_82 (p1 : Int) (p2 : Int) (k7 : (Int × Ob) → Option Rt) (a : Int × Ob) : Option Rt :=
 k7 ((a.1 + 1), a.2)
set_option maxRecDepth 100000 in
set_option maxHeartbeats 4000000 in
theorem rq_X8_fillsWay_82 (p1 : Int) (p2 : Int) (k7 : XK) (a : Int × Ob) : rg_X8_fillsWay_82 k7 (en_X8_fillsWay_82 p1 p2 a) = mg_X8_fillsWay_82 p1 p2 (fun b => k7 (en_X8_fillsWay_7 p1 p2 b)) a := rfl
set_option maxRecDepth 100000 in
set_option maxHeartbeats 4000000 in
theorem sg_X8_fillsWay_82 {X : XDyn} {r0 : Rt} (C : XO X mX8_fillsWay) {k7 : XK} (q7 : XS X mX8_fillsWay r0 7 k7) : XS X mX8_fillsWay r0 82 (rg_X8_fillsWay_82 k7) := by
 unfold rg_X8_fillsWay_82
 exact s_iinc (pc := 82) C dX8_fillsWay_82 <|
    s_goto (pc := 85) C dX8_fillsWay_85 (by decide) <|
    s_cut q7
noncomputable def rw_X8_fillsWay_82 (f : Nat) (k7 : XK) : XK := rg_X8_fillsWay_82 k7
noncomputable def md_X8_fillsWay_82 (p1 : Int) (p2 : Int) (f : Nat) (k7 : (Int × Ob) → Option Rt) : Int × Ob → Option Rt := mg_X8_fillsWay_82 p1 p2 k7
theorem eq_X8_fillsWay_82 (p1 : Int) (p2 : Int) (f : Nat) (k7 : XK) (a : Int × Ob) : rw_X8_fillsWay_82 f k7 (en_X8_fillsWay_82 p1 p2 a) = md_X8_fillsWay_82 p1 p2 f (fun b => k7 (en_X8_fillsWay_7 p1 p2 b)) a :=
 (rq_X8_fillsWay_82 p1 p2 k7 a).trans (congrFun (congr (rfl : mg_X8_fillsWay_82 p1 p2 = mg_X8_fillsWay_82 p1 p2) rfl) a)
theorem sd_X8_fillsWay_82 (f : Nat) {X : XDyn} {r0 : Rt} (C : XO X mX8_fillsWay) {k7 : XK} (q7 : XS X mX8_fillsWay r0 7 k7) : XS X mX8_fillsWay r0 82 (rw_X8_fillsWay_82 f k7) := sg_X8_fillsWay_82 C q7
noncomputable def rw_X8_fillsWay_55 (f : Nat) (k7 : XK) : XK := rg_X8_fillsWay_55 (rw_X8_fillsWay_82 f k7)
noncomputable def md_X8_fillsWay_55 (p1 : Int) (p2 : Int) (f : Nat) (k7 : (Int × Ob) → Option Rt) : Int × Ob → Option Rt := mg_X8_fillsWay_55 p1 p2 (md_X8_fillsWay_82 p1 p2 f k7)
theorem eq_X8_fillsWay_55 (p1 : Int) (p2 : Int) (f : Nat) (k7 : XK) (a : Int × Ob) : rw_X8_fillsWay_55 f k7 (en_X8_fillsWay_55 p1 p2 a) = md_X8_fillsWay_55 p1 p2 f (fun b => k7 (en_X8_fillsWay_7 p1 p2 b)) a :=
 (rq_X8_fillsWay_55 p1 p2 (rw_X8_fillsWay_82 f k7) a).trans (congrFun (congr (rfl : mg_X8_fillsWay_55 p1 p2 = mg_X8_fillsWay_55 p1 p2) (funext (eq_X8_fillsWay_82 p1 p2 f k7))) a)
theorem sd_X8_fillsWay_55 (f : Nat) {X : XDyn} {r0 : Rt} (C : XO X mX8_fillsWay) {k7 : XK} (q7 : XS X mX8_fillsWay r0 7 k7) : XS X mX8_fillsWay r0 55 (rw_X8_fillsWay_55 f k7) := sg_X8_fillsWay_55 C (sd_X8_fillsWay_82 f C q7)
noncomputable def rw_X8_fillsWay_7 (f : Nat) : XK := tlp (fun k7 => rg_X8_fillsWay_7 (rw_X8_fillsWay_82 f k7) (rw_X8_fillsWay_55 f k7)) f
noncomputable def lb_X8_fillsWay_7 (p1 : Int) (p2 : Int) (f : Nat) : ((Int × Ob) → Option Rt) → Int × Ob → Option Rt := fun k7 => mg_X8_fillsWay_7 p1 p2 (md_X8_fillsWay_82 p1 p2 f k7) (md_X8_fillsWay_55 p1 p2 f k7)
noncomputable def md_X8_fillsWay_7 (p1 : Int) (p2 : Int) (f : Nat) : Int × Ob → Option Rt := tlp (lb_X8_fillsWay_7 p1 p2 f) f
theorem eq_X8_fillsWay_7 (p1 : Int) (p2 : Int) (f : Nat) (a : Int × Ob) : rw_X8_fillsWay_7 f (en_X8_fillsWay_7 p1 p2 a) = md_X8_fillsWay_7 p1 p2 f a :=
 tlp_enc (en_X8_fillsWay_7 p1 p2) (fun k7 a => (rq_X8_fillsWay_7 p1 p2 (rw_X8_fillsWay_82 f k7) (rw_X8_fillsWay_55 f k7) a).trans (congrFun (congr (congr (rfl : mg_X8_fillsWay_7 p1 p2 = mg_X8_fillsWay_7 p1 p2) (funext (eq_X8_fillsWay_82 p1 p2 f k7))) (funext (eq_X8_fillsWay_55 p1 p2 f k7))) a)) f a
theorem sd_X8_fillsWay_7 (f : Nat) {X : XDyn} {r0 : Rt} (C : XO X mX8_fillsWay) : XS X mX8_fillsWay r0 7 (rw_X8_fillsWay_7 f) := s_lp (fun k7 q7 => sg_X8_fillsWay_7 C (sd_X8_fillsWay_82 f C q7) (sd_X8_fillsWay_55 f C q7)) f
noncomputable def rw_X8_fillsWay_0 (f : Nat) : XK := rg_X8_fillsWay_0 (rw_X8_fillsWay_7 f)
noncomputable def md_X8_fillsWay_0 (p1 : Int) (p2 : Int) (f : Nat) : Ob → Option Rt := mg_X8_fillsWay_0 p1 p2 (md_X8_fillsWay_7 p1 p2 f)
theorem eq_X8_fillsWay_0 (p1 : Int) (p2 : Int) (f : Nat) (a : Ob) : rw_X8_fillsWay_0 f (en_X8_fillsWay_0 p1 p2 a) = md_X8_fillsWay_0 p1 p2 f a :=
 (rq_X8_fillsWay_0 p1 p2 (rw_X8_fillsWay_7 f) a).trans (congrFun (congr (rfl : mg_X8_fillsWay_0 p1 p2 = mg_X8_fillsWay_0 p1 p2) (funext (eq_X8_fillsWay_7 p1 p2 f))) a)
theorem sd_X8_fillsWay_0 (f : Nat) {X : XDyn} {r0 : Rt} (C : XO X mX8_fillsWay) : XS X mX8_fillsWay r0 0 (rw_X8_fillsWay_0 f) := sg_X8_fillsWay_0 C (sd_X8_fillsWay_7 f C)
theorem ctr_X8_fillsWay (f : Nat) : XCt yX8_fillsWay mX8_fillsWay (xF mX8_fillsWay (rw_X8_fillsWay_0 f)) := xMet (by decide +kernel) rfl (fun _ _ C => sd_X8_fillsWay_0 f C)
theorem eqf_X8_fillsWay (f : Nat) (p1 : Int) (p2 : Int) (h0 : Ob) : xF mX8_fillsWay (rw_X8_fillsWay_0 f) [.inr (.inl (0, 0)), .inl p1, .inl p2] [h0] = md_X8_fillsWay_0 p1 p2 f h0 := eq_X8_fillsWay_0 p1 p2 f h0
theorem yi_X8_fillsWay : yX8_fillsWay.cls = RX8 ∧ yX8_fillsWay.cls ≠ "java/lang/invoke/MethodHandle" ∧ yX8_fillsWay.cls ≠ "java/lang/invoke/VarHandle" ∧ (parseMethodDescriptor yX8_fillsWay.desc).map (fun d => d.parameters.length) = some 2 := ⟨rfl, by decide +kernel, by decide +kernel, by decide +kernel⟩
noncomputable def ov_X8_fillsWay (p1 p2 : Int) (h0 : Ob) : Option Rt := xop (md_X8_fillsWay_0 p1 p2 xfu h0)
theorem ov_X8_fillsWay_e (p1 p2 : Int) (h0 : Ob) : ov_X8_fillsWay p1 p2 h0 = md_X8_fillsWay_0 p1 p2 xfu h0 := xop_eq _
theorem sp_X8_fillsWay (p1 p2 : Int) (h0 : Ob) (hg : oqV (ov_X8_fillsWay p1 p2 h0) = true) : md_X8_fillsWay_0 p1 p2 xfu h0 = RV [(oqO (ov_X8_fillsWay p1 p2 h0) 0)] := (ov_X8_fillsWay_e p1 p2 h0).symm.trans (oqV_eq hg)
noncomputable def g_X8_fillsWay : List AV → List Ob → Bool
  | [.inr (.inl (0, 0)), .inl p1, .inl p2], [h0] => oqV (ov_X8_fillsWay p1 p2 h0)
  | _, _ => false
noncomputable def v_X8_fillsWay : List AV → List Ob → Rt
  | [.inr (.inl (0, 0)), .inl p1, .inl p2], [h0] => (none, [(oqO (ov_X8_fillsWay p1 p2 h0) 0)])
  | _, _ => (none, [])
theorem ct_X8_fillsWay : XCt yX8_fillsWay mX8_fillsWay (fun as μ => if g_X8_fillsWay as μ then some (v_X8_fillsWay as μ) else none) := (ctr_X8_fillsWay xfu).of (fun as μ r h => by
  split at h
  · rename_i hg
    unfold g_X8_fillsWay at hg
    split at hg
    · rw [← h]
      exact (eqf_X8_fillsWay xfu _ _ _).trans (sp_X8_fillsWay _ _ _ hg)
    · cases hg
  · cases h)
theorem dX8_clears_0 : decode cX8_clears 0 = .ok (.aload_n 0, 1) := by decide +kernel
theorem dX8_clears_1 : decode cX8_clears 1 = .ok (.iload_n 1, 1) := by decide +kernel
theorem dX8_clears_2 : decode cX8_clears 2 = .ok (.iload_n 2, 1) := by decide +kernel
theorem dX8_clears_3 : decode cX8_clears 3 = .ok (.invokevirtual 240, 3) := by decide +kernel
theorem dX8_clears_6 : decode cX8_clears 6 = .ok (.iconst 0, 1) := by decide +kernel
theorem dX8_clears_7 : decode cX8_clears 7 = .ok (.istore_n 3, 1) := by decide +kernel
theorem dX8_clears_8 : decode cX8_clears 8 = .ok (.iload_n 3, 1) := by decide +kernel
theorem dX8_clears_9 : decode cX8_clears 9 = .ok (.aload_n 0, 1) := by decide +kernel
theorem dX8_clears_10 : decode cX8_clears 10 = .ok (.getfield 237, 3) := by decide +kernel
theorem dX8_clears_13 : decode cX8_clears 13 = .ok (.if_icmp .ge 46, 3) := by decide +kernel
theorem dX8_clears_16 : decode cX8_clears 16 = .ok (.aload_n 0, 1) := by decide +kernel
theorem dX8_clears_17 : decode cX8_clears 17 = .ok (.aload_n 0, 1) := by decide +kernel
theorem dX8_clears_18 : decode cX8_clears 18 = .ok (.getfield 56, 3) := by decide +kernel
theorem dX8_clears_21 : decode cX8_clears 21 = .ok (.iload_n 3, 1) := by decide +kernel
theorem dX8_clears_22 : decode cX8_clears 22 = .ok (.iaload, 1) := by decide +kernel
theorem dX8_clears_23 : decode cX8_clears 23 = .ok (.iload_n 1, 1) := by decide +kernel
theorem dX8_clears_24 : decode cX8_clears 24 = .ok (.iload_n 2, 1) := by decide +kernel
theorem dX8_clears_25 : decode cX8_clears 25 = .ok (.invokevirtual 230, 3) := by decide +kernel
theorem dX8_clears_28 : decode cX8_clears 28 = .ok (.istore 4, 2) := by decide +kernel
theorem dX8_clears_30 : decode cX8_clears 30 = .ok (.iload 4, 2) := by decide +kernel
theorem dX8_clears_32 : decode cX8_clears 32 = .ok (.ifCond .ge 5, 3) := by decide +kernel
theorem dX8_clears_35 : decode cX8_clears 35 = .ok (.iconst 0, 1) := by decide +kernel
theorem dX8_clears_36 : decode cX8_clears 36 = .ok (.ireturn, 1) := by decide +kernel
theorem dX8_clears_37 : decode cX8_clears 37 = .ok (.aload_n 0, 1) := by decide +kernel
theorem dX8_clears_38 : decode cX8_clears 38 = .ok (.getfield 7, 3) := by decide +kernel
theorem dX8_clears_41 : decode cX8_clears 41 = .ok (.bipush 13, 2) := by decide +kernel
theorem dX8_clears_43 : decode cX8_clears 43 = .ok (.aload_n 0, 1) := by decide +kernel
theorem dX8_clears_44 : decode cX8_clears 44 = .ok (.getfield 56, 3) := by decide +kernel
theorem dX8_clears_47 : decode cX8_clears 47 = .ok (.iload_n 3, 1) := by decide +kernel
theorem dX8_clears_48 : decode cX8_clears 48 = .ok (.iaload, 1) := by decide +kernel
theorem dX8_clears_49 : decode cX8_clears 49 = .ok (.iadd, 1) := by decide +kernel
theorem dX8_clears_50 : decode cX8_clears 50 = .ok (.iload 4, 2) := by decide +kernel
theorem dX8_clears_52 : decode cX8_clears 52 = .ok (.iastore, 1) := by decide +kernel
theorem dX8_clears_53 : decode cX8_clears 53 = .ok (.iinc 3 1, 3) := by decide +kernel
theorem dX8_clears_56 : decode cX8_clears 56 = .ok (.goto (-48), 3) := by decide +kernel
theorem dX8_clears_59 : decode cX8_clears 59 = .ok (.iconst 1, 1) := by decide +kernel
theorem dX8_clears_60 : decode cX8_clears 60 = .ok (.ireturn, 1) := by decide +kernel
abbrev mX8_clears : XM := (cX8_clears, 5, RX8, (some .boolean), shw_8, 4)
noncomputable def rg_X8_clears_0 (k8 : XK) : XK :=
 o_aload 0 <|
 o_iload 1 <|
 o_iload 2 <|
 o_callVg 3 0 [0] g_X8_fillsWay v_X8_fillsWay <|
 o_iconst 0 <|
 o_istore 3 <|
 o_cut [] k8
def en_X8_clears_0 (p1 : Int) (p2 : Int) (a : Ob) : XSt := ([some (.inr (.inl (0, 0))), some (.inl p1), some (.inl p2), none, none], [], [a])
noncomputable def rg_X8_clears_8 (k8 : XK) : XK :=
 o_iload 3 <|
 o_aload 0 <|
 o_get shw_8 8 23 <|
 o_icmp_ge (o_iconst 1 <|
 o_zreturn)
 (o_aload 0 <|
 o_aload 0 <|
 o_get shw_8 8 22 <|
 o_iload 3 <|
 o_iald shw_8 <|
 o_iload 1 <|
 o_iload 2 <|
 o_callVg 4 1 [0] g_X8_highest v_X8_highest <|
 o_istore 4 <|
 o_iload 4 <|
 o_if_ge (o_aload 0 <|
 o_get shw_8 8 0 <|
 o_iconst 13 <|
 o_aload 0 <|
 o_get shw_8 8 22 <|
 o_iload 3 <|
 o_iald shw_8 <|
 o_iadd <|
 o_iload 4 <|
 o_iast shw_8 <|
 o_iinc 3 1 <|
 o_cut [4] k8)
 (o_iconst 0 <|
 o_zreturn))
def en_X8_clears_8 (p1 : Int) (p2 : Int) (a : Int × Ob) : XSt := ([some (.inr (.inl (0, 0))), some (.inl p1), some (.inl p2), some (.inl a.1), none], [], [a.2])
noncomputable def mg_X8_clears_0 (p1 : Int) (p2 : Int) (k8 : (Int × Ob) → Option Rt) (a : Ob) : Option Rt :=
 if oqV (ov_X8_fillsWay p1 p2 a) then (
 k8 (0, (oqO (ov_X8_fillsWay p1 p2 a) 0))) else none
set_option maxRecDepth 100000 in
set_option maxHeartbeats 4000000 in
theorem rq_X8_clears_0 (p1 : Int) (p2 : Int) (k8 : XK) (a : Ob) : rg_X8_clears_0 k8 (en_X8_clears_0 p1 p2 a) = mg_X8_clears_0 p1 p2 (fun b => k8 (en_X8_clears_8 p1 p2 b)) a := rfl
set_option maxRecDepth 100000 in
set_option maxHeartbeats 4000000 in
theorem sg_X8_clears_0 {X : XDyn} {r0 : Rt} (C : XO X mX8_clears) {k8 : XK} (q8 : XS X mX8_clears r0 8 k8) : XS X mX8_clears r0 0 (rg_X8_clears_0 k8) := by
 unfold rg_X8_clears_0
 exact s_aload_n (pc := 0) C dX8_clears_0 rfl <|
    s_iload_n (pc := 1) C dX8_clears_1 rfl <|
    s_iload_n (pc := 2) C dX8_clears_2 rfl <|
    s_callVg (pc := 3) C ct_X8_fillsWay (n := 3) (rk := 0) (mp := [0]) ⟨rfl, by decide, rfl⟩ (ci := 8) rfl rfl (by decide) (by decide) yi_X8_fillsWay (by decide) wd_1197 wd_1199 wd_62 wd_81 wd_1200 dX8_clears_3 <|
    s_iconst (pc := 6) C dX8_clears_6 <|
    s_istore_n (pc := 7) C dX8_clears_7 rfl <|
    s_cut q8
noncomputable def mg_X8_clears_8 (p1 : Int) (p2 : Int) (k8 : (Int × Ob) → Option Rt) (a : Int × Ob) : Option Rt :=
 if xw a.1 ≥ xw (a.2 0 23) then (RI 1 [a.2])
 else (if xin a.1 8 then (
 if oqI (ov_X8_highest (a.2 16 (xw a.1).toNat) p1 p2 a.2) then (
 if xw (oqR (ov_X8_highest (a.2 16 (xw a.1).toNat) p1 p2 a.2)) ≥ 0 then (if xin a.1 8 then (
 if xin (13 + ((oqO (ov_X8_highest (a.2 16 (xw a.1).toNat) p1 p2 a.2) 0) 16 (xw a.1).toNat)) 735 then (
 k8 ((a.1 + 1), (xset (oqO (ov_X8_highest (a.2 16 (xw a.1).toNat) p1 p2 a.2) 0) 1 (xw (13 + ((oqO (ov_X8_highest (a.2 16 (xw a.1).toNat) p1 p2 a.2) 0) 16 (xw a.1).toNat))).toNat (oqR (ov_X8_highest (a.2 16 (xw a.1).toNat) p1 p2 a.2))))) else none) else none)
 else (RI 0 [(oqO (ov_X8_highest (a.2 16 (xw a.1).toNat) p1 p2 a.2) 0)])) else none) else none)
set_option maxRecDepth 100000 in
set_option maxHeartbeats 4000000 in
theorem rq_X8_clears_8 (p1 : Int) (p2 : Int) (k8 : XK) (a : Int × Ob) : rg_X8_clears_8 k8 (en_X8_clears_8 p1 p2 a) = mg_X8_clears_8 p1 p2 (fun b => k8 (en_X8_clears_8 p1 p2 b)) a := rfl
set_option maxRecDepth 100000 in
set_option maxHeartbeats 4000000 in
theorem sg_X8_clears_8 {X : XDyn} {r0 : Rt} (C : XO X mX8_clears) {k8 : XK} (q8 : XS X mX8_clears r0 8 k8) : XS X mX8_clears r0 8 (rg_X8_clears_8 k8) := by
 unfold rg_X8_clears_8
 exact s_iload_n (pc := 8) C dX8_clears_8 rfl <|
    s_aload_n (pc := 9) C dX8_clears_9 rfl <|
    s_get (pc := 10) C (ci := 8) (kf := 23) rfl inX8 (by decide) wd_894 dX8_clears_10 <|
    s_icmp_ge (pc := 13) C dX8_clears_13 (by decide) (s_iconst (pc := 59) C dX8_clears_59 <|
    s_zreturn (pc := 60) C rfl dX8_clears_60)
    (s_aload_n (pc := 16) C dX8_clears_16 rfl <|
    s_aload_n (pc := 17) C dX8_clears_17 rfl <|
    s_get (pc := 18) C (ci := 8) (kf := 22) rfl inX8 (by decide) wd_893 dX8_clears_18 <|
    s_iload_n (pc := 21) C dX8_clears_21 rfl <|
    s_iald (pc := 22) C dX8_clears_22 <|
    s_iload_n (pc := 23) C dX8_clears_23 rfl <|
    s_iload_n (pc := 24) C dX8_clears_24 rfl <|
    s_callVg (pc := 25) C ct_X8_highest (n := 4) (rk := 1) (mp := [0]) ⟨rfl, by decide, rfl⟩ (ci := 8) rfl rfl (by decide) (by decide) yi_X8_highest (by decide) wd_1149 wd_1151 wd_57 wd_81 wd_1152 dX8_clears_25 <|
    s_istore (pc := 28) C dX8_clears_28 <|
    s_iload (pc := 30) C dX8_clears_30 <|
    s_if_ge (pc := 32) C dX8_clears_32 (by decide) (s_aload_n (pc := 37) C dX8_clears_37 rfl <|
    s_get (pc := 38) C (ci := 8) (kf := 0) rfl inX8 (by decide) wd_871 dX8_clears_38 <|
    s_bipush (pc := 41) C dX8_clears_41 (by decide) <|
    s_aload_n (pc := 43) C dX8_clears_43 rfl <|
    s_get (pc := 44) C (ci := 8) (kf := 22) rfl inX8 (by decide) wd_893 dX8_clears_44 <|
    s_iload_n (pc := 47) C dX8_clears_47 rfl <|
    s_iald (pc := 48) C dX8_clears_48 <|
    s_iadd (pc := 49) C dX8_clears_49 <|
    s_iload (pc := 50) C dX8_clears_50 <|
    s_iast (pc := 52) C dX8_clears_52 <|
    s_iinc (pc := 53) C dX8_clears_53 <|
    s_goto (pc := 56) C dX8_clears_56 (by decide) <|
    s_cut q8)
    (s_iconst (pc := 35) C dX8_clears_35 <|
    s_zreturn (pc := 36) C rfl dX8_clears_36))
noncomputable def rw_X8_clears_8 (f : Nat) : XK := tlp (fun k8 => rg_X8_clears_8 k8) f
noncomputable def lb_X8_clears_8 (p1 : Int) (p2 : Int) (f : Nat) : ((Int × Ob) → Option Rt) → Int × Ob → Option Rt := fun k8 => mg_X8_clears_8 p1 p2 k8
noncomputable def md_X8_clears_8 (p1 : Int) (p2 : Int) (f : Nat) : Int × Ob → Option Rt := tlp (lb_X8_clears_8 p1 p2 f) f
theorem eq_X8_clears_8 (p1 : Int) (p2 : Int) (f : Nat) (a : Int × Ob) : rw_X8_clears_8 f (en_X8_clears_8 p1 p2 a) = md_X8_clears_8 p1 p2 f a :=
 tlp_enc (en_X8_clears_8 p1 p2) (fun k8 a => (rq_X8_clears_8 p1 p2 k8 a).trans (congrFun (congr (rfl : mg_X8_clears_8 p1 p2 = mg_X8_clears_8 p1 p2) rfl) a)) f a
theorem sd_X8_clears_8 (f : Nat) {X : XDyn} {r0 : Rt} (C : XO X mX8_clears) : XS X mX8_clears r0 8 (rw_X8_clears_8 f) := s_lp (fun k8 q8 => sg_X8_clears_8 C q8) f
noncomputable def rw_X8_clears_0 (f : Nat) : XK := rg_X8_clears_0 (rw_X8_clears_8 f)
noncomputable def md_X8_clears_0 (p1 : Int) (p2 : Int) (f : Nat) : Ob → Option Rt := mg_X8_clears_0 p1 p2 (md_X8_clears_8 p1 p2 f)
theorem eq_X8_clears_0 (p1 : Int) (p2 : Int) (f : Nat) (a : Ob) : rw_X8_clears_0 f (en_X8_clears_0 p1 p2 a) = md_X8_clears_0 p1 p2 f a :=
 (rq_X8_clears_0 p1 p2 (rw_X8_clears_8 f) a).trans (congrFun (congr (rfl : mg_X8_clears_0 p1 p2 = mg_X8_clears_0 p1 p2) (funext (eq_X8_clears_8 p1 p2 f))) a)
theorem sd_X8_clears_0 (f : Nat) {X : XDyn} {r0 : Rt} (C : XO X mX8_clears) : XS X mX8_clears r0 0 (rw_X8_clears_0 f) := sg_X8_clears_0 C (sd_X8_clears_8 f C)
theorem ctr_X8_clears (f : Nat) : XCt yX8_clears mX8_clears (xF mX8_clears (rw_X8_clears_0 f)) := xMet (by decide +kernel) rfl (fun _ _ C => sd_X8_clears_0 f C)
theorem eqf_X8_clears (f : Nat) (p1 : Int) (p2 : Int) (h0 : Ob) : xF mX8_clears (rw_X8_clears_0 f) [.inr (.inl (0, 0)), .inl p1, .inl p2] [h0] = md_X8_clears_0 p1 p2 f h0 := eq_X8_clears_0 p1 p2 f h0
theorem yi_X8_clears : yX8_clears.cls = RX8 ∧ yX8_clears.cls ≠ "java/lang/invoke/MethodHandle" ∧ yX8_clears.cls ≠ "java/lang/invoke/VarHandle" ∧ (parseMethodDescriptor yX8_clears.desc).map (fun d => d.parameters.length) = some 2 := ⟨rfl, by decide +kernel, by decide +kernel, by decide +kernel⟩
noncomputable def ov_X8_clears (p1 p2 : Int) (h0 : Ob) : Option Rt := xop (md_X8_clears_0 p1 p2 xfu h0)
theorem ov_X8_clears_e (p1 p2 : Int) (h0 : Ob) : ov_X8_clears p1 p2 h0 = md_X8_clears_0 p1 p2 xfu h0 := xop_eq _
theorem sp_X8_clears (p1 p2 : Int) (h0 : Ob) (hg : oqI (ov_X8_clears p1 p2 h0) = true) : md_X8_clears_0 p1 p2 xfu h0 = RI (oqR (ov_X8_clears p1 p2 h0)) [(oqO (ov_X8_clears p1 p2 h0) 0)] := (ov_X8_clears_e p1 p2 h0).symm.trans (oqI_eq hg)
noncomputable def g_X8_clears : List AV → List Ob → Bool
  | [.inr (.inl (0, 0)), .inl p1, .inl p2], [h0] => oqI (ov_X8_clears p1 p2 h0)
  | _, _ => false
noncomputable def v_X8_clears : List AV → List Ob → Rt
  | [.inr (.inl (0, 0)), .inl p1, .inl p2], [h0] => (some (.inl (oqR (ov_X8_clears p1 p2 h0))), [(oqO (ov_X8_clears p1 p2 h0) 0)])
  | _, _ => (none, [])
theorem ct_X8_clears : XCt yX8_clears mX8_clears (fun as μ => if g_X8_clears as μ then some (v_X8_clears as μ) else none) := (ctr_X8_clears xfu).of (fun as μ r h => by
  split at h
  · rename_i hg
    unfold g_X8_clears at hg
    split at hg
    · rw [← h]
      exact (eqf_X8_clears xfu _ _ _).trans (sp_X8_clears _ _ _ hg)
    · cases hg
  · cases h)
theorem dX8_clearsFirst_0 : decode cX8_clearsFirst 0 = .ok (.aload_n 0, 1) := by decide +kernel
theorem dX8_clearsFirst_1 : decode cX8_clearsFirst 1 = .ok (.invokevirtual 109, 3) := by decide +kernel
theorem dX8_clearsFirst_4 : decode cX8_clearsFirst 4 = .ok (.iconst 0, 1) := by decide +kernel
theorem dX8_clearsFirst_5 : decode cX8_clearsFirst 5 = .ok (.istore_n 2, 1) := by decide +kernel
theorem dX8_clearsFirst_6 : decode cX8_clearsFirst 6 = .ok (.iload_n 2, 1) := by decide +kernel
theorem dX8_clearsFirst_7 : decode cX8_clearsFirst 7 = .ok (.aload_n 0, 1) := by decide +kernel
theorem dX8_clearsFirst_8 : decode cX8_clearsFirst 8 = .ok (.getfield 7, 3) := by decide +kernel
theorem dX8_clearsFirst_11 : decode cX8_clearsFirst 11 = .ok (.iconst 0, 1) := by decide +kernel
theorem dX8_clearsFirst_12 : decode cX8_clearsFirst 12 = .ok (.iaload, 1) := by decide +kernel
theorem dX8_clearsFirst_13 : decode cX8_clearsFirst 13 = .ok (.if_icmp .ge 40, 3) := by decide +kernel
theorem dX8_clearsFirst_16 : decode cX8_clearsFirst 16 = .ok (.aload_n 0, 1) := by decide +kernel
theorem dX8_clearsFirst_17 : decode cX8_clearsFirst 17 = .ok (.iload_n 2, 1) := by decide +kernel
theorem dX8_clearsFirst_18 : decode cX8_clearsFirst 18 = .ok (.iload_n 1, 1) := by decide +kernel
theorem dX8_clearsFirst_19 : decode cX8_clearsFirst 19 = .ok (.invokevirtual 243, 3) := by decide +kernel
theorem dX8_clearsFirst_22 : decode cX8_clearsFirst 22 = .ok (.ifCond .ne 6, 3) := by decide +kernel
theorem dX8_clearsFirst_25 : decode cX8_clearsFirst 25 = .ok (.goto 22, 3) := by decide +kernel
theorem dX8_clearsFirst_28 : decode cX8_clearsFirst 28 = .ok (.aload_n 0, 1) := by decide +kernel
theorem dX8_clearsFirst_29 : decode cX8_clearsFirst 29 = .ok (.iload_n 2, 1) := by decide +kernel
theorem dX8_clearsFirst_30 : decode cX8_clearsFirst 30 = .ok (.iload_n 1, 1) := by decide +kernel
theorem dX8_clearsFirst_31 : decode cX8_clearsFirst 31 = .ok (.invokevirtual 246, 3) := by decide +kernel
theorem dX8_clearsFirst_34 : decode cX8_clearsFirst 34 = .ok (.ifCond .eq 5, 3) := by decide +kernel
theorem dX8_clearsFirst_37 : decode cX8_clearsFirst 37 = .ok (.iload_n 2, 1) := by decide +kernel
theorem dX8_clearsFirst_38 : decode cX8_clearsFirst 38 = .ok (.ireturn, 1) := by decide +kernel
theorem dX8_clearsFirst_39 : decode cX8_clearsFirst 39 = .ok (.aload_n 0, 1) := by decide +kernel
theorem dX8_clearsFirst_40 : decode cX8_clearsFirst 40 = .ok (.invokevirtual 215, 3) := by decide +kernel
theorem dX8_clearsFirst_43 : decode cX8_clearsFirst 43 = .ok (.aload_n 0, 1) := by decide +kernel
theorem dX8_clearsFirst_44 : decode cX8_clearsFirst 44 = .ok (.invokevirtual 109, 3) := by decide +kernel
theorem dX8_clearsFirst_47 : decode cX8_clearsFirst 47 = .ok (.iinc 2 1, 3) := by decide +kernel
theorem dX8_clearsFirst_50 : decode cX8_clearsFirst 50 = .ok (.goto (-44), 3) := by decide +kernel
theorem dX8_clearsFirst_53 : decode cX8_clearsFirst 53 = .ok (.iconst (-1), 1) := by decide +kernel
theorem dX8_clearsFirst_54 : decode cX8_clearsFirst 54 = .ok (.ireturn, 1) := by decide +kernel
abbrev mX8_clearsFirst : XM := (cX8_clearsFirst, 3, RX8, (some .int), shw_8, 5)
noncomputable def rg_X8_clearsFirst_0 (k6 : XK) : XK :=
 o_aload 0 <|
 o_callVg 1 0 [0] g_X8_fillsOwners v_X8_fillsOwners <|
 o_iconst 0 <|
 o_istore 2 <|
 o_cut [] k6
def en_X8_clearsFirst_0 (p1 : Int) (a : Ob) : XSt := ([some (.inr (.inl (0, 0))), some (.inl p1), none], [], [a])
noncomputable def rg_X8_clearsFirst_6 (k47 : XK) : XK :=
 o_iload 2 <|
 o_aload 0 <|
 o_get shw_8 8 0 <|
 o_iconst 0 <|
 o_iald shw_8 <|
 o_icmp_ge (o_iconst (-1) <|
 o_ireturn)
 (o_aload 0 <|
 o_iload 2 <|
 o_iload 1 <|
 o_callVg 3 1 [0] g_X8_isOpen v_X8_isOpen <|
 o_if_ne (o_aload 0 <|
 o_iload 2 <|
 o_iload 1 <|
 o_callVg 3 1 [0] g_X8_clears v_X8_clears <|
 o_if_eq (o_aload 0 <|
 o_callVg 1 0 [0] g_X8_laysBack v_X8_laysBack <|
 o_aload 0 <|
 o_callVg 1 0 [0] g_X8_fillsOwners v_X8_fillsOwners <|
 o_cut [] k47)
 (o_iload 2 <|
 o_ireturn))
 (o_cut [] k47))
def en_X8_clearsFirst_6 (p1 : Int) (a : Int × Ob) : XSt := ([some (.inr (.inl (0, 0))), some (.inl p1), some (.inl a.1)], [], [a.2])
noncomputable def rg_X8_clearsFirst_47 (k6 : XK) : XK :=
 o_iinc 2 1 <|
 o_cut [] k6
def en_X8_clearsFirst_47 (p1 : Int) (a : Int × Ob) : XSt := ([some (.inr (.inl (0, 0))), some (.inl p1), some (.inl a.1)], [], [a.2])
noncomputable def mg_X8_clearsFirst_0 (p1 : Int) (k6 : (Int × Ob) → Option Rt) (a : Ob) : Option Rt :=
 if oqV (ov_X8_fillsOwners a) then (
 k6 (0, (oqO (ov_X8_fillsOwners a) 0))) else none
set_option maxRecDepth 100000 in
set_option maxHeartbeats 4000000 in
theorem rq_X8_clearsFirst_0 (p1 : Int) (k6 : XK) (a : Ob) : rg_X8_clearsFirst_0 k6 (en_X8_clearsFirst_0 p1 a) = mg_X8_clearsFirst_0 p1 (fun b => k6 (en_X8_clearsFirst_6 p1 b)) a := rfl
set_option maxRecDepth 100000 in
set_option maxHeartbeats 4000000 in
theorem sg_X8_clearsFirst_0 {X : XDyn} {r0 : Rt} (C : XO X mX8_clearsFirst) {k6 : XK} (q6 : XS X mX8_clearsFirst r0 6 k6) : XS X mX8_clearsFirst r0 0 (rg_X8_clearsFirst_0 k6) := by
 unfold rg_X8_clearsFirst_0
 exact s_aload_n (pc := 0) C dX8_clearsFirst_0 rfl <|
    s_callVg (pc := 1) C ct_X8_fillsOwners (n := 1) (rk := 0) (mp := [0]) ⟨rfl, by decide, rfl⟩ (ci := 8) rfl rfl (by decide) (by decide) yi_X8_fillsOwners (by decide) wd_979 wd_981 wd_22 wd_81 wd_982 dX8_clearsFirst_1 <|
    s_iconst (pc := 4) C dX8_clearsFirst_4 <|
    s_istore_n (pc := 5) C dX8_clearsFirst_5 rfl <|
    s_cut q6
noncomputable def mg_X8_clearsFirst_6 (p1 : Int) (k47 : (Int × Ob) → Option Rt) (a : Int × Ob) : Option Rt :=
 if xw a.1 ≥ xw (a.2 1 0) then (RI (-1) [a.2])
 else (if pd (ov_X8_isOpen a.1 p1 a.2 = RI (oqR (ov_X8_isOpen a.1 p1 a.2)) [a.2]) then (
 if xw (oqR (ov_X8_isOpen a.1 p1 a.2)) = 0 then (k47 (a.1, a.2))
 else (if oqI (ov_X8_clears a.1 p1 a.2) then (
 if xw (oqR (ov_X8_clears a.1 p1 a.2)) = 0 then (if oqV (ov_X8_laysBack (oqO (ov_X8_clears a.1 p1 a.2) 0)) then (
 if oqV (ov_X8_fillsOwners (oqO (ov_X8_laysBack (oqO (ov_X8_clears a.1 p1 a.2) 0)) 0)) then (
 k47 (a.1, (oqO (ov_X8_fillsOwners (oqO (ov_X8_laysBack (oqO (ov_X8_clears a.1 p1 a.2) 0)) 0)) 0))) else none) else none)
 else (RI a.1 [(oqO (ov_X8_clears a.1 p1 a.2) 0)])) else none)) else none)
set_option maxRecDepth 100000 in
set_option maxHeartbeats 4000000 in
theorem rq_X8_clearsFirst_6 (p1 : Int) (k47 : XK) (a : Int × Ob) : rg_X8_clearsFirst_6 k47 (en_X8_clearsFirst_6 p1 a) = mg_X8_clearsFirst_6 p1 (fun b => k47 (en_X8_clearsFirst_47 p1 b)) a := rfl
set_option maxRecDepth 100000 in
set_option maxHeartbeats 4000000 in
theorem sg_X8_clearsFirst_6 {X : XDyn} {r0 : Rt} (C : XO X mX8_clearsFirst) {k47 : XK} (q47 : XS X mX8_clearsFirst r0 47 k47) : XS X mX8_clearsFirst r0 6 (rg_X8_clearsFirst_6 k47) := by
 unfold rg_X8_clearsFirst_6
 exact s_iload_n (pc := 6) C dX8_clearsFirst_6 rfl <|
    s_aload_n (pc := 7) C dX8_clearsFirst_7 rfl <|
    s_get (pc := 8) C (ci := 8) (kf := 0) rfl inX8 (by decide) wd_871 dX8_clearsFirst_8 <|
    s_iconst (pc := 11) C dX8_clearsFirst_11 <|
    s_iald (pc := 12) C dX8_clearsFirst_12 <|
    s_icmp_ge (pc := 13) C dX8_clearsFirst_13 (by decide) (s_iconst (pc := 53) C dX8_clearsFirst_53 <|
    s_ireturn (pc := 54) C rfl dX8_clearsFirst_54)
    (s_aload_n (pc := 16) C dX8_clearsFirst_16 rfl <|
    s_iload_n (pc := 17) C dX8_clearsFirst_17 rfl <|
    s_iload_n (pc := 18) C dX8_clearsFirst_18 rfl <|
    s_callVg (pc := 19) C ct_X8_isOpen (n := 3) (rk := 1) (mp := [0]) ⟨rfl, by decide, rfl⟩ (ci := 8) rfl rfl (by decide) (by decide) yi_X8_isOpen (by decide) wd_1189 wd_1191 wd_60 wd_81 wd_1192 dX8_clearsFirst_19 <|
    s_if_ne (pc := 22) C dX8_clearsFirst_22 (by decide) (s_aload_n (pc := 28) C dX8_clearsFirst_28 rfl <|
    s_iload_n (pc := 29) C dX8_clearsFirst_29 rfl <|
    s_iload_n (pc := 30) C dX8_clearsFirst_30 rfl <|
    s_callVg (pc := 31) C ct_X8_clears (n := 3) (rk := 1) (mp := [0]) ⟨rfl, by decide, rfl⟩ (ci := 8) rfl rfl (by decide) (by decide) yi_X8_clears (by decide) wd_1193 wd_1195 wd_61 wd_81 wd_1196 dX8_clearsFirst_31 <|
    s_if_eq (pc := 34) C dX8_clearsFirst_34 (by decide) (s_aload_n (pc := 39) C dX8_clearsFirst_39 rfl <|
    s_callVg (pc := 40) C ct_X8_laysBack (n := 1) (rk := 0) (mp := [0]) ⟨rfl, by decide, rfl⟩ (ci := 8) rfl rfl (by decide) (by decide) yi_X8_laysBack (by decide) wd_1101 wd_1103 wd_51 wd_81 wd_1104 dX8_clearsFirst_40 <|
    s_aload_n (pc := 43) C dX8_clearsFirst_43 rfl <|
    s_callVg (pc := 44) C ct_X8_fillsOwners (n := 1) (rk := 0) (mp := [0]) ⟨rfl, by decide, rfl⟩ (ci := 8) rfl rfl (by decide) (by decide) yi_X8_fillsOwners (by decide) wd_979 wd_981 wd_22 wd_81 wd_982 dX8_clearsFirst_44 <|
    s_cut q47)
    (s_iload_n (pc := 37) C dX8_clearsFirst_37 rfl <|
    s_ireturn (pc := 38) C rfl dX8_clearsFirst_38))
    (s_goto (pc := 25) C dX8_clearsFirst_25 (by decide) <|
    s_cut q47))
noncomputable def mg_X8_clearsFirst_47 (p1 : Int) (k6 : (Int × Ob) → Option Rt) (a : Int × Ob) : Option Rt :=
 k6 ((a.1 + 1), a.2)
set_option maxRecDepth 100000 in
set_option maxHeartbeats 4000000 in
theorem rq_X8_clearsFirst_47 (p1 : Int) (k6 : XK) (a : Int × Ob) : rg_X8_clearsFirst_47 k6 (en_X8_clearsFirst_47 p1 a) = mg_X8_clearsFirst_47 p1 (fun b => k6 (en_X8_clearsFirst_6 p1 b)) a := rfl
set_option maxRecDepth 100000 in
set_option maxHeartbeats 4000000 in
theorem sg_X8_clearsFirst_47 {X : XDyn} {r0 : Rt} (C : XO X mX8_clearsFirst) {k6 : XK} (q6 : XS X mX8_clearsFirst r0 6 k6) : XS X mX8_clearsFirst r0 47 (rg_X8_clearsFirst_47 k6) := by
 unfold rg_X8_clearsFirst_47
 exact s_iinc (pc := 47) C dX8_clearsFirst_47 <|
    s_goto (pc := 50) C dX8_clearsFirst_50 (by decide) <|
    s_cut q6
noncomputable def rw_X8_clearsFirst_47 (f : Nat) (k6 : XK) : XK := rg_X8_clearsFirst_47 k6
noncomputable def md_X8_clearsFirst_47 (p1 : Int) (f : Nat) (k6 : (Int × Ob) → Option Rt) : Int × Ob → Option Rt := mg_X8_clearsFirst_47 p1 k6
theorem eq_X8_clearsFirst_47 (p1 : Int) (f : Nat) (k6 : XK) (a : Int × Ob) : rw_X8_clearsFirst_47 f k6 (en_X8_clearsFirst_47 p1 a) = md_X8_clearsFirst_47 p1 f (fun b => k6 (en_X8_clearsFirst_6 p1 b)) a :=
 (rq_X8_clearsFirst_47 p1 k6 a).trans (congrFun (congr (rfl : mg_X8_clearsFirst_47 p1 = mg_X8_clearsFirst_47 p1) rfl) a)
theorem sd_X8_clearsFirst_47 (f : Nat) {X : XDyn} {r0 : Rt} (C : XO X mX8_clearsFirst) {k6 : XK} (q6 : XS X mX8_clearsFirst r0 6 k6) : XS X mX8_clearsFirst r0 47 (rw_X8_clearsFirst_47 f k6) := sg_X8_clearsFirst_47 C q6
noncomputable def rw_X8_clearsFirst_6 (f : Nat) : XK := tlp (fun k6 => rg_X8_clearsFirst_6 (rw_X8_clearsFirst_47 f k6)) f
noncomputable def lb_X8_clearsFirst_6 (p1 : Int) (f : Nat) : ((Int × Ob) → Option Rt) → Int × Ob → Option Rt := fun k6 => mg_X8_clearsFirst_6 p1 (md_X8_clearsFirst_47 p1 f k6)
noncomputable def md_X8_clearsFirst_6 (p1 : Int) (f : Nat) : Int × Ob → Option Rt := tlp (lb_X8_clearsFirst_6 p1 f) f
theorem eq_X8_clearsFirst_6 (p1 : Int) (f : Nat) (a : Int × Ob) : rw_X8_clearsFirst_6 f (en_X8_clearsFirst_6 p1 a) = md_X8_clearsFirst_6 p1 f a :=
 tlp_enc (en_X8_clearsFirst_6 p1) (fun k6 a => (rq_X8_clearsFirst_6 p1 (rw_X8_clearsFirst_47 f k6) a).trans (congrFun (congr (rfl : mg_X8_clearsFirst_6 p1 = mg_X8_clearsFirst_6 p1) (funext (eq_X8_clearsFirst_47 p1 f k6))) a)) f a
theorem sd_X8_clearsFirst_6 (f : Nat) {X : XDyn} {r0 : Rt} (C : XO X mX8_clearsFirst) : XS X mX8_clearsFirst r0 6 (rw_X8_clearsFirst_6 f) := s_lp (fun k6 q6 => sg_X8_clearsFirst_6 C (sd_X8_clearsFirst_47 f C q6)) f
noncomputable def rw_X8_clearsFirst_0 (f : Nat) : XK := rg_X8_clearsFirst_0 (rw_X8_clearsFirst_6 f)
noncomputable def md_X8_clearsFirst_0 (p1 : Int) (f : Nat) : Ob → Option Rt := mg_X8_clearsFirst_0 p1 (md_X8_clearsFirst_6 p1 f)
theorem eq_X8_clearsFirst_0 (p1 : Int) (f : Nat) (a : Ob) : rw_X8_clearsFirst_0 f (en_X8_clearsFirst_0 p1 a) = md_X8_clearsFirst_0 p1 f a :=
 (rq_X8_clearsFirst_0 p1 (rw_X8_clearsFirst_6 f) a).trans (congrFun (congr (rfl : mg_X8_clearsFirst_0 p1 = mg_X8_clearsFirst_0 p1) (funext (eq_X8_clearsFirst_6 p1 f))) a)
theorem sd_X8_clearsFirst_0 (f : Nat) {X : XDyn} {r0 : Rt} (C : XO X mX8_clearsFirst) : XS X mX8_clearsFirst r0 0 (rw_X8_clearsFirst_0 f) := sg_X8_clearsFirst_0 C (sd_X8_clearsFirst_6 f C)
theorem ctr_X8_clearsFirst (f : Nat) : XCt yX8_clearsFirst mX8_clearsFirst (xF mX8_clearsFirst (rw_X8_clearsFirst_0 f)) := xMet (by decide +kernel) rfl (fun _ _ C => sd_X8_clearsFirst_0 f C)
theorem eqf_X8_clearsFirst (f : Nat) (p1 : Int) (h0 : Ob) : xF mX8_clearsFirst (rw_X8_clearsFirst_0 f) [.inr (.inl (0, 0)), .inl p1] [h0] = md_X8_clearsFirst_0 p1 f h0 := eq_X8_clearsFirst_0 p1 f h0
theorem yi_X8_clearsFirst : yX8_clearsFirst.cls = RX8 ∧ yX8_clearsFirst.cls ≠ "java/lang/invoke/MethodHandle" ∧ yX8_clearsFirst.cls ≠ "java/lang/invoke/VarHandle" ∧ (parseMethodDescriptor yX8_clearsFirst.desc).map (fun d => d.parameters.length) = some 1 := ⟨rfl, by decide +kernel, by decide +kernel, by decide +kernel⟩
noncomputable def ov_X8_clearsFirst (p1 : Int) (h0 : Ob) : Option Rt := xop (md_X8_clearsFirst_0 p1 xfu h0)
theorem ov_X8_clearsFirst_e (p1 : Int) (h0 : Ob) : ov_X8_clearsFirst p1 h0 = md_X8_clearsFirst_0 p1 xfu h0 := xop_eq _
theorem sp_X8_clearsFirst (p1 : Int) (h0 : Ob) (hg : oqI (ov_X8_clearsFirst p1 h0) = true) : md_X8_clearsFirst_0 p1 xfu h0 = RI (oqR (ov_X8_clearsFirst p1 h0)) [(oqO (ov_X8_clearsFirst p1 h0) 0)] := (ov_X8_clearsFirst_e p1 h0).symm.trans (oqI_eq hg)
noncomputable def g_X8_clearsFirst : List AV → List Ob → Bool
  | [.inr (.inl (0, 0)), .inl p1], [h0] => oqI (ov_X8_clearsFirst p1 h0)
  | _, _ => false
noncomputable def v_X8_clearsFirst : List AV → List Ob → Rt
  | [.inr (.inl (0, 0)), .inl p1], [h0] => (some (.inl (oqR (ov_X8_clearsFirst p1 h0))), [(oqO (ov_X8_clearsFirst p1 h0) 0)])
  | _, _ => (none, [])
theorem ct_X8_clearsFirst : XCt yX8_clearsFirst mX8_clearsFirst (fun as μ => if g_X8_clearsFirst as μ then some (v_X8_clearsFirst as μ) else none) := (ctr_X8_clearsFirst xfu).of (fun as μ r h => by
  split at h
  · rename_i hg
    unfold g_X8_clearsFirst at hg
    split at hg
    · rw [← h]
      exact (eqf_X8_clearsFirst xfu _ _).trans (sp_X8_clearsFirst _ _ hg)
    · cases hg
  · cases h)
theorem dX8_fix_0 : decode cX8_fix 0 = .ok (.iconst 0, 1) := by decide +kernel
theorem dX8_fix_1 : decode cX8_fix 1 = .ok (.istore_n 2, 1) := by decide +kernel
theorem dX8_fix_2 : decode cX8_fix 2 = .ok (.iload_n 2, 1) := by decide +kernel
theorem dX8_fix_3 : decode cX8_fix 3 = .ok (.iconst 3, 1) := by decide +kernel
theorem dX8_fix_4 : decode cX8_fix 4 = .ok (.if_icmp .ge 17, 3) := by decide +kernel
theorem dX8_fix_7 : decode cX8_fix 7 = .ok (.aload_n 0, 1) := by decide +kernel
theorem dX8_fix_8 : decode cX8_fix 8 = .ok (.iload_n 2, 1) := by decide +kernel
theorem dX8_fix_9 : decode cX8_fix 9 = .ok (.invokevirtual 97, 3) := by decide +kernel
theorem dX8_fix_12 : decode cX8_fix 12 = .ok (.ifCond .eq 9, 3) := by decide +kernel
theorem dX8_fix_15 : decode cX8_fix 15 = .ok (.iinc 2 1, 3) := by decide +kernel
theorem dX8_fix_18 : decode cX8_fix 18 = .ok (.goto (-16), 3) := by decide +kernel
theorem dX8_fix_21 : decode cX8_fix 21 = .ok (.iload_n 2, 1) := by decide +kernel
theorem dX8_fix_22 : decode cX8_fix 22 = .ok (.iconst 3, 1) := by decide +kernel
theorem dX8_fix_23 : decode cX8_fix 23 = .ok (.if_icmp .eq 15, 3) := by decide +kernel
theorem dX8_fix_26 : decode cX8_fix 26 = .ok (.iload_n 1, 1) := by decide +kernel
theorem dX8_fix_27 : decode cX8_fix 27 = .ok (.i2l, 1) := by decide +kernel
theorem dX8_fix_28 : decode cX8_fix 28 = .ok (.lconst 1, 1) := by decide +kernel
theorem dX8_fix_29 : decode cX8_fix 29 = .ok (.ldc2_w 204, 3) := by decide +kernel
theorem dX8_fix_32 : decode cX8_fix 32 = .ok (.invokestatic 75, 3) := by decide +kernel
theorem dX8_fix_35 : decode cX8_fix 35 = .ok (.ifCond .ne 5, 3) := by decide +kernel
theorem dX8_fix_38 : decode cX8_fix 38 = .ok (.iconst (-1), 1) := by decide +kernel
theorem dX8_fix_39 : decode cX8_fix 39 = .ok (.ireturn, 1) := by decide +kernel
theorem dX8_fix_40 : decode cX8_fix 40 = .ok (.aload_n 0, 1) := by decide +kernel
theorem dX8_fix_41 : decode cX8_fix 41 = .ok (.invokevirtual 208, 3) := by decide +kernel
theorem dX8_fix_44 : decode cX8_fix 44 = .ok (.aload_n 0, 1) := by decide +kernel
theorem dX8_fix_45 : decode cX8_fix 45 = .ok (.iload_n 1, 1) := by decide +kernel
theorem dX8_fix_46 : decode cX8_fix 46 = .ok (.iconst 1, 1) := by decide +kernel
theorem dX8_fix_47 : decode cX8_fix 47 = .ok (.iadd, 1) := by decide +kernel
theorem dX8_fix_48 : decode cX8_fix 48 = .ok (.invokevirtual 249, 3) := by decide +kernel
theorem dX8_fix_51 : decode cX8_fix 51 = .ok (.istore_n 3, 1) := by decide +kernel
theorem dX8_fix_52 : decode cX8_fix 52 = .ok (.iload_n 3, 1) := by decide +kernel
theorem dX8_fix_53 : decode cX8_fix 53 = .ok (.ifCond .ge 15, 3) := by decide +kernel
theorem dX8_fix_56 : decode cX8_fix 56 = .ok (.aload_n 0, 1) := by decide +kernel
theorem dX8_fix_57 : decode cX8_fix 57 = .ok (.invokevirtual 109, 3) := by decide +kernel
theorem dX8_fix_60 : decode cX8_fix 60 = .ok (.aload_n 0, 1) := by decide +kernel
theorem dX8_fix_61 : decode cX8_fix 61 = .ok (.iload_n 1, 1) := by decide +kernel
theorem dX8_fix_62 : decode cX8_fix 62 = .ok (.iconst 1, 1) := by decide +kernel
theorem dX8_fix_63 : decode cX8_fix 63 = .ok (.iadd, 1) := by decide +kernel
theorem dX8_fix_64 : decode cX8_fix 64 = .ok (.invokevirtual 173, 3) := by decide +kernel
theorem dX8_fix_67 : decode cX8_fix 67 = .ok (.istore_n 3, 1) := by decide +kernel
theorem dX8_fix_68 : decode cX8_fix 68 = .ok (.iload_n 3, 1) := by decide +kernel
theorem dX8_fix_69 : decode cX8_fix 69 = .ok (.ifCond .ge 10, 3) := by decide +kernel
theorem dX8_fix_72 : decode cX8_fix 72 = .ok (.aload_n 0, 1) := by decide +kernel
theorem dX8_fix_73 : decode cX8_fix 73 = .ok (.invokevirtual 215, 3) := by decide +kernel
theorem dX8_fix_76 : decode cX8_fix 76 = .ok (.bipush (-2), 2) := by decide +kernel
theorem dX8_fix_78 : decode cX8_fix 78 = .ok (.ireturn, 1) := by decide +kernel
theorem dX8_fix_79 : decode cX8_fix 79 = .ok (.aload_n 0, 1) := by decide +kernel
theorem dX8_fix_80 : decode cX8_fix 80 = .ok (.getfield 7, 3) := by decide +kernel
theorem dX8_fix_83 : decode cX8_fix 83 = .ok (.bipush 69, 2) := by decide +kernel
theorem dX8_fix_85 : decode cX8_fix 85 = .ok (.iload_n 2, 1) := by decide +kernel
theorem dX8_fix_86 : decode cX8_fix 86 = .ok (.iadd, 1) := by decide +kernel
theorem dX8_fix_87 : decode cX8_fix 87 = .ok (.iload_n 1, 1) := by decide +kernel
theorem dX8_fix_88 : decode cX8_fix 88 = .ok (.iastore, 1) := by decide +kernel
theorem dX8_fix_89 : decode cX8_fix 89 = .ok (.aload_n 0, 1) := by decide +kernel
theorem dX8_fix_90 : decode cX8_fix 90 = .ok (.getfield 7, 3) := by decide +kernel
theorem dX8_fix_93 : decode cX8_fix 93 = .ok (.bipush 72, 2) := by decide +kernel
theorem dX8_fix_95 : decode cX8_fix 95 = .ok (.iload_n 2, 1) := by decide +kernel
theorem dX8_fix_96 : decode cX8_fix 96 = .ok (.iadd, 1) := by decide +kernel
theorem dX8_fix_97 : decode cX8_fix 97 = .ok (.iload_n 3, 1) := by decide +kernel
theorem dX8_fix_98 : decode cX8_fix 98 = .ok (.iastore, 1) := by decide +kernel
theorem dX8_fix_99 : decode cX8_fix 99 = .ok (.aload_n 0, 1) := by decide +kernel
theorem dX8_fix_100 : decode cX8_fix 100 = .ok (.bipush 8, 2) := by decide +kernel
theorem dX8_fix_102 : decode cX8_fix 102 = .ok (.iload_n 2, 1) := by decide +kernel
theorem dX8_fix_103 : decode cX8_fix 103 = .ok (.iadd, 1) := by decide +kernel
theorem dX8_fix_104 : decode cX8_fix 104 = .ok (.iconst 0, 1) := by decide +kernel
theorem dX8_fix_105 : decode cX8_fix 105 = .ok (.bipush 60, 2) := by decide +kernel
theorem dX8_fix_107 : decode cX8_fix 107 = .ok (.invokevirtual 201, 3) := by decide +kernel
theorem dX8_fix_110 : decode cX8_fix 110 = .ok (.aload_n 0, 1) := by decide +kernel
theorem dX8_fix_111 : decode cX8_fix 111 = .ok (.invokevirtual 221, 3) := by decide +kernel
theorem dX8_fix_114 : decode cX8_fix 114 = .ok (.iload_n 2, 1) := by decide +kernel
theorem dX8_fix_115 : decode cX8_fix 115 = .ok (.ireturn, 1) := by decide +kernel
abbrev mX8_fix : XM := (cX8_fix, 4, RX8, (some .int), shw_8, 6)
noncomputable def rg_X8_fix_0 (k2 : XK) : XK :=
 o_iconst 0 <|
 o_istore 2 <|
 o_cut [] k2
def en_X8_fix_0 (p1 : Int) (a : Ob) : XSt := ([some (.inr (.inl (0, 0))), some (.inl p1), none, none], [], [a])
noncomputable def rg_X8_fix_2 (k21 : XK) (k2 : XK) : XK :=
 o_iload 2 <|
 o_iconst 3 <|
 o_icmp_ge (o_cut [] k21)
 (o_aload 0 <|
 o_iload 2 <|
 o_callV 2 1 [0] f_X8_isIsland <|
 o_if_eq (o_cut [] k21)
 (o_iinc 2 1 <|
 o_cut [] k2))
def en_X8_fix_2 (p1 : Int) (a : Int × Ob) : XSt := ([some (.inr (.inl (0, 0))), some (.inl p1), some (.inl a.1), none], [], [a.2])
noncomputable def rg_X8_fix_21 (k68 : XK) : XK :=
 o_iload 2 <|
 o_iconst 3 <|
 o_icmp_eq (o_iconst (-1) <|
 o_ireturn)
 (o_iload 1 <|
 o_i2l <|
 o_lconst 1 <|
 o_lconst 60 <|
 o_callSg 3 1 [] g_X8_in v_X8_in <|
 o_if_ne (o_aload 0 <|
 o_callVg 1 0 [0] g_X8_keepsAside v_X8_keepsAside <|
 o_aload 0 <|
 o_iload 1 <|
 o_iconst 1 <|
 o_iadd <|
 o_callVg 2 1 [0] g_X8_clearsFirst v_X8_clearsFirst <|
 o_istore 3 <|
 o_iload 3 <|
 o_if_ge (o_cut [] k68)
 (o_aload 0 <|
 o_callVg 1 0 [0] g_X8_fillsOwners v_X8_fillsOwners <|
 o_aload 0 <|
 o_iload 1 <|
 o_iconst 1 <|
 o_iadd <|
 o_callVg 2 1 [0] g_X8_grows v_X8_grows <|
 o_istore 3 <|
 o_cut [] k68))
 (o_iconst (-1) <|
 o_ireturn))
def en_X8_fix_21 (p1 : Int) (a : Int × Ob) : XSt := ([some (.inr (.inl (0, 0))), some (.inl p1), some (.inl a.1), none], [], [a.2])
noncomputable def rg_X8_fix_68 : XK :=
 o_iload 3 <|
 o_if_ge (o_aload 0 <|
 o_get shw_8 8 0 <|
 o_iconst 69 <|
 o_iload 2 <|
 o_iadd <|
 o_iload 1 <|
 o_iast shw_8 <|
 o_aload 0 <|
 o_get shw_8 8 0 <|
 o_iconst 72 <|
 o_iload 2 <|
 o_iadd <|
 o_iload 3 <|
 o_iast shw_8 <|
 o_aload 0 <|
 o_iconst 8 <|
 o_iload 2 <|
 o_iadd <|
 o_iconst 0 <|
 o_iconst 60 <|
 o_callVg 4 0 [0] g_X8_clearsContents v_X8_clearsContents <|
 o_aload 0 <|
 o_callVg 1 0 [0] g_X8_keepsAct v_X8_keepsAct <|
 o_iload 2 <|
 o_ireturn)
 (o_aload 0 <|
 o_callVg 1 0 [0] g_X8_laysBack v_X8_laysBack <|
 o_iconst (-2) <|
 o_ireturn)
def en_X8_fix_68 (p1 : Int) (a : Int × Int × Ob) : XSt := ([some (.inr (.inl (0, 0))), some (.inl p1), some (.inl a.1), some (.inl a.2.1)], [], [a.2.2])
noncomputable def mg_X8_fix_0 (p1 : Int) (k2 : (Int × Ob) → Option Rt) (a : Ob) : Option Rt :=
 k2 (0, a)
set_option maxRecDepth 100000 in
set_option maxHeartbeats 4000000 in
theorem rq_X8_fix_0 (p1 : Int) (k2 : XK) (a : Ob) : rg_X8_fix_0 k2 (en_X8_fix_0 p1 a) = mg_X8_fix_0 p1 (fun b => k2 (en_X8_fix_2 p1 b)) a := rfl
set_option maxRecDepth 100000 in
set_option maxHeartbeats 4000000 in
theorem sg_X8_fix_0 {X : XDyn} {r0 : Rt} (C : XO X mX8_fix) {k2 : XK} (q2 : XS X mX8_fix r0 2 k2) : XS X mX8_fix r0 0 (rg_X8_fix_0 k2) := by
 unfold rg_X8_fix_0
 exact s_iconst (pc := 0) C dX8_fix_0 <|
    s_istore_n (pc := 1) C dX8_fix_1 rfl <|
    s_cut q2
noncomputable def mg_X8_fix_2 (p1 : Int) (k21 : (Int × Ob) → Option Rt) (k2 : (Int × Ob) → Option Rt) (a : Int × Ob) : Option Rt :=
 if xw a.1 ≥ 3 then (k21 (a.1, a.2))
 else (if xw (bz (islM a.2 a.1)) = 0 then (k21 (a.1, a.2))
 else (k2 ((a.1 + 1), a.2)))
set_option maxRecDepth 100000 in
set_option maxHeartbeats 4000000 in
theorem rq_X8_fix_2 (p1 : Int) (k21 : XK) (k2 : XK) (a : Int × Ob) : rg_X8_fix_2 k21 k2 (en_X8_fix_2 p1 a) = mg_X8_fix_2 p1 (fun b => k21 (en_X8_fix_21 p1 b)) (fun b => k2 (en_X8_fix_2 p1 b)) a := rfl
set_option maxRecDepth 100000 in
set_option maxHeartbeats 4000000 in
theorem sg_X8_fix_2 {X : XDyn} {r0 : Rt} (C : XO X mX8_fix) {k21 : XK} (q21 : XS X mX8_fix r0 21 k21) {k2 : XK} (q2 : XS X mX8_fix r0 2 k2) : XS X mX8_fix r0 2 (rg_X8_fix_2 k21 k2) := by
 unfold rg_X8_fix_2
 exact s_iload_n (pc := 2) C dX8_fix_2 rfl <|
    s_iconst (pc := 3) C dX8_fix_3 <|
    s_icmp_ge (pc := 4) C dX8_fix_4 (by decide) (s_cut q21)
    (s_aload_n (pc := 7) C dX8_fix_7 rfl <|
    s_iload_n (pc := 8) C dX8_fix_8 rfl <|
    s_callV (pc := 9) C ct_X8_isIsland (n := 2) (rk := 1) (mp := [0]) ⟨rfl, by decide, rfl⟩ (ci := 8) rfl rfl (by decide) (by decide) yi_X8_isIsland (by decide) wd_998 wd_1000 wd_26 wd_81 wd_1001 dX8_fix_9 <|
    s_if_eq (pc := 12) C dX8_fix_12 (by decide) (s_cut q21)
    (s_iinc (pc := 15) C dX8_fix_15 <|
    s_goto (pc := 18) C dX8_fix_18 (by decide) <|
    s_cut q2))
noncomputable def mg_X8_fix_21 (p1 : Int) (k68 : (Int × Int × Ob) → Option Rt) (a : Int × Ob) : Option Rt :=
 if xw a.1 = 3 then (RI (-1) [a.2])
 else (if xlr (xw p1) && (xlr (1 : Int) && xlr (60 : Int)) then (
 if xw (bz (inn (xw p1) (1 : Int) (60 : Int))) = 0 then (RI (-1) [a.2])
 else (if oqV (ov_X8_keepsAside a.2) then (
 if oqI (ov_X8_clearsFirst (p1 + 1) (oqO (ov_X8_keepsAside a.2) 0)) then (
 if xw (oqR (ov_X8_clearsFirst (p1 + 1) (oqO (ov_X8_keepsAside a.2) 0))) ≥ 0 then (k68 (a.1, (oqR (ov_X8_clearsFirst (p1 + 1) (oqO (ov_X8_keepsAside a.2) 0))), (oqO (ov_X8_clearsFirst (p1 + 1) (oqO (ov_X8_keepsAside a.2) 0)) 0)))
 else (if oqV (ov_X8_fillsOwners (oqO (ov_X8_clearsFirst (p1 + 1) (oqO (ov_X8_keepsAside a.2) 0)) 0)) then (
 if oqI (ov_X8_grows (p1 + 1) (oqO (ov_X8_fillsOwners (oqO (ov_X8_clearsFirst (p1 + 1) (oqO (ov_X8_keepsAside a.2) 0)) 0)) 0)) then (
 k68 (a.1, (oqR (ov_X8_grows (p1 + 1) (oqO (ov_X8_fillsOwners (oqO (ov_X8_clearsFirst (p1 + 1) (oqO (ov_X8_keepsAside a.2) 0)) 0)) 0))), (oqO (ov_X8_grows (p1 + 1) (oqO (ov_X8_fillsOwners (oqO (ov_X8_clearsFirst (p1 + 1) (oqO (ov_X8_keepsAside a.2) 0)) 0)) 0)) 0))) else none) else none)) else none) else none)) else none)
set_option maxRecDepth 100000 in
set_option maxHeartbeats 4000000 in
theorem rq_X8_fix_21 (p1 : Int) (k68 : XK) (a : Int × Ob) : rg_X8_fix_21 k68 (en_X8_fix_21 p1 a) = mg_X8_fix_21 p1 (fun b => k68 (en_X8_fix_68 p1 b)) a := rfl
set_option maxRecDepth 100000 in
set_option maxHeartbeats 4000000 in
theorem sg_X8_fix_21 {X : XDyn} {r0 : Rt} (C : XO X mX8_fix) {k68 : XK} (q68 : XS X mX8_fix r0 68 k68) : XS X mX8_fix r0 21 (rg_X8_fix_21 k68) := by
 unfold rg_X8_fix_21
 exact s_iload_n (pc := 21) C dX8_fix_21 rfl <|
    s_iconst (pc := 22) C dX8_fix_22 <|
    s_icmp_eq (pc := 23) C dX8_fix_23 (by decide) (s_iconst (pc := 38) C dX8_fix_38 <|
    s_ireturn (pc := 39) C rfl dX8_fix_39)
    (s_iload_n (pc := 26) C dX8_fix_26 rfl <|
    s_i2l (pc := 27) C dX8_fix_27 <|
    s_lconst (pc := 28) C dX8_fix_28 rfl <|
    s_ldc2 (pc := 29) C dX8_fix_29 wd_965 rfl <|
    s_callSg (pc := 32) C ct_X8_in (n := 3) (rk := 1) (mp := []) ⟨rfl, by decide, rfl⟩ (by decide) (by decide) ⟨rfl, yi_X8_in⟩ wd_954 wd_955 wd_81 wd_956 dX8_fix_32 <|
    s_if_ne (pc := 35) C dX8_fix_35 (by decide) (s_aload_n (pc := 40) C dX8_fix_40 rfl <|
    s_callVg (pc := 41) C ct_X8_keepsAside (n := 1) (rk := 0) (mp := [0]) ⟨rfl, by decide, rfl⟩ (ci := 8) rfl rfl (by decide) (by decide) yi_X8_keepsAside (by decide) wd_967 wd_969 wd_19 wd_81 wd_970 dX8_fix_41 <|
    s_aload_n (pc := 44) C dX8_fix_44 rfl <|
    s_iload_n (pc := 45) C dX8_fix_45 rfl <|
    s_iconst (pc := 46) C dX8_fix_46 <|
    s_iadd (pc := 47) C dX8_fix_47 <|
    s_callVg (pc := 48) C ct_X8_clearsFirst (n := 2) (rk := 1) (mp := [0]) ⟨rfl, by decide, rfl⟩ (ci := 8) rfl rfl (by decide) (by decide) yi_X8_clearsFirst (by decide) wd_1185 wd_1187 wd_59 wd_81 wd_1188 dX8_fix_48 <|
    s_istore_n (pc := 51) C dX8_fix_51 rfl <|
    s_iload_n (pc := 52) C dX8_fix_52 rfl <|
    s_if_ge (pc := 53) C dX8_fix_53 (by decide) (s_cut q68)
    (s_aload_n (pc := 56) C dX8_fix_56 rfl <|
    s_callVg (pc := 57) C ct_X8_fillsOwners (n := 1) (rk := 0) (mp := [0]) ⟨rfl, by decide, rfl⟩ (ci := 8) rfl rfl (by decide) (by decide) yi_X8_fillsOwners (by decide) wd_979 wd_981 wd_22 wd_81 wd_982 dX8_fix_57 <|
    s_aload_n (pc := 60) C dX8_fix_60 rfl <|
    s_iload_n (pc := 61) C dX8_fix_61 rfl <|
    s_iconst (pc := 62) C dX8_fix_62 <|
    s_iadd (pc := 63) C dX8_fix_63 <|
    s_callVg (pc := 64) C ct_X8_grows (n := 2) (rk := 1) (mp := [0]) ⟨rfl, by decide, rfl⟩ (ci := 8) rfl rfl (by decide) (by decide) yi_X8_grows (by decide) wd_1026 wd_1028 wd_33 wd_81 wd_1029 dX8_fix_64 <|
    s_istore_n (pc := 67) C dX8_fix_67 rfl <|
    s_cut q68))
    (s_iconst (pc := 38) C dX8_fix_38 <|
    s_ireturn (pc := 39) C rfl dX8_fix_39))
noncomputable def mg_X8_fix_68 (p1 : Int) (a : Int × Int × Ob) : Option Rt :=
 if xw a.2.1 ≥ 0 then (if xin (69 + a.1) 735 then (
 if xin (72 + a.1) 735 then (
 if oqV (ov_X8_clearsContents (8 + a.1) (0 : Int) (60 : Int) (xset (xset a.2.2 1 (xw (69 + a.1)).toNat p1) 1 (xw (72 + a.1)).toNat a.2.1)) then (
 if oqV (ov_X8_keepsAct (oqO (ov_X8_clearsContents (8 + a.1) (0 : Int) (60 : Int) (xset (xset a.2.2 1 (xw (69 + a.1)).toNat p1) 1 (xw (72 + a.1)).toNat a.2.1)) 0)) then (
 RI a.1 [(oqO (ov_X8_keepsAct (oqO (ov_X8_clearsContents (8 + a.1) (0 : Int) (60 : Int) (xset (xset a.2.2 1 (xw (69 + a.1)).toNat p1) 1 (xw (72 + a.1)).toNat a.2.1)) 0)) 0)]) else none) else none) else none) else none)
 else (if oqV (ov_X8_laysBack a.2.2) then (
 RI (-2) [(oqO (ov_X8_laysBack a.2.2) 0)]) else none)
set_option maxRecDepth 100000 in
set_option maxHeartbeats 4000000 in
theorem rq_X8_fix_68 (p1 : Int) (a : Int × Int × Ob) : rg_X8_fix_68 (en_X8_fix_68 p1 a) = mg_X8_fix_68 p1 a := rfl
set_option maxRecDepth 100000 in
set_option maxHeartbeats 4000000 in
theorem sg_X8_fix_68 {X : XDyn} {r0 : Rt} (C : XO X mX8_fix) : XS X mX8_fix r0 68 (rg_X8_fix_68) := by
 unfold rg_X8_fix_68
 exact s_iload_n (pc := 68) C dX8_fix_68 rfl <|
    s_if_ge (pc := 69) C dX8_fix_69 (by decide) (s_aload_n (pc := 79) C dX8_fix_79 rfl <|
    s_get (pc := 80) C (ci := 8) (kf := 0) rfl inX8 (by decide) wd_871 dX8_fix_80 <|
    s_bipush (pc := 83) C dX8_fix_83 (by decide) <|
    s_iload_n (pc := 85) C dX8_fix_85 rfl <|
    s_iadd (pc := 86) C dX8_fix_86 <|
    s_iload_n (pc := 87) C dX8_fix_87 rfl <|
    s_iast (pc := 88) C dX8_fix_88 <|
    s_aload_n (pc := 89) C dX8_fix_89 rfl <|
    s_get (pc := 90) C (ci := 8) (kf := 0) rfl inX8 (by decide) wd_871 dX8_fix_90 <|
    s_bipush (pc := 93) C dX8_fix_93 (by decide) <|
    s_iload_n (pc := 95) C dX8_fix_95 rfl <|
    s_iadd (pc := 96) C dX8_fix_96 <|
    s_iload_n (pc := 97) C dX8_fix_97 rfl <|
    s_iast (pc := 98) C dX8_fix_98 <|
    s_aload_n (pc := 99) C dX8_fix_99 rfl <|
    s_bipush (pc := 100) C dX8_fix_100 (by decide) <|
    s_iload_n (pc := 102) C dX8_fix_102 rfl <|
    s_iadd (pc := 103) C dX8_fix_103 <|
    s_iconst (pc := 104) C dX8_fix_104 <|
    s_bipush (pc := 105) C dX8_fix_105 (by decide) <|
    s_callVg (pc := 107) C ct_X8_clearsContents (n := 4) (rk := 0) (mp := [0]) ⟨rfl, by decide, rfl⟩ (ci := 8) rfl rfl (by decide) (by decide) yi_X8_clearsContents (by decide) wd_1109 wd_1111 wd_53 wd_81 wd_1112 dX8_fix_107 <|
    s_aload_n (pc := 110) C dX8_fix_110 rfl <|
    s_callVg (pc := 111) C ct_X8_keepsAct (n := 1) (rk := 0) (mp := [0]) ⟨rfl, by decide, rfl⟩ (ci := 8) rfl rfl (by decide) (by decide) yi_X8_keepsAct (by decide) wd_1113 wd_1115 wd_54 wd_81 wd_1116 dX8_fix_111 <|
    s_iload_n (pc := 114) C dX8_fix_114 rfl <|
    s_ireturn (pc := 115) C rfl dX8_fix_115)
    (s_aload_n (pc := 72) C dX8_fix_72 rfl <|
    s_callVg (pc := 73) C ct_X8_laysBack (n := 1) (rk := 0) (mp := [0]) ⟨rfl, by decide, rfl⟩ (ci := 8) rfl rfl (by decide) (by decide) yi_X8_laysBack (by decide) wd_1101 wd_1103 wd_51 wd_81 wd_1104 dX8_fix_73 <|
    s_bipush (pc := 76) C dX8_fix_76 (by decide) <|
    s_ireturn (pc := 78) C rfl dX8_fix_78)
noncomputable def rw_X8_fix_68 (f : Nat) : XK := rg_X8_fix_68
noncomputable def md_X8_fix_68 (p1 : Int) (f : Nat) : Int × Int × Ob → Option Rt := mg_X8_fix_68 p1
theorem eq_X8_fix_68 (p1 : Int) (f : Nat) (a : Int × Int × Ob) : rw_X8_fix_68 f (en_X8_fix_68 p1 a) = md_X8_fix_68 p1 f a :=
 rq_X8_fix_68 p1 a
theorem sd_X8_fix_68 (f : Nat) {X : XDyn} {r0 : Rt} (C : XO X mX8_fix) : XS X mX8_fix r0 68 (rw_X8_fix_68 f) := sg_X8_fix_68 C
noncomputable def rw_X8_fix_21 (f : Nat) : XK := rg_X8_fix_21 (rw_X8_fix_68 f)
noncomputable def md_X8_fix_21 (p1 : Int) (f : Nat) : Int × Ob → Option Rt := mg_X8_fix_21 p1 (md_X8_fix_68 p1 f)
theorem eq_X8_fix_21 (p1 : Int) (f : Nat) (a : Int × Ob) : rw_X8_fix_21 f (en_X8_fix_21 p1 a) = md_X8_fix_21 p1 f a :=
 (rq_X8_fix_21 p1 (rw_X8_fix_68 f) a).trans (congrFun (congr (rfl : mg_X8_fix_21 p1 = mg_X8_fix_21 p1) (funext (eq_X8_fix_68 p1 f))) a)
theorem sd_X8_fix_21 (f : Nat) {X : XDyn} {r0 : Rt} (C : XO X mX8_fix) : XS X mX8_fix r0 21 (rw_X8_fix_21 f) := sg_X8_fix_21 C (sd_X8_fix_68 f C)
noncomputable def rw_X8_fix_2 (f : Nat) : XK := tlp (fun k2 => rg_X8_fix_2 (rw_X8_fix_21 f) k2) f
noncomputable def lb_X8_fix_2 (p1 : Int) (f : Nat) : ((Int × Ob) → Option Rt) → Int × Ob → Option Rt := fun k2 => mg_X8_fix_2 p1 (md_X8_fix_21 p1 f) k2
noncomputable def md_X8_fix_2 (p1 : Int) (f : Nat) : Int × Ob → Option Rt := tlp (lb_X8_fix_2 p1 f) f
theorem eq_X8_fix_2 (p1 : Int) (f : Nat) (a : Int × Ob) : rw_X8_fix_2 f (en_X8_fix_2 p1 a) = md_X8_fix_2 p1 f a :=
 tlp_enc (en_X8_fix_2 p1) (fun k2 a => (rq_X8_fix_2 p1 (rw_X8_fix_21 f) k2 a).trans (congrFun (congr (congr (rfl : mg_X8_fix_2 p1 = mg_X8_fix_2 p1) (funext (eq_X8_fix_21 p1 f))) rfl) a)) f a
theorem sd_X8_fix_2 (f : Nat) {X : XDyn} {r0 : Rt} (C : XO X mX8_fix) : XS X mX8_fix r0 2 (rw_X8_fix_2 f) := s_lp (fun k2 q2 => sg_X8_fix_2 C (sd_X8_fix_21 f C) q2) f
noncomputable def rw_X8_fix_0 (f : Nat) : XK := rg_X8_fix_0 (rw_X8_fix_2 f)
noncomputable def md_X8_fix_0 (p1 : Int) (f : Nat) : Ob → Option Rt := mg_X8_fix_0 p1 (md_X8_fix_2 p1 f)
theorem eq_X8_fix_0 (p1 : Int) (f : Nat) (a : Ob) : rw_X8_fix_0 f (en_X8_fix_0 p1 a) = md_X8_fix_0 p1 f a :=
 (rq_X8_fix_0 p1 (rw_X8_fix_2 f) a).trans (congrFun (congr (rfl : mg_X8_fix_0 p1 = mg_X8_fix_0 p1) (funext (eq_X8_fix_2 p1 f))) a)
theorem sd_X8_fix_0 (f : Nat) {X : XDyn} {r0 : Rt} (C : XO X mX8_fix) : XS X mX8_fix r0 0 (rw_X8_fix_0 f) := sg_X8_fix_0 C (sd_X8_fix_2 f C)
theorem ctr_X8_fix (f : Nat) : XCt yX8_fix mX8_fix (xF mX8_fix (rw_X8_fix_0 f)) := xMet (by decide +kernel) rfl (fun _ _ C => sd_X8_fix_0 f C)
theorem eqf_X8_fix (f : Nat) (p1 : Int) (h0 : Ob) : xF mX8_fix (rw_X8_fix_0 f) [.inr (.inl (0, 0)), .inl p1] [h0] = md_X8_fix_0 p1 f h0 := eq_X8_fix_0 p1 f h0
theorem yi_X8_fix : yX8_fix.cls = RX8 ∧ yX8_fix.cls ≠ "java/lang/invoke/MethodHandle" ∧ yX8_fix.cls ≠ "java/lang/invoke/VarHandle" ∧ (parseMethodDescriptor yX8_fix.desc).map (fun d => d.parameters.length) = some 1 := ⟨rfl, by decide +kernel, by decide +kernel, by decide +kernel⟩
theorem dX8_unfix_0 : decode cX8_unfix 0 = .ok (.aload_n 0, 1) := by decide +kernel
theorem dX8_unfix_1 : decode cX8_unfix 1 = .ok (.iload_n 1, 1) := by decide +kernel
theorem dX8_unfix_2 : decode cX8_unfix 2 = .ok (.invokevirtual 97, 3) := by decide +kernel
theorem dX8_unfix_5 : decode cX8_unfix 5 = .ok (.ifCond .ne 5, 3) := by decide +kernel
theorem dX8_unfix_8 : decode cX8_unfix 8 = .ok (.iconst 0, 1) := by decide +kernel
theorem dX8_unfix_9 : decode cX8_unfix 9 = .ok (.ireturn, 1) := by decide +kernel
theorem dX8_unfix_10 : decode cX8_unfix 10 = .ok (.aload_n 0, 1) := by decide +kernel
theorem dX8_unfix_11 : decode cX8_unfix 11 = .ok (.invokevirtual 208, 3) := by decide +kernel
theorem dX8_unfix_14 : decode cX8_unfix 14 = .ok (.aload_n 0, 1) := by decide +kernel
theorem dX8_unfix_15 : decode cX8_unfix 15 = .ok (.getfield 7, 3) := by decide +kernel
theorem dX8_unfix_18 : decode cX8_unfix 18 = .ok (.bipush 69, 2) := by decide +kernel
theorem dX8_unfix_20 : decode cX8_unfix 20 = .ok (.iload_n 1, 1) := by decide +kernel
theorem dX8_unfix_21 : decode cX8_unfix 21 = .ok (.iadd, 1) := by decide +kernel
theorem dX8_unfix_22 : decode cX8_unfix 22 = .ok (.iconst 0, 1) := by decide +kernel
theorem dX8_unfix_23 : decode cX8_unfix 23 = .ok (.iastore, 1) := by decide +kernel
theorem dX8_unfix_24 : decode cX8_unfix 24 = .ok (.aload_n 0, 1) := by decide +kernel
theorem dX8_unfix_25 : decode cX8_unfix 25 = .ok (.invokevirtual 221, 3) := by decide +kernel
theorem dX8_unfix_28 : decode cX8_unfix 28 = .ok (.iconst 1, 1) := by decide +kernel
theorem dX8_unfix_29 : decode cX8_unfix 29 = .ok (.ireturn, 1) := by decide +kernel
abbrev mX8_unfix : XM := (cX8_unfix, 2, RX8, (some .boolean), shw_8, 1)
noncomputable def rg_X8_unfix_0 : XK :=
 o_aload 0 <|
 o_iload 1 <|
 o_callV 2 1 [0] f_X8_isIsland <|
 o_if_ne (o_aload 0 <|
 o_callVg 1 0 [0] g_X8_keepsAside v_X8_keepsAside <|
 o_aload 0 <|
 o_get shw_8 8 0 <|
 o_iconst 69 <|
 o_iload 1 <|
 o_iadd <|
 o_iconst 0 <|
 o_iast shw_8 <|
 o_aload 0 <|
 o_callVg 1 0 [0] g_X8_keepsAct v_X8_keepsAct <|
 o_iconst 1 <|
 o_zreturn)
 (o_iconst 0 <|
 o_zreturn)
def en_X8_unfix_0 (p1 : Int) (a : Ob) : XSt := ([some (.inr (.inl (0, 0))), some (.inl p1)], [], [a])
noncomputable def mg_X8_unfix_0 (p1 : Int) (a : Ob) : Option Rt :=
 if xw (bz (islM a p1)) = 0 then (RI 0 [a])
 else (if oqV (ov_X8_keepsAside a) then (
 if xin (69 + p1) 735 then (
 if oqV (ov_X8_keepsAct (xset (oqO (ov_X8_keepsAside a) 0) 1 (xw (69 + p1)).toNat 0)) then (
 RI 1 [(oqO (ov_X8_keepsAct (xset (oqO (ov_X8_keepsAside a) 0) 1 (xw (69 + p1)).toNat 0)) 0)]) else none) else none) else none)
set_option maxRecDepth 100000 in
set_option maxHeartbeats 4000000 in
theorem rq_X8_unfix_0 (p1 : Int) (a : Ob) : rg_X8_unfix_0 (en_X8_unfix_0 p1 a) = mg_X8_unfix_0 p1 a := rfl
set_option maxRecDepth 100000 in
set_option maxHeartbeats 4000000 in
theorem sg_X8_unfix_0 {X : XDyn} {r0 : Rt} (C : XO X mX8_unfix) : XS X mX8_unfix r0 0 (rg_X8_unfix_0) := by
 unfold rg_X8_unfix_0
 exact s_aload_n (pc := 0) C dX8_unfix_0 rfl <|
    s_iload_n (pc := 1) C dX8_unfix_1 rfl <|
    s_callV (pc := 2) C ct_X8_isIsland (n := 2) (rk := 1) (mp := [0]) ⟨rfl, by decide, rfl⟩ (ci := 8) rfl rfl (by decide) (by decide) yi_X8_isIsland (by decide) wd_998 wd_1000 wd_26 wd_81 wd_1001 dX8_unfix_2 <|
    s_if_ne (pc := 5) C dX8_unfix_5 (by decide) (s_aload_n (pc := 10) C dX8_unfix_10 rfl <|
    s_callVg (pc := 11) C ct_X8_keepsAside (n := 1) (rk := 0) (mp := [0]) ⟨rfl, by decide, rfl⟩ (ci := 8) rfl rfl (by decide) (by decide) yi_X8_keepsAside (by decide) wd_967 wd_969 wd_19 wd_81 wd_970 dX8_unfix_11 <|
    s_aload_n (pc := 14) C dX8_unfix_14 rfl <|
    s_get (pc := 15) C (ci := 8) (kf := 0) rfl inX8 (by decide) wd_871 dX8_unfix_15 <|
    s_bipush (pc := 18) C dX8_unfix_18 (by decide) <|
    s_iload_n (pc := 20) C dX8_unfix_20 rfl <|
    s_iadd (pc := 21) C dX8_unfix_21 <|
    s_iconst (pc := 22) C dX8_unfix_22 <|
    s_iast (pc := 23) C dX8_unfix_23 <|
    s_aload_n (pc := 24) C dX8_unfix_24 rfl <|
    s_callVg (pc := 25) C ct_X8_keepsAct (n := 1) (rk := 0) (mp := [0]) ⟨rfl, by decide, rfl⟩ (ci := 8) rfl rfl (by decide) (by decide) yi_X8_keepsAct (by decide) wd_1113 wd_1115 wd_54 wd_81 wd_1116 dX8_unfix_25 <|
    s_iconst (pc := 28) C dX8_unfix_28 <|
    s_zreturn (pc := 29) C rfl dX8_unfix_29)
    (s_iconst (pc := 8) C dX8_unfix_8 <|
    s_zreturn (pc := 9) C rfl dX8_unfix_9)
noncomputable def rw_X8_unfix_0 : XK := rg_X8_unfix_0
noncomputable def md_X8_unfix_0 (p1 : Int) : Ob → Option Rt := mg_X8_unfix_0 p1
theorem eq_X8_unfix_0 (p1 : Int) (a : Ob) : rw_X8_unfix_0 (en_X8_unfix_0 p1 a) = md_X8_unfix_0 p1 a :=
 rq_X8_unfix_0 p1 a
theorem sd_X8_unfix_0 {X : XDyn} {r0 : Rt} (C : XO X mX8_unfix) : XS X mX8_unfix r0 0 (rw_X8_unfix_0) := sg_X8_unfix_0 C
theorem ctr_X8_unfix : XCt yX8_unfix mX8_unfix (xF mX8_unfix (rw_X8_unfix_0)) := xMet (by decide +kernel) rfl (fun _ _ C => sd_X8_unfix_0 C)
theorem eqf_X8_unfix (p1 : Int) (h0 : Ob) : xF mX8_unfix (rw_X8_unfix_0) [.inr (.inl (0, 0)), .inl p1] [h0] = md_X8_unfix_0 p1 h0 := eq_X8_unfix_0 p1 h0
theorem yi_X8_unfix : yX8_unfix.cls = RX8 ∧ yX8_unfix.cls ≠ "java/lang/invoke/MethodHandle" ∧ yX8_unfix.cls ≠ "java/lang/invoke/VarHandle" ∧ (parseMethodDescriptor yX8_unfix.desc).map (fun d => d.parameters.length) = some 1 := ⟨rfl, by decide +kernel, by decide +kernel, by decide +kernel⟩
theorem dX8_reserve_0 : decode cX8_reserve 0 = .ok (.iload_n 1, 1) := by decide +kernel
theorem dX8_reserve_1 : decode cX8_reserve 1 = .ok (.i2l, 1) := by decide +kernel
theorem dX8_reserve_2 : decode cX8_reserve 2 = .ok (.lconst 1, 1) := by decide +kernel
theorem dX8_reserve_3 : decode cX8_reserve 3 = .ok (.ldc2_w 204, 3) := by decide +kernel
theorem dX8_reserve_6 : decode cX8_reserve 6 = .ok (.invokestatic 75, 3) := by decide +kernel
theorem dX8_reserve_9 : decode cX8_reserve 9 = .ok (.ifCond .ne 5, 3) := by decide +kernel
theorem dX8_reserve_12 : decode cX8_reserve 12 = .ok (.iconst (-1), 1) := by decide +kernel
theorem dX8_reserve_13 : decode cX8_reserve 13 = .ok (.ireturn, 1) := by decide +kernel
theorem dX8_reserve_14 : decode cX8_reserve 14 = .ok (.aload_n 0, 1) := by decide +kernel
theorem dX8_reserve_15 : decode cX8_reserve 15 = .ok (.invokevirtual 208, 3) := by decide +kernel
theorem dX8_reserve_18 : decode cX8_reserve 18 = .ok (.aload_n 0, 1) := by decide +kernel
theorem dX8_reserve_19 : decode cX8_reserve 19 = .ok (.iload_n 1, 1) := by decide +kernel
theorem dX8_reserve_20 : decode cX8_reserve 20 = .ok (.iconst 1, 1) := by decide +kernel
theorem dX8_reserve_21 : decode cX8_reserve 21 = .ok (.iadd, 1) := by decide +kernel
theorem dX8_reserve_22 : decode cX8_reserve 22 = .ok (.invokevirtual 249, 3) := by decide +kernel
theorem dX8_reserve_25 : decode cX8_reserve 25 = .ok (.istore_n 2, 1) := by decide +kernel
theorem dX8_reserve_26 : decode cX8_reserve 26 = .ok (.iload_n 2, 1) := by decide +kernel
theorem dX8_reserve_27 : decode cX8_reserve 27 = .ok (.ifCond .ge 6, 3) := by decide +kernel
theorem dX8_reserve_30 : decode cX8_reserve 30 = .ok (.bipush (-2), 2) := by decide +kernel
theorem dX8_reserve_32 : decode cX8_reserve 32 = .ok (.ireturn, 1) := by decide +kernel
theorem dX8_reserve_33 : decode cX8_reserve 33 = .ok (.aload_n 0, 1) := by decide +kernel
theorem dX8_reserve_34 : decode cX8_reserve 34 = .ok (.invokevirtual 221, 3) := by decide +kernel
theorem dX8_reserve_37 : decode cX8_reserve 37 = .ok (.iload_n 2, 1) := by decide +kernel
theorem dX8_reserve_38 : decode cX8_reserve 38 = .ok (.ireturn, 1) := by decide +kernel
abbrev mX8_reserve : XM := (cX8_reserve, 3, RX8, (some .int), shw_8, 6)
noncomputable def rg_X8_reserve_0 : XK :=
 o_iload 1 <|
 o_i2l <|
 o_lconst 1 <|
 o_lconst 60 <|
 o_callSg 3 1 [] g_X8_in v_X8_in <|
 o_if_ne (o_aload 0 <|
 o_callVg 1 0 [0] g_X8_keepsAside v_X8_keepsAside <|
 o_aload 0 <|
 o_iload 1 <|
 o_iconst 1 <|
 o_iadd <|
 o_callVg 2 1 [0] g_X8_clearsFirst v_X8_clearsFirst <|
 o_istore 2 <|
 o_iload 2 <|
 o_if_ge (o_aload 0 <|
 o_callVg 1 0 [0] g_X8_keepsAct v_X8_keepsAct <|
 o_iload 2 <|
 o_ireturn)
 (o_iconst (-2) <|
 o_ireturn))
 (o_iconst (-1) <|
 o_ireturn)
def en_X8_reserve_0 (p1 : Int) (a : Ob) : XSt := ([some (.inr (.inl (0, 0))), some (.inl p1), none], [], [a])
noncomputable def mg_X8_reserve_0 (p1 : Int) (a : Ob) : Option Rt :=
 if xlr (xw p1) && (xlr (1 : Int) && xlr (60 : Int)) then (
 if xw (bz (inn (xw p1) (1 : Int) (60 : Int))) = 0 then (RI (-1) [a])
 else (if oqV (ov_X8_keepsAside a) then (
 if oqI (ov_X8_clearsFirst (p1 + 1) (oqO (ov_X8_keepsAside a) 0)) then (
 if xw (oqR (ov_X8_clearsFirst (p1 + 1) (oqO (ov_X8_keepsAside a) 0))) ≥ 0 then (if oqV (ov_X8_keepsAct (oqO (ov_X8_clearsFirst (p1 + 1) (oqO (ov_X8_keepsAside a) 0)) 0)) then (
 RI (oqR (ov_X8_clearsFirst (p1 + 1) (oqO (ov_X8_keepsAside a) 0))) [(oqO (ov_X8_keepsAct (oqO (ov_X8_clearsFirst (p1 + 1) (oqO (ov_X8_keepsAside a) 0)) 0)) 0)]) else none)
 else (RI (-2) [(oqO (ov_X8_clearsFirst (p1 + 1) (oqO (ov_X8_keepsAside a) 0)) 0)])) else none) else none)) else none
set_option maxRecDepth 100000 in
set_option maxHeartbeats 4000000 in
theorem rq_X8_reserve_0 (p1 : Int) (a : Ob) : rg_X8_reserve_0 (en_X8_reserve_0 p1 a) = mg_X8_reserve_0 p1 a := rfl
set_option maxRecDepth 100000 in
set_option maxHeartbeats 4000000 in
theorem sg_X8_reserve_0 {X : XDyn} {r0 : Rt} (C : XO X mX8_reserve) : XS X mX8_reserve r0 0 (rg_X8_reserve_0) := by
 unfold rg_X8_reserve_0
 exact s_iload_n (pc := 0) C dX8_reserve_0 rfl <|
    s_i2l (pc := 1) C dX8_reserve_1 <|
    s_lconst (pc := 2) C dX8_reserve_2 rfl <|
    s_ldc2 (pc := 3) C dX8_reserve_3 wd_965 rfl <|
    s_callSg (pc := 6) C ct_X8_in (n := 3) (rk := 1) (mp := []) ⟨rfl, by decide, rfl⟩ (by decide) (by decide) ⟨rfl, yi_X8_in⟩ wd_954 wd_955 wd_81 wd_956 dX8_reserve_6 <|
    s_if_ne (pc := 9) C dX8_reserve_9 (by decide) (s_aload_n (pc := 14) C dX8_reserve_14 rfl <|
    s_callVg (pc := 15) C ct_X8_keepsAside (n := 1) (rk := 0) (mp := [0]) ⟨rfl, by decide, rfl⟩ (ci := 8) rfl rfl (by decide) (by decide) yi_X8_keepsAside (by decide) wd_967 wd_969 wd_19 wd_81 wd_970 dX8_reserve_15 <|
    s_aload_n (pc := 18) C dX8_reserve_18 rfl <|
    s_iload_n (pc := 19) C dX8_reserve_19 rfl <|
    s_iconst (pc := 20) C dX8_reserve_20 <|
    s_iadd (pc := 21) C dX8_reserve_21 <|
    s_callVg (pc := 22) C ct_X8_clearsFirst (n := 2) (rk := 1) (mp := [0]) ⟨rfl, by decide, rfl⟩ (ci := 8) rfl rfl (by decide) (by decide) yi_X8_clearsFirst (by decide) wd_1185 wd_1187 wd_59 wd_81 wd_1188 dX8_reserve_22 <|
    s_istore_n (pc := 25) C dX8_reserve_25 rfl <|
    s_iload_n (pc := 26) C dX8_reserve_26 rfl <|
    s_if_ge (pc := 27) C dX8_reserve_27 (by decide) (s_aload_n (pc := 33) C dX8_reserve_33 rfl <|
    s_callVg (pc := 34) C ct_X8_keepsAct (n := 1) (rk := 0) (mp := [0]) ⟨rfl, by decide, rfl⟩ (ci := 8) rfl rfl (by decide) (by decide) yi_X8_keepsAct (by decide) wd_1113 wd_1115 wd_54 wd_81 wd_1116 dX8_reserve_34 <|
    s_iload_n (pc := 37) C dX8_reserve_37 rfl <|
    s_ireturn (pc := 38) C rfl dX8_reserve_38)
    (s_bipush (pc := 30) C dX8_reserve_30 (by decide) <|
    s_ireturn (pc := 32) C rfl dX8_reserve_32))
    (s_iconst (pc := 12) C dX8_reserve_12 <|
    s_ireturn (pc := 13) C rfl dX8_reserve_13)
noncomputable def rw_X8_reserve_0 : XK := rg_X8_reserve_0
noncomputable def md_X8_reserve_0 (p1 : Int) : Ob → Option Rt := mg_X8_reserve_0 p1
theorem eq_X8_reserve_0 (p1 : Int) (a : Ob) : rw_X8_reserve_0 (en_X8_reserve_0 p1 a) = md_X8_reserve_0 p1 a :=
 rq_X8_reserve_0 p1 a
theorem sd_X8_reserve_0 {X : XDyn} {r0 : Rt} (C : XO X mX8_reserve) : XS X mX8_reserve r0 0 (rw_X8_reserve_0) := sg_X8_reserve_0 C
theorem ctr_X8_reserve : XCt yX8_reserve mX8_reserve (xF mX8_reserve (rw_X8_reserve_0)) := xMet (by decide +kernel) rfl (fun _ _ C => sd_X8_reserve_0 C)
theorem eqf_X8_reserve (p1 : Int) (h0 : Ob) : xF mX8_reserve (rw_X8_reserve_0) [.inr (.inl (0, 0)), .inl p1] [h0] = md_X8_reserve_0 p1 h0 := eq_X8_reserve_0 p1 h0
theorem yi_X8_reserve : yX8_reserve.cls = RX8 ∧ yX8_reserve.cls ≠ "java/lang/invoke/MethodHandle" ∧ yX8_reserve.cls ≠ "java/lang/invoke/VarHandle" ∧ (parseMethodDescriptor yX8_reserve.desc).map (fun d => d.parameters.length) = some 1 := ⟨rfl, by decide +kernel, by decide +kernel, by decide +kernel⟩
theorem dX8_compact_0 : decode cX8_compact 0 = .ok (.aload_n 0, 1) := by decide +kernel
theorem dX8_compact_1 : decode cX8_compact 1 = .ok (.invokevirtual 208, 3) := by decide +kernel
theorem dX8_compact_4 : decode cX8_compact 4 = .ok (.aload_n 0, 1) := by decide +kernel
theorem dX8_compact_5 : decode cX8_compact 5 = .ok (.invokevirtual 109, 3) := by decide +kernel
theorem dX8_compact_8 : decode cX8_compact 8 = .ok (.aload_n 0, 1) := by decide +kernel
theorem dX8_compact_9 : decode cX8_compact 9 = .ok (.sipush 201, 3) := by decide +kernel
theorem dX8_compact_12 : decode cX8_compact 12 = .ok (.invokevirtual 170, 3) := by decide +kernel
theorem dX8_compact_15 : decode cX8_compact 15 = .ok (.pop, 1) := by decide +kernel
theorem dX8_compact_16 : decode cX8_compact 16 = .ok (.aload_n 0, 1) := by decide +kernel
theorem dX8_compact_17 : decode cX8_compact 17 = .ok (.invokevirtual 221, 3) := by decide +kernel
theorem dX8_compact_20 : decode cX8_compact 20 = .ok (.aload_n 0, 1) := by decide +kernel
theorem dX8_compact_21 : decode cX8_compact 21 = .ok (.invokevirtual 252, 3) := by decide +kernel
theorem dX8_compact_24 : decode cX8_compact 24 = .ok (.ireturn, 1) := by decide +kernel
abbrev mX8_compact : XM := (cX8_compact, 1, RX8, (some .int), shw_8, 5)
noncomputable def rg_X8_compact_0 : XK :=
 o_aload 0 <|
 o_callVg 1 0 [0] g_X8_keepsAside v_X8_keepsAside <|
 o_aload 0 <|
 o_callVg 1 0 [0] g_X8_fillsOwners v_X8_fillsOwners <|
 o_aload 0 <|
 o_iconst 201 <|
 o_callVg 2 1 [0] g_X8_slides v_X8_slides <|
 o_pop <|
 o_aload 0 <|
 o_callVg 1 0 [0] g_X8_keepsAct v_X8_keepsAct <|
 o_aload 0 <|
 o_callVg 1 1 [0] g_X8_moved v_X8_moved <|
 o_ireturn
def en_X8_compact_0 (a : Ob) : XSt := ([some (.inr (.inl (0, 0)))], [], [a])
noncomputable def mg_X8_compact_0 (a : Ob) : Option Rt :=
 if oqV (ov_X8_keepsAside a) then (
 if oqV (ov_X8_fillsOwners (oqO (ov_X8_keepsAside a) 0)) then (
 if oqI (ov_X8_slides (201 : Int) (oqO (ov_X8_fillsOwners (oqO (ov_X8_keepsAside a) 0)) 0)) then (
 if oqV (ov_X8_keepsAct (oqO (ov_X8_slides (201 : Int) (oqO (ov_X8_fillsOwners (oqO (ov_X8_keepsAside a) 0)) 0)) 0)) then (
 if pd (ov_X8_moved (oqO (ov_X8_keepsAct (oqO (ov_X8_slides (201 : Int) (oqO (ov_X8_fillsOwners (oqO (ov_X8_keepsAside a) 0)) 0)) 0)) 0) = RI (oqR (ov_X8_moved (oqO (ov_X8_keepsAct (oqO (ov_X8_slides (201 : Int) (oqO (ov_X8_fillsOwners (oqO (ov_X8_keepsAside a) 0)) 0)) 0)) 0))) [(oqO (ov_X8_keepsAct (oqO (ov_X8_slides (201 : Int) (oqO (ov_X8_fillsOwners (oqO (ov_X8_keepsAside a) 0)) 0)) 0)) 0)]) then (
 RI (oqR (ov_X8_moved (oqO (ov_X8_keepsAct (oqO (ov_X8_slides (201 : Int) (oqO (ov_X8_fillsOwners (oqO (ov_X8_keepsAside a) 0)) 0)) 0)) 0))) [(oqO (ov_X8_keepsAct (oqO (ov_X8_slides (201 : Int) (oqO (ov_X8_fillsOwners (oqO (ov_X8_keepsAside a) 0)) 0)) 0)) 0)]) else none) else none) else none) else none) else none
set_option maxRecDepth 100000 in
set_option maxHeartbeats 4000000 in
theorem rq_X8_compact_0 (a : Ob) : rg_X8_compact_0 (en_X8_compact_0 a) = mg_X8_compact_0 a := rfl
set_option maxRecDepth 100000 in
set_option maxHeartbeats 4000000 in
theorem sg_X8_compact_0 {X : XDyn} {r0 : Rt} (C : XO X mX8_compact) : XS X mX8_compact r0 0 (rg_X8_compact_0) := by
 unfold rg_X8_compact_0
 exact s_aload_n (pc := 0) C dX8_compact_0 rfl <|
    s_callVg (pc := 1) C ct_X8_keepsAside (n := 1) (rk := 0) (mp := [0]) ⟨rfl, by decide, rfl⟩ (ci := 8) rfl rfl (by decide) (by decide) yi_X8_keepsAside (by decide) wd_967 wd_969 wd_19 wd_81 wd_970 dX8_compact_1 <|
    s_aload_n (pc := 4) C dX8_compact_4 rfl <|
    s_callVg (pc := 5) C ct_X8_fillsOwners (n := 1) (rk := 0) (mp := [0]) ⟨rfl, by decide, rfl⟩ (ci := 8) rfl rfl (by decide) (by decide) yi_X8_fillsOwners (by decide) wd_979 wd_981 wd_22 wd_81 wd_982 dX8_compact_5 <|
    s_aload_n (pc := 8) C dX8_compact_8 rfl <|
    s_sipush (pc := 9) C dX8_compact_9 (by decide) <|
    s_callVg (pc := 12) C ct_X8_slides (n := 2) (rk := 1) (mp := [0]) ⟨rfl, by decide, rfl⟩ (ci := 8) rfl rfl (by decide) (by decide) yi_X8_slides (by decide) wd_1010 wd_1012 wd_29 wd_81 wd_1013 dX8_compact_12 <|
    s_pop (pc := 15) C dX8_compact_15 <|
    s_aload_n (pc := 16) C dX8_compact_16 rfl <|
    s_callVg (pc := 17) C ct_X8_keepsAct (n := 1) (rk := 0) (mp := [0]) ⟨rfl, by decide, rfl⟩ (ci := 8) rfl rfl (by decide) (by decide) yi_X8_keepsAct (by decide) wd_1113 wd_1115 wd_54 wd_81 wd_1116 dX8_compact_17 <|
    s_aload_n (pc := 20) C dX8_compact_20 rfl <|
    s_callVg (pc := 21) C ct_X8_moved (n := 1) (rk := 1) (mp := [0]) ⟨rfl, by decide, rfl⟩ (ci := 8) rfl rfl (by decide) (by decide) yi_X8_moved (by decide) wd_1213 wd_1215 wd_63 wd_81 wd_1216 dX8_compact_21 <|
    s_ireturn (pc := 24) C rfl dX8_compact_24
noncomputable def rw_X8_compact_0 : XK := rg_X8_compact_0
noncomputable def md_X8_compact_0 : Ob → Option Rt := mg_X8_compact_0
theorem eq_X8_compact_0 (a : Ob) : rw_X8_compact_0 (en_X8_compact_0 a) = md_X8_compact_0 a :=
 rq_X8_compact_0 a
theorem sd_X8_compact_0 {X : XDyn} {r0 : Rt} (C : XO X mX8_compact) : XS X mX8_compact r0 0 (rw_X8_compact_0) := sg_X8_compact_0 C
theorem ctr_X8_compact : XCt yX8_compact mX8_compact (xF mX8_compact (rw_X8_compact_0)) := xMet (by decide +kernel) rfl (fun _ _ C => sd_X8_compact_0 C)
theorem eqf_X8_compact (h0 : Ob) : xF mX8_compact (rw_X8_compact_0) [.inr (.inl (0, 0))] [h0] = md_X8_compact_0 h0 := eq_X8_compact_0 h0
theorem yi_X8_compact : yX8_compact.cls = RX8 ∧ yX8_compact.cls ≠ "java/lang/invoke/MethodHandle" ∧ yX8_compact.cls ≠ "java/lang/invoke/VarHandle" ∧ (parseMethodDescriptor yX8_compact.desc).map (fun d => d.parameters.length) = some 0 := ⟨rfl, by decide +kernel, by decide +kernel, by decide +kernel⟩
theorem dX8_policy_0 : decode cX8_policy 0 = .ok (.iload_n 1, 1) := by decide +kernel
theorem dX8_policy_1 : decode cX8_policy 1 = .ok (.i2l, 1) := by decide +kernel
theorem dX8_policy_2 : decode cX8_policy 2 = .ok (.lconst 0, 1) := by decide +kernel
theorem dX8_policy_3 : decode cX8_policy 3 = .ok (.ldc2_w 255, 3) := by decide +kernel
theorem dX8_policy_6 : decode cX8_policy 6 = .ok (.invokestatic 75, 3) := by decide +kernel
theorem dX8_policy_9 : decode cX8_policy 9 = .ok (.ifCond .eq 13, 3) := by decide +kernel
theorem dX8_policy_12 : decode cX8_policy 12 = .ok (.aload_n 0, 1) := by decide +kernel
theorem dX8_policy_13 : decode cX8_policy 13 = .ok (.getfield 7, 3) := by decide +kernel
theorem dX8_policy_16 : decode cX8_policy 16 = .ok (.iconst 2, 1) := by decide +kernel
theorem dX8_policy_17 : decode cX8_policy 17 = .ok (.iaload, 1) := by decide +kernel
theorem dX8_policy_18 : decode cX8_policy 18 = .ok (.iload_n 1, 1) := by decide +kernel
theorem dX8_policy_19 : decode cX8_policy 19 = .ok (.if_icmp .ne 5, 3) := by decide +kernel
theorem dX8_policy_22 : decode cX8_policy 22 = .ok (.iconst (-1), 1) := by decide +kernel
theorem dX8_policy_23 : decode cX8_policy 23 = .ok (.ireturn, 1) := by decide +kernel
theorem dX8_policy_24 : decode cX8_policy 24 = .ok (.aload_n 0, 1) := by decide +kernel
theorem dX8_policy_25 : decode cX8_policy 25 = .ok (.invokevirtual 208, 3) := by decide +kernel
theorem dX8_policy_28 : decode cX8_policy 28 = .ok (.aload_n 0, 1) := by decide +kernel
theorem dX8_policy_29 : decode cX8_policy 29 = .ok (.getfield 7, 3) := by decide +kernel
theorem dX8_policy_32 : decode cX8_policy 32 = .ok (.iconst 2, 1) := by decide +kernel
theorem dX8_policy_33 : decode cX8_policy 33 = .ok (.iaload, 1) := by decide +kernel
theorem dX8_policy_34 : decode cX8_policy 34 = .ok (.istore_n 2, 1) := by decide +kernel
theorem dX8_policy_35 : decode cX8_policy 35 = .ok (.aload_n 0, 1) := by decide +kernel
theorem dX8_policy_36 : decode cX8_policy 36 = .ok (.getfield 7, 3) := by decide +kernel
theorem dX8_policy_39 : decode cX8_policy 39 = .ok (.iconst 2, 1) := by decide +kernel
theorem dX8_policy_40 : decode cX8_policy 40 = .ok (.iload_n 1, 1) := by decide +kernel
theorem dX8_policy_41 : decode cX8_policy 41 = .ok (.iastore, 1) := by decide +kernel
theorem dX8_policy_42 : decode cX8_policy 42 = .ok (.aload_n 0, 1) := by decide +kernel
theorem dX8_policy_43 : decode cX8_policy 43 = .ok (.invokevirtual 221, 3) := by decide +kernel
theorem dX8_policy_46 : decode cX8_policy 46 = .ok (.iload_n 2, 1) := by decide +kernel
theorem dX8_policy_47 : decode cX8_policy 47 = .ok (.ireturn, 1) := by decide +kernel
abbrev mX8_policy : XM := (cX8_policy, 3, RX8, (some .int), shw_8, 1)
noncomputable def rg_X8_policy_0 : XK :=
 o_iload 1 <|
 o_i2l <|
 o_lconst 0 <|
 o_lconst 4 <|
 o_callSg 3 1 [] g_X8_in v_X8_in <|
 o_if_eq (o_iconst (-1) <|
 o_ireturn)
 (o_aload 0 <|
 o_get shw_8 8 0 <|
 o_iconst 2 <|
 o_iald shw_8 <|
 o_iload 1 <|
 o_icmp_ne (o_aload 0 <|
 o_callVg 1 0 [0] g_X8_keepsAside v_X8_keepsAside <|
 o_aload 0 <|
 o_get shw_8 8 0 <|
 o_iconst 2 <|
 o_iald shw_8 <|
 o_istore 2 <|
 o_aload 0 <|
 o_get shw_8 8 0 <|
 o_iconst 2 <|
 o_iload 1 <|
 o_iast shw_8 <|
 o_aload 0 <|
 o_callVg 1 0 [0] g_X8_keepsAct v_X8_keepsAct <|
 o_iload 2 <|
 o_ireturn)
 (o_iconst (-1) <|
 o_ireturn))
def en_X8_policy_0 (p1 : Int) (a : Ob) : XSt := ([some (.inr (.inl (0, 0))), some (.inl p1), none], [], [a])
noncomputable def mg_X8_policy_0 (p1 : Int) (a : Ob) : Option Rt :=
 if xlr (xw p1) && (xlr (0 : Int) && xlr (4 : Int)) then (
 if xw (bz (inn (xw p1) (0 : Int) (4 : Int))) = 0 then (RI (-1) [a])
 else (if xw (a 1 2) = xw p1 then (RI (-1) [a])
 else (if oqV (ov_X8_keepsAside a) then (
 if oqV (ov_X8_keepsAct (xset (oqO (ov_X8_keepsAside a) 0) 1 2 p1)) then (
 RI ((oqO (ov_X8_keepsAside a) 0) 1 2) [(oqO (ov_X8_keepsAct (xset (oqO (ov_X8_keepsAside a) 0) 1 2 p1)) 0)]) else none) else none))) else none
set_option maxRecDepth 100000 in
set_option maxHeartbeats 4000000 in
theorem rq_X8_policy_0 (p1 : Int) (a : Ob) : rg_X8_policy_0 (en_X8_policy_0 p1 a) = mg_X8_policy_0 p1 a := rfl
set_option maxRecDepth 100000 in
set_option maxHeartbeats 4000000 in
theorem sg_X8_policy_0 {X : XDyn} {r0 : Rt} (C : XO X mX8_policy) : XS X mX8_policy r0 0 (rg_X8_policy_0) := by
 unfold rg_X8_policy_0
 exact s_iload_n (pc := 0) C dX8_policy_0 rfl <|
    s_i2l (pc := 1) C dX8_policy_1 <|
    s_lconst (pc := 2) C dX8_policy_2 rfl <|
    s_ldc2 (pc := 3) C dX8_policy_3 wd_1225 rfl <|
    s_callSg (pc := 6) C ct_X8_in (n := 3) (rk := 1) (mp := []) ⟨rfl, by decide, rfl⟩ (by decide) (by decide) ⟨rfl, yi_X8_in⟩ wd_954 wd_955 wd_81 wd_956 dX8_policy_6 <|
    s_if_eq (pc := 9) C dX8_policy_9 (by decide) (s_iconst (pc := 22) C dX8_policy_22 <|
    s_ireturn (pc := 23) C rfl dX8_policy_23)
    (s_aload_n (pc := 12) C dX8_policy_12 rfl <|
    s_get (pc := 13) C (ci := 8) (kf := 0) rfl inX8 (by decide) wd_871 dX8_policy_13 <|
    s_iconst (pc := 16) C dX8_policy_16 <|
    s_iald (pc := 17) C dX8_policy_17 <|
    s_iload_n (pc := 18) C dX8_policy_18 rfl <|
    s_icmp_ne (pc := 19) C dX8_policy_19 (by decide) (s_aload_n (pc := 24) C dX8_policy_24 rfl <|
    s_callVg (pc := 25) C ct_X8_keepsAside (n := 1) (rk := 0) (mp := [0]) ⟨rfl, by decide, rfl⟩ (ci := 8) rfl rfl (by decide) (by decide) yi_X8_keepsAside (by decide) wd_967 wd_969 wd_19 wd_81 wd_970 dX8_policy_25 <|
    s_aload_n (pc := 28) C dX8_policy_28 rfl <|
    s_get (pc := 29) C (ci := 8) (kf := 0) rfl inX8 (by decide) wd_871 dX8_policy_29 <|
    s_iconst (pc := 32) C dX8_policy_32 <|
    s_iald (pc := 33) C dX8_policy_33 <|
    s_istore_n (pc := 34) C dX8_policy_34 rfl <|
    s_aload_n (pc := 35) C dX8_policy_35 rfl <|
    s_get (pc := 36) C (ci := 8) (kf := 0) rfl inX8 (by decide) wd_871 dX8_policy_36 <|
    s_iconst (pc := 39) C dX8_policy_39 <|
    s_iload_n (pc := 40) C dX8_policy_40 rfl <|
    s_iast (pc := 41) C dX8_policy_41 <|
    s_aload_n (pc := 42) C dX8_policy_42 rfl <|
    s_callVg (pc := 43) C ct_X8_keepsAct (n := 1) (rk := 0) (mp := [0]) ⟨rfl, by decide, rfl⟩ (ci := 8) rfl rfl (by decide) (by decide) yi_X8_keepsAct (by decide) wd_1113 wd_1115 wd_54 wd_81 wd_1116 dX8_policy_43 <|
    s_iload_n (pc := 46) C dX8_policy_46 rfl <|
    s_ireturn (pc := 47) C rfl dX8_policy_47)
    (s_iconst (pc := 22) C dX8_policy_22 <|
    s_ireturn (pc := 23) C rfl dX8_policy_23))
noncomputable def rw_X8_policy_0 : XK := rg_X8_policy_0
noncomputable def md_X8_policy_0 (p1 : Int) : Ob → Option Rt := mg_X8_policy_0 p1
theorem eq_X8_policy_0 (p1 : Int) (a : Ob) : rw_X8_policy_0 (en_X8_policy_0 p1 a) = md_X8_policy_0 p1 a :=
 rq_X8_policy_0 p1 a
theorem sd_X8_policy_0 {X : XDyn} {r0 : Rt} (C : XO X mX8_policy) : XS X mX8_policy r0 0 (rw_X8_policy_0) := sg_X8_policy_0 C
theorem ctr_X8_policy : XCt yX8_policy mX8_policy (xF mX8_policy (rw_X8_policy_0)) := xMet (by decide +kernel) rfl (fun _ _ C => sd_X8_policy_0 C)
theorem eqf_X8_policy (p1 : Int) (h0 : Ob) : xF mX8_policy (rw_X8_policy_0) [.inr (.inl (0, 0)), .inl p1] [h0] = md_X8_policy_0 p1 h0 := eq_X8_policy_0 p1 h0
theorem yi_X8_policy : yX8_policy.cls = RX8 ∧ yX8_policy.cls ≠ "java/lang/invoke/MethodHandle" ∧ yX8_policy.cls ≠ "java/lang/invoke/VarHandle" ∧ (parseMethodDescriptor yX8_policy.desc).map (fun d => d.parameters.length) = some 1 := ⟨rfl, by decide +kernel, by decide +kernel, by decide +kernel⟩
theorem dX8_handle_0 : decode cX8_handle 0 = .ok (.iload_n 1, 1) := by decide +kernel
theorem dX8_handle_1 : decode cX8_handle 1 = .ok (.invokestatic 79, 3) := by decide +kernel
theorem dX8_handle_4 : decode cX8_handle 4 = .ok (.ifCond .eq 15, 3) := by decide +kernel
theorem dX8_handle_7 : decode cX8_handle 7 = .ok (.iload_n 2, 1) := by decide +kernel
theorem dX8_handle_8 : decode cX8_handle 8 = .ok (.i2l, 1) := by decide +kernel
theorem dX8_handle_9 : decode cX8_handle 9 = .ok (.lconst 0, 1) := by decide +kernel
theorem dX8_handle_10 : decode cX8_handle 10 = .ok (.ldc2_w 71, 3) := by decide +kernel
theorem dX8_handle_13 : decode cX8_handle 13 = .ok (.invokestatic 75, 3) := by decide +kernel
theorem dX8_handle_16 : decode cX8_handle 16 = .ok (.ifCond .ne 5, 3) := by decide +kernel
theorem dX8_handle_19 : decode cX8_handle 19 = .ok (.iconst (-1), 1) := by decide +kernel
theorem dX8_handle_20 : decode cX8_handle 20 = .ok (.ireturn, 1) := by decide +kernel
theorem dX8_handle_21 : decode cX8_handle 21 = .ok (.iload_n 2, 1) := by decide +kernel
theorem dX8_handle_22 : decode cX8_handle 22 = .ok (.ifCond .ne 12, 3) := by decide +kernel
theorem dX8_handle_25 : decode cX8_handle 25 = .ok (.aload_n 0, 1) := by decide +kernel
theorem dX8_handle_26 : decode cX8_handle 26 = .ok (.getfield 7, 3) := by decide +kernel
theorem dX8_handle_29 : decode cX8_handle 29 = .ok (.iconst 5, 1) := by decide +kernel
theorem dX8_handle_30 : decode cX8_handle 30 = .ok (.iload_n 1, 1) := by decide +kernel
theorem dX8_handle_31 : decode cX8_handle 31 = .ok (.iadd, 1) := by decide +kernel
theorem dX8_handle_32 : decode cX8_handle 32 = .ok (.iaload, 1) := by decide +kernel
theorem dX8_handle_33 : decode cX8_handle 33 = .ok (.ireturn, 1) := by decide +kernel
theorem dX8_handle_34 : decode cX8_handle 34 = .ok (.aload_n 0, 1) := by decide +kernel
theorem dX8_handle_35 : decode cX8_handle 35 = .ok (.iload_n 1, 1) := by decide +kernel
theorem dX8_handle_36 : decode cX8_handle 36 = .ok (.invokevirtual 227, 3) := by decide +kernel
theorem dX8_handle_39 : decode cX8_handle 39 = .ok (.ifCond .ne 5, 3) := by decide +kernel
theorem dX8_handle_42 : decode cX8_handle 42 = .ok (.iconst (-1), 1) := by decide +kernel
theorem dX8_handle_43 : decode cX8_handle 43 = .ok (.ireturn, 1) := by decide +kernel
theorem dX8_handle_44 : decode cX8_handle 44 = .ok (.iload_n 2, 1) := by decide +kernel
theorem dX8_handle_45 : decode cX8_handle 45 = .ok (.tableswitch 121 1 7 #[43, 65, 75, 85, 95, 105, 115], 43) := by decide +kernel
theorem dX8_handle_88 : decode cX8_handle 88 = .ok (.aload_n 0, 1) := by decide +kernel
theorem dX8_handle_89 : decode cX8_handle 89 = .ok (.iload_n 1, 1) := by decide +kernel
theorem dX8_handle_90 : decode cX8_handle 90 = .ok (.invokevirtual 83, 3) := by decide +kernel
theorem dX8_handle_93 : decode cX8_handle 93 = .ok (.ifCond .eq 15, 3) := by decide +kernel
theorem dX8_handle_96 : decode cX8_handle 96 = .ok (.aload_n 0, 1) := by decide +kernel
theorem dX8_handle_97 : decode cX8_handle 97 = .ok (.getfield 7, 3) := by decide +kernel
theorem dX8_handle_100 : decode cX8_handle 100 = .ok (.bipush 13, 2) := by decide +kernel
theorem dX8_handle_102 : decode cX8_handle 102 = .ok (.iload_n 1, 1) := by decide +kernel
theorem dX8_handle_103 : decode cX8_handle 103 = .ok (.iadd, 1) := by decide +kernel
theorem dX8_handle_104 : decode cX8_handle 104 = .ok (.iaload, 1) := by decide +kernel
theorem dX8_handle_105 : decode cX8_handle 105 = .ok (.goto 4, 3) := by decide +kernel
theorem dX8_handle_108 : decode cX8_handle 108 = .ok (.iconst (-1), 1) := by decide +kernel
theorem dX8_handle_109 : decode cX8_handle 109 = .ok (.ireturn, 1) := by decide +kernel
theorem dX8_handle_110 : decode cX8_handle 110 = .ok (.aload_n 0, 1) := by decide +kernel
theorem dX8_handle_111 : decode cX8_handle 111 = .ok (.getfield 7, 3) := by decide +kernel
theorem dX8_handle_114 : decode cX8_handle 114 = .ok (.bipush 21, 2) := by decide +kernel
theorem dX8_handle_116 : decode cX8_handle 116 = .ok (.iload_n 1, 1) := by decide +kernel
theorem dX8_handle_117 : decode cX8_handle 117 = .ok (.iadd, 1) := by decide +kernel
theorem dX8_handle_118 : decode cX8_handle 118 = .ok (.iaload, 1) := by decide +kernel
theorem dX8_handle_119 : decode cX8_handle 119 = .ok (.ireturn, 1) := by decide +kernel
theorem dX8_handle_120 : decode cX8_handle 120 = .ok (.aload_n 0, 1) := by decide +kernel
theorem dX8_handle_121 : decode cX8_handle 121 = .ok (.getfield 7, 3) := by decide +kernel
theorem dX8_handle_124 : decode cX8_handle 124 = .ok (.bipush 29, 2) := by decide +kernel
theorem dX8_handle_126 : decode cX8_handle 126 = .ok (.iload_n 1, 1) := by decide +kernel
theorem dX8_handle_127 : decode cX8_handle 127 = .ok (.iadd, 1) := by decide +kernel
theorem dX8_handle_128 : decode cX8_handle 128 = .ok (.iaload, 1) := by decide +kernel
theorem dX8_handle_129 : decode cX8_handle 129 = .ok (.ireturn, 1) := by decide +kernel
theorem dX8_handle_130 : decode cX8_handle 130 = .ok (.aload_n 0, 1) := by decide +kernel
theorem dX8_handle_131 : decode cX8_handle 131 = .ok (.getfield 7, 3) := by decide +kernel
theorem dX8_handle_134 : decode cX8_handle 134 = .ok (.bipush 53, 2) := by decide +kernel
theorem dX8_handle_136 : decode cX8_handle 136 = .ok (.iload_n 1, 1) := by decide +kernel
theorem dX8_handle_137 : decode cX8_handle 137 = .ok (.iadd, 1) := by decide +kernel
theorem dX8_handle_138 : decode cX8_handle 138 = .ok (.iaload, 1) := by decide +kernel
theorem dX8_handle_139 : decode cX8_handle 139 = .ok (.ireturn, 1) := by decide +kernel
theorem dX8_handle_140 : decode cX8_handle 140 = .ok (.aload_n 0, 1) := by decide +kernel
theorem dX8_handle_141 : decode cX8_handle 141 = .ok (.getfield 7, 3) := by decide +kernel
theorem dX8_handle_144 : decode cX8_handle 144 = .ok (.bipush 45, 2) := by decide +kernel
theorem dX8_handle_146 : decode cX8_handle 146 = .ok (.iload_n 1, 1) := by decide +kernel
theorem dX8_handle_147 : decode cX8_handle 147 = .ok (.iadd, 1) := by decide +kernel
theorem dX8_handle_148 : decode cX8_handle 148 = .ok (.iaload, 1) := by decide +kernel
theorem dX8_handle_149 : decode cX8_handle 149 = .ok (.ireturn, 1) := by decide +kernel
theorem dX8_handle_150 : decode cX8_handle 150 = .ok (.aload_n 0, 1) := by decide +kernel
theorem dX8_handle_151 : decode cX8_handle 151 = .ok (.getfield 7, 3) := by decide +kernel
theorem dX8_handle_154 : decode cX8_handle 154 = .ok (.bipush 61, 2) := by decide +kernel
theorem dX8_handle_156 : decode cX8_handle 156 = .ok (.iload_n 1, 1) := by decide +kernel
theorem dX8_handle_157 : decode cX8_handle 157 = .ok (.iadd, 1) := by decide +kernel
theorem dX8_handle_158 : decode cX8_handle 158 = .ok (.iaload, 1) := by decide +kernel
theorem dX8_handle_159 : decode cX8_handle 159 = .ok (.ireturn, 1) := by decide +kernel
theorem dX8_handle_160 : decode cX8_handle 160 = .ok (.aload_n 0, 1) := by decide +kernel
theorem dX8_handle_161 : decode cX8_handle 161 = .ok (.iload_n 1, 1) := by decide +kernel
theorem dX8_handle_162 : decode cX8_handle 162 = .ok (.invokevirtual 161, 3) := by decide +kernel
theorem dX8_handle_165 : decode cX8_handle 165 = .ok (.ireturn, 1) := by decide +kernel
theorem dX8_handle_166 : decode cX8_handle 166 = .ok (.aload_n 0, 1) := by decide +kernel
theorem dX8_handle_167 : decode cX8_handle 167 = .ok (.getfield 7, 3) := by decide +kernel
theorem dX8_handle_170 : decode cX8_handle 170 = .ok (.bipush 37, 2) := by decide +kernel
theorem dX8_handle_172 : decode cX8_handle 172 = .ok (.iload_n 1, 1) := by decide +kernel
theorem dX8_handle_173 : decode cX8_handle 173 = .ok (.iadd, 1) := by decide +kernel
theorem dX8_handle_174 : decode cX8_handle 174 = .ok (.iaload, 1) := by decide +kernel
theorem dX8_handle_175 : decode cX8_handle 175 = .ok (.ireturn, 1) := by decide +kernel
abbrev mX8_handle : XM := (cX8_handle, 3, RX8, (some .int), shw_8, 2)
noncomputable def rg_X8_handle_0 : XK :=
 o_iload 1 <|
 o_callS 1 1 [] f_X8_isHandle <|
 o_if_eq (o_iconst (-1) <|
 o_ireturn)
 (o_iload 2 <|
 o_i2l <|
 o_lconst 0 <|
 o_lconst 8 <|
 o_callSg 3 1 [] g_X8_in v_X8_in <|
 o_if_ne (o_iload 2 <|
 o_if_ne (o_aload 0 <|
 o_iload 1 <|
 o_callV 2 1 [0] f_X8_isThere <|
 o_if_ne (o_iload 2 <|
 o_sw [(1, o_aload 0 <|
 o_iload 1 <|
 o_callV 2 1 [0] f_X8_isFull <|
 o_if_eq (o_iconst (-1) <|
 o_ireturn)
 (o_aload 0 <|
 o_get shw_8 8 0 <|
 o_iconst 13 <|
 o_iload 1 <|
 o_iadd <|
 o_iald shw_8 <|
 o_ireturn)),
 (2, o_aload 0 <|
 o_get shw_8 8 0 <|
 o_iconst 21 <|
 o_iload 1 <|
 o_iadd <|
 o_iald shw_8 <|
 o_ireturn),
 (3, o_aload 0 <|
 o_get shw_8 8 0 <|
 o_iconst 29 <|
 o_iload 1 <|
 o_iadd <|
 o_iald shw_8 <|
 o_ireturn),
 (4, o_aload 0 <|
 o_get shw_8 8 0 <|
 o_iconst 53 <|
 o_iload 1 <|
 o_iadd <|
 o_iald shw_8 <|
 o_ireturn),
 (5, o_aload 0 <|
 o_get shw_8 8 0 <|
 o_iconst 45 <|
 o_iload 1 <|
 o_iadd <|
 o_iald shw_8 <|
 o_ireturn),
 (6, o_aload 0 <|
 o_get shw_8 8 0 <|
 o_iconst 61 <|
 o_iload 1 <|
 o_iadd <|
 o_iald shw_8 <|
 o_ireturn),
 (7, o_aload 0 <|
 o_iload 1 <|
 o_callVg 2 1 [0] g_X8_worthOf v_X8_worthOf <|
 o_ireturn)]
 (o_aload 0 <|
 o_get shw_8 8 0 <|
 o_iconst 37 <|
 o_iload 1 <|
 o_iadd <|
 o_iald shw_8 <|
 o_ireturn))
 (o_iconst (-1) <|
 o_ireturn))
 (o_aload 0 <|
 o_get shw_8 8 0 <|
 o_iconst 5 <|
 o_iload 1 <|
 o_iadd <|
 o_iald shw_8 <|
 o_ireturn))
 (o_iconst (-1) <|
 o_ireturn))
def en_X8_handle_0 (p1 : Int) (p2 : Int) (h0 : Ob) (a : Unit) : XSt := ([some (.inr (.inl (0, 0))), some (.inl p1), some (.inl p2)], [], [h0])
noncomputable def mg_X8_handle_0 (p1 : Int) (p2 : Int) (h0 : Ob) (a : Unit) : Option Rt :=
 if xw (bz (hdl p1)) = 0 then (RI (-1) [h0])
 else (if xlr (xw p2) && (xlr (0 : Int) && xlr (8 : Int)) then (
 if xw (bz (inn (xw p2) (0 : Int) (8 : Int))) = 0 then (RI (-1) [h0])
 else (if xw p2 = 0 then (if xin (5 + p1) 735 then (
 RI (h0 1 (xw (5 + p1)).toNat) [h0]) else none)
 else (if xw (bz (thrM h0 p1)) = 0 then (RI (-1) [h0])
 else (if xw p2 = 1 then (if xw (bz (fulM h0 p1)) = 0 then (RI (-1) [h0])
 else (if xin (13 + p1) 735 then (
 RI (h0 1 (xw (13 + p1)).toNat) [h0]) else none))
 else if xw p2 = 2 then (if xin (21 + p1) 735 then (
 RI (h0 1 (xw (21 + p1)).toNat) [h0]) else none)
 else if xw p2 = 3 then (if xin (29 + p1) 735 then (
 RI (h0 1 (xw (29 + p1)).toNat) [h0]) else none)
 else if xw p2 = 4 then (if xin (53 + p1) 735 then (
 RI (h0 1 (xw (53 + p1)).toNat) [h0]) else none)
 else if xw p2 = 5 then (if xin (45 + p1) 735 then (
 RI (h0 1 (xw (45 + p1)).toNat) [h0]) else none)
 else if xw p2 = 6 then (if xin (61 + p1) 735 then (
 RI (h0 1 (xw (61 + p1)).toNat) [h0]) else none)
 else if xw p2 = 7 then (if pd (hdl p1 = true ∧ (xw (h0 1 2) = 2 → xw (h0 1 (21 + (xw p1).toNat)) ≠ 0)) then (
 RI (wrM h0 p1) [h0]) else none)
 else (if xin (37 + p1) 735 then (
 RI (h0 1 (xw (37 + p1)).toNat) [h0]) else none))))) else none)
set_option maxRecDepth 100000 in
set_option maxHeartbeats 4000000 in
theorem rq_X8_handle_0 (p1 : Int) (p2 : Int) (h0 : Ob) (a : Unit) : rg_X8_handle_0 (en_X8_handle_0 p1 p2 h0 a) = mg_X8_handle_0 p1 p2 h0 a := rfl
set_option maxRecDepth 100000 in
set_option maxHeartbeats 4000000 in
theorem sg_X8_handle_0 {X : XDyn} {r0 : Rt} (C : XO X mX8_handle) : XS X mX8_handle r0 0 (rg_X8_handle_0) := by
 unfold rg_X8_handle_0
 exact s_iload_n (pc := 0) C dX8_handle_0 rfl <|
    s_callS (pc := 1) C ct_X8_isHandle (n := 1) (rk := 1) (mp := []) ⟨rfl, by decide, rfl⟩ (by decide) (by decide) ⟨rfl, yi_X8_isHandle⟩ wd_991 wd_992 wd_81 wd_993 dX8_handle_1 <|
    s_if_eq (pc := 4) C dX8_handle_4 (by decide) (s_iconst (pc := 19) C dX8_handle_19 <|
    s_ireturn (pc := 20) C rfl dX8_handle_20)
    (s_iload_n (pc := 7) C dX8_handle_7 rfl <|
    s_i2l (pc := 8) C dX8_handle_8 <|
    s_lconst (pc := 9) C dX8_handle_9 rfl <|
    s_ldc2 (pc := 10) C dX8_handle_10 wd_952 rfl <|
    s_callSg (pc := 13) C ct_X8_in (n := 3) (rk := 1) (mp := []) ⟨rfl, by decide, rfl⟩ (by decide) (by decide) ⟨rfl, yi_X8_in⟩ wd_954 wd_955 wd_81 wd_956 dX8_handle_13 <|
    s_if_ne (pc := 16) C dX8_handle_16 (by decide) (s_iload_n (pc := 21) C dX8_handle_21 rfl <|
    s_if_ne (pc := 22) C dX8_handle_22 (by decide) (s_aload_n (pc := 34) C dX8_handle_34 rfl <|
    s_iload_n (pc := 35) C dX8_handle_35 rfl <|
    s_callV (pc := 36) C ct_X8_isThere (n := 2) (rk := 1) (mp := [0]) ⟨rfl, by decide, rfl⟩ (ci := 8) rfl rfl (by decide) (by decide) yi_X8_isThere (by decide) wd_1133 wd_1135 wd_56 wd_81 wd_1136 dX8_handle_36 <|
    s_if_ne (pc := 39) C dX8_handle_39 (by decide) (s_iload_n (pc := 44) C dX8_handle_44 rfl <|
    s_tsw (pc := 45) C dX8_handle_45 _ (by decide) (s_aload_n (pc := 166) C dX8_handle_166 rfl <|
    s_get (pc := 167) C (ci := 8) (kf := 0) rfl inX8 (by decide) wd_871 dX8_handle_167 <|
    s_bipush (pc := 170) C dX8_handle_170 (by decide) <|
    s_iload_n (pc := 172) C dX8_handle_172 rfl <|
    s_iadd (pc := 173) C dX8_handle_173 <|
    s_iald (pc := 174) C dX8_handle_174 <|
    s_ireturn (pc := 175) C rfl dX8_handle_175) (List.forall_mem_cons.mpr ⟨⟨by decide, by decide, 43, 88, rfl, by decide, s_aload_n (pc := 88) C dX8_handle_88 rfl <|
    s_iload_n (pc := 89) C dX8_handle_89 rfl <|
    s_callV (pc := 90) C ct_X8_isFull (n := 2) (rk := 1) (mp := [0]) ⟨rfl, by decide, rfl⟩ (ci := 8) rfl rfl (by decide) (by decide) yi_X8_isFull (by decide) wd_987 wd_989 wd_24 wd_81 wd_990 dX8_handle_90 <|
    s_if_eq (pc := 93) C dX8_handle_93 (by decide) (s_iconst (pc := 108) C dX8_handle_108 <|
    s_ireturn (pc := 109) C rfl dX8_handle_109)
    (s_aload_n (pc := 96) C dX8_handle_96 rfl <|
    s_get (pc := 97) C (ci := 8) (kf := 0) rfl inX8 (by decide) wd_871 dX8_handle_97 <|
    s_bipush (pc := 100) C dX8_handle_100 (by decide) <|
    s_iload_n (pc := 102) C dX8_handle_102 rfl <|
    s_iadd (pc := 103) C dX8_handle_103 <|
    s_iald (pc := 104) C dX8_handle_104 <|
    s_goto (pc := 105) C dX8_handle_105 (by decide) <|
    s_ireturn (pc := 109) C rfl dX8_handle_109)⟩, (List.forall_mem_cons.mpr ⟨⟨by decide, by decide, 65, 110, rfl, by decide, s_aload_n (pc := 110) C dX8_handle_110 rfl <|
    s_get (pc := 111) C (ci := 8) (kf := 0) rfl inX8 (by decide) wd_871 dX8_handle_111 <|
    s_bipush (pc := 114) C dX8_handle_114 (by decide) <|
    s_iload_n (pc := 116) C dX8_handle_116 rfl <|
    s_iadd (pc := 117) C dX8_handle_117 <|
    s_iald (pc := 118) C dX8_handle_118 <|
    s_ireturn (pc := 119) C rfl dX8_handle_119⟩, (List.forall_mem_cons.mpr ⟨⟨by decide, by decide, 75, 120, rfl, by decide, s_aload_n (pc := 120) C dX8_handle_120 rfl <|
    s_get (pc := 121) C (ci := 8) (kf := 0) rfl inX8 (by decide) wd_871 dX8_handle_121 <|
    s_bipush (pc := 124) C dX8_handle_124 (by decide) <|
    s_iload_n (pc := 126) C dX8_handle_126 rfl <|
    s_iadd (pc := 127) C dX8_handle_127 <|
    s_iald (pc := 128) C dX8_handle_128 <|
    s_ireturn (pc := 129) C rfl dX8_handle_129⟩, (List.forall_mem_cons.mpr ⟨⟨by decide, by decide, 85, 130, rfl, by decide, s_aload_n (pc := 130) C dX8_handle_130 rfl <|
    s_get (pc := 131) C (ci := 8) (kf := 0) rfl inX8 (by decide) wd_871 dX8_handle_131 <|
    s_bipush (pc := 134) C dX8_handle_134 (by decide) <|
    s_iload_n (pc := 136) C dX8_handle_136 rfl <|
    s_iadd (pc := 137) C dX8_handle_137 <|
    s_iald (pc := 138) C dX8_handle_138 <|
    s_ireturn (pc := 139) C rfl dX8_handle_139⟩, (List.forall_mem_cons.mpr ⟨⟨by decide, by decide, 95, 140, rfl, by decide, s_aload_n (pc := 140) C dX8_handle_140 rfl <|
    s_get (pc := 141) C (ci := 8) (kf := 0) rfl inX8 (by decide) wd_871 dX8_handle_141 <|
    s_bipush (pc := 144) C dX8_handle_144 (by decide) <|
    s_iload_n (pc := 146) C dX8_handle_146 rfl <|
    s_iadd (pc := 147) C dX8_handle_147 <|
    s_iald (pc := 148) C dX8_handle_148 <|
    s_ireturn (pc := 149) C rfl dX8_handle_149⟩, (List.forall_mem_cons.mpr ⟨⟨by decide, by decide, 105, 150, rfl, by decide, s_aload_n (pc := 150) C dX8_handle_150 rfl <|
    s_get (pc := 151) C (ci := 8) (kf := 0) rfl inX8 (by decide) wd_871 dX8_handle_151 <|
    s_bipush (pc := 154) C dX8_handle_154 (by decide) <|
    s_iload_n (pc := 156) C dX8_handle_156 rfl <|
    s_iadd (pc := 157) C dX8_handle_157 <|
    s_iald (pc := 158) C dX8_handle_158 <|
    s_ireturn (pc := 159) C rfl dX8_handle_159⟩, (List.forall_mem_cons.mpr ⟨⟨by decide, by decide, 115, 160, rfl, by decide, s_aload_n (pc := 160) C dX8_handle_160 rfl <|
    s_iload_n (pc := 161) C dX8_handle_161 rfl <|
    s_callVg (pc := 162) C ct_X8_worthOf (n := 2) (rk := 1) (mp := [0]) ⟨rfl, by decide, rfl⟩ (ci := 8) rfl rfl (by decide) (by decide) yi_X8_worthOf (by decide) wd_1089 wd_1091 wd_48 wd_81 wd_1092 dX8_handle_162 <|
    s_ireturn (pc := 165) C rfl dX8_handle_165⟩, (fun _ z => absurd z List.not_mem_nil)⟩)⟩)⟩)⟩)⟩)⟩)⟩) (fun v h1 h2 => by
     have hv : v = 1 ∨ v = 2 ∨ v = 3 ∨ v = 4 ∨ v = 5 ∨ v = 6 ∨ v = 7 := by omega
     rcases hv with rfl | rfl | rfl | rfl | rfl | rfl | rfl <;> simp))
    (s_iconst (pc := 42) C dX8_handle_42 <|
    s_ireturn (pc := 43) C rfl dX8_handle_43))
    (s_aload_n (pc := 25) C dX8_handle_25 rfl <|
    s_get (pc := 26) C (ci := 8) (kf := 0) rfl inX8 (by decide) wd_871 dX8_handle_26 <|
    s_iconst (pc := 29) C dX8_handle_29 <|
    s_iload_n (pc := 30) C dX8_handle_30 rfl <|
    s_iadd (pc := 31) C dX8_handle_31 <|
    s_iald (pc := 32) C dX8_handle_32 <|
    s_ireturn (pc := 33) C rfl dX8_handle_33))
    (s_iconst (pc := 19) C dX8_handle_19 <|
    s_ireturn (pc := 20) C rfl dX8_handle_20))
noncomputable def rw_X8_handle_0 : XK := rg_X8_handle_0
noncomputable def md_X8_handle_0 (p1 : Int) (p2 : Int) (h0 : Ob) : Unit → Option Rt := mg_X8_handle_0 p1 p2 h0
theorem eq_X8_handle_0 (p1 : Int) (p2 : Int) (h0 : Ob) (a : Unit) : rw_X8_handle_0 (en_X8_handle_0 p1 p2 h0 a) = md_X8_handle_0 p1 p2 h0 a :=
 rq_X8_handle_0 p1 p2 h0 a
theorem sd_X8_handle_0 {X : XDyn} {r0 : Rt} (C : XO X mX8_handle) : XS X mX8_handle r0 0 (rw_X8_handle_0) := sg_X8_handle_0 C
theorem ctr_X8_handle : XCt yX8_handle mX8_handle (xF mX8_handle (rw_X8_handle_0)) := xMet (by decide +kernel) rfl (fun _ _ C => sd_X8_handle_0 C)
theorem eqf_X8_handle (p1 : Int) (p2 : Int) (h0 : Ob) : xF mX8_handle (rw_X8_handle_0) [.inr (.inl (0, 0)), .inl p1, .inl p2] [h0] = md_X8_handle_0 p1 p2 h0 () := eq_X8_handle_0 p1 p2 h0 ()
theorem yi_X8_handle : yX8_handle.cls = RX8 ∧ yX8_handle.cls ≠ "java/lang/invoke/MethodHandle" ∧ yX8_handle.cls ≠ "java/lang/invoke/VarHandle" ∧ (parseMethodDescriptor yX8_handle.desc).map (fun d => d.parameters.length) = some 2 := ⟨rfl, by decide +kernel, by decide +kernel, by decide +kernel⟩
theorem dX8_get_0 : decode cX8_get 0 = .ok (.aload_n 0, 1) := by decide +kernel
theorem dX8_get_1 : decode cX8_get 1 = .ok (.iload_n 1, 1) := by decide +kernel
theorem dX8_get_2 : decode cX8_get 2 = .ok (.invokevirtual 83, 3) := by decide +kernel
theorem dX8_get_5 : decode cX8_get 5 = .ok (.ifCond .eq 41, 3) := by decide +kernel
theorem dX8_get_8 : decode cX8_get 8 = .ok (.iload_n 2, 1) := by decide +kernel
theorem dX8_get_9 : decode cX8_get 9 = .ok (.i2l, 1) := by decide +kernel
theorem dX8_get_10 : decode cX8_get 10 = .ok (.lconst 0, 1) := by decide +kernel
theorem dX8_get_11 : decode cX8_get 11 = .ok (.aload_n 0, 1) := by decide +kernel
theorem dX8_get_12 : decode cX8_get 12 = .ok (.getfield 7, 3) := by decide +kernel
theorem dX8_get_15 : decode cX8_get 15 = .ok (.bipush 21, 2) := by decide +kernel
theorem dX8_get_17 : decode cX8_get 17 = .ok (.iload_n 1, 1) := by decide +kernel
theorem dX8_get_18 : decode cX8_get 18 = .ok (.iadd, 1) := by decide +kernel
theorem dX8_get_19 : decode cX8_get 19 = .ok (.iaload, 1) := by decide +kernel
theorem dX8_get_20 : decode cX8_get 20 = .ok (.iconst 1, 1) := by decide +kernel
theorem dX8_get_21 : decode cX8_get 21 = .ok (.isub, 1) := by decide +kernel
theorem dX8_get_22 : decode cX8_get 22 = .ok (.i2l, 1) := by decide +kernel
theorem dX8_get_23 : decode cX8_get 23 = .ok (.invokestatic 75, 3) := by decide +kernel
theorem dX8_get_26 : decode cX8_get 26 = .ok (.ifCond .eq 20, 3) := by decide +kernel
theorem dX8_get_29 : decode cX8_get 29 = .ok (.aload_n 0, 1) := by decide +kernel
theorem dX8_get_30 : decode cX8_get 30 = .ok (.getfield 7, 3) := by decide +kernel
theorem dX8_get_33 : decode cX8_get 33 = .ok (.bipush 75, 2) := by decide +kernel
theorem dX8_get_35 : decode cX8_get 35 = .ok (.bipush 60, 2) := by decide +kernel
theorem dX8_get_37 : decode cX8_get 37 = .ok (.iload_n 1, 1) := by decide +kernel
theorem dX8_get_38 : decode cX8_get 38 = .ok (.imul, 1) := by decide +kernel
theorem dX8_get_39 : decode cX8_get 39 = .ok (.iadd, 1) := by decide +kernel
theorem dX8_get_40 : decode cX8_get 40 = .ok (.iload_n 2, 1) := by decide +kernel
theorem dX8_get_41 : decode cX8_get 41 = .ok (.iadd, 1) := by decide +kernel
theorem dX8_get_42 : decode cX8_get 42 = .ok (.iaload, 1) := by decide +kernel
theorem dX8_get_43 : decode cX8_get 43 = .ok (.goto 4, 3) := by decide +kernel
theorem dX8_get_46 : decode cX8_get 46 = .ok (.iconst 0, 1) := by decide +kernel
theorem dX8_get_47 : decode cX8_get 47 = .ok (.ireturn, 1) := by decide +kernel
abbrev mX8_get : XM := (cX8_get, 3, RX8, (some .int), shw_8, 2)
noncomputable def rg_X8_get_0 : XK :=
 o_aload 0 <|
 o_iload 1 <|
 o_callV 2 1 [0] f_X8_isFull <|
 o_if_eq (o_iconst 0 <|
 o_ireturn)
 (o_iload 2 <|
 o_i2l <|
 o_lconst 0 <|
 o_aload 0 <|
 o_get shw_8 8 0 <|
 o_iconst 21 <|
 o_iload 1 <|
 o_iadd <|
 o_iald shw_8 <|
 o_iconst 1 <|
 o_isub <|
 o_i2l <|
 o_callSg 3 1 [] g_X8_in v_X8_in <|
 o_if_eq (o_iconst 0 <|
 o_ireturn)
 (o_aload 0 <|
 o_get shw_8 8 0 <|
 o_iconst 75 <|
 o_iconst 60 <|
 o_iload 1 <|
 o_imul <|
 o_iadd <|
 o_iload 2 <|
 o_iadd <|
 o_iald shw_8 <|
 o_ireturn))
def en_X8_get_0 (p1 : Int) (p2 : Int) (h0 : Ob) (a : Unit) : XSt := ([some (.inr (.inl (0, 0))), some (.inl p1), some (.inl p2)], [], [h0])
noncomputable def mg_X8_get_0 (p1 : Int) (p2 : Int) (h0 : Ob) (a : Unit) : Option Rt :=
 if xw (bz (fulM h0 p1)) = 0 then (RI 0 [h0])
 else (if xin (21 + p1) 735 then (
 if xlr (xw p2) && (xlr (0 : Int) && xlr (xw ((h0 1 (xw (21 + p1)).toNat) - 1))) then (
 if xw (bz (inn (xw p2) (0 : Int) (xw ((h0 1 (xw (21 + p1)).toNat) - 1)))) = 0 then (RI 0 [h0])
 else (if xin ((75 + (60 * p1)) + p2) 735 then (
 RI (h0 1 (xw ((75 + (60 * p1)) + p2)).toNat) [h0]) else none)) else none) else none)
set_option maxRecDepth 100000 in
set_option maxHeartbeats 4000000 in
theorem rq_X8_get_0 (p1 : Int) (p2 : Int) (h0 : Ob) (a : Unit) : rg_X8_get_0 (en_X8_get_0 p1 p2 h0 a) = mg_X8_get_0 p1 p2 h0 a := rfl
set_option maxRecDepth 100000 in
set_option maxHeartbeats 4000000 in
theorem sg_X8_get_0 {X : XDyn} {r0 : Rt} (C : XO X mX8_get) : XS X mX8_get r0 0 (rg_X8_get_0) := by
 unfold rg_X8_get_0
 exact s_aload_n (pc := 0) C dX8_get_0 rfl <|
    s_iload_n (pc := 1) C dX8_get_1 rfl <|
    s_callV (pc := 2) C ct_X8_isFull (n := 2) (rk := 1) (mp := [0]) ⟨rfl, by decide, rfl⟩ (ci := 8) rfl rfl (by decide) (by decide) yi_X8_isFull (by decide) wd_987 wd_989 wd_24 wd_81 wd_990 dX8_get_2 <|
    s_if_eq (pc := 5) C dX8_get_5 (by decide) (s_iconst (pc := 46) C dX8_get_46 <|
    s_ireturn (pc := 47) C rfl dX8_get_47)
    (s_iload_n (pc := 8) C dX8_get_8 rfl <|
    s_i2l (pc := 9) C dX8_get_9 <|
    s_lconst (pc := 10) C dX8_get_10 rfl <|
    s_aload_n (pc := 11) C dX8_get_11 rfl <|
    s_get (pc := 12) C (ci := 8) (kf := 0) rfl inX8 (by decide) wd_871 dX8_get_12 <|
    s_bipush (pc := 15) C dX8_get_15 (by decide) <|
    s_iload_n (pc := 17) C dX8_get_17 rfl <|
    s_iadd (pc := 18) C dX8_get_18 <|
    s_iald (pc := 19) C dX8_get_19 <|
    s_iconst (pc := 20) C dX8_get_20 <|
    s_isub (pc := 21) C dX8_get_21 <|
    s_i2l (pc := 22) C dX8_get_22 <|
    s_callSg (pc := 23) C ct_X8_in (n := 3) (rk := 1) (mp := []) ⟨rfl, by decide, rfl⟩ (by decide) (by decide) ⟨rfl, yi_X8_in⟩ wd_954 wd_955 wd_81 wd_956 dX8_get_23 <|
    s_if_eq (pc := 26) C dX8_get_26 (by decide) (s_iconst (pc := 46) C dX8_get_46 <|
    s_ireturn (pc := 47) C rfl dX8_get_47)
    (s_aload_n (pc := 29) C dX8_get_29 rfl <|
    s_get (pc := 30) C (ci := 8) (kf := 0) rfl inX8 (by decide) wd_871 dX8_get_30 <|
    s_bipush (pc := 33) C dX8_get_33 (by decide) <|
    s_bipush (pc := 35) C dX8_get_35 (by decide) <|
    s_iload_n (pc := 37) C dX8_get_37 rfl <|
    s_imul (pc := 38) C dX8_get_38 <|
    s_iadd (pc := 39) C dX8_get_39 <|
    s_iload_n (pc := 40) C dX8_get_40 rfl <|
    s_iadd (pc := 41) C dX8_get_41 <|
    s_iald (pc := 42) C dX8_get_42 <|
    s_goto (pc := 43) C dX8_get_43 (by decide) <|
    s_ireturn (pc := 47) C rfl dX8_get_47))
noncomputable def rw_X8_get_0 : XK := rg_X8_get_0
noncomputable def md_X8_get_0 (p1 : Int) (p2 : Int) (h0 : Ob) : Unit → Option Rt := mg_X8_get_0 p1 p2 h0
theorem eq_X8_get_0 (p1 : Int) (p2 : Int) (h0 : Ob) (a : Unit) : rw_X8_get_0 (en_X8_get_0 p1 p2 h0 a) = md_X8_get_0 p1 p2 h0 a :=
 rq_X8_get_0 p1 p2 h0 a
theorem sd_X8_get_0 {X : XDyn} {r0 : Rt} (C : XO X mX8_get) : XS X mX8_get r0 0 (rw_X8_get_0) := sg_X8_get_0 C
theorem ctr_X8_get : XCt yX8_get mX8_get (xF mX8_get (rw_X8_get_0)) := xMet (by decide +kernel) rfl (fun _ _ C => sd_X8_get_0 C)
theorem eqf_X8_get (p1 : Int) (p2 : Int) (h0 : Ob) : xF mX8_get (rw_X8_get_0) [.inr (.inl (0, 0)), .inl p1, .inl p2] [h0] = md_X8_get_0 p1 p2 h0 () := eq_X8_get_0 p1 p2 h0 ()
theorem yi_X8_get : yX8_get.cls = RX8 ∧ yX8_get.cls ≠ "java/lang/invoke/MethodHandle" ∧ yX8_get.cls ≠ "java/lang/invoke/VarHandle" ∧ (parseMethodDescriptor yX8_get.desc).map (fun d => d.parameters.length) = some 2 := ⟨rfl, by decide +kernel, by decide +kernel, by decide +kernel⟩
theorem dX8_pointer_0 : decode cX8_pointer 0 = .ok (.aload_n 0, 1) := by decide +kernel
theorem dX8_pointer_1 : decode cX8_pointer 1 = .ok (.iload_n 1, 1) := by decide +kernel
theorem dX8_pointer_2 : decode cX8_pointer 2 = .ok (.invokevirtual 97, 3) := by decide +kernel
theorem dX8_pointer_5 : decode cX8_pointer 5 = .ok (.ifCond .eq 13, 3) := by decide +kernel
theorem dX8_pointer_8 : decode cX8_pointer 8 = .ok (.iload_n 2, 1) := by decide +kernel
theorem dX8_pointer_9 : decode cX8_pointer 9 = .ok (.i2l, 1) := by decide +kernel
theorem dX8_pointer_10 : decode cX8_pointer 10 = .ok (.lconst 0, 1) := by decide +kernel
theorem dX8_pointer_11 : decode cX8_pointer 11 = .ok (.lconst 1, 1) := by decide +kernel
theorem dX8_pointer_12 : decode cX8_pointer 12 = .ok (.invokestatic 75, 3) := by decide +kernel
theorem dX8_pointer_15 : decode cX8_pointer 15 = .ok (.ifCond .ne 5, 3) := by decide +kernel
theorem dX8_pointer_18 : decode cX8_pointer 18 = .ok (.iconst (-1), 1) := by decide +kernel
theorem dX8_pointer_19 : decode cX8_pointer 19 = .ok (.ireturn, 1) := by decide +kernel
theorem dX8_pointer_20 : decode cX8_pointer 20 = .ok (.iload_n 2, 1) := by decide +kernel
theorem dX8_pointer_21 : decode cX8_pointer 21 = .ok (.ifCond .ne 15, 3) := by decide +kernel
theorem dX8_pointer_24 : decode cX8_pointer 24 = .ok (.aload_n 0, 1) := by decide +kernel
theorem dX8_pointer_25 : decode cX8_pointer 25 = .ok (.getfield 7, 3) := by decide +kernel
theorem dX8_pointer_28 : decode cX8_pointer 28 = .ok (.bipush 72, 2) := by decide +kernel
theorem dX8_pointer_30 : decode cX8_pointer 30 = .ok (.iload_n 1, 1) := by decide +kernel
theorem dX8_pointer_31 : decode cX8_pointer 31 = .ok (.iadd, 1) := by decide +kernel
theorem dX8_pointer_32 : decode cX8_pointer 32 = .ok (.iaload, 1) := by decide +kernel
theorem dX8_pointer_33 : decode cX8_pointer 33 = .ok (.goto 12, 3) := by decide +kernel
theorem dX8_pointer_36 : decode cX8_pointer 36 = .ok (.aload_n 0, 1) := by decide +kernel
theorem dX8_pointer_37 : decode cX8_pointer 37 = .ok (.getfield 7, 3) := by decide +kernel
theorem dX8_pointer_40 : decode cX8_pointer 40 = .ok (.bipush 69, 2) := by decide +kernel
theorem dX8_pointer_42 : decode cX8_pointer 42 = .ok (.iload_n 1, 1) := by decide +kernel
theorem dX8_pointer_43 : decode cX8_pointer 43 = .ok (.iadd, 1) := by decide +kernel
theorem dX8_pointer_44 : decode cX8_pointer 44 = .ok (.iaload, 1) := by decide +kernel
theorem dX8_pointer_45 : decode cX8_pointer 45 = .ok (.ireturn, 1) := by decide +kernel
abbrev mX8_pointer : XM := (cX8_pointer, 3, RX8, (some .int), shw_8, 1)
noncomputable def rg_X8_pointer_0 : XK :=
 o_aload 0 <|
 o_iload 1 <|
 o_callV 2 1 [0] f_X8_isIsland <|
 o_if_eq (o_iconst (-1) <|
 o_ireturn)
 (o_iload 2 <|
 o_i2l <|
 o_lconst 0 <|
 o_lconst 1 <|
 o_callSg 3 1 [] g_X8_in v_X8_in <|
 o_if_ne (o_iload 2 <|
 o_if_ne (o_aload 0 <|
 o_get shw_8 8 0 <|
 o_iconst 69 <|
 o_iload 1 <|
 o_iadd <|
 o_iald shw_8 <|
 o_ireturn)
 (o_aload 0 <|
 o_get shw_8 8 0 <|
 o_iconst 72 <|
 o_iload 1 <|
 o_iadd <|
 o_iald shw_8 <|
 o_ireturn))
 (o_iconst (-1) <|
 o_ireturn))
def en_X8_pointer_0 (p1 : Int) (p2 : Int) (h0 : Ob) (a : Unit) : XSt := ([some (.inr (.inl (0, 0))), some (.inl p1), some (.inl p2)], [], [h0])
noncomputable def mg_X8_pointer_0 (p1 : Int) (p2 : Int) (h0 : Ob) (a : Unit) : Option Rt :=
 if xw (bz (islM h0 p1)) = 0 then (RI (-1) [h0])
 else (if xlr (xw p2) && (xlr (0 : Int) && xlr (1 : Int)) then (
 if xw (bz (inn (xw p2) (0 : Int) (1 : Int))) = 0 then (RI (-1) [h0])
 else (if xw p2 = 0 then (if xin (72 + p1) 735 then (
 RI (h0 1 (xw (72 + p1)).toNat) [h0]) else none)
 else (if xin (69 + p1) 735 then (
 RI (h0 1 (xw (69 + p1)).toNat) [h0]) else none))) else none)
set_option maxRecDepth 100000 in
set_option maxHeartbeats 4000000 in
theorem rq_X8_pointer_0 (p1 : Int) (p2 : Int) (h0 : Ob) (a : Unit) : rg_X8_pointer_0 (en_X8_pointer_0 p1 p2 h0 a) = mg_X8_pointer_0 p1 p2 h0 a := rfl
set_option maxRecDepth 100000 in
set_option maxHeartbeats 4000000 in
theorem sg_X8_pointer_0 {X : XDyn} {r0 : Rt} (C : XO X mX8_pointer) : XS X mX8_pointer r0 0 (rg_X8_pointer_0) := by
 unfold rg_X8_pointer_0
 exact s_aload_n (pc := 0) C dX8_pointer_0 rfl <|
    s_iload_n (pc := 1) C dX8_pointer_1 rfl <|
    s_callV (pc := 2) C ct_X8_isIsland (n := 2) (rk := 1) (mp := [0]) ⟨rfl, by decide, rfl⟩ (ci := 8) rfl rfl (by decide) (by decide) yi_X8_isIsland (by decide) wd_998 wd_1000 wd_26 wd_81 wd_1001 dX8_pointer_2 <|
    s_if_eq (pc := 5) C dX8_pointer_5 (by decide) (s_iconst (pc := 18) C dX8_pointer_18 <|
    s_ireturn (pc := 19) C rfl dX8_pointer_19)
    (s_iload_n (pc := 8) C dX8_pointer_8 rfl <|
    s_i2l (pc := 9) C dX8_pointer_9 <|
    s_lconst (pc := 10) C dX8_pointer_10 rfl <|
    s_lconst (pc := 11) C dX8_pointer_11 rfl <|
    s_callSg (pc := 12) C ct_X8_in (n := 3) (rk := 1) (mp := []) ⟨rfl, by decide, rfl⟩ (by decide) (by decide) ⟨rfl, yi_X8_in⟩ wd_954 wd_955 wd_81 wd_956 dX8_pointer_12 <|
    s_if_ne (pc := 15) C dX8_pointer_15 (by decide) (s_iload_n (pc := 20) C dX8_pointer_20 rfl <|
    s_if_ne (pc := 21) C dX8_pointer_21 (by decide) (s_aload_n (pc := 36) C dX8_pointer_36 rfl <|
    s_get (pc := 37) C (ci := 8) (kf := 0) rfl inX8 (by decide) wd_871 dX8_pointer_37 <|
    s_bipush (pc := 40) C dX8_pointer_40 (by decide) <|
    s_iload_n (pc := 42) C dX8_pointer_42 rfl <|
    s_iadd (pc := 43) C dX8_pointer_43 <|
    s_iald (pc := 44) C dX8_pointer_44 <|
    s_ireturn (pc := 45) C rfl dX8_pointer_45)
    (s_aload_n (pc := 24) C dX8_pointer_24 rfl <|
    s_get (pc := 25) C (ci := 8) (kf := 0) rfl inX8 (by decide) wd_871 dX8_pointer_25 <|
    s_bipush (pc := 28) C dX8_pointer_28 (by decide) <|
    s_iload_n (pc := 30) C dX8_pointer_30 rfl <|
    s_iadd (pc := 31) C dX8_pointer_31 <|
    s_iald (pc := 32) C dX8_pointer_32 <|
    s_goto (pc := 33) C dX8_pointer_33 (by decide) <|
    s_ireturn (pc := 45) C rfl dX8_pointer_45))
    (s_iconst (pc := 18) C dX8_pointer_18 <|
    s_ireturn (pc := 19) C rfl dX8_pointer_19))
noncomputable def rw_X8_pointer_0 : XK := rg_X8_pointer_0
noncomputable def md_X8_pointer_0 (p1 : Int) (p2 : Int) (h0 : Ob) : Unit → Option Rt := mg_X8_pointer_0 p1 p2 h0
theorem eq_X8_pointer_0 (p1 : Int) (p2 : Int) (h0 : Ob) (a : Unit) : rw_X8_pointer_0 (en_X8_pointer_0 p1 p2 h0 a) = md_X8_pointer_0 p1 p2 h0 a :=
 rq_X8_pointer_0 p1 p2 h0 a
theorem sd_X8_pointer_0 {X : XDyn} {r0 : Rt} (C : XO X mX8_pointer) : XS X mX8_pointer r0 0 (rw_X8_pointer_0) := sg_X8_pointer_0 C
theorem ctr_X8_pointer : XCt yX8_pointer mX8_pointer (xF mX8_pointer (rw_X8_pointer_0)) := xMet (by decide +kernel) rfl (fun _ _ C => sd_X8_pointer_0 C)
theorem eqf_X8_pointer (p1 : Int) (p2 : Int) (h0 : Ob) : xF mX8_pointer (rw_X8_pointer_0) [.inr (.inl (0, 0)), .inl p1, .inl p2] [h0] = md_X8_pointer_0 p1 p2 h0 () := eq_X8_pointer_0 p1 p2 h0 ()
theorem yi_X8_pointer : yX8_pointer.cls = RX8 ∧ yX8_pointer.cls ≠ "java/lang/invoke/MethodHandle" ∧ yX8_pointer.cls ≠ "java/lang/invoke/VarHandle" ∧ (parseMethodDescriptor yX8_pointer.desc).map (fun d => d.parameters.length) = some 2 := ⟨rfl, by decide +kernel, by decide +kernel, by decide +kernel⟩
theorem dX8_cell_0 : decode cX8_cell 0 = .ok (.iload_n 1, 1) := by decide +kernel
theorem dX8_cell_1 : decode cX8_cell 1 = .ok (.i2l, 1) := by decide +kernel
theorem dX8_cell_2 : decode cX8_cell 2 = .ok (.lconst 0, 1) := by decide +kernel
theorem dX8_cell_3 : decode cX8_cell 3 = .ok (.aload_n 0, 1) := by decide +kernel
theorem dX8_cell_4 : decode cX8_cell 4 = .ok (.getfield 7, 3) := by decide +kernel
theorem dX8_cell_7 : decode cX8_cell 7 = .ok (.iconst 0, 1) := by decide +kernel
theorem dX8_cell_8 : decode cX8_cell 8 = .ok (.iaload, 1) := by decide +kernel
theorem dX8_cell_9 : decode cX8_cell 9 = .ok (.iconst 1, 1) := by decide +kernel
theorem dX8_cell_10 : decode cX8_cell 10 = .ok (.isub, 1) := by decide +kernel
theorem dX8_cell_11 : decode cX8_cell 11 = .ok (.i2l, 1) := by decide +kernel
theorem dX8_cell_12 : decode cX8_cell 12 = .ok (.invokestatic 75, 3) := by decide +kernel
theorem dX8_cell_15 : decode cX8_cell 15 = .ok (.ifCond .ne 5, 3) := by decide +kernel
theorem dX8_cell_18 : decode cX8_cell 18 = .ok (.iconst 0, 1) := by decide +kernel
theorem dX8_cell_19 : decode cX8_cell 19 = .ok (.ireturn, 1) := by decide +kernel
theorem dX8_cell_20 : decode cX8_cell 20 = .ok (.aload_n 0, 1) := by decide +kernel
theorem dX8_cell_21 : decode cX8_cell 21 = .ok (.invokevirtual 109, 3) := by decide +kernel
theorem dX8_cell_24 : decode cX8_cell 24 = .ok (.aload_n 0, 1) := by decide +kernel
theorem dX8_cell_25 : decode cX8_cell 25 = .ok (.iload_n 1, 1) := by decide +kernel
theorem dX8_cell_26 : decode cX8_cell 26 = .ok (.invokevirtual 257, 3) := by decide +kernel
theorem dX8_cell_29 : decode cX8_cell 29 = .ok (.ireturn, 1) := by decide +kernel
abbrev mX8_cell : XM := (cX8_cell, 2, RX8, (some .int), shw_8, 3)
noncomputable def rg_X8_cell_0 : XK :=
 o_iload 1 <|
 o_i2l <|
 o_lconst 0 <|
 o_aload 0 <|
 o_get shw_8 8 0 <|
 o_iconst 0 <|
 o_iald shw_8 <|
 o_iconst 1 <|
 o_isub <|
 o_i2l <|
 o_callSg 3 1 [] g_X8_in v_X8_in <|
 o_if_ne (o_aload 0 <|
 o_callVg 1 0 [0] g_X8_fillsOwners v_X8_fillsOwners <|
 o_aload 0 <|
 o_iload 1 <|
 o_callVg 2 1 [0] g_X8_cellAt v_X8_cellAt <|
 o_ireturn)
 (o_iconst 0 <|
 o_ireturn)
def en_X8_cell_0 (p1 : Int) (a : Ob) : XSt := ([some (.inr (.inl (0, 0))), some (.inl p1)], [], [a])
noncomputable def mg_X8_cell_0 (p1 : Int) (a : Ob) : Option Rt :=
 if xlr (xw p1) && (xlr (0 : Int) && xlr (xw ((a 1 0) - 1))) then (
 if xw (bz (inn (xw p1) (0 : Int) (xw ((a 1 0) - 1)))) = 0 then (RI 0 [a])
 else (if oqV (ov_X8_fillsOwners a) then (
 if pd (ov_X8_cellAt p1 (oqO (ov_X8_fillsOwners a) 0) = RI (oqR (ov_X8_cellAt p1 (oqO (ov_X8_fillsOwners a) 0))) [(oqO (ov_X8_fillsOwners a) 0)]) then (
 RI (oqR (ov_X8_cellAt p1 (oqO (ov_X8_fillsOwners a) 0))) [(oqO (ov_X8_fillsOwners a) 0)]) else none) else none)) else none
set_option maxRecDepth 100000 in
set_option maxHeartbeats 4000000 in
theorem rq_X8_cell_0 (p1 : Int) (a : Ob) : rg_X8_cell_0 (en_X8_cell_0 p1 a) = mg_X8_cell_0 p1 a := rfl
set_option maxRecDepth 100000 in
set_option maxHeartbeats 4000000 in
theorem sg_X8_cell_0 {X : XDyn} {r0 : Rt} (C : XO X mX8_cell) : XS X mX8_cell r0 0 (rg_X8_cell_0) := by
 unfold rg_X8_cell_0
 exact s_iload_n (pc := 0) C dX8_cell_0 rfl <|
    s_i2l (pc := 1) C dX8_cell_1 <|
    s_lconst (pc := 2) C dX8_cell_2 rfl <|
    s_aload_n (pc := 3) C dX8_cell_3 rfl <|
    s_get (pc := 4) C (ci := 8) (kf := 0) rfl inX8 (by decide) wd_871 dX8_cell_4 <|
    s_iconst (pc := 7) C dX8_cell_7 <|
    s_iald (pc := 8) C dX8_cell_8 <|
    s_iconst (pc := 9) C dX8_cell_9 <|
    s_isub (pc := 10) C dX8_cell_10 <|
    s_i2l (pc := 11) C dX8_cell_11 <|
    s_callSg (pc := 12) C ct_X8_in (n := 3) (rk := 1) (mp := []) ⟨rfl, by decide, rfl⟩ (by decide) (by decide) ⟨rfl, yi_X8_in⟩ wd_954 wd_955 wd_81 wd_956 dX8_cell_12 <|
    s_if_ne (pc := 15) C dX8_cell_15 (by decide) (s_aload_n (pc := 20) C dX8_cell_20 rfl <|
    s_callVg (pc := 21) C ct_X8_fillsOwners (n := 1) (rk := 0) (mp := [0]) ⟨rfl, by decide, rfl⟩ (ci := 8) rfl rfl (by decide) (by decide) yi_X8_fillsOwners (by decide) wd_979 wd_981 wd_22 wd_81 wd_982 dX8_cell_21 <|
    s_aload_n (pc := 24) C dX8_cell_24 rfl <|
    s_iload_n (pc := 25) C dX8_cell_25 rfl <|
    s_callVg (pc := 26) C ct_X8_cellAt (n := 2) (rk := 1) (mp := [0]) ⟨rfl, by decide, rfl⟩ (ci := 8) rfl rfl (by decide) (by decide) yi_X8_cellAt (by decide) wd_1242 wd_1244 wd_65 wd_81 wd_1245 dX8_cell_26 <|
    s_ireturn (pc := 29) C rfl dX8_cell_29)
    (s_iconst (pc := 18) C dX8_cell_18 <|
    s_ireturn (pc := 19) C rfl dX8_cell_19)
noncomputable def rw_X8_cell_0 : XK := rg_X8_cell_0
noncomputable def md_X8_cell_0 (p1 : Int) : Ob → Option Rt := mg_X8_cell_0 p1
theorem eq_X8_cell_0 (p1 : Int) (a : Ob) : rw_X8_cell_0 (en_X8_cell_0 p1 a) = md_X8_cell_0 p1 a :=
 rq_X8_cell_0 p1 a
theorem sd_X8_cell_0 {X : XDyn} {r0 : Rt} (C : XO X mX8_cell) : XS X mX8_cell r0 0 (rw_X8_cell_0) := sg_X8_cell_0 C
theorem ctr_X8_cell : XCt yX8_cell mX8_cell (xF mX8_cell (rw_X8_cell_0)) := xMet (by decide +kernel) rfl (fun _ _ C => sd_X8_cell_0 C)
theorem eqf_X8_cell (p1 : Int) (h0 : Ob) : xF mX8_cell (rw_X8_cell_0) [.inr (.inl (0, 0)), .inl p1] [h0] = md_X8_cell_0 p1 h0 := eq_X8_cell_0 p1 h0
theorem yi_X8_cell : yX8_cell.cls = RX8 ∧ yX8_cell.cls ≠ "java/lang/invoke/MethodHandle" ∧ yX8_cell.cls ≠ "java/lang/invoke/VarHandle" ∧ (parseMethodDescriptor yX8_cell.desc).map (fun d => d.parameters.length) = some 1 := ⟨rfl, by decide +kernel, by decide +kernel, by decide +kernel⟩
theorem dX8_block_0 : decode cX8_block 0 = .ok (.iload_n 1, 1) := by decide +kernel
theorem dX8_block_1 : decode cX8_block 1 = .ok (.ifCond .lt 15, 3) := by decide +kernel
theorem dX8_block_4 : decode cX8_block 4 = .ok (.iload_n 2, 1) := by decide +kernel
theorem dX8_block_5 : decode cX8_block 5 = .ok (.i2l, 1) := by decide +kernel
theorem dX8_block_6 : decode cX8_block 6 = .ok (.lconst 0, 1) := by decide +kernel
theorem dX8_block_7 : decode cX8_block 7 = .ok (.ldc2_w 260, 3) := by decide +kernel
theorem dX8_block_10 : decode cX8_block 10 = .ok (.invokestatic 75, 3) := by decide +kernel
theorem dX8_block_13 : decode cX8_block 13 = .ok (.ifCond .ne 5, 3) := by decide +kernel
theorem dX8_block_16 : decode cX8_block 16 = .ok (.iconst (-1), 1) := by decide +kernel
theorem dX8_block_17 : decode cX8_block 17 = .ok (.ireturn, 1) := by decide +kernel
theorem dX8_block_18 : decode cX8_block 18 = .ok (.aload_n 0, 1) := by decide +kernel
theorem dX8_block_19 : decode cX8_block 19 = .ok (.invokevirtual 109, 3) := by decide +kernel
theorem dX8_block_22 : decode cX8_block 22 = .ok (.iconst 0, 1) := by decide +kernel
theorem dX8_block_23 : decode cX8_block 23 = .ok (.istore_n 3, 1) := by decide +kernel
theorem dX8_block_24 : decode cX8_block 24 = .ok (.iconst 0, 1) := by decide +kernel
theorem dX8_block_25 : decode cX8_block 25 = .ok (.istore 4, 2) := by decide +kernel
theorem dX8_block_27 : decode cX8_block 27 = .ok (.iload 4, 2) := by decide +kernel
theorem dX8_block_29 : decode cX8_block 29 = .ok (.iload_n 1, 1) := by decide +kernel
theorem dX8_block_30 : decode cX8_block 30 = .ok (.if_icmp .ge 25, 3) := by decide +kernel
theorem dX8_block_33 : decode cX8_block 33 = .ok (.iload_n 3, 1) := by decide +kernel
theorem dX8_block_34 : decode cX8_block 34 = .ok (.aload_n 0, 1) := by decide +kernel
theorem dX8_block_35 : decode cX8_block 35 = .ok (.getfield 7, 3) := by decide +kernel
theorem dX8_block_38 : decode cX8_block 38 = .ok (.iconst 0, 1) := by decide +kernel
theorem dX8_block_39 : decode cX8_block 39 = .ok (.iaload, 1) := by decide +kernel
theorem dX8_block_40 : decode cX8_block 40 = .ok (.if_icmp .ge 15, 3) := by decide +kernel
theorem dX8_block_43 : decode cX8_block 43 = .ok (.aload_n 0, 1) := by decide +kernel
theorem dX8_block_44 : decode cX8_block 44 = .ok (.iload_n 3, 1) := by decide +kernel
theorem dX8_block_45 : decode cX8_block 45 = .ok (.invokevirtual 103, 3) := by decide +kernel
theorem dX8_block_48 : decode cX8_block 48 = .ok (.istore_n 3, 1) := by decide +kernel
theorem dX8_block_49 : decode cX8_block 49 = .ok (.iinc 4 1, 3) := by decide +kernel
theorem dX8_block_52 : decode cX8_block 52 = .ok (.goto (-25), 3) := by decide +kernel
theorem dX8_block_55 : decode cX8_block 55 = .ok (.iload_n 3, 1) := by decide +kernel
theorem dX8_block_56 : decode cX8_block 56 = .ok (.aload_n 0, 1) := by decide +kernel
theorem dX8_block_57 : decode cX8_block 57 = .ok (.getfield 7, 3) := by decide +kernel
theorem dX8_block_60 : decode cX8_block 60 = .ok (.iconst 0, 1) := by decide +kernel
theorem dX8_block_61 : decode cX8_block 61 = .ok (.iaload, 1) := by decide +kernel
theorem dX8_block_62 : decode cX8_block 62 = .ok (.if_icmp .lt 5, 3) := by decide +kernel
theorem dX8_block_65 : decode cX8_block 65 = .ok (.iconst (-1), 1) := by decide +kernel
theorem dX8_block_66 : decode cX8_block 66 = .ok (.ireturn, 1) := by decide +kernel
theorem dX8_block_67 : decode cX8_block 67 = .ok (.iload_n 2, 1) := by decide +kernel
theorem dX8_block_68 : decode cX8_block 68 = .ok (.ifCond .ne 7, 3) := by decide +kernel
theorem dX8_block_71 : decode cX8_block 71 = .ok (.iload_n 3, 1) := by decide +kernel
theorem dX8_block_72 : decode cX8_block 72 = .ok (.goto 24, 3) := by decide +kernel
theorem dX8_block_75 : decode cX8_block 75 = .ok (.iload_n 2, 1) := by decide +kernel
theorem dX8_block_76 : decode cX8_block 76 = .ok (.iconst 1, 1) := by decide +kernel
theorem dX8_block_77 : decode cX8_block 77 = .ok (.if_icmp .ne 13, 3) := by decide +kernel
theorem dX8_block_80 : decode cX8_block 80 = .ok (.aload_n 0, 1) := by decide +kernel
theorem dX8_block_81 : decode cX8_block 81 = .ok (.iload_n 3, 1) := by decide +kernel
theorem dX8_block_82 : decode cX8_block 82 = .ok (.invokevirtual 103, 3) := by decide +kernel
theorem dX8_block_85 : decode cX8_block 85 = .ok (.iload_n 3, 1) := by decide +kernel
theorem dX8_block_86 : decode cX8_block 86 = .ok (.isub, 1) := by decide +kernel
theorem dX8_block_87 : decode cX8_block 87 = .ok (.goto 9, 3) := by decide +kernel
theorem dX8_block_90 : decode cX8_block 90 = .ok (.aload_n 0, 1) := by decide +kernel
theorem dX8_block_91 : decode cX8_block 91 = .ok (.getfield 19, 3) := by decide +kernel
theorem dX8_block_94 : decode cX8_block 94 = .ok (.iload_n 3, 1) := by decide +kernel
theorem dX8_block_95 : decode cX8_block 95 = .ok (.iaload, 1) := by decide +kernel
theorem dX8_block_96 : decode cX8_block 96 = .ok (.ireturn, 1) := by decide +kernel
abbrev mX8_block : XM := (cX8_block, 5, RX8, (some .int), shw_8, 3)
noncomputable def rg_X8_block_0 (k27 : XK) : XK :=
 o_iload 1 <|
 o_if_lt (o_iconst (-1) <|
 o_ireturn)
 (o_iload 2 <|
 o_i2l <|
 o_lconst 0 <|
 o_lconst 2 <|
 o_callSg 3 1 [] g_X8_in v_X8_in <|
 o_if_ne (o_aload 0 <|
 o_callVg 1 0 [0] g_X8_fillsOwners v_X8_fillsOwners <|
 o_iconst 0 <|
 o_istore 3 <|
 o_iconst 0 <|
 o_istore 4 <|
 o_cut [] k27)
 (o_iconst (-1) <|
 o_ireturn))
def en_X8_block_0 (p1 : Int) (p2 : Int) (a : Ob) : XSt := ([some (.inr (.inl (0, 0))), some (.inl p1), some (.inl p2), none, none], [], [a])
noncomputable def rg_X8_block_27 (k55 : XK) (k27 : XK) : XK :=
 o_iload 4 <|
 o_iload 1 <|
 o_icmp_ge (o_cut [4] k55)
 (o_iload 3 <|
 o_aload 0 <|
 o_get shw_8 8 0 <|
 o_iconst 0 <|
 o_iald shw_8 <|
 o_icmp_ge (o_cut [4] k55)
 (o_aload 0 <|
 o_iload 3 <|
 o_callVg 2 1 [0] g_X8_behind v_X8_behind <|
 o_istore 3 <|
 o_iinc 4 1 <|
 o_cut [] k27))
def en_X8_block_27 (p1 : Int) (p2 : Int) (a : Int × Int × Ob) : XSt := ([some (.inr (.inl (0, 0))), some (.inl p1), some (.inl p2), some (.inl a.1), some (.inl a.2.1)], [], [a.2.2])
noncomputable def rg_X8_block_55 : XK :=
 o_iload 3 <|
 o_aload 0 <|
 o_get shw_8 8 0 <|
 o_iconst 0 <|
 o_iald shw_8 <|
 o_icmp_lt (o_iload 2 <|
 o_if_ne (o_iload 2 <|
 o_iconst 1 <|
 o_icmp_ne (o_aload 0 <|
 o_get shw_8 8 5 <|
 o_iload 3 <|
 o_iald shw_8 <|
 o_ireturn)
 (o_aload 0 <|
 o_iload 3 <|
 o_callVg 2 1 [0] g_X8_behind v_X8_behind <|
 o_iload 3 <|
 o_isub <|
 o_ireturn))
 (o_iload 3 <|
 o_ireturn))
 (o_iconst (-1) <|
 o_ireturn)
def en_X8_block_55 (p1 : Int) (p2 : Int) (a : Int × Ob) : XSt := ([some (.inr (.inl (0, 0))), some (.inl p1), some (.inl p2), some (.inl a.1), none], [], [a.2])
noncomputable def mg_X8_block_0 (p1 : Int) (p2 : Int) (k27 : (Int × Int × Ob) → Option Rt) (a : Ob) : Option Rt :=
 if xw p1 < 0 then (RI (-1) [a])
 else (if xlr (xw p2) && (xlr (0 : Int) && xlr (2 : Int)) then (
 if xw (bz (inn (xw p2) (0 : Int) (2 : Int))) = 0 then (RI (-1) [a])
 else (if oqV (ov_X8_fillsOwners a) then (
 k27 (0, 0, (oqO (ov_X8_fillsOwners a) 0))) else none)) else none)
set_option maxRecDepth 100000 in
set_option maxHeartbeats 4000000 in
theorem rq_X8_block_0 (p1 : Int) (p2 : Int) (k27 : XK) (a : Ob) : rg_X8_block_0 k27 (en_X8_block_0 p1 p2 a) = mg_X8_block_0 p1 p2 (fun b => k27 (en_X8_block_27 p1 p2 b)) a := rfl
set_option maxRecDepth 100000 in
set_option maxHeartbeats 4000000 in
theorem sg_X8_block_0 {X : XDyn} {r0 : Rt} (C : XO X mX8_block) {k27 : XK} (q27 : XS X mX8_block r0 27 k27) : XS X mX8_block r0 0 (rg_X8_block_0 k27) := by
 unfold rg_X8_block_0
 exact s_iload_n (pc := 0) C dX8_block_0 rfl <|
    s_if_lt (pc := 1) C dX8_block_1 (by decide) (s_iconst (pc := 16) C dX8_block_16 <|
    s_ireturn (pc := 17) C rfl dX8_block_17)
    (s_iload_n (pc := 4) C dX8_block_4 rfl <|
    s_i2l (pc := 5) C dX8_block_5 <|
    s_lconst (pc := 6) C dX8_block_6 rfl <|
    s_ldc2 (pc := 7) C dX8_block_7 wd_1250 rfl <|
    s_callSg (pc := 10) C ct_X8_in (n := 3) (rk := 1) (mp := []) ⟨rfl, by decide, rfl⟩ (by decide) (by decide) ⟨rfl, yi_X8_in⟩ wd_954 wd_955 wd_81 wd_956 dX8_block_10 <|
    s_if_ne (pc := 13) C dX8_block_13 (by decide) (s_aload_n (pc := 18) C dX8_block_18 rfl <|
    s_callVg (pc := 19) C ct_X8_fillsOwners (n := 1) (rk := 0) (mp := [0]) ⟨rfl, by decide, rfl⟩ (ci := 8) rfl rfl (by decide) (by decide) yi_X8_fillsOwners (by decide) wd_979 wd_981 wd_22 wd_81 wd_982 dX8_block_19 <|
    s_iconst (pc := 22) C dX8_block_22 <|
    s_istore_n (pc := 23) C dX8_block_23 rfl <|
    s_iconst (pc := 24) C dX8_block_24 <|
    s_istore (pc := 25) C dX8_block_25 <|
    s_cut q27)
    (s_iconst (pc := 16) C dX8_block_16 <|
    s_ireturn (pc := 17) C rfl dX8_block_17))
noncomputable def mg_X8_block_27 (p1 : Int) (p2 : Int) (k55 : (Int × Ob) → Option Rt) (k27 : (Int × Int × Ob) → Option Rt) (a : Int × Int × Ob) : Option Rt :=
 if xw a.2.1 ≥ xw p1 then (k55 (a.1, a.2.2))
 else (if xw a.1 ≥ xw (a.2.2 1 0) then (k55 (a.1, a.2.2))
 else (if pd (ov_X8_behind a.1 a.2.2 = RI (oqR (ov_X8_behind a.1 a.2.2)) [a.2.2]) then (
 k27 ((oqR (ov_X8_behind a.1 a.2.2)), (a.2.1 + 1), a.2.2)) else none))
set_option maxRecDepth 100000 in
set_option maxHeartbeats 4000000 in
theorem rq_X8_block_27 (p1 : Int) (p2 : Int) (k55 : XK) (k27 : XK) (a : Int × Int × Ob) : rg_X8_block_27 k55 k27 (en_X8_block_27 p1 p2 a) = mg_X8_block_27 p1 p2 (fun b => k55 (en_X8_block_55 p1 p2 b)) (fun b => k27 (en_X8_block_27 p1 p2 b)) a := rfl
set_option maxRecDepth 100000 in
set_option maxHeartbeats 4000000 in
theorem sg_X8_block_27 {X : XDyn} {r0 : Rt} (C : XO X mX8_block) {k55 : XK} (q55 : XS X mX8_block r0 55 k55) {k27 : XK} (q27 : XS X mX8_block r0 27 k27) : XS X mX8_block r0 27 (rg_X8_block_27 k55 k27) := by
 unfold rg_X8_block_27
 exact s_iload (pc := 27) C dX8_block_27 <|
    s_iload_n (pc := 29) C dX8_block_29 rfl <|
    s_icmp_ge (pc := 30) C dX8_block_30 (by decide) (s_cut q55)
    (s_iload_n (pc := 33) C dX8_block_33 rfl <|
    s_aload_n (pc := 34) C dX8_block_34 rfl <|
    s_get (pc := 35) C (ci := 8) (kf := 0) rfl inX8 (by decide) wd_871 dX8_block_35 <|
    s_iconst (pc := 38) C dX8_block_38 <|
    s_iald (pc := 39) C dX8_block_39 <|
    s_icmp_ge (pc := 40) C dX8_block_40 (by decide) (s_cut q55)
    (s_aload_n (pc := 43) C dX8_block_43 rfl <|
    s_iload_n (pc := 44) C dX8_block_44 rfl <|
    s_callVg (pc := 45) C ct_X8_behind (n := 2) (rk := 1) (mp := [0]) ⟨rfl, by decide, rfl⟩ (ci := 8) rfl rfl (by decide) (by decide) yi_X8_behind (by decide) wd_1006 wd_1008 wd_28 wd_81 wd_1009 dX8_block_45 <|
    s_istore_n (pc := 48) C dX8_block_48 rfl <|
    s_iinc (pc := 49) C dX8_block_49 <|
    s_goto (pc := 52) C dX8_block_52 (by decide) <|
    s_cut q27))
noncomputable def mg_X8_block_55 (p1 : Int) (p2 : Int) (a : Int × Ob) : Option Rt :=
 if xw a.1 < xw (a.2 1 0) then (if xw p2 = 0 then (RI a.1 [a.2])
 else (if xw p2 = 1 then (if pd (ov_X8_behind a.1 a.2 = RI (oqR (ov_X8_behind a.1 a.2)) [a.2]) then (
 RI ((oqR (ov_X8_behind a.1 a.2)) - a.1) [a.2]) else none)
 else (if xin a.1 200 then (
 RI (a.2 4 (xw a.1).toNat) [a.2]) else none)))
 else (RI (-1) [a.2])
set_option maxRecDepth 100000 in
set_option maxHeartbeats 4000000 in
theorem rq_X8_block_55 (p1 : Int) (p2 : Int) (a : Int × Ob) : rg_X8_block_55 (en_X8_block_55 p1 p2 a) = mg_X8_block_55 p1 p2 a := rfl
set_option maxRecDepth 100000 in
set_option maxHeartbeats 4000000 in
theorem sg_X8_block_55 {X : XDyn} {r0 : Rt} (C : XO X mX8_block) : XS X mX8_block r0 55 (rg_X8_block_55) := by
 unfold rg_X8_block_55
 exact s_iload_n (pc := 55) C dX8_block_55 rfl <|
    s_aload_n (pc := 56) C dX8_block_56 rfl <|
    s_get (pc := 57) C (ci := 8) (kf := 0) rfl inX8 (by decide) wd_871 dX8_block_57 <|
    s_iconst (pc := 60) C dX8_block_60 <|
    s_iald (pc := 61) C dX8_block_61 <|
    s_icmp_lt (pc := 62) C dX8_block_62 (by decide) (s_iload_n (pc := 67) C dX8_block_67 rfl <|
    s_if_ne (pc := 68) C dX8_block_68 (by decide) (s_iload_n (pc := 75) C dX8_block_75 rfl <|
    s_iconst (pc := 76) C dX8_block_76 <|
    s_icmp_ne (pc := 77) C dX8_block_77 (by decide) (s_aload_n (pc := 90) C dX8_block_90 rfl <|
    s_get (pc := 91) C (ci := 8) (kf := 5) rfl inX8 (by decide) wd_876 dX8_block_91 <|
    s_iload_n (pc := 94) C dX8_block_94 rfl <|
    s_iald (pc := 95) C dX8_block_95 <|
    s_ireturn (pc := 96) C rfl dX8_block_96)
    (s_aload_n (pc := 80) C dX8_block_80 rfl <|
    s_iload_n (pc := 81) C dX8_block_81 rfl <|
    s_callVg (pc := 82) C ct_X8_behind (n := 2) (rk := 1) (mp := [0]) ⟨rfl, by decide, rfl⟩ (ci := 8) rfl rfl (by decide) (by decide) yi_X8_behind (by decide) wd_1006 wd_1008 wd_28 wd_81 wd_1009 dX8_block_82 <|
    s_iload_n (pc := 85) C dX8_block_85 rfl <|
    s_isub (pc := 86) C dX8_block_86 <|
    s_goto (pc := 87) C dX8_block_87 (by decide) <|
    s_ireturn (pc := 96) C rfl dX8_block_96))
    (s_iload_n (pc := 71) C dX8_block_71 rfl <|
    s_goto (pc := 72) C dX8_block_72 (by decide) <|
    s_ireturn (pc := 96) C rfl dX8_block_96))
    (s_iconst (pc := 65) C dX8_block_65 <|
    s_ireturn (pc := 66) C rfl dX8_block_66)
noncomputable def rw_X8_block_55 (f : Nat) : XK := rg_X8_block_55
noncomputable def md_X8_block_55 (p1 : Int) (p2 : Int) (f : Nat) : Int × Ob → Option Rt := mg_X8_block_55 p1 p2
theorem eq_X8_block_55 (p1 : Int) (p2 : Int) (f : Nat) (a : Int × Ob) : rw_X8_block_55 f (en_X8_block_55 p1 p2 a) = md_X8_block_55 p1 p2 f a :=
 rq_X8_block_55 p1 p2 a
theorem sd_X8_block_55 (f : Nat) {X : XDyn} {r0 : Rt} (C : XO X mX8_block) : XS X mX8_block r0 55 (rw_X8_block_55 f) := sg_X8_block_55 C
noncomputable def rw_X8_block_27 (f : Nat) : XK := tlp (fun k27 => rg_X8_block_27 (rw_X8_block_55 f) k27) f
noncomputable def lb_X8_block_27 (p1 : Int) (p2 : Int) (f : Nat) : ((Int × Int × Ob) → Option Rt) → Int × Int × Ob → Option Rt := fun k27 => mg_X8_block_27 p1 p2 (md_X8_block_55 p1 p2 f) k27
noncomputable def md_X8_block_27 (p1 : Int) (p2 : Int) (f : Nat) : Int × Int × Ob → Option Rt := tlp (lb_X8_block_27 p1 p2 f) f
theorem eq_X8_block_27 (p1 : Int) (p2 : Int) (f : Nat) (a : Int × Int × Ob) : rw_X8_block_27 f (en_X8_block_27 p1 p2 a) = md_X8_block_27 p1 p2 f a :=
 tlp_enc (en_X8_block_27 p1 p2) (fun k27 a => (rq_X8_block_27 p1 p2 (rw_X8_block_55 f) k27 a).trans (congrFun (congr (congr (rfl : mg_X8_block_27 p1 p2 = mg_X8_block_27 p1 p2) (funext (eq_X8_block_55 p1 p2 f))) rfl) a)) f a
theorem sd_X8_block_27 (f : Nat) {X : XDyn} {r0 : Rt} (C : XO X mX8_block) : XS X mX8_block r0 27 (rw_X8_block_27 f) := s_lp (fun k27 q27 => sg_X8_block_27 C (sd_X8_block_55 f C) q27) f
noncomputable def rw_X8_block_0 (f : Nat) : XK := rg_X8_block_0 (rw_X8_block_27 f)
noncomputable def md_X8_block_0 (p1 : Int) (p2 : Int) (f : Nat) : Ob → Option Rt := mg_X8_block_0 p1 p2 (md_X8_block_27 p1 p2 f)
theorem eq_X8_block_0 (p1 : Int) (p2 : Int) (f : Nat) (a : Ob) : rw_X8_block_0 f (en_X8_block_0 p1 p2 a) = md_X8_block_0 p1 p2 f a :=
 (rq_X8_block_0 p1 p2 (rw_X8_block_27 f) a).trans (congrFun (congr (rfl : mg_X8_block_0 p1 p2 = mg_X8_block_0 p1 p2) (funext (eq_X8_block_27 p1 p2 f))) a)
theorem sd_X8_block_0 (f : Nat) {X : XDyn} {r0 : Rt} (C : XO X mX8_block) : XS X mX8_block r0 0 (rw_X8_block_0 f) := sg_X8_block_0 C (sd_X8_block_27 f C)
theorem ctr_X8_block (f : Nat) : XCt yX8_block mX8_block (xF mX8_block (rw_X8_block_0 f)) := xMet (by decide +kernel) rfl (fun _ _ C => sd_X8_block_0 f C)
theorem eqf_X8_block (f : Nat) (p1 : Int) (p2 : Int) (h0 : Ob) : xF mX8_block (rw_X8_block_0 f) [.inr (.inl (0, 0)), .inl p1, .inl p2] [h0] = md_X8_block_0 p1 p2 f h0 := eq_X8_block_0 p1 p2 f h0
theorem yi_X8_block : yX8_block.cls = RX8 ∧ yX8_block.cls ≠ "java/lang/invoke/MethodHandle" ∧ yX8_block.cls ≠ "java/lang/invoke/VarHandle" ∧ (parseMethodDescriptor yX8_block.desc).map (fun d => d.parameters.length) = some 2 := ⟨rfl, by decide +kernel, by decide +kernel, by decide +kernel⟩
theorem dX8_blocks_0 : decode cX8_blocks 0 = .ok (.aload_n 0, 1) := by decide +kernel
theorem dX8_blocks_1 : decode cX8_blocks 1 = .ok (.invokevirtual 109, 3) := by decide +kernel
theorem dX8_blocks_4 : decode cX8_blocks 4 = .ok (.iconst 0, 1) := by decide +kernel
theorem dX8_blocks_5 : decode cX8_blocks 5 = .ok (.istore_n 1, 1) := by decide +kernel
theorem dX8_blocks_6 : decode cX8_blocks 6 = .ok (.iconst 0, 1) := by decide +kernel
theorem dX8_blocks_7 : decode cX8_blocks 7 = .ok (.istore_n 2, 1) := by decide +kernel
theorem dX8_blocks_8 : decode cX8_blocks 8 = .ok (.iload_n 2, 1) := by decide +kernel
theorem dX8_blocks_9 : decode cX8_blocks 9 = .ok (.aload_n 0, 1) := by decide +kernel
theorem dX8_blocks_10 : decode cX8_blocks 10 = .ok (.getfield 7, 3) := by decide +kernel
theorem dX8_blocks_13 : decode cX8_blocks 13 = .ok (.iconst 0, 1) := by decide +kernel
theorem dX8_blocks_14 : decode cX8_blocks 14 = .ok (.iaload, 1) := by decide +kernel
theorem dX8_blocks_15 : decode cX8_blocks 15 = .ok (.if_icmp .ge 15, 3) := by decide +kernel
theorem dX8_blocks_18 : decode cX8_blocks 18 = .ok (.iinc 1 1, 3) := by decide +kernel
theorem dX8_blocks_21 : decode cX8_blocks 21 = .ok (.aload_n 0, 1) := by decide +kernel
theorem dX8_blocks_22 : decode cX8_blocks 22 = .ok (.iload_n 2, 1) := by decide +kernel
theorem dX8_blocks_23 : decode cX8_blocks 23 = .ok (.invokevirtual 103, 3) := by decide +kernel
theorem dX8_blocks_26 : decode cX8_blocks 26 = .ok (.istore_n 2, 1) := by decide +kernel
theorem dX8_blocks_27 : decode cX8_blocks 27 = .ok (.goto (-19), 3) := by decide +kernel
theorem dX8_blocks_30 : decode cX8_blocks 30 = .ok (.iload_n 1, 1) := by decide +kernel
theorem dX8_blocks_31 : decode cX8_blocks 31 = .ok (.ireturn, 1) := by decide +kernel
abbrev mX8_blocks : XM := (cX8_blocks, 3, RX8, (some .int), shw_8, 3)
noncomputable def rg_X8_blocks_0 (k8 : XK) : XK :=
 o_aload 0 <|
 o_callVg 1 0 [0] g_X8_fillsOwners v_X8_fillsOwners <|
 o_iconst 0 <|
 o_istore 1 <|
 o_iconst 0 <|
 o_istore 2 <|
 o_cut [] k8
def en_X8_blocks_0 (a : Ob) : XSt := ([some (.inr (.inl (0, 0))), none, none], [], [a])
noncomputable def rg_X8_blocks_8 (k8 : XK) : XK :=
 o_iload 2 <|
 o_aload 0 <|
 o_get shw_8 8 0 <|
 o_iconst 0 <|
 o_iald shw_8 <|
 o_icmp_ge (o_iload 1 <|
 o_ireturn)
 (o_iinc 1 1 <|
 o_aload 0 <|
 o_iload 2 <|
 o_callVg 2 1 [0] g_X8_behind v_X8_behind <|
 o_istore 2 <|
 o_cut [] k8)
def en_X8_blocks_8 (a : Int × Int × Ob) : XSt := ([some (.inr (.inl (0, 0))), some (.inl a.1), some (.inl a.2.1)], [], [a.2.2])
noncomputable def mg_X8_blocks_0 (k8 : (Int × Int × Ob) → Option Rt) (a : Ob) : Option Rt :=
 if oqV (ov_X8_fillsOwners a) then (
 k8 (0, 0, (oqO (ov_X8_fillsOwners a) 0))) else none
set_option maxRecDepth 100000 in
set_option maxHeartbeats 4000000 in
theorem rq_X8_blocks_0 (k8 : XK) (a : Ob) : rg_X8_blocks_0 k8 (en_X8_blocks_0 a) = mg_X8_blocks_0 (fun b => k8 (en_X8_blocks_8 b)) a := rfl
set_option maxRecDepth 100000 in
set_option maxHeartbeats 4000000 in
theorem sg_X8_blocks_0 {X : XDyn} {r0 : Rt} (C : XO X mX8_blocks) {k8 : XK} (q8 : XS X mX8_blocks r0 8 k8) : XS X mX8_blocks r0 0 (rg_X8_blocks_0 k8) := by
 unfold rg_X8_blocks_0
 exact s_aload_n (pc := 0) C dX8_blocks_0 rfl <|
    s_callVg (pc := 1) C ct_X8_fillsOwners (n := 1) (rk := 0) (mp := [0]) ⟨rfl, by decide, rfl⟩ (ci := 8) rfl rfl (by decide) (by decide) yi_X8_fillsOwners (by decide) wd_979 wd_981 wd_22 wd_81 wd_982 dX8_blocks_1 <|
    s_iconst (pc := 4) C dX8_blocks_4 <|
    s_istore_n (pc := 5) C dX8_blocks_5 rfl <|
    s_iconst (pc := 6) C dX8_blocks_6 <|
    s_istore_n (pc := 7) C dX8_blocks_7 rfl <|
    s_cut q8
noncomputable def mg_X8_blocks_8 (k8 : (Int × Int × Ob) → Option Rt) (a : Int × Int × Ob) : Option Rt :=
 if xw a.2.1 ≥ xw (a.2.2 1 0) then (RI a.1 [a.2.2])
 else (if pd (ov_X8_behind a.2.1 a.2.2 = RI (oqR (ov_X8_behind a.2.1 a.2.2)) [a.2.2]) then (
 k8 ((a.1 + 1), (oqR (ov_X8_behind a.2.1 a.2.2)), a.2.2)) else none)
set_option maxRecDepth 100000 in
set_option maxHeartbeats 4000000 in
theorem rq_X8_blocks_8 (k8 : XK) (a : Int × Int × Ob) : rg_X8_blocks_8 k8 (en_X8_blocks_8 a) = mg_X8_blocks_8 (fun b => k8 (en_X8_blocks_8 b)) a := rfl
set_option maxRecDepth 100000 in
set_option maxHeartbeats 4000000 in
theorem sg_X8_blocks_8 {X : XDyn} {r0 : Rt} (C : XO X mX8_blocks) {k8 : XK} (q8 : XS X mX8_blocks r0 8 k8) : XS X mX8_blocks r0 8 (rg_X8_blocks_8 k8) := by
 unfold rg_X8_blocks_8
 exact s_iload_n (pc := 8) C dX8_blocks_8 rfl <|
    s_aload_n (pc := 9) C dX8_blocks_9 rfl <|
    s_get (pc := 10) C (ci := 8) (kf := 0) rfl inX8 (by decide) wd_871 dX8_blocks_10 <|
    s_iconst (pc := 13) C dX8_blocks_13 <|
    s_iald (pc := 14) C dX8_blocks_14 <|
    s_icmp_ge (pc := 15) C dX8_blocks_15 (by decide) (s_iload_n (pc := 30) C dX8_blocks_30 rfl <|
    s_ireturn (pc := 31) C rfl dX8_blocks_31)
    (s_iinc (pc := 18) C dX8_blocks_18 <|
    s_aload_n (pc := 21) C dX8_blocks_21 rfl <|
    s_iload_n (pc := 22) C dX8_blocks_22 rfl <|
    s_callVg (pc := 23) C ct_X8_behind (n := 2) (rk := 1) (mp := [0]) ⟨rfl, by decide, rfl⟩ (ci := 8) rfl rfl (by decide) (by decide) yi_X8_behind (by decide) wd_1006 wd_1008 wd_28 wd_81 wd_1009 dX8_blocks_23 <|
    s_istore_n (pc := 26) C dX8_blocks_26 rfl <|
    s_goto (pc := 27) C dX8_blocks_27 (by decide) <|
    s_cut q8)
noncomputable def rw_X8_blocks_8 (f : Nat) : XK := tlp (fun k8 => rg_X8_blocks_8 k8) f
noncomputable def lb_X8_blocks_8 (f : Nat) : ((Int × Int × Ob) → Option Rt) → Int × Int × Ob → Option Rt := fun k8 => mg_X8_blocks_8 k8
noncomputable def md_X8_blocks_8 (f : Nat) : Int × Int × Ob → Option Rt := tlp (lb_X8_blocks_8 f) f
theorem eq_X8_blocks_8 (f : Nat) (a : Int × Int × Ob) : rw_X8_blocks_8 f (en_X8_blocks_8 a) = md_X8_blocks_8 f a :=
 tlp_enc (en_X8_blocks_8) (fun k8 a => (rq_X8_blocks_8 k8 a).trans (congrFun (congr (rfl : mg_X8_blocks_8 = mg_X8_blocks_8) rfl) a)) f a
theorem sd_X8_blocks_8 (f : Nat) {X : XDyn} {r0 : Rt} (C : XO X mX8_blocks) : XS X mX8_blocks r0 8 (rw_X8_blocks_8 f) := s_lp (fun k8 q8 => sg_X8_blocks_8 C q8) f
noncomputable def rw_X8_blocks_0 (f : Nat) : XK := rg_X8_blocks_0 (rw_X8_blocks_8 f)
noncomputable def md_X8_blocks_0 (f : Nat) : Ob → Option Rt := mg_X8_blocks_0 (md_X8_blocks_8 f)
theorem eq_X8_blocks_0 (f : Nat) (a : Ob) : rw_X8_blocks_0 f (en_X8_blocks_0 a) = md_X8_blocks_0 f a :=
 (rq_X8_blocks_0 (rw_X8_blocks_8 f) a).trans (congrFun (congr (rfl : mg_X8_blocks_0 = mg_X8_blocks_0) (funext (eq_X8_blocks_8 f))) a)
theorem sd_X8_blocks_0 (f : Nat) {X : XDyn} {r0 : Rt} (C : XO X mX8_blocks) : XS X mX8_blocks r0 0 (rw_X8_blocks_0 f) := sg_X8_blocks_0 C (sd_X8_blocks_8 f C)
theorem ctr_X8_blocks (f : Nat) : XCt yX8_blocks mX8_blocks (xF mX8_blocks (rw_X8_blocks_0 f)) := xMet (by decide +kernel) rfl (fun _ _ C => sd_X8_blocks_0 f C)
theorem eqf_X8_blocks (f : Nat) (h0 : Ob) : xF mX8_blocks (rw_X8_blocks_0 f) [.inr (.inl (0, 0))] [h0] = md_X8_blocks_0 f h0 := eq_X8_blocks_0 f h0
theorem yi_X8_blocks : yX8_blocks.cls = RX8 ∧ yX8_blocks.cls ≠ "java/lang/invoke/MethodHandle" ∧ yX8_blocks.cls ≠ "java/lang/invoke/VarHandle" ∧ (parseMethodDescriptor yX8_blocks.desc).map (fun d => d.parameters.length) = some 0 := ⟨rfl, by decide +kernel, by decide +kernel, by decide +kernel⟩
noncomputable def ov_X8_blocks (h0 : Ob) : Option Rt := xop (md_X8_blocks_0 xfu h0)
theorem ov_X8_blocks_e (h0 : Ob) : ov_X8_blocks h0 = md_X8_blocks_0 xfu h0 := xop_eq _
theorem sp_X8_blocks (h0 : Ob) (hg : oqI (ov_X8_blocks h0) = true) : md_X8_blocks_0 xfu h0 = RI (oqR (ov_X8_blocks h0)) [(oqO (ov_X8_blocks h0) 0)] := (ov_X8_blocks_e h0).symm.trans (oqI_eq hg)
noncomputable def g_X8_blocks : List AV → List Ob → Bool
  | [.inr (.inl (0, 0))], [h0] => oqI (ov_X8_blocks h0)
  | _, _ => false
noncomputable def v_X8_blocks : List AV → List Ob → Rt
  | [.inr (.inl (0, 0))], [h0] => (some (.inl (oqR (ov_X8_blocks h0))), [(oqO (ov_X8_blocks h0) 0)])
  | _, _ => (none, [])
theorem ct_X8_blocks : XCt yX8_blocks mX8_blocks (fun as μ => if g_X8_blocks as μ then some (v_X8_blocks as μ) else none) := (ctr_X8_blocks xfu).of (fun as μ r h => by
  split at h
  · rename_i hg
    unfold g_X8_blocks at hg
    split at hg
    · rw [← h]
      exact (eqf_X8_blocks xfu _).trans (sp_X8_blocks _ hg)
    · cases hg
  · cases h)
theorem dX8_free_0 : decode cX8_free 0 = .ok (.iload_n 1, 1) := by decide +kernel
theorem dX8_free_1 : decode cX8_free 1 = .ok (.i2l, 1) := by decide +kernel
theorem dX8_free_2 : decode cX8_free 2 = .ok (.lconst 0, 1) := by decide +kernel
theorem dX8_free_3 : decode cX8_free 3 = .ok (.ldc2_w 262, 3) := by decide +kernel
theorem dX8_free_6 : decode cX8_free 6 = .ok (.invokestatic 75, 3) := by decide +kernel
theorem dX8_free_9 : decode cX8_free 9 = .ok (.ifCond .ne 5, 3) := by decide +kernel
theorem dX8_free_12 : decode cX8_free 12 = .ok (.iconst (-1), 1) := by decide +kernel
theorem dX8_free_13 : decode cX8_free 13 = .ok (.ireturn, 1) := by decide +kernel
theorem dX8_free_14 : decode cX8_free 14 = .ok (.aload_n 0, 1) := by decide +kernel
theorem dX8_free_15 : decode cX8_free 15 = .ok (.invokevirtual 109, 3) := by decide +kernel
theorem dX8_free_18 : decode cX8_free 18 = .ok (.iconst 0, 1) := by decide +kernel
theorem dX8_free_19 : decode cX8_free 19 = .ok (.istore_n 2, 1) := by decide +kernel
theorem dX8_free_20 : decode cX8_free 20 = .ok (.iconst 0, 1) := by decide +kernel
theorem dX8_free_21 : decode cX8_free 21 = .ok (.istore_n 3, 1) := by decide +kernel
theorem dX8_free_22 : decode cX8_free 22 = .ok (.iconst 0, 1) := by decide +kernel
theorem dX8_free_23 : decode cX8_free 23 = .ok (.istore 4, 2) := by decide +kernel
theorem dX8_free_25 : decode cX8_free 25 = .ok (.iconst 0, 1) := by decide +kernel
theorem dX8_free_26 : decode cX8_free 26 = .ok (.istore 5, 2) := by decide +kernel
theorem dX8_free_28 : decode cX8_free 28 = .ok (.iload 5, 2) := by decide +kernel
theorem dX8_free_30 : decode cX8_free 30 = .ok (.aload_n 0, 1) := by decide +kernel
theorem dX8_free_31 : decode cX8_free 31 = .ok (.getfield 7, 3) := by decide +kernel
theorem dX8_free_34 : decode cX8_free 34 = .ok (.iconst 0, 1) := by decide +kernel
theorem dX8_free_35 : decode cX8_free 35 = .ok (.iaload, 1) := by decide +kernel
theorem dX8_free_36 : decode cX8_free 36 = .ok (.if_icmp .ge 59, 3) := by decide +kernel
theorem dX8_free_39 : decode cX8_free 39 = .ok (.aload_n 0, 1) := by decide +kernel
theorem dX8_free_40 : decode cX8_free 40 = .ok (.getfield 19, 3) := by decide +kernel
theorem dX8_free_43 : decode cX8_free 43 = .ok (.iload 5, 2) := by decide +kernel
theorem dX8_free_45 : decode cX8_free 45 = .ok (.iaload, 1) := by decide +kernel
theorem dX8_free_46 : decode cX8_free 46 = .ok (.ifCond .eq 6, 3) := by decide +kernel
theorem dX8_free_49 : decode cX8_free 49 = .ok (.goto 35, 3) := by decide +kernel
theorem dX8_free_52 : decode cX8_free 52 = .ok (.aload_n 0, 1) := by decide +kernel
theorem dX8_free_53 : decode cX8_free 53 = .ok (.iload 5, 2) := by decide +kernel
theorem dX8_free_55 : decode cX8_free 55 = .ok (.invokevirtual 103, 3) := by decide +kernel
theorem dX8_free_58 : decode cX8_free 58 = .ok (.iload 5, 2) := by decide +kernel
theorem dX8_free_60 : decode cX8_free 60 = .ok (.isub, 1) := by decide +kernel
theorem dX8_free_61 : decode cX8_free 61 = .ok (.istore 6, 2) := by decide +kernel
theorem dX8_free_63 : decode cX8_free 63 = .ok (.iload_n 2, 1) := by decide +kernel
theorem dX8_free_64 : decode cX8_free 64 = .ok (.iload 6, 2) := by decide +kernel
theorem dX8_free_66 : decode cX8_free 66 = .ok (.iadd, 1) := by decide +kernel
theorem dX8_free_67 : decode cX8_free 67 = .ok (.istore_n 2, 1) := by decide +kernel
theorem dX8_free_68 : decode cX8_free 68 = .ok (.iload 6, 2) := by decide +kernel
theorem dX8_free_70 : decode cX8_free 70 = .ok (.iload_n 3, 1) := by decide +kernel
theorem dX8_free_71 : decode cX8_free 71 = .ok (.if_icmp .le 8, 3) := by decide +kernel
theorem dX8_free_74 : decode cX8_free 74 = .ok (.iload 6, 2) := by decide +kernel
theorem dX8_free_76 : decode cX8_free 76 = .ok (.goto 4, 3) := by decide +kernel
theorem dX8_free_79 : decode cX8_free 79 = .ok (.iload_n 3, 1) := by decide +kernel
theorem dX8_free_80 : decode cX8_free 80 = .ok (.istore_n 3, 1) := by decide +kernel
theorem dX8_free_81 : decode cX8_free 81 = .ok (.iinc 4 1, 3) := by decide +kernel
theorem dX8_free_84 : decode cX8_free 84 = .ok (.aload_n 0, 1) := by decide +kernel
theorem dX8_free_85 : decode cX8_free 85 = .ok (.iload 5, 2) := by decide +kernel
theorem dX8_free_87 : decode cX8_free 87 = .ok (.invokevirtual 103, 3) := by decide +kernel
theorem dX8_free_90 : decode cX8_free 90 = .ok (.istore 5, 2) := by decide +kernel
theorem dX8_free_92 : decode cX8_free 92 = .ok (.goto (-64), 3) := by decide +kernel
theorem dX8_free_95 : decode cX8_free 95 = .ok (.aload_n 0, 1) := by decide +kernel
theorem dX8_free_96 : decode cX8_free 96 = .ok (.aload_n 0, 1) := by decide +kernel
theorem dX8_free_97 : decode cX8_free 97 = .ok (.getfield 7, 3) := by decide +kernel
theorem dX8_free_100 : decode cX8_free 100 = .ok (.iconst 0, 1) := by decide +kernel
theorem dX8_free_101 : decode cX8_free 101 = .ok (.iaload, 1) := by decide +kernel
theorem dX8_free_102 : decode cX8_free 102 = .ok (.invokevirtual 139, 3) := by decide +kernel
theorem dX8_free_105 : decode cX8_free 105 = .ok (.iload_n 1, 1) := by decide +kernel
theorem dX8_free_106 : decode cX8_free 106 = .ok (.ifCond .ne 7, 3) := by decide +kernel
theorem dX8_free_109 : decode cX8_free 109 = .ok (.iload_n 2, 1) := by decide +kernel
theorem dX8_free_110 : decode cX8_free 110 = .ok (.goto 26, 3) := by decide +kernel
theorem dX8_free_113 : decode cX8_free 113 = .ok (.iload_n 1, 1) := by decide +kernel
theorem dX8_free_114 : decode cX8_free 114 = .ok (.iconst 1, 1) := by decide +kernel
theorem dX8_free_115 : decode cX8_free 115 = .ok (.if_icmp .ne 7, 3) := by decide +kernel
theorem dX8_free_118 : decode cX8_free 118 = .ok (.iload_n 3, 1) := by decide +kernel
theorem dX8_free_119 : decode cX8_free 119 = .ok (.goto 17, 3) := by decide +kernel
theorem dX8_free_122 : decode cX8_free 122 = .ok (.iload_n 1, 1) := by decide +kernel
theorem dX8_free_123 : decode cX8_free 123 = .ok (.iconst 2, 1) := by decide +kernel
theorem dX8_free_124 : decode cX8_free 124 = .ok (.if_icmp .ne 8, 3) := by decide +kernel
theorem dX8_free_127 : decode cX8_free 127 = .ok (.iload 4, 2) := by decide +kernel
theorem dX8_free_129 : decode cX8_free 129 = .ok (.goto 7, 3) := by decide +kernel
theorem dX8_free_132 : decode cX8_free 132 = .ok (.aload_n 0, 1) := by decide +kernel
theorem dX8_free_133 : decode cX8_free 133 = .ok (.getfield 119, 3) := by decide +kernel
theorem dX8_free_136 : decode cX8_free 136 = .ok (.ireturn, 1) := by decide +kernel
abbrev mX8_free : XM := (cX8_free, 7, RX8, (some .int), shw_8, 3)
noncomputable def rg_X8_free_0 (k28 : XK) : XK :=
 o_iload 1 <|
 o_i2l <|
 o_lconst 0 <|
 o_lconst 3 <|
 o_callSg 3 1 [] g_X8_in v_X8_in <|
 o_if_ne (o_aload 0 <|
 o_callVg 1 0 [0] g_X8_fillsOwners v_X8_fillsOwners <|
 o_iconst 0 <|
 o_istore 2 <|
 o_iconst 0 <|
 o_istore 3 <|
 o_iconst 0 <|
 o_istore 4 <|
 o_iconst 0 <|
 o_istore 5 <|
 o_cut [] k28)
 (o_iconst (-1) <|
 o_ireturn)
def en_X8_free_0 (p1 : Int) (a : Ob) : XSt := ([some (.inr (.inl (0, 0))), some (.inl p1), none, none, none, none, none], [], [a])
noncomputable def rg_X8_free_28 (k80 : XK) (k84 : XK) : XK :=
 o_iload 5 <|
 o_aload 0 <|
 o_get shw_8 8 0 <|
 o_iconst 0 <|
 o_iald shw_8 <|
 o_icmp_ge (o_aload 0 <|
 o_aload 0 <|
 o_get shw_8 8 0 <|
 o_iconst 0 <|
 o_iald shw_8 <|
 o_callVg 2 0 [0] g_X8_fillsGaps v_X8_fillsGaps <|
 o_iload 1 <|
 o_if_ne (o_iload 1 <|
 o_iconst 1 <|
 o_icmp_ne (o_iload 1 <|
 o_iconst 2 <|
 o_icmp_ne (o_aload 0 <|
 o_get shw_8 8 8 <|
 o_ireturn)
 (o_iload 4 <|
 o_ireturn))
 (o_iload 3 <|
 o_ireturn))
 (o_iload 2 <|
 o_ireturn))
 (o_aload 0 <|
 o_get shw_8 8 5 <|
 o_iload 5 <|
 o_iald shw_8 <|
 o_if_eq (o_aload 0 <|
 o_iload 5 <|
 o_callVg 2 1 [0] g_X8_behind v_X8_behind <|
 o_iload 5 <|
 o_isub <|
 o_istore 6 <|
 o_iload 2 <|
 o_iload 6 <|
 o_iadd <|
 o_istore 2 <|
 o_iload 6 <|
 o_iload 3 <|
 o_icmp_le (o_iload 3 <|
 o_cut [3, 6] k80)
 (o_iload 6 <|
 o_cut [3, 6] k80))
 (o_cut [] k84))
def en_X8_free_28 (p1 : Int) (a : Int × Int × Int × Int × Ob) : XSt := ([some (.inr (.inl (0, 0))), some (.inl p1), some (.inl a.1), some (.inl a.2.1), some (.inl a.2.2.1), some (.inl a.2.2.2.1), none], [], [a.2.2.2.2])
noncomputable def rg_X8_free_80 (k84 : XK) : XK :=
 o_istore 3 <|
 o_iinc 4 1 <|
 o_cut [] k84
def en_X8_free_80 (p1 : Int) (a : Int × Int × Int × Int × Ob) : XSt := ([some (.inr (.inl (0, 0))), some (.inl p1), some (.inl a.1), none, some (.inl a.2.1), some (.inl a.2.2.1), none], [.inl a.2.2.2.1], [a.2.2.2.2])
noncomputable def rg_X8_free_84 (k28 : XK) : XK :=
 o_aload 0 <|
 o_iload 5 <|
 o_callVg 2 1 [0] g_X8_behind v_X8_behind <|
 o_istore 5 <|
 o_cut [] k28
def en_X8_free_84 (p1 : Int) (a : Int × Int × Int × Int × Ob) : XSt := ([some (.inr (.inl (0, 0))), some (.inl p1), some (.inl a.1), some (.inl a.2.1), some (.inl a.2.2.1), some (.inl a.2.2.2.1), none], [], [a.2.2.2.2])
noncomputable def mg_X8_free_0 (p1 : Int) (k28 : (Int × Int × Int × Int × Ob) → Option Rt) (a : Ob) : Option Rt :=
 if xlr (xw p1) && (xlr (0 : Int) && xlr (3 : Int)) then (
 if xw (bz (inn (xw p1) (0 : Int) (3 : Int))) = 0 then (RI (-1) [a])
 else (if oqV (ov_X8_fillsOwners a) then (
 k28 (0, 0, 0, 0, (oqO (ov_X8_fillsOwners a) 0))) else none)) else none
set_option maxRecDepth 100000 in
set_option maxHeartbeats 4000000 in
theorem rq_X8_free_0 (p1 : Int) (k28 : XK) (a : Ob) : rg_X8_free_0 k28 (en_X8_free_0 p1 a) = mg_X8_free_0 p1 (fun b => k28 (en_X8_free_28 p1 b)) a := rfl
set_option maxRecDepth 100000 in
set_option maxHeartbeats 4000000 in
theorem sg_X8_free_0 {X : XDyn} {r0 : Rt} (C : XO X mX8_free) {k28 : XK} (q28 : XS X mX8_free r0 28 k28) : XS X mX8_free r0 0 (rg_X8_free_0 k28) := by
 unfold rg_X8_free_0
 exact s_iload_n (pc := 0) C dX8_free_0 rfl <|
    s_i2l (pc := 1) C dX8_free_1 <|
    s_lconst (pc := 2) C dX8_free_2 rfl <|
    s_ldc2 (pc := 3) C dX8_free_3 wd_1255 rfl <|
    s_callSg (pc := 6) C ct_X8_in (n := 3) (rk := 1) (mp := []) ⟨rfl, by decide, rfl⟩ (by decide) (by decide) ⟨rfl, yi_X8_in⟩ wd_954 wd_955 wd_81 wd_956 dX8_free_6 <|
    s_if_ne (pc := 9) C dX8_free_9 (by decide) (s_aload_n (pc := 14) C dX8_free_14 rfl <|
    s_callVg (pc := 15) C ct_X8_fillsOwners (n := 1) (rk := 0) (mp := [0]) ⟨rfl, by decide, rfl⟩ (ci := 8) rfl rfl (by decide) (by decide) yi_X8_fillsOwners (by decide) wd_979 wd_981 wd_22 wd_81 wd_982 dX8_free_15 <|
    s_iconst (pc := 18) C dX8_free_18 <|
    s_istore_n (pc := 19) C dX8_free_19 rfl <|
    s_iconst (pc := 20) C dX8_free_20 <|
    s_istore_n (pc := 21) C dX8_free_21 rfl <|
    s_iconst (pc := 22) C dX8_free_22 <|
    s_istore (pc := 23) C dX8_free_23 <|
    s_iconst (pc := 25) C dX8_free_25 <|
    s_istore (pc := 26) C dX8_free_26 <|
    s_cut q28)
    (s_iconst (pc := 12) C dX8_free_12 <|
    s_ireturn (pc := 13) C rfl dX8_free_13)
noncomputable def mg_X8_free_28 (p1 : Int) (k80 : (Int × Int × Int × Int × Ob) → Option Rt) (k84 : (Int × Int × Int × Int × Ob) → Option Rt) (a : Int × Int × Int × Int × Ob) : Option Rt :=
 if xw a.2.2.2.1 ≥ xw (a.2.2.2.2 1 0) then (if oqV (ov_X8_fillsGaps (a.2.2.2.2 1 0) a.2.2.2.2) then (
 if xw p1 = 0 then (RI a.1 [(oqO (ov_X8_fillsGaps (a.2.2.2.2 1 0) a.2.2.2.2) 0)])
 else (if xw p1 = 1 then (RI a.2.1 [(oqO (ov_X8_fillsGaps (a.2.2.2.2 1 0) a.2.2.2.2) 0)])
 else (if xw p1 = 2 then (RI a.2.2.1 [(oqO (ov_X8_fillsGaps (a.2.2.2.2 1 0) a.2.2.2.2) 0)])
 else (RI ((oqO (ov_X8_fillsGaps (a.2.2.2.2 1 0) a.2.2.2.2) 0) 0 8) [(oqO (ov_X8_fillsGaps (a.2.2.2.2 1 0) a.2.2.2.2) 0)])))) else none)
 else (if xin a.2.2.2.1 200 then (
 if xw (a.2.2.2.2 4 (xw a.2.2.2.1).toNat) = 0 then (if pd (ov_X8_behind a.2.2.2.1 a.2.2.2.2 = RI (oqR (ov_X8_behind a.2.2.2.1 a.2.2.2.2)) [a.2.2.2.2]) then (
 if xw ((oqR (ov_X8_behind a.2.2.2.1 a.2.2.2.2)) - a.2.2.2.1) ≤ xw a.2.1 then (k80 ((a.1 + ((oqR (ov_X8_behind a.2.2.2.1 a.2.2.2.2)) - a.2.2.2.1)), a.2.2.1, a.2.2.2.1, a.2.1, a.2.2.2.2))
 else (k80 ((a.1 + ((oqR (ov_X8_behind a.2.2.2.1 a.2.2.2.2)) - a.2.2.2.1)), a.2.2.1, a.2.2.2.1, ((oqR (ov_X8_behind a.2.2.2.1 a.2.2.2.2)) - a.2.2.2.1), a.2.2.2.2))) else none)
 else (k84 (a.1, a.2.1, a.2.2.1, a.2.2.2.1, a.2.2.2.2))) else none)
set_option maxRecDepth 100000 in
set_option maxHeartbeats 4000000 in
theorem rq_X8_free_28 (p1 : Int) (k80 : XK) (k84 : XK) (a : Int × Int × Int × Int × Ob) : rg_X8_free_28 k80 k84 (en_X8_free_28 p1 a) = mg_X8_free_28 p1 (fun b => k80 (en_X8_free_80 p1 b)) (fun b => k84 (en_X8_free_84 p1 b)) a := rfl
set_option maxRecDepth 100000 in
set_option maxHeartbeats 4000000 in
theorem sg_X8_free_28 {X : XDyn} {r0 : Rt} (C : XO X mX8_free) {k80 : XK} (q80 : XS X mX8_free r0 80 k80) {k84 : XK} (q84 : XS X mX8_free r0 84 k84) : XS X mX8_free r0 28 (rg_X8_free_28 k80 k84) := by
 unfold rg_X8_free_28
 exact s_iload (pc := 28) C dX8_free_28 <|
    s_aload_n (pc := 30) C dX8_free_30 rfl <|
    s_get (pc := 31) C (ci := 8) (kf := 0) rfl inX8 (by decide) wd_871 dX8_free_31 <|
    s_iconst (pc := 34) C dX8_free_34 <|
    s_iald (pc := 35) C dX8_free_35 <|
    s_icmp_ge (pc := 36) C dX8_free_36 (by decide) (s_aload_n (pc := 95) C dX8_free_95 rfl <|
    s_aload_n (pc := 96) C dX8_free_96 rfl <|
    s_get (pc := 97) C (ci := 8) (kf := 0) rfl inX8 (by decide) wd_871 dX8_free_97 <|
    s_iconst (pc := 100) C dX8_free_100 <|
    s_iald (pc := 101) C dX8_free_101 <|
    s_callVg (pc := 102) C ct_X8_fillsGaps (n := 2) (rk := 0) (mp := [0]) ⟨rfl, by decide, rfl⟩ (ci := 8) rfl rfl (by decide) (by decide) yi_X8_fillsGaps (by decide) wd_1038 wd_1040 wd_36 wd_81 wd_1041 dX8_free_102 <|
    s_iload_n (pc := 105) C dX8_free_105 rfl <|
    s_if_ne (pc := 106) C dX8_free_106 (by decide) (s_iload_n (pc := 113) C dX8_free_113 rfl <|
    s_iconst (pc := 114) C dX8_free_114 <|
    s_icmp_ne (pc := 115) C dX8_free_115 (by decide) (s_iload_n (pc := 122) C dX8_free_122 rfl <|
    s_iconst (pc := 123) C dX8_free_123 <|
    s_icmp_ne (pc := 124) C dX8_free_124 (by decide) (s_aload_n (pc := 132) C dX8_free_132 rfl <|
    s_get (pc := 133) C (ci := 8) (kf := 8) rfl inX8 (by decide) wd_879 dX8_free_133 <|
    s_ireturn (pc := 136) C rfl dX8_free_136)
    (s_iload (pc := 127) C dX8_free_127 <|
    s_goto (pc := 129) C dX8_free_129 (by decide) <|
    s_ireturn (pc := 136) C rfl dX8_free_136))
    (s_iload_n (pc := 118) C dX8_free_118 rfl <|
    s_goto (pc := 119) C dX8_free_119 (by decide) <|
    s_ireturn (pc := 136) C rfl dX8_free_136))
    (s_iload_n (pc := 109) C dX8_free_109 rfl <|
    s_goto (pc := 110) C dX8_free_110 (by decide) <|
    s_ireturn (pc := 136) C rfl dX8_free_136))
    (s_aload_n (pc := 39) C dX8_free_39 rfl <|
    s_get (pc := 40) C (ci := 8) (kf := 5) rfl inX8 (by decide) wd_876 dX8_free_40 <|
    s_iload (pc := 43) C dX8_free_43 <|
    s_iald (pc := 45) C dX8_free_45 <|
    s_if_eq (pc := 46) C dX8_free_46 (by decide) (s_aload_n (pc := 52) C dX8_free_52 rfl <|
    s_iload (pc := 53) C dX8_free_53 <|
    s_callVg (pc := 55) C ct_X8_behind (n := 2) (rk := 1) (mp := [0]) ⟨rfl, by decide, rfl⟩ (ci := 8) rfl rfl (by decide) (by decide) yi_X8_behind (by decide) wd_1006 wd_1008 wd_28 wd_81 wd_1009 dX8_free_55 <|
    s_iload (pc := 58) C dX8_free_58 <|
    s_isub (pc := 60) C dX8_free_60 <|
    s_istore (pc := 61) C dX8_free_61 <|
    s_iload_n (pc := 63) C dX8_free_63 rfl <|
    s_iload (pc := 64) C dX8_free_64 <|
    s_iadd (pc := 66) C dX8_free_66 <|
    s_istore_n (pc := 67) C dX8_free_67 rfl <|
    s_iload (pc := 68) C dX8_free_68 <|
    s_iload_n (pc := 70) C dX8_free_70 rfl <|
    s_icmp_le (pc := 71) C dX8_free_71 (by decide) (s_iload_n (pc := 79) C dX8_free_79 rfl <|
    s_cut q80)
    (s_iload (pc := 74) C dX8_free_74 <|
    s_goto (pc := 76) C dX8_free_76 (by decide) <|
    s_cut q80))
    (s_goto (pc := 49) C dX8_free_49 (by decide) <|
    s_cut q84))
noncomputable def mg_X8_free_80 (p1 : Int) (k84 : (Int × Int × Int × Int × Ob) → Option Rt) (a : Int × Int × Int × Int × Ob) : Option Rt :=
 k84 (a.1, a.2.2.2.1, (a.2.1 + 1), a.2.2.1, a.2.2.2.2)
set_option maxRecDepth 100000 in
set_option maxHeartbeats 4000000 in
theorem rq_X8_free_80 (p1 : Int) (k84 : XK) (a : Int × Int × Int × Int × Ob) : rg_X8_free_80 k84 (en_X8_free_80 p1 a) = mg_X8_free_80 p1 (fun b => k84 (en_X8_free_84 p1 b)) a := rfl
set_option maxRecDepth 100000 in
set_option maxHeartbeats 4000000 in
theorem sg_X8_free_80 {X : XDyn} {r0 : Rt} (C : XO X mX8_free) {k84 : XK} (q84 : XS X mX8_free r0 84 k84) : XS X mX8_free r0 80 (rg_X8_free_80 k84) := by
 unfold rg_X8_free_80
 exact s_istore_n (pc := 80) C dX8_free_80 rfl <|
    s_iinc (pc := 81) C dX8_free_81 <|
    s_cut q84
noncomputable def mg_X8_free_84 (p1 : Int) (k28 : (Int × Int × Int × Int × Ob) → Option Rt) (a : Int × Int × Int × Int × Ob) : Option Rt :=
 if pd (ov_X8_behind a.2.2.2.1 a.2.2.2.2 = RI (oqR (ov_X8_behind a.2.2.2.1 a.2.2.2.2)) [a.2.2.2.2]) then (
 k28 (a.1, a.2.1, a.2.2.1, (oqR (ov_X8_behind a.2.2.2.1 a.2.2.2.2)), a.2.2.2.2)) else none
set_option maxRecDepth 100000 in
set_option maxHeartbeats 4000000 in
theorem rq_X8_free_84 (p1 : Int) (k28 : XK) (a : Int × Int × Int × Int × Ob) : rg_X8_free_84 k28 (en_X8_free_84 p1 a) = mg_X8_free_84 p1 (fun b => k28 (en_X8_free_28 p1 b)) a := rfl
set_option maxRecDepth 100000 in
set_option maxHeartbeats 4000000 in
theorem sg_X8_free_84 {X : XDyn} {r0 : Rt} (C : XO X mX8_free) {k28 : XK} (q28 : XS X mX8_free r0 28 k28) : XS X mX8_free r0 84 (rg_X8_free_84 k28) := by
 unfold rg_X8_free_84
 exact s_aload_n (pc := 84) C dX8_free_84 rfl <|
    s_iload (pc := 85) C dX8_free_85 <|
    s_callVg (pc := 87) C ct_X8_behind (n := 2) (rk := 1) (mp := [0]) ⟨rfl, by decide, rfl⟩ (ci := 8) rfl rfl (by decide) (by decide) yi_X8_behind (by decide) wd_1006 wd_1008 wd_28 wd_81 wd_1009 dX8_free_87 <|
    s_istore (pc := 90) C dX8_free_90 <|
    s_goto (pc := 92) C dX8_free_92 (by decide) <|
    s_cut q28
noncomputable def rw_X8_free_84 (f : Nat) (k28 : XK) : XK := rg_X8_free_84 k28
noncomputable def md_X8_free_84 (p1 : Int) (f : Nat) (k28 : (Int × Int × Int × Int × Ob) → Option Rt) : Int × Int × Int × Int × Ob → Option Rt := mg_X8_free_84 p1 k28
theorem eq_X8_free_84 (p1 : Int) (f : Nat) (k28 : XK) (a : Int × Int × Int × Int × Ob) : rw_X8_free_84 f k28 (en_X8_free_84 p1 a) = md_X8_free_84 p1 f (fun b => k28 (en_X8_free_28 p1 b)) a :=
 (rq_X8_free_84 p1 k28 a).trans (congrFun (congr (rfl : mg_X8_free_84 p1 = mg_X8_free_84 p1) rfl) a)
theorem sd_X8_free_84 (f : Nat) {X : XDyn} {r0 : Rt} (C : XO X mX8_free) {k28 : XK} (q28 : XS X mX8_free r0 28 k28) : XS X mX8_free r0 84 (rw_X8_free_84 f k28) := sg_X8_free_84 C q28
noncomputable def rw_X8_free_80 (f : Nat) (k28 : XK) : XK := rg_X8_free_80 (rw_X8_free_84 f k28)
noncomputable def md_X8_free_80 (p1 : Int) (f : Nat) (k28 : (Int × Int × Int × Int × Ob) → Option Rt) : Int × Int × Int × Int × Ob → Option Rt := mg_X8_free_80 p1 (md_X8_free_84 p1 f k28)
theorem eq_X8_free_80 (p1 : Int) (f : Nat) (k28 : XK) (a : Int × Int × Int × Int × Ob) : rw_X8_free_80 f k28 (en_X8_free_80 p1 a) = md_X8_free_80 p1 f (fun b => k28 (en_X8_free_28 p1 b)) a :=
 (rq_X8_free_80 p1 (rw_X8_free_84 f k28) a).trans (congrFun (congr (rfl : mg_X8_free_80 p1 = mg_X8_free_80 p1) (funext (eq_X8_free_84 p1 f k28))) a)
theorem sd_X8_free_80 (f : Nat) {X : XDyn} {r0 : Rt} (C : XO X mX8_free) {k28 : XK} (q28 : XS X mX8_free r0 28 k28) : XS X mX8_free r0 80 (rw_X8_free_80 f k28) := sg_X8_free_80 C (sd_X8_free_84 f C q28)
noncomputable def rw_X8_free_28 (f : Nat) : XK := tlp (fun k28 => rg_X8_free_28 (rw_X8_free_80 f k28) (rw_X8_free_84 f k28)) f
noncomputable def lb_X8_free_28 (p1 : Int) (f : Nat) : ((Int × Int × Int × Int × Ob) → Option Rt) → Int × Int × Int × Int × Ob → Option Rt := fun k28 => mg_X8_free_28 p1 (md_X8_free_80 p1 f k28) (md_X8_free_84 p1 f k28)
noncomputable def md_X8_free_28 (p1 : Int) (f : Nat) : Int × Int × Int × Int × Ob → Option Rt := tlp (lb_X8_free_28 p1 f) f
theorem eq_X8_free_28 (p1 : Int) (f : Nat) (a : Int × Int × Int × Int × Ob) : rw_X8_free_28 f (en_X8_free_28 p1 a) = md_X8_free_28 p1 f a :=
 tlp_enc (en_X8_free_28 p1) (fun k28 a => (rq_X8_free_28 p1 (rw_X8_free_80 f k28) (rw_X8_free_84 f k28) a).trans (congrFun (congr (congr (rfl : mg_X8_free_28 p1 = mg_X8_free_28 p1) (funext (eq_X8_free_80 p1 f k28))) (funext (eq_X8_free_84 p1 f k28))) a)) f a
theorem sd_X8_free_28 (f : Nat) {X : XDyn} {r0 : Rt} (C : XO X mX8_free) : XS X mX8_free r0 28 (rw_X8_free_28 f) := s_lp (fun k28 q28 => sg_X8_free_28 C (sd_X8_free_80 f C q28) (sd_X8_free_84 f C q28)) f
noncomputable def rw_X8_free_0 (f : Nat) : XK := rg_X8_free_0 (rw_X8_free_28 f)
noncomputable def md_X8_free_0 (p1 : Int) (f : Nat) : Ob → Option Rt := mg_X8_free_0 p1 (md_X8_free_28 p1 f)
theorem eq_X8_free_0 (p1 : Int) (f : Nat) (a : Ob) : rw_X8_free_0 f (en_X8_free_0 p1 a) = md_X8_free_0 p1 f a :=
 (rq_X8_free_0 p1 (rw_X8_free_28 f) a).trans (congrFun (congr (rfl : mg_X8_free_0 p1 = mg_X8_free_0 p1) (funext (eq_X8_free_28 p1 f))) a)
theorem sd_X8_free_0 (f : Nat) {X : XDyn} {r0 : Rt} (C : XO X mX8_free) : XS X mX8_free r0 0 (rw_X8_free_0 f) := sg_X8_free_0 C (sd_X8_free_28 f C)
theorem ctr_X8_free (f : Nat) : XCt yX8_free mX8_free (xF mX8_free (rw_X8_free_0 f)) := xMet (by decide +kernel) rfl (fun _ _ C => sd_X8_free_0 f C)
theorem eqf_X8_free (f : Nat) (p1 : Int) (h0 : Ob) : xF mX8_free (rw_X8_free_0 f) [.inr (.inl (0, 0)), .inl p1] [h0] = md_X8_free_0 p1 f h0 := eq_X8_free_0 p1 f h0
theorem yi_X8_free : yX8_free.cls = RX8 ∧ yX8_free.cls ≠ "java/lang/invoke/MethodHandle" ∧ yX8_free.cls ≠ "java/lang/invoke/VarHandle" ∧ (parseMethodDescriptor yX8_free.desc).map (fun d => d.parameters.length) = some 1 := ⟨rfl, by decide +kernel, by decide +kernel, by decide +kernel⟩
theorem dX8_would_0 : decode cX8_would 0 = .ok (.iload_n 1, 1) := by decide +kernel
theorem dX8_would_1 : decode cX8_would 1 = .ok (.i2l, 1) := by decide +kernel
theorem dX8_would_2 : decode cX8_would 2 = .ok (.lconst 1, 1) := by decide +kernel
theorem dX8_would_3 : decode cX8_would 3 = .ok (.ldc2_w 264, 3) := by decide +kernel
theorem dX8_would_6 : decode cX8_would 6 = .ok (.invokestatic 75, 3) := by decide +kernel
theorem dX8_would_9 : decode cX8_would 9 = .ok (.ifCond .eq 15, 3) := by decide +kernel
theorem dX8_would_12 : decode cX8_would 12 = .ok (.iload_n 2, 1) := by decide +kernel
theorem dX8_would_13 : decode cX8_would 13 = .ok (.i2l, 1) := by decide +kernel
theorem dX8_would_14 : decode cX8_would 14 = .ok (.lconst 0, 1) := by decide +kernel
theorem dX8_would_15 : decode cX8_would 15 = .ok (.ldc2_w 255, 3) := by decide +kernel
theorem dX8_would_18 : decode cX8_would 18 = .ok (.invokestatic 75, 3) := by decide +kernel
theorem dX8_would_21 : decode cX8_would 21 = .ok (.ifCond .ne 5, 3) := by decide +kernel
theorem dX8_would_24 : decode cX8_would 24 = .ok (.iconst (-1), 1) := by decide +kernel
theorem dX8_would_25 : decode cX8_would 25 = .ok (.ireturn, 1) := by decide +kernel
theorem dX8_would_26 : decode cX8_would 26 = .ok (.aload_n 0, 1) := by decide +kernel
theorem dX8_would_27 : decode cX8_would 27 = .ok (.invokevirtual 208, 3) := by decide +kernel
theorem dX8_would_30 : decode cX8_would 30 = .ok (.aload_n 0, 1) := by decide +kernel
theorem dX8_would_31 : decode cX8_would 31 = .ok (.iload_n 1, 1) := by decide +kernel
theorem dX8_would_32 : decode cX8_would 32 = .ok (.iconst 1, 1) := by decide +kernel
theorem dX8_would_33 : decode cX8_would 33 = .ok (.iadd, 1) := by decide +kernel
theorem dX8_would_34 : decode cX8_would 34 = .ok (.iconst (-1), 1) := by decide +kernel
theorem dX8_would_35 : decode cX8_would 35 = .ok (.invokevirtual 211, 3) := by decide +kernel
theorem dX8_would_38 : decode cX8_would 38 = .ok (.istore_n 3, 1) := by decide +kernel
theorem dX8_would_39 : decode cX8_would 39 = .ok (.aload_n 0, 1) := by decide +kernel
theorem dX8_would_40 : decode cX8_would 40 = .ok (.getfield 7, 3) := by decide +kernel
theorem dX8_would_43 : decode cX8_would 43 = .ok (.iconst 0, 1) := by decide +kernel
theorem dX8_would_44 : decode cX8_would 44 = .ok (.iaload, 1) := by decide +kernel
theorem dX8_would_45 : decode cX8_would 45 = .ok (.istore 4, 2) := by decide +kernel
theorem dX8_would_47 : decode cX8_would 47 = .ok (.aload_n 0, 1) := by decide +kernel
theorem dX8_would_48 : decode cX8_would 48 = .ok (.invokevirtual 215, 3) := by decide +kernel
theorem dX8_would_51 : decode cX8_would 51 = .ok (.iload_n 3, 1) := by decide +kernel
theorem dX8_would_52 : decode cX8_would 52 = .ok (.ifCond .ge 6, 3) := by decide +kernel
theorem dX8_would_55 : decode cX8_would 55 = .ok (.bipush (-2), 2) := by decide +kernel
theorem dX8_would_57 : decode cX8_would 57 = .ok (.ireturn, 1) := by decide +kernel
theorem dX8_would_58 : decode cX8_would 58 = .ok (.iload_n 2, 1) := by decide +kernel
theorem dX8_would_59 : decode cX8_would 59 = .ok (.ifCond .ne 10, 3) := by decide +kernel
theorem dX8_would_62 : decode cX8_would 62 = .ok (.aload_n 0, 1) := by decide +kernel
theorem dX8_would_63 : decode cX8_would 63 = .ok (.getfield 164, 3) := by decide +kernel
theorem dX8_would_66 : decode cX8_would 66 = .ok (.goto 38, 3) := by decide +kernel
theorem dX8_would_69 : decode cX8_would 69 = .ok (.iload_n 2, 1) := by decide +kernel
theorem dX8_would_70 : decode cX8_would 70 = .ok (.iconst 1, 1) := by decide +kernel
theorem dX8_would_71 : decode cX8_would 71 = .ok (.if_icmp .ne 10, 3) := by decide +kernel
theorem dX8_would_74 : decode cX8_would 74 = .ok (.aload_n 0, 1) := by decide +kernel
theorem dX8_would_75 : decode cX8_would 75 = .ok (.getfield 179, 3) := by decide +kernel
theorem dX8_would_78 : decode cX8_would 78 = .ok (.goto 26, 3) := by decide +kernel
theorem dX8_would_81 : decode cX8_would 81 = .ok (.iload_n 2, 1) := by decide +kernel
theorem dX8_would_82 : decode cX8_would 82 = .ok (.iconst 2, 1) := by decide +kernel
theorem dX8_would_83 : decode cX8_would 83 = .ok (.if_icmp .ne 7, 3) := by decide +kernel
theorem dX8_would_86 : decode cX8_would 86 = .ok (.iload_n 3, 1) := by decide +kernel
theorem dX8_would_87 : decode cX8_would 87 = .ok (.goto 17, 3) := by decide +kernel
theorem dX8_would_90 : decode cX8_would 90 = .ok (.iload_n 2, 1) := by decide +kernel
theorem dX8_would_91 : decode cX8_would 91 = .ok (.iconst 3, 1) := by decide +kernel
theorem dX8_would_92 : decode cX8_would 92 = .ok (.if_icmp .ne 8, 3) := by decide +kernel
theorem dX8_would_95 : decode cX8_would 95 = .ok (.iload 4, 2) := by decide +kernel
theorem dX8_would_97 : decode cX8_would 97 = .ok (.goto 7, 3) := by decide +kernel
theorem dX8_would_100 : decode cX8_would 100 = .ok (.aload_n 0, 1) := by decide +kernel
theorem dX8_would_101 : decode cX8_would 101 = .ok (.getfield 182, 3) := by decide +kernel
theorem dX8_would_104 : decode cX8_would 104 = .ok (.ireturn, 1) := by decide +kernel
abbrev mX8_would : XM := (cX8_would, 5, RX8, (some .int), shw_8, 7)
noncomputable def rg_X8_would_0 : XK :=
 o_iload 1 <|
 o_i2l <|
 o_lconst 1 <|
 o_lconst 199 <|
 o_callSg 3 1 [] g_X8_in v_X8_in <|
 o_if_eq (o_iconst (-1) <|
 o_ireturn)
 (o_iload 2 <|
 o_i2l <|
 o_lconst 0 <|
 o_lconst 4 <|
 o_callSg 3 1 [] g_X8_in v_X8_in <|
 o_if_ne (o_aload 0 <|
 o_callVg 1 0 [0] g_X8_keepsAside v_X8_keepsAside <|
 o_aload 0 <|
 o_iload 1 <|
 o_iconst 1 <|
 o_iadd <|
 o_iconst (-1) <|
 o_callVg 3 1 [0] g_X8_fits v_X8_fits <|
 o_istore 3 <|
 o_aload 0 <|
 o_get shw_8 8 0 <|
 o_iconst 0 <|
 o_iald shw_8 <|
 o_istore 4 <|
 o_aload 0 <|
 o_callVg 1 0 [0] g_X8_laysBack v_X8_laysBack <|
 o_iload 3 <|
 o_if_ge (o_iload 2 <|
 o_if_ne (o_iload 2 <|
 o_iconst 1 <|
 o_icmp_ne (o_iload 2 <|
 o_iconst 2 <|
 o_icmp_ne (o_iload 2 <|
 o_iconst 3 <|
 o_icmp_ne (o_aload 0 <|
 o_get shw_8 8 21 <|
 o_ireturn)
 (o_iload 4 <|
 o_ireturn))
 (o_iload 3 <|
 o_ireturn))
 (o_aload 0 <|
 o_get shw_8 8 20 <|
 o_ireturn))
 (o_aload 0 <|
 o_get shw_8 8 19 <|
 o_ireturn))
 (o_iconst (-2) <|
 o_ireturn))
 (o_iconst (-1) <|
 o_ireturn))
def en_X8_would_0 (p1 : Int) (p2 : Int) (a : Ob) : XSt := ([some (.inr (.inl (0, 0))), some (.inl p1), some (.inl p2), none, none], [], [a])
noncomputable def mg_X8_would_0 (p1 : Int) (p2 : Int) (a : Ob) : Option Rt :=
 if xlr (xw p1) && (xlr (1 : Int) && xlr (199 : Int)) then (
 if xw (bz (inn (xw p1) (1 : Int) (199 : Int))) = 0 then (RI (-1) [a])
 else (if xlr (xw p2) && (xlr (0 : Int) && xlr (4 : Int)) then (
 if xw (bz (inn (xw p2) (0 : Int) (4 : Int))) = 0 then (RI (-1) [a])
 else (if oqV (ov_X8_keepsAside a) then (
 if oqI (ov_X8_fits (p1 + 1) ((-1) : Int) (oqO (ov_X8_keepsAside a) 0)) then (
 if oqV (ov_X8_laysBack (oqO (ov_X8_fits (p1 + 1) ((-1) : Int) (oqO (ov_X8_keepsAside a) 0)) 0)) then (
 if xw (oqR (ov_X8_fits (p1 + 1) ((-1) : Int) (oqO (ov_X8_keepsAside a) 0))) ≥ 0 then (if xw p2 = 0 then (RI ((oqO (ov_X8_laysBack (oqO (ov_X8_fits (p1 + 1) ((-1) : Int) (oqO (ov_X8_keepsAside a) 0)) 0)) 0) 0 19) [(oqO (ov_X8_laysBack (oqO (ov_X8_fits (p1 + 1) ((-1) : Int) (oqO (ov_X8_keepsAside a) 0)) 0)) 0)])
 else (if xw p2 = 1 then (RI ((oqO (ov_X8_laysBack (oqO (ov_X8_fits (p1 + 1) ((-1) : Int) (oqO (ov_X8_keepsAside a) 0)) 0)) 0) 0 20) [(oqO (ov_X8_laysBack (oqO (ov_X8_fits (p1 + 1) ((-1) : Int) (oqO (ov_X8_keepsAside a) 0)) 0)) 0)])
 else (if xw p2 = 2 then (RI (oqR (ov_X8_fits (p1 + 1) ((-1) : Int) (oqO (ov_X8_keepsAside a) 0))) [(oqO (ov_X8_laysBack (oqO (ov_X8_fits (p1 + 1) ((-1) : Int) (oqO (ov_X8_keepsAside a) 0)) 0)) 0)])
 else (if xw p2 = 3 then (RI ((oqO (ov_X8_fits (p1 + 1) ((-1) : Int) (oqO (ov_X8_keepsAside a) 0)) 0) 1 0) [(oqO (ov_X8_laysBack (oqO (ov_X8_fits (p1 + 1) ((-1) : Int) (oqO (ov_X8_keepsAside a) 0)) 0)) 0)])
 else (RI ((oqO (ov_X8_laysBack (oqO (ov_X8_fits (p1 + 1) ((-1) : Int) (oqO (ov_X8_keepsAside a) 0)) 0)) 0) 0 21) [(oqO (ov_X8_laysBack (oqO (ov_X8_fits (p1 + 1) ((-1) : Int) (oqO (ov_X8_keepsAside a) 0)) 0)) 0)])))))
 else (RI (-2) [(oqO (ov_X8_laysBack (oqO (ov_X8_fits (p1 + 1) ((-1) : Int) (oqO (ov_X8_keepsAside a) 0)) 0)) 0)])) else none) else none) else none)) else none)) else none
set_option maxRecDepth 100000 in
set_option maxHeartbeats 4000000 in
theorem rq_X8_would_0 (p1 : Int) (p2 : Int) (a : Ob) : rg_X8_would_0 (en_X8_would_0 p1 p2 a) = mg_X8_would_0 p1 p2 a := rfl
set_option maxRecDepth 100000 in
set_option maxHeartbeats 4000000 in
theorem sg_X8_would_0 {X : XDyn} {r0 : Rt} (C : XO X mX8_would) : XS X mX8_would r0 0 (rg_X8_would_0) := by
 unfold rg_X8_would_0
 exact s_iload_n (pc := 0) C dX8_would_0 rfl <|
    s_i2l (pc := 1) C dX8_would_1 <|
    s_lconst (pc := 2) C dX8_would_2 rfl <|
    s_ldc2 (pc := 3) C dX8_would_3 wd_1260 rfl <|
    s_callSg (pc := 6) C ct_X8_in (n := 3) (rk := 1) (mp := []) ⟨rfl, by decide, rfl⟩ (by decide) (by decide) ⟨rfl, yi_X8_in⟩ wd_954 wd_955 wd_81 wd_956 dX8_would_6 <|
    s_if_eq (pc := 9) C dX8_would_9 (by decide) (s_iconst (pc := 24) C dX8_would_24 <|
    s_ireturn (pc := 25) C rfl dX8_would_25)
    (s_iload_n (pc := 12) C dX8_would_12 rfl <|
    s_i2l (pc := 13) C dX8_would_13 <|
    s_lconst (pc := 14) C dX8_would_14 rfl <|
    s_ldc2 (pc := 15) C dX8_would_15 wd_1225 rfl <|
    s_callSg (pc := 18) C ct_X8_in (n := 3) (rk := 1) (mp := []) ⟨rfl, by decide, rfl⟩ (by decide) (by decide) ⟨rfl, yi_X8_in⟩ wd_954 wd_955 wd_81 wd_956 dX8_would_18 <|
    s_if_ne (pc := 21) C dX8_would_21 (by decide) (s_aload_n (pc := 26) C dX8_would_26 rfl <|
    s_callVg (pc := 27) C ct_X8_keepsAside (n := 1) (rk := 0) (mp := [0]) ⟨rfl, by decide, rfl⟩ (ci := 8) rfl rfl (by decide) (by decide) yi_X8_keepsAside (by decide) wd_967 wd_969 wd_19 wd_81 wd_970 dX8_would_27 <|
    s_aload_n (pc := 30) C dX8_would_30 rfl <|
    s_iload_n (pc := 31) C dX8_would_31 rfl <|
    s_iconst (pc := 32) C dX8_would_32 <|
    s_iadd (pc := 33) C dX8_would_33 <|
    s_iconst (pc := 34) C dX8_would_34 <|
    s_callVg (pc := 35) C ct_X8_fits (n := 3) (rk := 1) (mp := [0]) ⟨rfl, by decide, rfl⟩ (ci := 8) rfl rfl (by decide) (by decide) yi_X8_fits (by decide) wd_971 wd_973 wd_20 wd_81 wd_974 dX8_would_35 <|
    s_istore_n (pc := 38) C dX8_would_38 rfl <|
    s_aload_n (pc := 39) C dX8_would_39 rfl <|
    s_get (pc := 40) C (ci := 8) (kf := 0) rfl inX8 (by decide) wd_871 dX8_would_40 <|
    s_iconst (pc := 43) C dX8_would_43 <|
    s_iald (pc := 44) C dX8_would_44 <|
    s_istore (pc := 45) C dX8_would_45 <|
    s_aload_n (pc := 47) C dX8_would_47 rfl <|
    s_callVg (pc := 48) C ct_X8_laysBack (n := 1) (rk := 0) (mp := [0]) ⟨rfl, by decide, rfl⟩ (ci := 8) rfl rfl (by decide) (by decide) yi_X8_laysBack (by decide) wd_1101 wd_1103 wd_51 wd_81 wd_1104 dX8_would_48 <|
    s_iload_n (pc := 51) C dX8_would_51 rfl <|
    s_if_ge (pc := 52) C dX8_would_52 (by decide) (s_iload_n (pc := 58) C dX8_would_58 rfl <|
    s_if_ne (pc := 59) C dX8_would_59 (by decide) (s_iload_n (pc := 69) C dX8_would_69 rfl <|
    s_iconst (pc := 70) C dX8_would_70 <|
    s_icmp_ne (pc := 71) C dX8_would_71 (by decide) (s_iload_n (pc := 81) C dX8_would_81 rfl <|
    s_iconst (pc := 82) C dX8_would_82 <|
    s_icmp_ne (pc := 83) C dX8_would_83 (by decide) (s_iload_n (pc := 90) C dX8_would_90 rfl <|
    s_iconst (pc := 91) C dX8_would_91 <|
    s_icmp_ne (pc := 92) C dX8_would_92 (by decide) (s_aload_n (pc := 100) C dX8_would_100 rfl <|
    s_get (pc := 101) C (ci := 8) (kf := 21) rfl inX8 (by decide) wd_892 dX8_would_101 <|
    s_ireturn (pc := 104) C rfl dX8_would_104)
    (s_iload (pc := 95) C dX8_would_95 <|
    s_goto (pc := 97) C dX8_would_97 (by decide) <|
    s_ireturn (pc := 104) C rfl dX8_would_104))
    (s_iload_n (pc := 86) C dX8_would_86 rfl <|
    s_goto (pc := 87) C dX8_would_87 (by decide) <|
    s_ireturn (pc := 104) C rfl dX8_would_104))
    (s_aload_n (pc := 74) C dX8_would_74 rfl <|
    s_get (pc := 75) C (ci := 8) (kf := 20) rfl inX8 (by decide) wd_891 dX8_would_75 <|
    s_goto (pc := 78) C dX8_would_78 (by decide) <|
    s_ireturn (pc := 104) C rfl dX8_would_104))
    (s_aload_n (pc := 62) C dX8_would_62 rfl <|
    s_get (pc := 63) C (ci := 8) (kf := 19) rfl inX8 (by decide) wd_890 dX8_would_63 <|
    s_goto (pc := 66) C dX8_would_66 (by decide) <|
    s_ireturn (pc := 104) C rfl dX8_would_104))
    (s_bipush (pc := 55) C dX8_would_55 (by decide) <|
    s_ireturn (pc := 57) C rfl dX8_would_57))
    (s_iconst (pc := 24) C dX8_would_24 <|
    s_ireturn (pc := 25) C rfl dX8_would_25))
noncomputable def rw_X8_would_0 : XK := rg_X8_would_0
noncomputable def md_X8_would_0 (p1 : Int) (p2 : Int) : Ob → Option Rt := mg_X8_would_0 p1 p2
theorem eq_X8_would_0 (p1 : Int) (p2 : Int) (a : Ob) : rw_X8_would_0 (en_X8_would_0 p1 p2 a) = md_X8_would_0 p1 p2 a :=
 rq_X8_would_0 p1 p2 a
theorem sd_X8_would_0 {X : XDyn} {r0 : Rt} (C : XO X mX8_would) : XS X mX8_would r0 0 (rw_X8_would_0) := sg_X8_would_0 C
theorem ctr_X8_would : XCt yX8_would mX8_would (xF mX8_would (rw_X8_would_0)) := xMet (by decide +kernel) rfl (fun _ _ C => sd_X8_would_0 C)
theorem eqf_X8_would (p1 : Int) (p2 : Int) (h0 : Ob) : xF mX8_would (rw_X8_would_0) [.inr (.inl (0, 0)), .inl p1, .inl p2] [h0] = md_X8_would_0 p1 p2 h0 := eq_X8_would_0 p1 p2 h0
theorem yi_X8_would : yX8_would.cls = RX8 ∧ yX8_would.cls ≠ "java/lang/invoke/MethodHandle" ∧ yX8_would.cls ≠ "java/lang/invoke/VarHandle" ∧ (parseMethodDescriptor yX8_would.desc).map (fun d => d.parameters.length) = some 2 := ⟨rfl, by decide +kernel, by decide +kernel, by decide +kernel⟩
