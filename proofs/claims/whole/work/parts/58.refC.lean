theorem dX8_leastOne_0 : decode cX8_leastOne 0 = .ok (.iconst (-1), 1) := by decide +kernel
theorem dX8_leastOne_1 : decode cX8_leastOne 1 = .ok (.istore_n 3, 1) := by decide +kernel
theorem dX8_leastOne_2 : decode cX8_leastOne 2 = .ok (.bipush 7, 2) := by decide +kernel
theorem dX8_leastOne_4 : decode cX8_leastOne 4 = .ok (.istore 4, 2) := by decide +kernel
theorem dX8_leastOne_6 : decode cX8_leastOne 6 = .ok (.iload 4, 2) := by decide +kernel
theorem dX8_leastOne_8 : decode cX8_leastOne 8 = .ok (.ifCond .lt 64, 3) := by decide +kernel
theorem dX8_leastOne_11 : decode cX8_leastOne 11 = .ok (.iload 4, 2) := by decide +kernel
theorem dX8_leastOne_13 : decode cX8_leastOne 13 = .ok (.iload_n 2, 1) := by decide +kernel
theorem dX8_leastOne_14 : decode cX8_leastOne 14 = .ok (.if_icmp .eq 52, 3) := by decide +kernel
theorem dX8_leastOne_17 : decode cX8_leastOne 17 = .ok (.iload_n 1, 1) := by decide +kernel
theorem dX8_leastOne_18 : decode cX8_leastOne 18 = .ok (.ifCond .eq 15, 3) := by decide +kernel
theorem dX8_leastOne_21 : decode cX8_leastOne 21 = .ok (.aload_n 0, 1) := by decide +kernel
theorem dX8_leastOne_22 : decode cX8_leastOne 22 = .ok (.iload 4, 2) := by decide +kernel
theorem dX8_leastOne_24 : decode cX8_leastOne 24 = .ok (.invokevirtual 155, 3) := by decide +kernel
theorem dX8_leastOne_27 : decode cX8_leastOne 27 = .ok (.ifCond .eq 39, 3) := by decide +kernel
theorem dX8_leastOne_30 : decode cX8_leastOne 30 = .ok (.goto 15, 3) := by decide +kernel
theorem dX8_leastOne_33 : decode cX8_leastOne 33 = .ok (.aload_n 0, 1) := by decide +kernel
theorem dX8_leastOne_34 : decode cX8_leastOne 34 = .ok (.iload 4, 2) := by decide +kernel
theorem dX8_leastOne_36 : decode cX8_leastOne 36 = .ok (.invokevirtual 158, 3) := by decide +kernel
theorem dX8_leastOne_39 : decode cX8_leastOne 39 = .ok (.ifCond .ne 6, 3) := by decide +kernel
theorem dX8_leastOne_42 : decode cX8_leastOne 42 = .ok (.goto 24, 3) := by decide +kernel
theorem dX8_leastOne_45 : decode cX8_leastOne 45 = .ok (.iload_n 3, 1) := by decide +kernel
theorem dX8_leastOne_46 : decode cX8_leastOne 46 = .ok (.ifCond .lt 17, 3) := by decide +kernel
theorem dX8_leastOne_49 : decode cX8_leastOne 49 = .ok (.aload_n 0, 1) := by decide +kernel
theorem dX8_leastOne_50 : decode cX8_leastOne 50 = .ok (.iload 4, 2) := by decide +kernel
theorem dX8_leastOne_52 : decode cX8_leastOne 52 = .ok (.invokevirtual 161, 3) := by decide +kernel
theorem dX8_leastOne_55 : decode cX8_leastOne 55 = .ok (.aload_n 0, 1) := by decide +kernel
theorem dX8_leastOne_56 : decode cX8_leastOne 56 = .ok (.iload_n 3, 1) := by decide +kernel
theorem dX8_leastOne_57 : decode cX8_leastOne 57 = .ok (.invokevirtual 161, 3) := by decide +kernel
theorem dX8_leastOne_60 : decode cX8_leastOne 60 = .ok (.if_icmp .gt 6, 3) := by decide +kernel
theorem dX8_leastOne_63 : decode cX8_leastOne 63 = .ok (.iload 4, 2) := by decide +kernel
theorem dX8_leastOne_65 : decode cX8_leastOne 65 = .ok (.istore_n 3, 1) := by decide +kernel
theorem dX8_leastOne_66 : decode cX8_leastOne 66 = .ok (.iinc 4 (-1), 3) := by decide +kernel
theorem dX8_leastOne_69 : decode cX8_leastOne 69 = .ok (.goto (-63), 3) := by decide +kernel
theorem dX8_leastOne_72 : decode cX8_leastOne 72 = .ok (.iload_n 3, 1) := by decide +kernel
theorem dX8_leastOne_73 : decode cX8_leastOne 73 = .ok (.ireturn, 1) := by decide +kernel
abbrev mX8_leastOne : XM := (cX8_leastOne, 5, RX8, (some .int), shw_8, 4)
noncomputable def rg_X8_leastOne_0 (k6 : XK) : XK :=
 o_iconst (-1) <|
 o_istore 3 <|
 o_iconst 7 <|
 o_istore 4 <|
 o_cut [] k6
def en_X8_leastOne_0 (p1 : Int) (p2 : Int) (h0 : Ob) (a : Unit) : XSt := ([some (.inr (.inl (0, 0))), some (.inl p1), some (.inl p2), none, none], [], [h0])
noncomputable def rg_X8_leastOne_6 (k66 : XK) (k45 : XK) : XK :=
 o_iload 4 <|
 o_if_lt (o_iload 3 <|
 o_ireturn)
 (o_iload 4 <|
 o_iload 2 <|
 o_icmp_eq (o_cut [] k66)
 (o_iload 1 <|
 o_if_eq (o_aload 0 <|
 o_iload 4 <|
 o_callV 2 1 [0] f_X8_canGo <|
 o_if_ne (o_cut [] k45)
 (o_cut [] k66))
 (o_aload 0 <|
 o_iload 4 <|
 o_callV 2 1 [0] f_X8_canBeLess <|
 o_if_eq (o_cut [] k66)
 (o_cut [] k45))))
def en_X8_leastOne_6 (p1 : Int) (p2 : Int) (h0 : Ob) (a : Int × Int) : XSt := ([some (.inr (.inl (0, 0))), some (.inl p1), some (.inl p2), some (.inl a.1), some (.inl a.2)], [], [h0])
noncomputable def rg_X8_leastOne_45 (k63 : XK) (k66 : XK) : XK :=
 o_iload 3 <|
 o_if_lt (o_cut [3] k63)
 (o_aload 0 <|
 o_iload 4 <|
 o_callVg 2 1 [0] g_X8_worthOf v_X8_worthOf <|
 o_aload 0 <|
 o_iload 3 <|
 o_callVg 2 1 [0] g_X8_worthOf v_X8_worthOf <|
 o_icmp_gt (o_cut [] k66)
 (o_cut [3] k63))
def en_X8_leastOne_45 (p1 : Int) (p2 : Int) (h0 : Ob) (a : Int × Int) : XSt := ([some (.inr (.inl (0, 0))), some (.inl p1), some (.inl p2), some (.inl a.1), some (.inl a.2)], [], [h0])
noncomputable def rg_X8_leastOne_63 (k66 : XK) : XK :=
 o_iload 4 <|
 o_istore 3 <|
 o_cut [] k66
def en_X8_leastOne_63 (p1 : Int) (p2 : Int) (h0 : Ob) (a : Int) : XSt := ([some (.inr (.inl (0, 0))), some (.inl p1), some (.inl p2), none, some (.inl a)], [], [h0])
noncomputable def rg_X8_leastOne_66 (k6 : XK) : XK :=
 o_iinc 4 (-1) <|
 o_cut [] k6
def en_X8_leastOne_66 (p1 : Int) (p2 : Int) (h0 : Ob) (a : Int × Int) : XSt := ([some (.inr (.inl (0, 0))), some (.inl p1), some (.inl p2), some (.inl a.1), some (.inl a.2)], [], [h0])
noncomputable def mg_X8_leastOne_0 (p1 : Int) (p2 : Int) (h0 : Ob) (k6 : (Int × Int) → Option Rt) (a : Unit) : Option Rt :=
 k6 ((-1), 7)
set_option maxRecDepth 100000 in
set_option maxHeartbeats 4000000 in
theorem rq_X8_leastOne_0 (p1 : Int) (p2 : Int) (h0 : Ob) (k6 : XK) (a : Unit) : rg_X8_leastOne_0 k6 (en_X8_leastOne_0 p1 p2 h0 a) = mg_X8_leastOne_0 p1 p2 h0 (fun b => k6 (en_X8_leastOne_6 p1 p2 h0 b)) a := rfl
set_option maxRecDepth 100000 in
set_option maxHeartbeats 4000000 in
theorem sg_X8_leastOne_0 {X : XDyn} {r0 : Rt} (C : XO X mX8_leastOne) {k6 : XK} (q6 : XS X mX8_leastOne r0 6 k6) : XS X mX8_leastOne r0 0 (rg_X8_leastOne_0 k6) := by
 unfold rg_X8_leastOne_0
 exact s_iconst (pc := 0) C dX8_leastOne_0 <|
    s_istore_n (pc := 1) C dX8_leastOne_1 rfl <|
    s_bipush (pc := 2) C dX8_leastOne_2 (by decide) <|
    s_istore (pc := 4) C dX8_leastOne_4 <|
    s_cut q6
noncomputable def mg_X8_leastOne_6 (p1 : Int) (p2 : Int) (h0 : Ob) (k66 : (Int × Int) → Option Rt) (k45 : (Int × Int) → Option Rt) (a : Int × Int) : Option Rt :=
 if xw a.2 < 0 then (RI a.1 [h0])
 else (if xw a.2 = xw p2 then (k66 (a.1, a.2))
 else (if xw p1 = 0 then (if xw (bz (cgoM h0 a.2)) = 0 then (k66 (a.1, a.2))
 else (k45 (a.1, a.2)))
 else (if xw (bz (cblM h0 a.2)) = 0 then (k66 (a.1, a.2))
 else (k45 (a.1, a.2)))))
set_option maxRecDepth 100000 in
set_option maxHeartbeats 4000000 in
theorem rq_X8_leastOne_6 (p1 : Int) (p2 : Int) (h0 : Ob) (k66 : XK) (k45 : XK) (a : Int × Int) : rg_X8_leastOne_6 k66 k45 (en_X8_leastOne_6 p1 p2 h0 a) = mg_X8_leastOne_6 p1 p2 h0 (fun b => k66 (en_X8_leastOne_66 p1 p2 h0 b)) (fun b => k45 (en_X8_leastOne_45 p1 p2 h0 b)) a := rfl
set_option maxRecDepth 100000 in
set_option maxHeartbeats 4000000 in
theorem sg_X8_leastOne_6 {X : XDyn} {r0 : Rt} (C : XO X mX8_leastOne) {k66 : XK} (q66 : XS X mX8_leastOne r0 66 k66) {k45 : XK} (q45 : XS X mX8_leastOne r0 45 k45) : XS X mX8_leastOne r0 6 (rg_X8_leastOne_6 k66 k45) := by
 unfold rg_X8_leastOne_6
 exact s_iload (pc := 6) C dX8_leastOne_6 <|
    s_if_lt (pc := 8) C dX8_leastOne_8 (by decide) (s_iload_n (pc := 72) C dX8_leastOne_72 rfl <|
    s_ireturn (pc := 73) C rfl dX8_leastOne_73)
    (s_iload (pc := 11) C dX8_leastOne_11 <|
    s_iload_n (pc := 13) C dX8_leastOne_13 rfl <|
    s_icmp_eq (pc := 14) C dX8_leastOne_14 (by decide) (s_cut q66)
    (s_iload_n (pc := 17) C dX8_leastOne_17 rfl <|
    s_if_eq (pc := 18) C dX8_leastOne_18 (by decide) (s_aload_n (pc := 33) C dX8_leastOne_33 rfl <|
    s_iload (pc := 34) C dX8_leastOne_34 <|
    s_callV (pc := 36) C ct_X8_canGo (n := 2) (rk := 1) (mp := [0]) ⟨rfl, by decide, rfl⟩ (ci := 8) rfl rfl (by decide) (by decide) yi_X8_canGo (by decide) wd_1085 wd_1087 wd_47 wd_81 wd_1088 dX8_leastOne_36 <|
    s_if_ne (pc := 39) C dX8_leastOne_39 (by decide) (s_cut q45)
    (s_goto (pc := 42) C dX8_leastOne_42 (by decide) <|
    s_cut q66))
    (s_aload_n (pc := 21) C dX8_leastOne_21 rfl <|
    s_iload (pc := 22) C dX8_leastOne_22 <|
    s_callV (pc := 24) C ct_X8_canBeLess (n := 2) (rk := 1) (mp := [0]) ⟨rfl, by decide, rfl⟩ (ci := 8) rfl rfl (by decide) (by decide) yi_X8_canBeLess (by decide) wd_1077 wd_1079 wd_45 wd_81 wd_1080 dX8_leastOne_24 <|
    s_if_eq (pc := 27) C dX8_leastOne_27 (by decide) (s_cut q66)
    (s_goto (pc := 30) C dX8_leastOne_30 (by decide) <|
    s_cut q45))))
noncomputable def mg_X8_leastOne_45 (p1 : Int) (p2 : Int) (h0 : Ob) (k63 : Int → Option Rt) (k66 : (Int × Int) → Option Rt) (a : Int × Int) : Option Rt :=
 if xw a.1 < 0 then (k63 a.2)
 else (if pd (hdl a.2 = true ∧ (xw (h0 1 2) = 2 → xw (h0 1 (21 + (xw a.2).toNat)) ≠ 0)) then (
 if pd (hdl a.1 = true ∧ (xw (h0 1 2) = 2 → xw (h0 1 (21 + (xw a.1).toNat)) ≠ 0)) then (
 if xw (wrM h0 a.2) > xw (wrM h0 a.1) then (k66 (a.1, a.2))
 else (k63 a.2)) else none) else none)
set_option maxRecDepth 100000 in
set_option maxHeartbeats 4000000 in
theorem rq_X8_leastOne_45 (p1 : Int) (p2 : Int) (h0 : Ob) (k63 : XK) (k66 : XK) (a : Int × Int) : rg_X8_leastOne_45 k63 k66 (en_X8_leastOne_45 p1 p2 h0 a) = mg_X8_leastOne_45 p1 p2 h0 (fun b => k63 (en_X8_leastOne_63 p1 p2 h0 b)) (fun b => k66 (en_X8_leastOne_66 p1 p2 h0 b)) a := rfl
set_option maxRecDepth 100000 in
set_option maxHeartbeats 4000000 in
theorem sg_X8_leastOne_45 {X : XDyn} {r0 : Rt} (C : XO X mX8_leastOne) {k63 : XK} (q63 : XS X mX8_leastOne r0 63 k63) {k66 : XK} (q66 : XS X mX8_leastOne r0 66 k66) : XS X mX8_leastOne r0 45 (rg_X8_leastOne_45 k63 k66) := by
 unfold rg_X8_leastOne_45
 exact s_iload_n (pc := 45) C dX8_leastOne_45 rfl <|
    s_if_lt (pc := 46) C dX8_leastOne_46 (by decide) (s_cut q63)
    (s_aload_n (pc := 49) C dX8_leastOne_49 rfl <|
    s_iload (pc := 50) C dX8_leastOne_50 <|
    s_callVg (pc := 52) C ct_X8_worthOf (n := 2) (rk := 1) (mp := [0]) ⟨rfl, by decide, rfl⟩ (ci := 8) rfl rfl (by decide) (by decide) yi_X8_worthOf (by decide) wd_1089 wd_1091 wd_48 wd_81 wd_1092 dX8_leastOne_52 <|
    s_aload_n (pc := 55) C dX8_leastOne_55 rfl <|
    s_iload_n (pc := 56) C dX8_leastOne_56 rfl <|
    s_callVg (pc := 57) C ct_X8_worthOf (n := 2) (rk := 1) (mp := [0]) ⟨rfl, by decide, rfl⟩ (ci := 8) rfl rfl (by decide) (by decide) yi_X8_worthOf (by decide) wd_1089 wd_1091 wd_48 wd_81 wd_1092 dX8_leastOne_57 <|
    s_icmp_gt (pc := 60) C dX8_leastOne_60 (by decide) (s_cut q66)
    (s_cut q63))
noncomputable def mg_X8_leastOne_63 (p1 : Int) (p2 : Int) (h0 : Ob) (k66 : (Int × Int) → Option Rt) (a : Int) : Option Rt :=
 k66 (a, a)
set_option maxRecDepth 100000 in
set_option maxHeartbeats 4000000 in
theorem rq_X8_leastOne_63 (p1 : Int) (p2 : Int) (h0 : Ob) (k66 : XK) (a : Int) : rg_X8_leastOne_63 k66 (en_X8_leastOne_63 p1 p2 h0 a) = mg_X8_leastOne_63 p1 p2 h0 (fun b => k66 (en_X8_leastOne_66 p1 p2 h0 b)) a := rfl
set_option maxRecDepth 100000 in
set_option maxHeartbeats 4000000 in
theorem sg_X8_leastOne_63 {X : XDyn} {r0 : Rt} (C : XO X mX8_leastOne) {k66 : XK} (q66 : XS X mX8_leastOne r0 66 k66) : XS X mX8_leastOne r0 63 (rg_X8_leastOne_63 k66) := by
 unfold rg_X8_leastOne_63
 exact s_iload (pc := 63) C dX8_leastOne_63 <|
    s_istore_n (pc := 65) C dX8_leastOne_65 rfl <|
    s_cut q66
noncomputable def mg_X8_leastOne_66 (p1 : Int) (p2 : Int) (h0 : Ob) (k6 : (Int × Int) → Option Rt) (a : Int × Int) : Option Rt :=
 k6 (a.1, (a.2 + (-1)))
set_option maxRecDepth 100000 in
set_option maxHeartbeats 4000000 in
theorem rq_X8_leastOne_66 (p1 : Int) (p2 : Int) (h0 : Ob) (k6 : XK) (a : Int × Int) : rg_X8_leastOne_66 k6 (en_X8_leastOne_66 p1 p2 h0 a) = mg_X8_leastOne_66 p1 p2 h0 (fun b => k6 (en_X8_leastOne_6 p1 p2 h0 b)) a := rfl
set_option maxRecDepth 100000 in
set_option maxHeartbeats 4000000 in
theorem sg_X8_leastOne_66 {X : XDyn} {r0 : Rt} (C : XO X mX8_leastOne) {k6 : XK} (q6 : XS X mX8_leastOne r0 6 k6) : XS X mX8_leastOne r0 66 (rg_X8_leastOne_66 k6) := by
 unfold rg_X8_leastOne_66
 exact s_iinc (pc := 66) C dX8_leastOne_66 <|
    s_goto (pc := 69) C dX8_leastOne_69 (by decide) <|
    s_cut q6
noncomputable def rw_X8_leastOne_66 (f : Nat) (k6 : XK) : XK := rg_X8_leastOne_66 k6
noncomputable def md_X8_leastOne_66 (p1 : Int) (p2 : Int) (h0 : Ob) (f : Nat) (k6 : (Int × Int) → Option Rt) : Int × Int → Option Rt := mg_X8_leastOne_66 p1 p2 h0 k6
theorem eq_X8_leastOne_66 (p1 : Int) (p2 : Int) (h0 : Ob) (f : Nat) (k6 : XK) (a : Int × Int) : rw_X8_leastOne_66 f k6 (en_X8_leastOne_66 p1 p2 h0 a) = md_X8_leastOne_66 p1 p2 h0 f (fun b => k6 (en_X8_leastOne_6 p1 p2 h0 b)) a :=
 (rq_X8_leastOne_66 p1 p2 h0 k6 a).trans (congrFun (congr (rfl : mg_X8_leastOne_66 p1 p2 h0 = mg_X8_leastOne_66 p1 p2 h0) rfl) a)
theorem sd_X8_leastOne_66 (f : Nat) {X : XDyn} {r0 : Rt} (C : XO X mX8_leastOne) {k6 : XK} (q6 : XS X mX8_leastOne r0 6 k6) : XS X mX8_leastOne r0 66 (rw_X8_leastOne_66 f k6) := sg_X8_leastOne_66 C q6
noncomputable def rw_X8_leastOne_63 (f : Nat) (k6 : XK) : XK := rg_X8_leastOne_63 (rw_X8_leastOne_66 f k6)
noncomputable def md_X8_leastOne_63 (p1 : Int) (p2 : Int) (h0 : Ob) (f : Nat) (k6 : (Int × Int) → Option Rt) : Int → Option Rt := mg_X8_leastOne_63 p1 p2 h0 (md_X8_leastOne_66 p1 p2 h0 f k6)
theorem eq_X8_leastOne_63 (p1 : Int) (p2 : Int) (h0 : Ob) (f : Nat) (k6 : XK) (a : Int) : rw_X8_leastOne_63 f k6 (en_X8_leastOne_63 p1 p2 h0 a) = md_X8_leastOne_63 p1 p2 h0 f (fun b => k6 (en_X8_leastOne_6 p1 p2 h0 b)) a :=
 (rq_X8_leastOne_63 p1 p2 h0 (rw_X8_leastOne_66 f k6) a).trans (congrFun (congr (rfl : mg_X8_leastOne_63 p1 p2 h0 = mg_X8_leastOne_63 p1 p2 h0) (funext (eq_X8_leastOne_66 p1 p2 h0 f k6))) a)
theorem sd_X8_leastOne_63 (f : Nat) {X : XDyn} {r0 : Rt} (C : XO X mX8_leastOne) {k6 : XK} (q6 : XS X mX8_leastOne r0 6 k6) : XS X mX8_leastOne r0 63 (rw_X8_leastOne_63 f k6) := sg_X8_leastOne_63 C (sd_X8_leastOne_66 f C q6)
noncomputable def rw_X8_leastOne_45 (f : Nat) (k6 : XK) : XK := rg_X8_leastOne_45 (rw_X8_leastOne_63 f k6) (rw_X8_leastOne_66 f k6)
noncomputable def md_X8_leastOne_45 (p1 : Int) (p2 : Int) (h0 : Ob) (f : Nat) (k6 : (Int × Int) → Option Rt) : Int × Int → Option Rt := mg_X8_leastOne_45 p1 p2 h0 (md_X8_leastOne_63 p1 p2 h0 f k6) (md_X8_leastOne_66 p1 p2 h0 f k6)
theorem eq_X8_leastOne_45 (p1 : Int) (p2 : Int) (h0 : Ob) (f : Nat) (k6 : XK) (a : Int × Int) : rw_X8_leastOne_45 f k6 (en_X8_leastOne_45 p1 p2 h0 a) = md_X8_leastOne_45 p1 p2 h0 f (fun b => k6 (en_X8_leastOne_6 p1 p2 h0 b)) a :=
 (rq_X8_leastOne_45 p1 p2 h0 (rw_X8_leastOne_63 f k6) (rw_X8_leastOne_66 f k6) a).trans (congrFun (congr (congr (rfl : mg_X8_leastOne_45 p1 p2 h0 = mg_X8_leastOne_45 p1 p2 h0) (funext (eq_X8_leastOne_63 p1 p2 h0 f k6))) (funext (eq_X8_leastOne_66 p1 p2 h0 f k6))) a)
theorem sd_X8_leastOne_45 (f : Nat) {X : XDyn} {r0 : Rt} (C : XO X mX8_leastOne) {k6 : XK} (q6 : XS X mX8_leastOne r0 6 k6) : XS X mX8_leastOne r0 45 (rw_X8_leastOne_45 f k6) := sg_X8_leastOne_45 C (sd_X8_leastOne_63 f C q6) (sd_X8_leastOne_66 f C q6)
noncomputable def rw_X8_leastOne_6 (f : Nat) : XK := tlp (fun k6 => rg_X8_leastOne_6 (rw_X8_leastOne_66 f k6) (rw_X8_leastOne_45 f k6)) f
noncomputable def lb_X8_leastOne_6 (p1 : Int) (p2 : Int) (h0 : Ob) (f : Nat) : ((Int × Int) → Option Rt) → Int × Int → Option Rt := fun k6 => mg_X8_leastOne_6 p1 p2 h0 (md_X8_leastOne_66 p1 p2 h0 f k6) (md_X8_leastOne_45 p1 p2 h0 f k6)
noncomputable def md_X8_leastOne_6 (p1 : Int) (p2 : Int) (h0 : Ob) (f : Nat) : Int × Int → Option Rt := tlp (lb_X8_leastOne_6 p1 p2 h0 f) f
theorem eq_X8_leastOne_6 (p1 : Int) (p2 : Int) (h0 : Ob) (f : Nat) (a : Int × Int) : rw_X8_leastOne_6 f (en_X8_leastOne_6 p1 p2 h0 a) = md_X8_leastOne_6 p1 p2 h0 f a :=
 tlp_enc (en_X8_leastOne_6 p1 p2 h0) (fun k6 a => (rq_X8_leastOne_6 p1 p2 h0 (rw_X8_leastOne_66 f k6) (rw_X8_leastOne_45 f k6) a).trans (congrFun (congr (congr (rfl : mg_X8_leastOne_6 p1 p2 h0 = mg_X8_leastOne_6 p1 p2 h0) (funext (eq_X8_leastOne_66 p1 p2 h0 f k6))) (funext (eq_X8_leastOne_45 p1 p2 h0 f k6))) a)) f a
theorem sd_X8_leastOne_6 (f : Nat) {X : XDyn} {r0 : Rt} (C : XO X mX8_leastOne) : XS X mX8_leastOne r0 6 (rw_X8_leastOne_6 f) := s_lp (fun k6 q6 => sg_X8_leastOne_6 C (sd_X8_leastOne_66 f C q6) (sd_X8_leastOne_45 f C q6)) f
noncomputable def rw_X8_leastOne_0 (f : Nat) : XK := rg_X8_leastOne_0 (rw_X8_leastOne_6 f)
noncomputable def md_X8_leastOne_0 (p1 : Int) (p2 : Int) (h0 : Ob) (f : Nat) : Unit → Option Rt := mg_X8_leastOne_0 p1 p2 h0 (md_X8_leastOne_6 p1 p2 h0 f)
theorem eq_X8_leastOne_0 (p1 : Int) (p2 : Int) (h0 : Ob) (f : Nat) (a : Unit) : rw_X8_leastOne_0 f (en_X8_leastOne_0 p1 p2 h0 a) = md_X8_leastOne_0 p1 p2 h0 f a :=
 (rq_X8_leastOne_0 p1 p2 h0 (rw_X8_leastOne_6 f) a).trans (congrFun (congr (rfl : mg_X8_leastOne_0 p1 p2 h0 = mg_X8_leastOne_0 p1 p2 h0) (funext (eq_X8_leastOne_6 p1 p2 h0 f))) a)
theorem sd_X8_leastOne_0 (f : Nat) {X : XDyn} {r0 : Rt} (C : XO X mX8_leastOne) : XS X mX8_leastOne r0 0 (rw_X8_leastOne_0 f) := sg_X8_leastOne_0 C (sd_X8_leastOne_6 f C)
theorem ctr_X8_leastOne (f : Nat) : XCt yX8_leastOne mX8_leastOne (xF mX8_leastOne (rw_X8_leastOne_0 f)) := xMet (by decide +kernel) rfl (fun _ _ C => sd_X8_leastOne_0 f C)
theorem eqf_X8_leastOne (f : Nat) (p1 : Int) (p2 : Int) (h0 : Ob) : xF mX8_leastOne (rw_X8_leastOne_0 f) [.inr (.inl (0, 0)), .inl p1, .inl p2] [h0] = md_X8_leastOne_0 p1 p2 h0 f () := eq_X8_leastOne_0 p1 p2 h0 f ()
theorem yi_X8_leastOne : yX8_leastOne.cls = RX8 ∧ yX8_leastOne.cls ≠ "java/lang/invoke/MethodHandle" ∧ yX8_leastOne.cls ≠ "java/lang/invoke/VarHandle" ∧ (parseMethodDescriptor yX8_leastOne.desc).map (fun d => d.parameters.length) = some 2 := ⟨rfl, by decide +kernel, by decide +kernel, by decide +kernel⟩
noncomputable def ov_X8_leastOne (p1 p2 : Int) (h0 : Ob) : Option Rt := xop (md_X8_leastOne_0 p1 p2 h0 xfu ())
theorem ov_X8_leastOne_e (p1 p2 : Int) (h0 : Ob) : ov_X8_leastOne p1 p2 h0 = md_X8_leastOne_0 p1 p2 h0 xfu () := xop_eq _
theorem sp_X8_leastOne (p1 p2 : Int) (h0 : Ob) (hg : pd (ov_X8_leastOne p1 p2 h0 = RI (oqR (ov_X8_leastOne p1 p2 h0)) [h0]) = true) : md_X8_leastOne_0 p1 p2 h0 xfu () = RI (oqR (ov_X8_leastOne p1 p2 h0)) [h0] := (ov_X8_leastOne_e p1 p2 h0).symm.trans (pd_of hg)
noncomputable def g_X8_leastOne : List AV → List Ob → Bool
  | [.inr (.inl (0, 0)), .inl p1, .inl p2], [h0] => pd (ov_X8_leastOne p1 p2 h0 = RI (oqR (ov_X8_leastOne p1 p2 h0)) [h0])
  | _, _ => false
noncomputable def v_X8_leastOne : List AV → List Ob → Rt
  | [.inr (.inl (0, 0)), .inl p1, .inl p2], [h0] => (some (.inl (oqR (ov_X8_leastOne p1 p2 h0))), [h0])
  | _, _ => (none, [])
theorem ct_X8_leastOne : XCt yX8_leastOne mX8_leastOne (fun as μ => if g_X8_leastOne as μ then some (v_X8_leastOne as μ) else none) := (ctr_X8_leastOne xfu).of (fun as μ r h => by
  split at h
  · rename_i hg
    unfold g_X8_leastOne at hg
    split at hg
    · rw [← h]
      exact (eqf_X8_leastOne xfu _ _ _).trans (sp_X8_leastOne _ _ _ hg)
    · cases hg
  · cases h)
theorem dX8_squeezes_0 : decode cX8_squeezes 0 = .ok (.aload_n 0, 1) := by decide +kernel
theorem dX8_squeezes_1 : decode cX8_squeezes 1 = .ok (.getfield 7, 3) := by decide +kernel
theorem dX8_squeezes_4 : decode cX8_squeezes 4 = .ok (.bipush 21, 2) := by decide +kernel
theorem dX8_squeezes_6 : decode cX8_squeezes 6 = .ok (.iload_n 1, 1) := by decide +kernel
theorem dX8_squeezes_7 : decode cX8_squeezes 7 = .ok (.iadd, 1) := by decide +kernel
theorem dX8_squeezes_8 : decode cX8_squeezes 8 = .ok (.aload_n 0, 1) := by decide +kernel
theorem dX8_squeezes_9 : decode cX8_squeezes 9 = .ok (.getfield 7, 3) := by decide +kernel
theorem dX8_squeezes_12 : decode cX8_squeezes 12 = .ok (.bipush 37, 2) := by decide +kernel
theorem dX8_squeezes_14 : decode cX8_squeezes 14 = .ok (.iload_n 1, 1) := by decide +kernel
theorem dX8_squeezes_15 : decode cX8_squeezes 15 = .ok (.iadd, 1) := by decide +kernel
theorem dX8_squeezes_16 : decode cX8_squeezes 16 = .ok (.iaload, 1) := by decide +kernel
theorem dX8_squeezes_17 : decode cX8_squeezes 17 = .ok (.iastore, 1) := by decide +kernel
theorem dX8_squeezes_18 : decode cX8_squeezes 18 = .ok (.return_, 1) := by decide +kernel
abbrev mX8_squeezes : XM := (cX8_squeezes, 2, RX8, none, shw_8, 0)
noncomputable def rg_X8_squeezes_0 : XK :=
 o_aload 0 <|
 o_get shw_8 8 0 <|
 o_iconst 21 <|
 o_iload 1 <|
 o_iadd <|
 o_aload 0 <|
 o_get shw_8 8 0 <|
 o_iconst 37 <|
 o_iload 1 <|
 o_iadd <|
 o_iald shw_8 <|
 o_iast shw_8 <|
 o_return
def en_X8_squeezes_0 (p1 : Int) (a : Ob) : XSt := ([some (.inr (.inl (0, 0))), some (.inl p1)], [], [a])
noncomputable def mg_X8_squeezes_0 (p1 : Int) (a : Ob) : Option Rt :=
 if xin (37 + p1) 735 then (
 if xin (21 + p1) 735 then (
 RV [(xset a 1 (xw (21 + p1)).toNat (a 1 (xw (37 + p1)).toNat))]) else none) else none
set_option maxRecDepth 100000 in
set_option maxHeartbeats 4000000 in
theorem rq_X8_squeezes_0 (p1 : Int) (a : Ob) : rg_X8_squeezes_0 (en_X8_squeezes_0 p1 a) = mg_X8_squeezes_0 p1 a := rfl
set_option maxRecDepth 100000 in
set_option maxHeartbeats 4000000 in
theorem sg_X8_squeezes_0 {X : XDyn} {r0 : Rt} (C : XO X mX8_squeezes) : XS X mX8_squeezes r0 0 (rg_X8_squeezes_0) := by
 unfold rg_X8_squeezes_0
 exact s_aload_n (pc := 0) C dX8_squeezes_0 rfl <|
    s_get (pc := 1) C (ci := 8) (kf := 0) rfl inX8 (by decide) wd_871 dX8_squeezes_1 <|
    s_bipush (pc := 4) C dX8_squeezes_4 (by decide) <|
    s_iload_n (pc := 6) C dX8_squeezes_6 rfl <|
    s_iadd (pc := 7) C dX8_squeezes_7 <|
    s_aload_n (pc := 8) C dX8_squeezes_8 rfl <|
    s_get (pc := 9) C (ci := 8) (kf := 0) rfl inX8 (by decide) wd_871 dX8_squeezes_9 <|
    s_bipush (pc := 12) C dX8_squeezes_12 (by decide) <|
    s_iload_n (pc := 14) C dX8_squeezes_14 rfl <|
    s_iadd (pc := 15) C dX8_squeezes_15 <|
    s_iald (pc := 16) C dX8_squeezes_16 <|
    s_iast (pc := 17) C dX8_squeezes_17 <|
    s_return (pc := 18) C rfl dX8_squeezes_18
noncomputable def rw_X8_squeezes_0 : XK := rg_X8_squeezes_0
noncomputable def md_X8_squeezes_0 (p1 : Int) : Ob → Option Rt := mg_X8_squeezes_0 p1
theorem eq_X8_squeezes_0 (p1 : Int) (a : Ob) : rw_X8_squeezes_0 (en_X8_squeezes_0 p1 a) = md_X8_squeezes_0 p1 a :=
 rq_X8_squeezes_0 p1 a
theorem sd_X8_squeezes_0 {X : XDyn} {r0 : Rt} (C : XO X mX8_squeezes) : XS X mX8_squeezes r0 0 (rw_X8_squeezes_0) := sg_X8_squeezes_0 C
theorem ctr_X8_squeezes : XCt yX8_squeezes mX8_squeezes (xF mX8_squeezes (rw_X8_squeezes_0)) := xMet (by decide +kernel) rfl (fun _ _ C => sd_X8_squeezes_0 C)
theorem eqf_X8_squeezes (p1 : Int) (h0 : Ob) : xF mX8_squeezes (rw_X8_squeezes_0) [.inr (.inl (0, 0)), .inl p1] [h0] = md_X8_squeezes_0 p1 h0 := eq_X8_squeezes_0 p1 h0
theorem yi_X8_squeezes : yX8_squeezes.cls = RX8 ∧ yX8_squeezes.cls ≠ "java/lang/invoke/MethodHandle" ∧ yX8_squeezes.cls ≠ "java/lang/invoke/VarHandle" ∧ (parseMethodDescriptor yX8_squeezes.desc).map (fun d => d.parameters.length) = some 1 := ⟨rfl, by decide +kernel, by decide +kernel, by decide +kernel⟩
noncomputable def ov_X8_squeezes (p1 : Int) (h0 : Ob) : Option Rt := xop (md_X8_squeezes_0 p1 h0)
theorem ov_X8_squeezes_e (p1 : Int) (h0 : Ob) : ov_X8_squeezes p1 h0 = md_X8_squeezes_0 p1 h0 := xop_eq _
theorem sp_X8_squeezes (p1 : Int) (h0 : Ob) (hg : oqV (ov_X8_squeezes p1 h0) = true) : md_X8_squeezes_0 p1 h0 = RV [(oqO (ov_X8_squeezes p1 h0) 0)] := (ov_X8_squeezes_e p1 h0).symm.trans (oqV_eq hg)
noncomputable def g_X8_squeezes : List AV → List Ob → Bool
  | [.inr (.inl (0, 0)), .inl p1], [h0] => oqV (ov_X8_squeezes p1 h0)
  | _, _ => false
noncomputable def v_X8_squeezes : List AV → List Ob → Rt
  | [.inr (.inl (0, 0)), .inl p1], [h0] => (none, [(oqO (ov_X8_squeezes p1 h0) 0)])
  | _, _ => (none, [])
theorem ct_X8_squeezes : XCt yX8_squeezes mX8_squeezes (fun as μ => if g_X8_squeezes as μ then some (v_X8_squeezes as μ) else none) := (ctr_X8_squeezes ).of (fun as μ r h => by
  split at h
  · rename_i hg
    unfold g_X8_squeezes at hg
    split at hg
    · rw [← h]
      exact (eqf_X8_squeezes _ _).trans (sp_X8_squeezes _ _ hg)
    · cases hg
  · cases h)
theorem dX8_empties_0 : decode cX8_empties 0 = .ok (.aload_n 0, 1) := by decide +kernel
theorem dX8_empties_1 : decode cX8_empties 1 = .ok (.getfield 7, 3) := by decide +kernel
theorem dX8_empties_4 : decode cX8_empties 4 = .ok (.iconst 5, 1) := by decide +kernel
theorem dX8_empties_5 : decode cX8_empties 5 = .ok (.iload_n 1, 1) := by decide +kernel
theorem dX8_empties_6 : decode cX8_empties 6 = .ok (.iadd, 1) := by decide +kernel
theorem dX8_empties_7 : decode cX8_empties 7 = .ok (.iconst 2, 1) := by decide +kernel
theorem dX8_empties_8 : decode cX8_empties 8 = .ok (.iastore, 1) := by decide +kernel
theorem dX8_empties_9 : decode cX8_empties 9 = .ok (.return_, 1) := by decide +kernel
abbrev mX8_empties : XM := (cX8_empties, 2, RX8, none, shw_8, 0)
noncomputable def rg_X8_empties_0 : XK :=
 o_aload 0 <|
 o_get shw_8 8 0 <|
 o_iconst 5 <|
 o_iload 1 <|
 o_iadd <|
 o_iconst 2 <|
 o_iast shw_8 <|
 o_return
def en_X8_empties_0 (p1 : Int) (a : Ob) : XSt := ([some (.inr (.inl (0, 0))), some (.inl p1)], [], [a])
noncomputable def mg_X8_empties_0 (p1 : Int) (a : Ob) : Option Rt :=
 if xin (5 + p1) 735 then (
 RV [(xset a 1 (xw (5 + p1)).toNat 2)]) else none
set_option maxRecDepth 100000 in
set_option maxHeartbeats 4000000 in
theorem rq_X8_empties_0 (p1 : Int) (a : Ob) : rg_X8_empties_0 (en_X8_empties_0 p1 a) = mg_X8_empties_0 p1 a := rfl
set_option maxRecDepth 100000 in
set_option maxHeartbeats 4000000 in
theorem sg_X8_empties_0 {X : XDyn} {r0 : Rt} (C : XO X mX8_empties) : XS X mX8_empties r0 0 (rg_X8_empties_0) := by
 unfold rg_X8_empties_0
 exact s_aload_n (pc := 0) C dX8_empties_0 rfl <|
    s_get (pc := 1) C (ci := 8) (kf := 0) rfl inX8 (by decide) wd_871 dX8_empties_1 <|
    s_iconst (pc := 4) C dX8_empties_4 <|
    s_iload_n (pc := 5) C dX8_empties_5 rfl <|
    s_iadd (pc := 6) C dX8_empties_6 <|
    s_iconst (pc := 7) C dX8_empties_7 <|
    s_iast (pc := 8) C dX8_empties_8 <|
    s_return (pc := 9) C rfl dX8_empties_9
noncomputable def rw_X8_empties_0 : XK := rg_X8_empties_0
noncomputable def md_X8_empties_0 (p1 : Int) : Ob → Option Rt := mg_X8_empties_0 p1
theorem eq_X8_empties_0 (p1 : Int) (a : Ob) : rw_X8_empties_0 (en_X8_empties_0 p1 a) = md_X8_empties_0 p1 a :=
 rq_X8_empties_0 p1 a
theorem sd_X8_empties_0 {X : XDyn} {r0 : Rt} (C : XO X mX8_empties) : XS X mX8_empties r0 0 (rw_X8_empties_0) := sg_X8_empties_0 C
theorem ctr_X8_empties : XCt yX8_empties mX8_empties (xF mX8_empties (rw_X8_empties_0)) := xMet (by decide +kernel) rfl (fun _ _ C => sd_X8_empties_0 C)
theorem eqf_X8_empties (p1 : Int) (h0 : Ob) : xF mX8_empties (rw_X8_empties_0) [.inr (.inl (0, 0)), .inl p1] [h0] = md_X8_empties_0 p1 h0 := eq_X8_empties_0 p1 h0
theorem yi_X8_empties : yX8_empties.cls = RX8 ∧ yX8_empties.cls ≠ "java/lang/invoke/MethodHandle" ∧ yX8_empties.cls ≠ "java/lang/invoke/VarHandle" ∧ (parseMethodDescriptor yX8_empties.desc).map (fun d => d.parameters.length) = some 1 := ⟨rfl, by decide +kernel, by decide +kernel, by decide +kernel⟩
noncomputable def ov_X8_empties (p1 : Int) (h0 : Ob) : Option Rt := xop (md_X8_empties_0 p1 h0)
theorem ov_X8_empties_e (p1 : Int) (h0 : Ob) : ov_X8_empties p1 h0 = md_X8_empties_0 p1 h0 := xop_eq _
theorem sp_X8_empties (p1 : Int) (h0 : Ob) (hg : oqV (ov_X8_empties p1 h0) = true) : md_X8_empties_0 p1 h0 = RV [(oqO (ov_X8_empties p1 h0) 0)] := (ov_X8_empties_e p1 h0).symm.trans (oqV_eq hg)
noncomputable def g_X8_empties : List AV → List Ob → Bool
  | [.inr (.inl (0, 0)), .inl p1], [h0] => oqV (ov_X8_empties p1 h0)
  | _, _ => false
noncomputable def v_X8_empties : List AV → List Ob → Rt
  | [.inr (.inl (0, 0)), .inl p1], [h0] => (none, [(oqO (ov_X8_empties p1 h0) 0)])
  | _, _ => (none, [])
theorem ct_X8_empties : XCt yX8_empties mX8_empties (fun as μ => if g_X8_empties as μ then some (v_X8_empties as μ) else none) := (ctr_X8_empties ).of (fun as μ r h => by
  split at h
  · rename_i hg
    unfold g_X8_empties at hg
    split at hg
    · rw [← h]
      exact (eqf_X8_empties _ _).trans (sp_X8_empties _ _ hg)
    · cases hg
  · cases h)
theorem dX8_fitsOnce_0 : decode cX8_fitsOnce 0 = .ok (.aload_n 0, 1) := by decide +kernel
theorem dX8_fitsOnce_1 : decode cX8_fitsOnce 1 = .ok (.invokevirtual 109, 3) := by decide +kernel
theorem dX8_fitsOnce_4 : decode cX8_fitsOnce 4 = .ok (.aload_n 0, 1) := by decide +kernel
theorem dX8_fitsOnce_5 : decode cX8_fitsOnce 5 = .ok (.iconst 1, 1) := by decide +kernel
theorem dX8_fitsOnce_6 : decode cX8_fitsOnce 6 = .ok (.putfield 164, 3) := by decide +kernel
theorem dX8_fitsOnce_9 : decode cX8_fitsOnce 9 = .ok (.aload_n 0, 1) := by decide +kernel
theorem dX8_fitsOnce_10 : decode cX8_fitsOnce 10 = .ok (.iload_n 1, 1) := by decide +kernel
theorem dX8_fitsOnce_11 : decode cX8_fitsOnce 11 = .ok (.invokevirtual 167, 3) := by decide +kernel
theorem dX8_fitsOnce_14 : decode cX8_fitsOnce 14 = .ok (.istore_n 2, 1) := by decide +kernel
theorem dX8_fitsOnce_15 : decode cX8_fitsOnce 15 = .ok (.iload_n 2, 1) := by decide +kernel
theorem dX8_fitsOnce_16 : decode cX8_fitsOnce 16 = .ok (.ifCond .lt 5, 3) := by decide +kernel
theorem dX8_fitsOnce_19 : decode cX8_fitsOnce 19 = .ok (.iload_n 2, 1) := by decide +kernel
theorem dX8_fitsOnce_20 : decode cX8_fitsOnce 20 = .ok (.ireturn, 1) := by decide +kernel
theorem dX8_fitsOnce_21 : decode cX8_fitsOnce 21 = .ok (.aload_n 0, 1) := by decide +kernel
theorem dX8_fitsOnce_22 : decode cX8_fitsOnce 22 = .ok (.iconst 2, 1) := by decide +kernel
theorem dX8_fitsOnce_23 : decode cX8_fitsOnce 23 = .ok (.putfield 164, 3) := by decide +kernel
theorem dX8_fitsOnce_26 : decode cX8_fitsOnce 26 = .ok (.aload_n 0, 1) := by decide +kernel
theorem dX8_fitsOnce_27 : decode cX8_fitsOnce 27 = .ok (.iload_n 1, 1) := by decide +kernel
theorem dX8_fitsOnce_28 : decode cX8_fitsOnce 28 = .ok (.invokevirtual 170, 3) := by decide +kernel
theorem dX8_fitsOnce_31 : decode cX8_fitsOnce 31 = .ok (.istore_n 2, 1) := by decide +kernel
theorem dX8_fitsOnce_32 : decode cX8_fitsOnce 32 = .ok (.iload_n 2, 1) := by decide +kernel
theorem dX8_fitsOnce_33 : decode cX8_fitsOnce 33 = .ok (.ifCond .lt 5, 3) := by decide +kernel
theorem dX8_fitsOnce_36 : decode cX8_fitsOnce 36 = .ok (.iload_n 2, 1) := by decide +kernel
theorem dX8_fitsOnce_37 : decode cX8_fitsOnce 37 = .ok (.ireturn, 1) := by decide +kernel
theorem dX8_fitsOnce_38 : decode cX8_fitsOnce 38 = .ok (.aload_n 0, 1) := by decide +kernel
theorem dX8_fitsOnce_39 : decode cX8_fitsOnce 39 = .ok (.iconst 3, 1) := by decide +kernel
theorem dX8_fitsOnce_40 : decode cX8_fitsOnce 40 = .ok (.putfield 164, 3) := by decide +kernel
theorem dX8_fitsOnce_43 : decode cX8_fitsOnce 43 = .ok (.aload_n 0, 1) := by decide +kernel
theorem dX8_fitsOnce_44 : decode cX8_fitsOnce 44 = .ok (.iload_n 1, 1) := by decide +kernel
theorem dX8_fitsOnce_45 : decode cX8_fitsOnce 45 = .ok (.invokevirtual 173, 3) := by decide +kernel
theorem dX8_fitsOnce_48 : decode cX8_fitsOnce 48 = .ok (.istore_n 2, 1) := by decide +kernel
theorem dX8_fitsOnce_49 : decode cX8_fitsOnce 49 = .ok (.iload_n 2, 1) := by decide +kernel
theorem dX8_fitsOnce_50 : decode cX8_fitsOnce 50 = .ok (.ifCond .lt 5, 3) := by decide +kernel
theorem dX8_fitsOnce_53 : decode cX8_fitsOnce 53 = .ok (.iload_n 2, 1) := by decide +kernel
theorem dX8_fitsOnce_54 : decode cX8_fitsOnce 54 = .ok (.ireturn, 1) := by decide +kernel
theorem dX8_fitsOnce_55 : decode cX8_fitsOnce 55 = .ok (.aload_n 0, 1) := by decide +kernel
theorem dX8_fitsOnce_56 : decode cX8_fitsOnce 56 = .ok (.iconst 4, 1) := by decide +kernel
theorem dX8_fitsOnce_57 : decode cX8_fitsOnce 57 = .ok (.putfield 164, 3) := by decide +kernel
theorem dX8_fitsOnce_60 : decode cX8_fitsOnce 60 = .ok (.aload_n 0, 1) := by decide +kernel
theorem dX8_fitsOnce_61 : decode cX8_fitsOnce 61 = .ok (.iload_n 1, 1) := by decide +kernel
theorem dX8_fitsOnce_62 : decode cX8_fitsOnce 62 = .ok (.invokevirtual 176, 3) := by decide +kernel
theorem dX8_fitsOnce_65 : decode cX8_fitsOnce 65 = .ok (.ireturn, 1) := by decide +kernel
abbrev mX8_fitsOnce : XM := (cX8_fitsOnce, 3, RX8, (some .int), shw_8, 5)
noncomputable def rg_X8_fitsOnce_0 : XK :=
 o_aload 0 <|
 o_callVg 1 0 [0] g_X8_fillsOwners v_X8_fillsOwners <|
 o_aload 0 <|
 o_iconst 1 <|
 o_put shw_8 8 19 false <|
 o_aload 0 <|
 o_iload 1 <|
 o_callVg 2 1 [0] g_X8_firstFree v_X8_firstFree <|
 o_istore 2 <|
 o_iload 2 <|
 o_if_lt (o_aload 0 <|
 o_iconst 2 <|
 o_put shw_8 8 19 false <|
 o_aload 0 <|
 o_iload 1 <|
 o_callVg 2 1 [0] g_X8_slides v_X8_slides <|
 o_istore 2 <|
 o_iload 2 <|
 o_if_lt (o_aload 0 <|
 o_iconst 3 <|
 o_put shw_8 8 19 false <|
 o_aload 0 <|
 o_iload 1 <|
 o_callVg 2 1 [0] g_X8_grows v_X8_grows <|
 o_istore 2 <|
 o_iload 2 <|
 o_if_lt (o_aload 0 <|
 o_iconst 4 <|
 o_put shw_8 8 19 false <|
 o_aload 0 <|
 o_iload 1 <|
 o_callVg 2 1 [0] g_X8_arranges v_X8_arranges <|
 o_ireturn)
 (o_iload 2 <|
 o_ireturn))
 (o_iload 2 <|
 o_ireturn))
 (o_iload 2 <|
 o_ireturn)
def en_X8_fitsOnce_0 (p1 : Int) (a : Ob) : XSt := ([some (.inr (.inl (0, 0))), some (.inl p1), none], [], [a])
noncomputable def mg_X8_fitsOnce_0 (p1 : Int) (a : Ob) : Option Rt :=
 if oqV (ov_X8_fillsOwners a) then (
 if pd (ov_X8_firstFree p1 (xset (oqO (ov_X8_fillsOwners a) 0) 0 19 1) = RI (oqR (ov_X8_firstFree p1 (xset (oqO (ov_X8_fillsOwners a) 0) 0 19 1))) [(xset (oqO (ov_X8_fillsOwners a) 0) 0 19 1)]) then (
 if xw (oqR (ov_X8_firstFree p1 (xset (oqO (ov_X8_fillsOwners a) 0) 0 19 1))) < 0 then (if oqI (ov_X8_slides p1 (xset (xset (oqO (ov_X8_fillsOwners a) 0) 0 19 1) 0 19 2)) then (
 if xw (oqR (ov_X8_slides p1 (xset (xset (oqO (ov_X8_fillsOwners a) 0) 0 19 1) 0 19 2))) < 0 then (if oqI (ov_X8_grows p1 (xset (oqO (ov_X8_slides p1 (xset (xset (oqO (ov_X8_fillsOwners a) 0) 0 19 1) 0 19 2)) 0) 0 19 3)) then (
 if xw (oqR (ov_X8_grows p1 (xset (oqO (ov_X8_slides p1 (xset (xset (oqO (ov_X8_fillsOwners a) 0) 0 19 1) 0 19 2)) 0) 0 19 3))) < 0 then (if oqI (ov_X8_arranges p1 (xset (oqO (ov_X8_grows p1 (xset (oqO (ov_X8_slides p1 (xset (xset (oqO (ov_X8_fillsOwners a) 0) 0 19 1) 0 19 2)) 0) 0 19 3)) 0) 0 19 4)) then (
 RI (oqR (ov_X8_arranges p1 (xset (oqO (ov_X8_grows p1 (xset (oqO (ov_X8_slides p1 (xset (xset (oqO (ov_X8_fillsOwners a) 0) 0 19 1) 0 19 2)) 0) 0 19 3)) 0) 0 19 4))) [(oqO (ov_X8_arranges p1 (xset (oqO (ov_X8_grows p1 (xset (oqO (ov_X8_slides p1 (xset (xset (oqO (ov_X8_fillsOwners a) 0) 0 19 1) 0 19 2)) 0) 0 19 3)) 0) 0 19 4)) 0)]) else none)
 else (RI (oqR (ov_X8_grows p1 (xset (oqO (ov_X8_slides p1 (xset (xset (oqO (ov_X8_fillsOwners a) 0) 0 19 1) 0 19 2)) 0) 0 19 3))) [(oqO (ov_X8_grows p1 (xset (oqO (ov_X8_slides p1 (xset (xset (oqO (ov_X8_fillsOwners a) 0) 0 19 1) 0 19 2)) 0) 0 19 3)) 0)])) else none)
 else (RI (oqR (ov_X8_slides p1 (xset (xset (oqO (ov_X8_fillsOwners a) 0) 0 19 1) 0 19 2))) [(oqO (ov_X8_slides p1 (xset (xset (oqO (ov_X8_fillsOwners a) 0) 0 19 1) 0 19 2)) 0)])) else none)
 else (RI (oqR (ov_X8_firstFree p1 (xset (oqO (ov_X8_fillsOwners a) 0) 0 19 1))) [(xset (oqO (ov_X8_fillsOwners a) 0) 0 19 1)])) else none) else none
set_option maxRecDepth 100000 in
set_option maxHeartbeats 4000000 in
theorem rq_X8_fitsOnce_0 (p1 : Int) (a : Ob) : rg_X8_fitsOnce_0 (en_X8_fitsOnce_0 p1 a) = mg_X8_fitsOnce_0 p1 a := rfl
set_option maxRecDepth 100000 in
set_option maxHeartbeats 4000000 in
theorem sg_X8_fitsOnce_0 {X : XDyn} {r0 : Rt} (C : XO X mX8_fitsOnce) : XS X mX8_fitsOnce r0 0 (rg_X8_fitsOnce_0) := by
 unfold rg_X8_fitsOnce_0
 exact s_aload_n (pc := 0) C dX8_fitsOnce_0 rfl <|
    s_callVg (pc := 1) C ct_X8_fillsOwners (n := 1) (rk := 0) (mp := [0]) ⟨rfl, by decide, rfl⟩ (ci := 8) rfl rfl (by decide) (by decide) yi_X8_fillsOwners (by decide) wd_979 wd_981 wd_22 wd_81 wd_982 dX8_fitsOnce_1 <|
    s_aload_n (pc := 4) C dX8_fitsOnce_4 rfl <|
    s_iconst (pc := 5) C dX8_fitsOnce_5 <|
    s_put (pc := 6) (z := false) C (ci := 8) (kf := 19) rfl inX8 tyX8_ok nmX8 (by decide) wd_890 rfl rfl dX8_fitsOnce_6 <|
    s_aload_n (pc := 9) C dX8_fitsOnce_9 rfl <|
    s_iload_n (pc := 10) C dX8_fitsOnce_10 rfl <|
    s_callVg (pc := 11) C ct_X8_firstFree (n := 2) (rk := 1) (mp := [0]) ⟨rfl, by decide, rfl⟩ (ci := 8) rfl rfl (by decide) (by decide) yi_X8_firstFree (by decide) wd_1002 wd_1004 wd_27 wd_81 wd_1005 dX8_fitsOnce_11 <|
    s_istore_n (pc := 14) C dX8_fitsOnce_14 rfl <|
    s_iload_n (pc := 15) C dX8_fitsOnce_15 rfl <|
    s_if_lt (pc := 16) C dX8_fitsOnce_16 (by decide) (s_aload_n (pc := 21) C dX8_fitsOnce_21 rfl <|
    s_iconst (pc := 22) C dX8_fitsOnce_22 <|
    s_put (pc := 23) (z := false) C (ci := 8) (kf := 19) rfl inX8 tyX8_ok nmX8 (by decide) wd_890 rfl rfl dX8_fitsOnce_23 <|
    s_aload_n (pc := 26) C dX8_fitsOnce_26 rfl <|
    s_iload_n (pc := 27) C dX8_fitsOnce_27 rfl <|
    s_callVg (pc := 28) C ct_X8_slides (n := 2) (rk := 1) (mp := [0]) ⟨rfl, by decide, rfl⟩ (ci := 8) rfl rfl (by decide) (by decide) yi_X8_slides (by decide) wd_1010 wd_1012 wd_29 wd_81 wd_1013 dX8_fitsOnce_28 <|
    s_istore_n (pc := 31) C dX8_fitsOnce_31 rfl <|
    s_iload_n (pc := 32) C dX8_fitsOnce_32 rfl <|
    s_if_lt (pc := 33) C dX8_fitsOnce_33 (by decide) (s_aload_n (pc := 38) C dX8_fitsOnce_38 rfl <|
    s_iconst (pc := 39) C dX8_fitsOnce_39 <|
    s_put (pc := 40) (z := false) C (ci := 8) (kf := 19) rfl inX8 tyX8_ok nmX8 (by decide) wd_890 rfl rfl dX8_fitsOnce_40 <|
    s_aload_n (pc := 43) C dX8_fitsOnce_43 rfl <|
    s_iload_n (pc := 44) C dX8_fitsOnce_44 rfl <|
    s_callVg (pc := 45) C ct_X8_grows (n := 2) (rk := 1) (mp := [0]) ⟨rfl, by decide, rfl⟩ (ci := 8) rfl rfl (by decide) (by decide) yi_X8_grows (by decide) wd_1026 wd_1028 wd_33 wd_81 wd_1029 dX8_fitsOnce_45 <|
    s_istore_n (pc := 48) C dX8_fitsOnce_48 rfl <|
    s_iload_n (pc := 49) C dX8_fitsOnce_49 rfl <|
    s_if_lt (pc := 50) C dX8_fitsOnce_50 (by decide) (s_aload_n (pc := 55) C dX8_fitsOnce_55 rfl <|
    s_iconst (pc := 56) C dX8_fitsOnce_56 <|
    s_put (pc := 57) (z := false) C (ci := 8) (kf := 19) rfl inX8 tyX8_ok nmX8 (by decide) wd_890 rfl rfl dX8_fitsOnce_57 <|
    s_aload_n (pc := 60) C dX8_fitsOnce_60 rfl <|
    s_iload_n (pc := 61) C dX8_fitsOnce_61 rfl <|
    s_callVg (pc := 62) C ct_X8_arranges (n := 2) (rk := 1) (mp := [0]) ⟨rfl, by decide, rfl⟩ (ci := 8) rfl rfl (by decide) (by decide) yi_X8_arranges (by decide) wd_1034 wd_1036 wd_35 wd_81 wd_1037 dX8_fitsOnce_62 <|
    s_ireturn (pc := 65) C rfl dX8_fitsOnce_65)
    (s_iload_n (pc := 53) C dX8_fitsOnce_53 rfl <|
    s_ireturn (pc := 54) C rfl dX8_fitsOnce_54))
    (s_iload_n (pc := 36) C dX8_fitsOnce_36 rfl <|
    s_ireturn (pc := 37) C rfl dX8_fitsOnce_37))
    (s_iload_n (pc := 19) C dX8_fitsOnce_19 rfl <|
    s_ireturn (pc := 20) C rfl dX8_fitsOnce_20)
noncomputable def rw_X8_fitsOnce_0 : XK := rg_X8_fitsOnce_0
noncomputable def md_X8_fitsOnce_0 (p1 : Int) : Ob → Option Rt := mg_X8_fitsOnce_0 p1
theorem eq_X8_fitsOnce_0 (p1 : Int) (a : Ob) : rw_X8_fitsOnce_0 (en_X8_fitsOnce_0 p1 a) = md_X8_fitsOnce_0 p1 a :=
 rq_X8_fitsOnce_0 p1 a
theorem sd_X8_fitsOnce_0 {X : XDyn} {r0 : Rt} (C : XO X mX8_fitsOnce) : XS X mX8_fitsOnce r0 0 (rw_X8_fitsOnce_0) := sg_X8_fitsOnce_0 C
theorem ctr_X8_fitsOnce : XCt yX8_fitsOnce mX8_fitsOnce (xF mX8_fitsOnce (rw_X8_fitsOnce_0)) := xMet (by decide +kernel) rfl (fun _ _ C => sd_X8_fitsOnce_0 C)
theorem eqf_X8_fitsOnce (p1 : Int) (h0 : Ob) : xF mX8_fitsOnce (rw_X8_fitsOnce_0) [.inr (.inl (0, 0)), .inl p1] [h0] = md_X8_fitsOnce_0 p1 h0 := eq_X8_fitsOnce_0 p1 h0
theorem yi_X8_fitsOnce : yX8_fitsOnce.cls = RX8 ∧ yX8_fitsOnce.cls ≠ "java/lang/invoke/MethodHandle" ∧ yX8_fitsOnce.cls ≠ "java/lang/invoke/VarHandle" ∧ (parseMethodDescriptor yX8_fitsOnce.desc).map (fun d => d.parameters.length) = some 1 := ⟨rfl, by decide +kernel, by decide +kernel, by decide +kernel⟩
noncomputable def ov_X8_fitsOnce (p1 : Int) (h0 : Ob) : Option Rt := xop (md_X8_fitsOnce_0 p1 h0)
theorem ov_X8_fitsOnce_e (p1 : Int) (h0 : Ob) : ov_X8_fitsOnce p1 h0 = md_X8_fitsOnce_0 p1 h0 := xop_eq _
theorem sp_X8_fitsOnce (p1 : Int) (h0 : Ob) (hg : oqI (ov_X8_fitsOnce p1 h0) = true) : md_X8_fitsOnce_0 p1 h0 = RI (oqR (ov_X8_fitsOnce p1 h0)) [(oqO (ov_X8_fitsOnce p1 h0) 0)] := (ov_X8_fitsOnce_e p1 h0).symm.trans (oqI_eq hg)
noncomputable def g_X8_fitsOnce : List AV → List Ob → Bool
  | [.inr (.inl (0, 0)), .inl p1], [h0] => oqI (ov_X8_fitsOnce p1 h0)
  | _, _ => false
noncomputable def v_X8_fitsOnce : List AV → List Ob → Rt
  | [.inr (.inl (0, 0)), .inl p1], [h0] => (some (.inl (oqR (ov_X8_fitsOnce p1 h0))), [(oqO (ov_X8_fitsOnce p1 h0) 0)])
  | _, _ => (none, [])
theorem ct_X8_fitsOnce : XCt yX8_fitsOnce mX8_fitsOnce (fun as μ => if g_X8_fitsOnce as μ then some (v_X8_fitsOnce as μ) else none) := (ctr_X8_fitsOnce ).of (fun as μ r h => by
  split at h
  · rename_i hg
    unfold g_X8_fitsOnce at hg
    split at hg
    · rw [← h]
      exact (eqf_X8_fitsOnce _ _).trans (sp_X8_fitsOnce _ _ hg)
    · cases hg
  · cases h)
theorem dX8_fits_0 : decode cX8_fits 0 = .ok (.aload_n 0, 1) := by decide +kernel
theorem dX8_fits_1 : decode cX8_fits 1 = .ok (.iconst 0, 1) := by decide +kernel
theorem dX8_fits_2 : decode cX8_fits 2 = .ok (.putfield 179, 3) := by decide +kernel
theorem dX8_fits_5 : decode cX8_fits 5 = .ok (.aload_n 0, 1) := by decide +kernel
theorem dX8_fits_6 : decode cX8_fits 6 = .ok (.iconst 0, 1) := by decide +kernel
theorem dX8_fits_7 : decode cX8_fits 7 = .ok (.putfield 182, 3) := by decide +kernel
theorem dX8_fits_10 : decode cX8_fits 10 = .ok (.aload_n 0, 1) := by decide +kernel
theorem dX8_fits_11 : decode cX8_fits 11 = .ok (.iload_n 1, 1) := by decide +kernel
theorem dX8_fits_12 : decode cX8_fits 12 = .ok (.invokevirtual 185, 3) := by decide +kernel
theorem dX8_fits_15 : decode cX8_fits 15 = .ok (.istore_n 3, 1) := by decide +kernel
theorem dX8_fits_16 : decode cX8_fits 16 = .ok (.iload_n 3, 1) := by decide +kernel
theorem dX8_fits_17 : decode cX8_fits 17 = .ok (.ifCond .ge 99, 3) := by decide +kernel
theorem dX8_fits_20 : decode cX8_fits 20 = .ok (.aload_n 0, 1) := by decide +kernel
theorem dX8_fits_21 : decode cX8_fits 21 = .ok (.iconst 1, 1) := by decide +kernel
theorem dX8_fits_22 : decode cX8_fits 22 = .ok (.iload_n 2, 1) := by decide +kernel
theorem dX8_fits_23 : decode cX8_fits 23 = .ok (.invokevirtual 188, 3) := by decide +kernel
theorem dX8_fits_26 : decode cX8_fits 26 = .ok (.istore 4, 2) := by decide +kernel
theorem dX8_fits_28 : decode cX8_fits 28 = .ok (.iload 4, 2) := by decide +kernel
theorem dX8_fits_30 : decode cX8_fits 30 = .ok (.ifCond .lt 8, 3) := by decide +kernel
theorem dX8_fits_33 : decode cX8_fits 33 = .ok (.iload 4, 2) := by decide +kernel
theorem dX8_fits_35 : decode cX8_fits 35 = .ok (.goto 9, 3) := by decide +kernel
theorem dX8_fits_38 : decode cX8_fits 38 = .ok (.aload_n 0, 1) := by decide +kernel
theorem dX8_fits_39 : decode cX8_fits 39 = .ok (.iconst 0, 1) := by decide +kernel
theorem dX8_fits_40 : decode cX8_fits 40 = .ok (.iload_n 2, 1) := by decide +kernel
theorem dX8_fits_41 : decode cX8_fits 41 = .ok (.invokevirtual 188, 3) := by decide +kernel
theorem dX8_fits_44 : decode cX8_fits 44 = .ok (.istore 5, 2) := by decide +kernel
theorem dX8_fits_46 : decode cX8_fits 46 = .ok (.iload 5, 2) := by decide +kernel
theorem dX8_fits_48 : decode cX8_fits 48 = .ok (.ifCond .ge 5, 3) := by decide +kernel
theorem dX8_fits_51 : decode cX8_fits 51 = .ok (.iconst (-1), 1) := by decide +kernel
theorem dX8_fits_52 : decode cX8_fits 52 = .ok (.ireturn, 1) := by decide +kernel
theorem dX8_fits_53 : decode cX8_fits 53 = .ok (.iload 4, 2) := by decide +kernel
theorem dX8_fits_55 : decode cX8_fits 55 = .ok (.ifCond .lt 12, 3) := by decide +kernel
theorem dX8_fits_58 : decode cX8_fits 58 = .ok (.aload_n 0, 1) := by decide +kernel
theorem dX8_fits_59 : decode cX8_fits 59 = .ok (.iload 5, 2) := by decide +kernel
theorem dX8_fits_61 : decode cX8_fits 61 = .ok (.invokevirtual 192, 3) := by decide +kernel
theorem dX8_fits_64 : decode cX8_fits 64 = .ok (.goto 9, 3) := by decide +kernel
theorem dX8_fits_67 : decode cX8_fits 67 = .ok (.aload_n 0, 1) := by decide +kernel
theorem dX8_fits_68 : decode cX8_fits 68 = .ok (.iload 5, 2) := by decide +kernel
theorem dX8_fits_70 : decode cX8_fits 70 = .ok (.invokevirtual 195, 3) := by decide +kernel
theorem dX8_fits_73 : decode cX8_fits 73 = .ok (.iload 4, 2) := by decide +kernel
theorem dX8_fits_75 : decode cX8_fits 75 = .ok (.ifCond .lt 19, 3) := by decide +kernel
theorem dX8_fits_78 : decode cX8_fits 78 = .ok (.aload_n 0, 1) := by decide +kernel
theorem dX8_fits_79 : decode cX8_fits 79 = .ok (.dup, 1) := by decide +kernel
theorem dX8_fits_80 : decode cX8_fits 80 = .ok (.getfield 182, 3) := by decide +kernel
theorem dX8_fits_83 : decode cX8_fits 83 = .ok (.iconst 1, 1) := by decide +kernel
theorem dX8_fits_84 : decode cX8_fits 84 = .ok (.iload 5, 2) := by decide +kernel
theorem dX8_fits_86 : decode cX8_fits 86 = .ok (.ishl, 1) := by decide +kernel
theorem dX8_fits_87 : decode cX8_fits 87 = .ok (.ior, 1) := by decide +kernel
theorem dX8_fits_88 : decode cX8_fits 88 = .ok (.putfield 182, 3) := by decide +kernel
theorem dX8_fits_91 : decode cX8_fits 91 = .ok (.goto 16, 3) := by decide +kernel
theorem dX8_fits_94 : decode cX8_fits 94 = .ok (.aload_n 0, 1) := by decide +kernel
theorem dX8_fits_95 : decode cX8_fits 95 = .ok (.dup, 1) := by decide +kernel
theorem dX8_fits_96 : decode cX8_fits 96 = .ok (.getfield 179, 3) := by decide +kernel
theorem dX8_fits_99 : decode cX8_fits 99 = .ok (.iconst 1, 1) := by decide +kernel
theorem dX8_fits_100 : decode cX8_fits 100 = .ok (.iload 5, 2) := by decide +kernel
theorem dX8_fits_102 : decode cX8_fits 102 = .ok (.ishl, 1) := by decide +kernel
theorem dX8_fits_103 : decode cX8_fits 103 = .ok (.ior, 1) := by decide +kernel
theorem dX8_fits_104 : decode cX8_fits 104 = .ok (.putfield 179, 3) := by decide +kernel
theorem dX8_fits_107 : decode cX8_fits 107 = .ok (.aload_n 0, 1) := by decide +kernel
theorem dX8_fits_108 : decode cX8_fits 108 = .ok (.iload_n 1, 1) := by decide +kernel
theorem dX8_fits_109 : decode cX8_fits 109 = .ok (.invokevirtual 185, 3) := by decide +kernel
theorem dX8_fits_112 : decode cX8_fits 112 = .ok (.istore_n 3, 1) := by decide +kernel
theorem dX8_fits_113 : decode cX8_fits 113 = .ok (.goto (-97), 3) := by decide +kernel
theorem dX8_fits_116 : decode cX8_fits 116 = .ok (.iload_n 3, 1) := by decide +kernel
theorem dX8_fits_117 : decode cX8_fits 117 = .ok (.ireturn, 1) := by decide +kernel
abbrev mX8_fits : XM := (cX8_fits, 6, RX8, (some .int), shw_8, 6)
noncomputable def rg_X8_fits_0 (k16 : XK) : XK :=
 o_aload 0 <|
 o_iconst 0 <|
 o_put shw_8 8 20 false <|
 o_aload 0 <|
 o_iconst 0 <|
 o_put shw_8 8 21 false <|
 o_aload 0 <|
 o_iload 1 <|
 o_callVg 2 1 [0] g_X8_fitsOnce v_X8_fitsOnce <|
 o_istore 3 <|
 o_cut [] k16
def en_X8_fits_0 (p1 : Int) (p2 : Int) (a : Ob) : XSt := ([some (.inr (.inl (0, 0))), some (.inl p1), some (.inl p2), none, none, none], [], [a])
noncomputable def rg_X8_fits_16 (k44 : XK) : XK :=
 o_iload 3 <|
 o_if_ge (o_iload 3 <|
 o_ireturn)
 (o_aload 0 <|
 o_iconst 1 <|
 o_iload 2 <|
 o_callVg 3 1 [0] g_X8_leastOne v_X8_leastOne <|
 o_istore 4 <|
 o_iload 4 <|
 o_if_lt (o_aload 0 <|
 o_iconst 0 <|
 o_iload 2 <|
 o_callVg 3 1 [0] g_X8_leastOne v_X8_leastOne <|
 o_cut [3] k44)
 (o_iload 4 <|
 o_cut [3] k44))
def en_X8_fits_16 (p1 : Int) (p2 : Int) (a : Int × Ob) : XSt := ([some (.inr (.inl (0, 0))), some (.inl p1), some (.inl p2), some (.inl a.1), none, none], [], [a.2])
noncomputable def rg_X8_fits_44 (k73 : XK) : XK :=
 o_istore 5 <|
 o_iload 5 <|
 o_if_ge (o_iload 4 <|
 o_if_lt (o_aload 0 <|
 o_iload 5 <|
 o_callVg 2 0 [0] g_X8_empties v_X8_empties <|
 o_cut [] k73)
 (o_aload 0 <|
 o_iload 5 <|
 o_callVg 2 0 [0] g_X8_squeezes v_X8_squeezes <|
 o_cut [] k73))
 (o_iconst (-1) <|
 o_ireturn)
def en_X8_fits_44 (p1 : Int) (p2 : Int) (a : Int × Int × Ob) : XSt := ([some (.inr (.inl (0, 0))), some (.inl p1), some (.inl p2), none, some (.inl a.1), none], [.inl a.2.1], [a.2.2])
noncomputable def rg_X8_fits_73 (k107 : XK) : XK :=
 o_iload 4 <|
 o_if_lt (o_aload 0 <|
 o_dup <|
 o_get shw_8 8 20 <|
 o_iconst 1 <|
 o_iload 5 <|
 o_ishl <|
 o_ior <|
 o_put shw_8 8 20 false <|
 o_cut [4, 5] k107)
 (o_aload 0 <|
 o_dup <|
 o_get shw_8 8 21 <|
 o_iconst 1 <|
 o_iload 5 <|
 o_ishl <|
 o_ior <|
 o_put shw_8 8 21 false <|
 o_cut [4, 5] k107)
def en_X8_fits_73 (p1 : Int) (p2 : Int) (a : Int × Int × Ob) : XSt := ([some (.inr (.inl (0, 0))), some (.inl p1), some (.inl p2), none, some (.inl a.1), some (.inl a.2.1)], [], [a.2.2])
noncomputable def rg_X8_fits_107 (k16 : XK) : XK :=
 o_aload 0 <|
 o_iload 1 <|
 o_callVg 2 1 [0] g_X8_fitsOnce v_X8_fitsOnce <|
 o_istore 3 <|
 o_cut [] k16
def en_X8_fits_107 (p1 : Int) (p2 : Int) (a : Ob) : XSt := ([some (.inr (.inl (0, 0))), some (.inl p1), some (.inl p2), none, none, none], [], [a])
noncomputable def mg_X8_fits_0 (p1 : Int) (p2 : Int) (k16 : (Int × Ob) → Option Rt) (a : Ob) : Option Rt :=
 if oqI (ov_X8_fitsOnce p1 (xset (xset a 0 20 0) 0 21 0)) then (
 k16 ((oqR (ov_X8_fitsOnce p1 (xset (xset a 0 20 0) 0 21 0))), (oqO (ov_X8_fitsOnce p1 (xset (xset a 0 20 0) 0 21 0)) 0))) else none
set_option maxRecDepth 100000 in
set_option maxHeartbeats 4000000 in
theorem rq_X8_fits_0 (p1 : Int) (p2 : Int) (k16 : XK) (a : Ob) : rg_X8_fits_0 k16 (en_X8_fits_0 p1 p2 a) = mg_X8_fits_0 p1 p2 (fun b => k16 (en_X8_fits_16 p1 p2 b)) a := rfl
set_option maxRecDepth 100000 in
set_option maxHeartbeats 4000000 in
theorem sg_X8_fits_0 {X : XDyn} {r0 : Rt} (C : XO X mX8_fits) {k16 : XK} (q16 : XS X mX8_fits r0 16 k16) : XS X mX8_fits r0 0 (rg_X8_fits_0 k16) := by
 unfold rg_X8_fits_0
 exact s_aload_n (pc := 0) C dX8_fits_0 rfl <|
    s_iconst (pc := 1) C dX8_fits_1 <|
    s_put (pc := 2) (z := false) C (ci := 8) (kf := 20) rfl inX8 tyX8_ok nmX8 (by decide) wd_891 rfl rfl dX8_fits_2 <|
    s_aload_n (pc := 5) C dX8_fits_5 rfl <|
    s_iconst (pc := 6) C dX8_fits_6 <|
    s_put (pc := 7) (z := false) C (ci := 8) (kf := 21) rfl inX8 tyX8_ok nmX8 (by decide) wd_892 rfl rfl dX8_fits_7 <|
    s_aload_n (pc := 10) C dX8_fits_10 rfl <|
    s_iload_n (pc := 11) C dX8_fits_11 rfl <|
    s_callVg (pc := 12) C ct_X8_fitsOnce (n := 2) (rk := 1) (mp := [0]) ⟨rfl, by decide, rfl⟩ (ci := 8) rfl rfl (by decide) (by decide) yi_X8_fitsOnce (by decide) wd_975 wd_977 wd_21 wd_81 wd_978 dX8_fits_12 <|
    s_istore_n (pc := 15) C dX8_fits_15 rfl <|
    s_cut q16
noncomputable def mg_X8_fits_16 (p1 : Int) (p2 : Int) (k44 : (Int × Int × Ob) → Option Rt) (a : Int × Ob) : Option Rt :=
 if xw a.1 ≥ 0 then (RI a.1 [a.2])
 else (if pd (ov_X8_leastOne (1 : Int) p2 a.2 = RI (oqR (ov_X8_leastOne (1 : Int) p2 a.2)) [a.2]) then (
 if xw (oqR (ov_X8_leastOne (1 : Int) p2 a.2)) < 0 then (if pd (ov_X8_leastOne (0 : Int) p2 a.2 = RI (oqR (ov_X8_leastOne (0 : Int) p2 a.2)) [a.2]) then (
 k44 ((oqR (ov_X8_leastOne (1 : Int) p2 a.2)), (oqR (ov_X8_leastOne (0 : Int) p2 a.2)), a.2)) else none)
 else (k44 ((oqR (ov_X8_leastOne (1 : Int) p2 a.2)), (oqR (ov_X8_leastOne (1 : Int) p2 a.2)), a.2))) else none)
set_option maxRecDepth 100000 in
set_option maxHeartbeats 4000000 in
theorem rq_X8_fits_16 (p1 : Int) (p2 : Int) (k44 : XK) (a : Int × Ob) : rg_X8_fits_16 k44 (en_X8_fits_16 p1 p2 a) = mg_X8_fits_16 p1 p2 (fun b => k44 (en_X8_fits_44 p1 p2 b)) a := rfl
set_option maxRecDepth 100000 in
set_option maxHeartbeats 4000000 in
theorem sg_X8_fits_16 {X : XDyn} {r0 : Rt} (C : XO X mX8_fits) {k44 : XK} (q44 : XS X mX8_fits r0 44 k44) : XS X mX8_fits r0 16 (rg_X8_fits_16 k44) := by
 unfold rg_X8_fits_16
 exact s_iload_n (pc := 16) C dX8_fits_16 rfl <|
    s_if_ge (pc := 17) C dX8_fits_17 (by decide) (s_iload_n (pc := 116) C dX8_fits_116 rfl <|
    s_ireturn (pc := 117) C rfl dX8_fits_117)
    (s_aload_n (pc := 20) C dX8_fits_20 rfl <|
    s_iconst (pc := 21) C dX8_fits_21 <|
    s_iload_n (pc := 22) C dX8_fits_22 rfl <|
    s_callVg (pc := 23) C ct_X8_leastOne (n := 3) (rk := 1) (mp := [0]) ⟨rfl, by decide, rfl⟩ (ci := 8) rfl rfl (by decide) (by decide) yi_X8_leastOne (by decide) wd_1073 wd_1075 wd_44 wd_81 wd_1076 dX8_fits_23 <|
    s_istore (pc := 26) C dX8_fits_26 <|
    s_iload (pc := 28) C dX8_fits_28 <|
    s_if_lt (pc := 30) C dX8_fits_30 (by decide) (s_aload_n (pc := 38) C dX8_fits_38 rfl <|
    s_iconst (pc := 39) C dX8_fits_39 <|
    s_iload_n (pc := 40) C dX8_fits_40 rfl <|
    s_callVg (pc := 41) C ct_X8_leastOne (n := 3) (rk := 1) (mp := [0]) ⟨rfl, by decide, rfl⟩ (ci := 8) rfl rfl (by decide) (by decide) yi_X8_leastOne (by decide) wd_1073 wd_1075 wd_44 wd_81 wd_1076 dX8_fits_41 <|
    s_cut q44)
    (s_iload (pc := 33) C dX8_fits_33 <|
    s_goto (pc := 35) C dX8_fits_35 (by decide) <|
    s_cut q44))
noncomputable def mg_X8_fits_44 (p1 : Int) (p2 : Int) (k73 : (Int × Int × Ob) → Option Rt) (a : Int × Int × Ob) : Option Rt :=
 if xw a.2.1 ≥ 0 then (if xw a.1 < 0 then (if oqV (ov_X8_empties a.2.1 a.2.2) then (
 k73 (a.1, a.2.1, (oqO (ov_X8_empties a.2.1 a.2.2) 0))) else none)
 else (if oqV (ov_X8_squeezes a.2.1 a.2.2) then (
 k73 (a.1, a.2.1, (oqO (ov_X8_squeezes a.2.1 a.2.2) 0))) else none))
 else (RI (-1) [a.2.2])
set_option maxRecDepth 100000 in
set_option maxHeartbeats 4000000 in
theorem rq_X8_fits_44 (p1 : Int) (p2 : Int) (k73 : XK) (a : Int × Int × Ob) : rg_X8_fits_44 k73 (en_X8_fits_44 p1 p2 a) = mg_X8_fits_44 p1 p2 (fun b => k73 (en_X8_fits_73 p1 p2 b)) a := rfl
set_option maxRecDepth 100000 in
set_option maxHeartbeats 4000000 in
theorem sg_X8_fits_44 {X : XDyn} {r0 : Rt} (C : XO X mX8_fits) {k73 : XK} (q73 : XS X mX8_fits r0 73 k73) : XS X mX8_fits r0 44 (rg_X8_fits_44 k73) := by
 unfold rg_X8_fits_44
 exact s_istore (pc := 44) C dX8_fits_44 <|
    s_iload (pc := 46) C dX8_fits_46 <|
    s_if_ge (pc := 48) C dX8_fits_48 (by decide) (s_iload (pc := 53) C dX8_fits_53 <|
    s_if_lt (pc := 55) C dX8_fits_55 (by decide) (s_aload_n (pc := 67) C dX8_fits_67 rfl <|
    s_iload (pc := 68) C dX8_fits_68 <|
    s_callVg (pc := 70) C ct_X8_empties (n := 2) (rk := 0) (mp := [0]) ⟨rfl, by decide, rfl⟩ (ci := 8) rfl rfl (by decide) (by decide) yi_X8_empties (by decide) wd_1097 wd_1099 wd_50 wd_81 wd_1100 dX8_fits_70 <|
    s_cut q73)
    (s_aload_n (pc := 58) C dX8_fits_58 rfl <|
    s_iload (pc := 59) C dX8_fits_59 <|
    s_callVg (pc := 61) C ct_X8_squeezes (n := 2) (rk := 0) (mp := [0]) ⟨rfl, by decide, rfl⟩ (ci := 8) rfl rfl (by decide) (by decide) yi_X8_squeezes (by decide) wd_1093 wd_1095 wd_49 wd_81 wd_1096 dX8_fits_61 <|
    s_goto (pc := 64) C dX8_fits_64 (by decide) <|
    s_cut q73))
    (s_iconst (pc := 51) C dX8_fits_51 <|
    s_ireturn (pc := 52) C rfl dX8_fits_52)
noncomputable def mg_X8_fits_73 (p1 : Int) (p2 : Int) (k107 : Ob → Option Rt) (a : Int × Int × Ob) : Option Rt :=
 if xw a.1 < 0 then (k107 (xset a.2.2 0 20 (xor_ (a.2.2 0 20) (xshl 1 a.2.1))))
 else (k107 (xset a.2.2 0 21 (xor_ (a.2.2 0 21) (xshl 1 a.2.1))))
set_option maxRecDepth 100000 in
set_option maxHeartbeats 4000000 in
theorem rq_X8_fits_73 (p1 : Int) (p2 : Int) (k107 : XK) (a : Int × Int × Ob) : rg_X8_fits_73 k107 (en_X8_fits_73 p1 p2 a) = mg_X8_fits_73 p1 p2 (fun b => k107 (en_X8_fits_107 p1 p2 b)) a := rfl
set_option maxRecDepth 100000 in
set_option maxHeartbeats 4000000 in
theorem sg_X8_fits_73 {X : XDyn} {r0 : Rt} (C : XO X mX8_fits) {k107 : XK} (q107 : XS X mX8_fits r0 107 k107) : XS X mX8_fits r0 73 (rg_X8_fits_73 k107) := by
 unfold rg_X8_fits_73
 exact s_iload (pc := 73) C dX8_fits_73 <|
    s_if_lt (pc := 75) C dX8_fits_75 (by decide) (s_aload_n (pc := 94) C dX8_fits_94 rfl <|
    s_dup (pc := 95) C dX8_fits_95 <|
    s_get (pc := 96) C (ci := 8) (kf := 20) rfl inX8 (by decide) wd_891 dX8_fits_96 <|
    s_iconst (pc := 99) C dX8_fits_99 <|
    s_iload (pc := 100) C dX8_fits_100 <|
    s_ishl (pc := 102) C dX8_fits_102 <|
    s_ior (pc := 103) C dX8_fits_103 <|
    s_put (pc := 104) (z := false) C (ci := 8) (kf := 20) rfl inX8 tyX8_ok nmX8 (by decide) wd_891 rfl rfl dX8_fits_104 <|
    s_cut q107)
    (s_aload_n (pc := 78) C dX8_fits_78 rfl <|
    s_dup (pc := 79) C dX8_fits_79 <|
    s_get (pc := 80) C (ci := 8) (kf := 21) rfl inX8 (by decide) wd_892 dX8_fits_80 <|
    s_iconst (pc := 83) C dX8_fits_83 <|
    s_iload (pc := 84) C dX8_fits_84 <|
    s_ishl (pc := 86) C dX8_fits_86 <|
    s_ior (pc := 87) C dX8_fits_87 <|
    s_put (pc := 88) (z := false) C (ci := 8) (kf := 21) rfl inX8 tyX8_ok nmX8 (by decide) wd_892 rfl rfl dX8_fits_88 <|
    s_goto (pc := 91) C dX8_fits_91 (by decide) <|
    s_cut q107)
noncomputable def mg_X8_fits_107 (p1 : Int) (p2 : Int) (k16 : (Int × Ob) → Option Rt) (a : Ob) : Option Rt :=
 if oqI (ov_X8_fitsOnce p1 a) then (
 k16 ((oqR (ov_X8_fitsOnce p1 a)), (oqO (ov_X8_fitsOnce p1 a) 0))) else none
set_option maxRecDepth 100000 in
set_option maxHeartbeats 4000000 in
theorem rq_X8_fits_107 (p1 : Int) (p2 : Int) (k16 : XK) (a : Ob) : rg_X8_fits_107 k16 (en_X8_fits_107 p1 p2 a) = mg_X8_fits_107 p1 p2 (fun b => k16 (en_X8_fits_16 p1 p2 b)) a := rfl
set_option maxRecDepth 100000 in
set_option maxHeartbeats 4000000 in
theorem sg_X8_fits_107 {X : XDyn} {r0 : Rt} (C : XO X mX8_fits) {k16 : XK} (q16 : XS X mX8_fits r0 16 k16) : XS X mX8_fits r0 107 (rg_X8_fits_107 k16) := by
 unfold rg_X8_fits_107
 exact s_aload_n (pc := 107) C dX8_fits_107 rfl <|
    s_iload_n (pc := 108) C dX8_fits_108 rfl <|
    s_callVg (pc := 109) C ct_X8_fitsOnce (n := 2) (rk := 1) (mp := [0]) ⟨rfl, by decide, rfl⟩ (ci := 8) rfl rfl (by decide) (by decide) yi_X8_fitsOnce (by decide) wd_975 wd_977 wd_21 wd_81 wd_978 dX8_fits_109 <|
    s_istore_n (pc := 112) C dX8_fits_112 rfl <|
    s_goto (pc := 113) C dX8_fits_113 (by decide) <|
    s_cut q16
noncomputable def rw_X8_fits_107 (f : Nat) (k16 : XK) : XK := rg_X8_fits_107 k16
noncomputable def md_X8_fits_107 (p1 : Int) (p2 : Int) (f : Nat) (k16 : (Int × Ob) → Option Rt) : Ob → Option Rt := mg_X8_fits_107 p1 p2 k16
theorem eq_X8_fits_107 (p1 : Int) (p2 : Int) (f : Nat) (k16 : XK) (a : Ob) : rw_X8_fits_107 f k16 (en_X8_fits_107 p1 p2 a) = md_X8_fits_107 p1 p2 f (fun b => k16 (en_X8_fits_16 p1 p2 b)) a :=
 (rq_X8_fits_107 p1 p2 k16 a).trans (congrFun (congr (rfl : mg_X8_fits_107 p1 p2 = mg_X8_fits_107 p1 p2) rfl) a)
theorem sd_X8_fits_107 (f : Nat) {X : XDyn} {r0 : Rt} (C : XO X mX8_fits) {k16 : XK} (q16 : XS X mX8_fits r0 16 k16) : XS X mX8_fits r0 107 (rw_X8_fits_107 f k16) := sg_X8_fits_107 C q16
noncomputable def rw_X8_fits_73 (f : Nat) (k16 : XK) : XK := rg_X8_fits_73 (rw_X8_fits_107 f k16)
noncomputable def md_X8_fits_73 (p1 : Int) (p2 : Int) (f : Nat) (k16 : (Int × Ob) → Option Rt) : Int × Int × Ob → Option Rt := mg_X8_fits_73 p1 p2 (md_X8_fits_107 p1 p2 f k16)
theorem eq_X8_fits_73 (p1 : Int) (p2 : Int) (f : Nat) (k16 : XK) (a : Int × Int × Ob) : rw_X8_fits_73 f k16 (en_X8_fits_73 p1 p2 a) = md_X8_fits_73 p1 p2 f (fun b => k16 (en_X8_fits_16 p1 p2 b)) a :=
 (rq_X8_fits_73 p1 p2 (rw_X8_fits_107 f k16) a).trans (congrFun (congr (rfl : mg_X8_fits_73 p1 p2 = mg_X8_fits_73 p1 p2) (funext (eq_X8_fits_107 p1 p2 f k16))) a)
theorem sd_X8_fits_73 (f : Nat) {X : XDyn} {r0 : Rt} (C : XO X mX8_fits) {k16 : XK} (q16 : XS X mX8_fits r0 16 k16) : XS X mX8_fits r0 73 (rw_X8_fits_73 f k16) := sg_X8_fits_73 C (sd_X8_fits_107 f C q16)
noncomputable def rw_X8_fits_44 (f : Nat) (k16 : XK) : XK := rg_X8_fits_44 (rw_X8_fits_73 f k16)
noncomputable def md_X8_fits_44 (p1 : Int) (p2 : Int) (f : Nat) (k16 : (Int × Ob) → Option Rt) : Int × Int × Ob → Option Rt := mg_X8_fits_44 p1 p2 (md_X8_fits_73 p1 p2 f k16)
theorem eq_X8_fits_44 (p1 : Int) (p2 : Int) (f : Nat) (k16 : XK) (a : Int × Int × Ob) : rw_X8_fits_44 f k16 (en_X8_fits_44 p1 p2 a) = md_X8_fits_44 p1 p2 f (fun b => k16 (en_X8_fits_16 p1 p2 b)) a :=
 (rq_X8_fits_44 p1 p2 (rw_X8_fits_73 f k16) a).trans (congrFun (congr (rfl : mg_X8_fits_44 p1 p2 = mg_X8_fits_44 p1 p2) (funext (eq_X8_fits_73 p1 p2 f k16))) a)
theorem sd_X8_fits_44 (f : Nat) {X : XDyn} {r0 : Rt} (C : XO X mX8_fits) {k16 : XK} (q16 : XS X mX8_fits r0 16 k16) : XS X mX8_fits r0 44 (rw_X8_fits_44 f k16) := sg_X8_fits_44 C (sd_X8_fits_73 f C q16)
noncomputable def rw_X8_fits_16 (f : Nat) : XK := tlp (fun k16 => rg_X8_fits_16 (rw_X8_fits_44 f k16)) f
noncomputable def lb_X8_fits_16 (p1 : Int) (p2 : Int) (f : Nat) : ((Int × Ob) → Option Rt) → Int × Ob → Option Rt := fun k16 => mg_X8_fits_16 p1 p2 (md_X8_fits_44 p1 p2 f k16)
noncomputable def md_X8_fits_16 (p1 : Int) (p2 : Int) (f : Nat) : Int × Ob → Option Rt := tlp (lb_X8_fits_16 p1 p2 f) f
theorem eq_X8_fits_16 (p1 : Int) (p2 : Int) (f : Nat) (a : Int × Ob) : rw_X8_fits_16 f (en_X8_fits_16 p1 p2 a) = md_X8_fits_16 p1 p2 f a :=
 tlp_enc (en_X8_fits_16 p1 p2) (fun k16 a => (rq_X8_fits_16 p1 p2 (rw_X8_fits_44 f k16) a).trans (congrFun (congr (rfl : mg_X8_fits_16 p1 p2 = mg_X8_fits_16 p1 p2) (funext (eq_X8_fits_44 p1 p2 f k16))) a)) f a
theorem sd_X8_fits_16 (f : Nat) {X : XDyn} {r0 : Rt} (C : XO X mX8_fits) : XS X mX8_fits r0 16 (rw_X8_fits_16 f) := s_lp (fun k16 q16 => sg_X8_fits_16 C (sd_X8_fits_44 f C q16)) f
noncomputable def rw_X8_fits_0 (f : Nat) : XK := rg_X8_fits_0 (rw_X8_fits_16 f)
noncomputable def md_X8_fits_0 (p1 : Int) (p2 : Int) (f : Nat) : Ob → Option Rt := mg_X8_fits_0 p1 p2 (md_X8_fits_16 p1 p2 f)
theorem eq_X8_fits_0 (p1 : Int) (p2 : Int) (f : Nat) (a : Ob) : rw_X8_fits_0 f (en_X8_fits_0 p1 p2 a) = md_X8_fits_0 p1 p2 f a :=
 (rq_X8_fits_0 p1 p2 (rw_X8_fits_16 f) a).trans (congrFun (congr (rfl : mg_X8_fits_0 p1 p2 = mg_X8_fits_0 p1 p2) (funext (eq_X8_fits_16 p1 p2 f))) a)
theorem sd_X8_fits_0 (f : Nat) {X : XDyn} {r0 : Rt} (C : XO X mX8_fits) : XS X mX8_fits r0 0 (rw_X8_fits_0 f) := sg_X8_fits_0 C (sd_X8_fits_16 f C)
theorem ctr_X8_fits (f : Nat) : XCt yX8_fits mX8_fits (xF mX8_fits (rw_X8_fits_0 f)) := xMet (by decide +kernel) rfl (fun _ _ C => sd_X8_fits_0 f C)
theorem eqf_X8_fits (f : Nat) (p1 : Int) (p2 : Int) (h0 : Ob) : xF mX8_fits (rw_X8_fits_0 f) [.inr (.inl (0, 0)), .inl p1, .inl p2] [h0] = md_X8_fits_0 p1 p2 f h0 := eq_X8_fits_0 p1 p2 f h0
theorem yi_X8_fits : yX8_fits.cls = RX8 ∧ yX8_fits.cls ≠ "java/lang/invoke/MethodHandle" ∧ yX8_fits.cls ≠ "java/lang/invoke/VarHandle" ∧ (parseMethodDescriptor yX8_fits.desc).map (fun d => d.parameters.length) = some 2 := ⟨rfl, by decide +kernel, by decide +kernel, by decide +kernel⟩
noncomputable def ov_X8_fits (p1 p2 : Int) (h0 : Ob) : Option Rt := xop (md_X8_fits_0 p1 p2 xfu h0)
theorem ov_X8_fits_e (p1 p2 : Int) (h0 : Ob) : ov_X8_fits p1 p2 h0 = md_X8_fits_0 p1 p2 xfu h0 := xop_eq _
theorem sp_X8_fits (p1 p2 : Int) (h0 : Ob) (hg : oqI (ov_X8_fits p1 p2 h0) = true) : md_X8_fits_0 p1 p2 xfu h0 = RI (oqR (ov_X8_fits p1 p2 h0)) [(oqO (ov_X8_fits p1 p2 h0) 0)] := (ov_X8_fits_e p1 p2 h0).symm.trans (oqI_eq hg)
noncomputable def g_X8_fits : List AV → List Ob → Bool
  | [.inr (.inl (0, 0)), .inl p1, .inl p2], [h0] => oqI (ov_X8_fits p1 p2 h0)
  | _, _ => false
noncomputable def v_X8_fits : List AV → List Ob → Rt
  | [.inr (.inl (0, 0)), .inl p1, .inl p2], [h0] => (some (.inl (oqR (ov_X8_fits p1 p2 h0))), [(oqO (ov_X8_fits p1 p2 h0) 0)])
  | _, _ => (none, [])
theorem ct_X8_fits : XCt yX8_fits mX8_fits (fun as μ => if g_X8_fits as μ then some (v_X8_fits as μ) else none) := (ctr_X8_fits xfu).of (fun as μ r h => by
  split at h
  · rename_i hg
    unfold g_X8_fits at hg
    split at hg
    · rw [← h]
      exact (eqf_X8_fits xfu _ _ _).trans (sp_X8_fits _ _ _ hg)
    · cases hg
  · cases h)
theorem dX8_keepsAside_0 : decode cX8_keepsAside 0 = .ok (.iconst 0, 1) := by decide +kernel
theorem dX8_keepsAside_1 : decode cX8_keepsAside 1 = .ok (.istore_n 1, 1) := by decide +kernel
theorem dX8_keepsAside_2 : decode cX8_keepsAside 2 = .ok (.iload_n 1, 1) := by decide +kernel
theorem dX8_keepsAside_3 : decode cX8_keepsAside 3 = .ok (.sipush 735, 3) := by decide +kernel
theorem dX8_keepsAside_6 : decode cX8_keepsAside 6 = .ok (.if_icmp .ge 21, 3) := by decide +kernel
theorem dX8_keepsAside_9 : decode cX8_keepsAside 9 = .ok (.aload_n 0, 1) := by decide +kernel
theorem dX8_keepsAside_10 : decode cX8_keepsAside 10 = .ok (.getfield 13, 3) := by decide +kernel
theorem dX8_keepsAside_13 : decode cX8_keepsAside 13 = .ok (.iload_n 1, 1) := by decide +kernel
theorem dX8_keepsAside_14 : decode cX8_keepsAside 14 = .ok (.aload_n 0, 1) := by decide +kernel
theorem dX8_keepsAside_15 : decode cX8_keepsAside 15 = .ok (.getfield 7, 3) := by decide +kernel
theorem dX8_keepsAside_18 : decode cX8_keepsAside 18 = .ok (.iload_n 1, 1) := by decide +kernel
theorem dX8_keepsAside_19 : decode cX8_keepsAside 19 = .ok (.iaload, 1) := by decide +kernel
theorem dX8_keepsAside_20 : decode cX8_keepsAside 20 = .ok (.iastore, 1) := by decide +kernel
theorem dX8_keepsAside_21 : decode cX8_keepsAside 21 = .ok (.iinc 1 1, 3) := by decide +kernel
theorem dX8_keepsAside_24 : decode cX8_keepsAside 24 = .ok (.goto (-22), 3) := by decide +kernel
theorem dX8_keepsAside_27 : decode cX8_keepsAside 27 = .ok (.return_, 1) := by decide +kernel
abbrev mX8_keepsAside : XM := (cX8_keepsAside, 2, RX8, none, shw_8, 0)
noncomputable def rg_X8_keepsAside_0 (k2 : XK) : XK :=
 o_iconst 0 <|
 o_istore 1 <|
 o_cut [] k2
def en_X8_keepsAside_0 (a : Ob) : XSt := ([some (.inr (.inl (0, 0))), none], [], [a])
noncomputable def rg_X8_keepsAside_2 (k2 : XK) : XK :=
 o_iload 1 <|
 o_iconst 735 <|
 o_icmp_ge (o_return)
 (o_aload 0 <|
 o_get shw_8 8 1 <|
 o_iload 1 <|
 o_aload 0 <|
 o_get shw_8 8 0 <|
 o_iload 1 <|
 o_iald shw_8 <|
 o_iast shw_8 <|
 o_iinc 1 1 <|
 o_cut [] k2)
def en_X8_keepsAside_2 (a : Int × Ob) : XSt := ([some (.inr (.inl (0, 0))), some (.inl a.1)], [], [a.2])
noncomputable def mg_X8_keepsAside_0 (k2 : (Int × Ob) → Option Rt) (a : Ob) : Option Rt :=
 k2 (0, a)
set_option maxRecDepth 100000 in
set_option maxHeartbeats 4000000 in
theorem rq_X8_keepsAside_0 (k2 : XK) (a : Ob) : rg_X8_keepsAside_0 k2 (en_X8_keepsAside_0 a) = mg_X8_keepsAside_0 (fun b => k2 (en_X8_keepsAside_2 b)) a := rfl
set_option maxRecDepth 100000 in
set_option maxHeartbeats 4000000 in
theorem sg_X8_keepsAside_0 {X : XDyn} {r0 : Rt} (C : XO X mX8_keepsAside) {k2 : XK} (q2 : XS X mX8_keepsAside r0 2 k2) : XS X mX8_keepsAside r0 0 (rg_X8_keepsAside_0 k2) := by
 unfold rg_X8_keepsAside_0
 exact s_iconst (pc := 0) C dX8_keepsAside_0 <|
    s_istore_n (pc := 1) C dX8_keepsAside_1 rfl <|
    s_cut q2
noncomputable def mg_X8_keepsAside_2 (k2 : (Int × Ob) → Option Rt) (a : Int × Ob) : Option Rt :=
 if xw a.1 ≥ 735 then (RV [a.2])
 else (if xin a.1 735 then (
 if xin a.1 735 then (
 k2 ((a.1 + 1), (xset a.2 2 (xw a.1).toNat (a.2 1 (xw a.1).toNat)))) else none) else none)
set_option maxRecDepth 100000 in
set_option maxHeartbeats 4000000 in
theorem rq_X8_keepsAside_2 (k2 : XK) (a : Int × Ob) : rg_X8_keepsAside_2 k2 (en_X8_keepsAside_2 a) = mg_X8_keepsAside_2 (fun b => k2 (en_X8_keepsAside_2 b)) a := rfl
set_option maxRecDepth 100000 in
set_option maxHeartbeats 4000000 in
theorem sg_X8_keepsAside_2 {X : XDyn} {r0 : Rt} (C : XO X mX8_keepsAside) {k2 : XK} (q2 : XS X mX8_keepsAside r0 2 k2) : XS X mX8_keepsAside r0 2 (rg_X8_keepsAside_2 k2) := by
 unfold rg_X8_keepsAside_2
 exact s_iload_n (pc := 2) C dX8_keepsAside_2 rfl <|
    s_sipush (pc := 3) C dX8_keepsAside_3 (by decide) <|
    s_icmp_ge (pc := 6) C dX8_keepsAside_6 (by decide) (s_return (pc := 27) C rfl dX8_keepsAside_27)
    (s_aload_n (pc := 9) C dX8_keepsAside_9 rfl <|
    s_get (pc := 10) C (ci := 8) (kf := 1) rfl inX8 (by decide) wd_872 dX8_keepsAside_10 <|
    s_iload_n (pc := 13) C dX8_keepsAside_13 rfl <|
    s_aload_n (pc := 14) C dX8_keepsAside_14 rfl <|
    s_get (pc := 15) C (ci := 8) (kf := 0) rfl inX8 (by decide) wd_871 dX8_keepsAside_15 <|
    s_iload_n (pc := 18) C dX8_keepsAside_18 rfl <|
    s_iald (pc := 19) C dX8_keepsAside_19 <|
    s_iast (pc := 20) C dX8_keepsAside_20 <|
    s_iinc (pc := 21) C dX8_keepsAside_21 <|
    s_goto (pc := 24) C dX8_keepsAside_24 (by decide) <|
    s_cut q2)
noncomputable def rw_X8_keepsAside_2 (f : Nat) : XK := tlp (fun k2 => rg_X8_keepsAside_2 k2) f
noncomputable def lb_X8_keepsAside_2 (f : Nat) : ((Int × Ob) → Option Rt) → Int × Ob → Option Rt := fun k2 => mg_X8_keepsAside_2 k2
noncomputable def md_X8_keepsAside_2 (f : Nat) : Int × Ob → Option Rt := tlp (lb_X8_keepsAside_2 f) f
theorem eq_X8_keepsAside_2 (f : Nat) (a : Int × Ob) : rw_X8_keepsAside_2 f (en_X8_keepsAside_2 a) = md_X8_keepsAside_2 f a :=
 tlp_enc (en_X8_keepsAside_2) (fun k2 a => (rq_X8_keepsAside_2 k2 a).trans (congrFun (congr (rfl : mg_X8_keepsAside_2 = mg_X8_keepsAside_2) rfl) a)) f a
theorem sd_X8_keepsAside_2 (f : Nat) {X : XDyn} {r0 : Rt} (C : XO X mX8_keepsAside) : XS X mX8_keepsAside r0 2 (rw_X8_keepsAside_2 f) := s_lp (fun k2 q2 => sg_X8_keepsAside_2 C q2) f
noncomputable def rw_X8_keepsAside_0 (f : Nat) : XK := rg_X8_keepsAside_0 (rw_X8_keepsAside_2 f)
noncomputable def md_X8_keepsAside_0 (f : Nat) : Ob → Option Rt := mg_X8_keepsAside_0 (md_X8_keepsAside_2 f)
theorem eq_X8_keepsAside_0 (f : Nat) (a : Ob) : rw_X8_keepsAside_0 f (en_X8_keepsAside_0 a) = md_X8_keepsAside_0 f a :=
 (rq_X8_keepsAside_0 (rw_X8_keepsAside_2 f) a).trans (congrFun (congr (rfl : mg_X8_keepsAside_0 = mg_X8_keepsAside_0) (funext (eq_X8_keepsAside_2 f))) a)
theorem sd_X8_keepsAside_0 (f : Nat) {X : XDyn} {r0 : Rt} (C : XO X mX8_keepsAside) : XS X mX8_keepsAside r0 0 (rw_X8_keepsAside_0 f) := sg_X8_keepsAside_0 C (sd_X8_keepsAside_2 f C)
theorem ctr_X8_keepsAside (f : Nat) : XCt yX8_keepsAside mX8_keepsAside (xF mX8_keepsAside (rw_X8_keepsAside_0 f)) := xMet (by decide +kernel) rfl (fun _ _ C => sd_X8_keepsAside_0 f C)
theorem eqf_X8_keepsAside (f : Nat) (h0 : Ob) : xF mX8_keepsAside (rw_X8_keepsAside_0 f) [.inr (.inl (0, 0))] [h0] = md_X8_keepsAside_0 f h0 := eq_X8_keepsAside_0 f h0
theorem yi_X8_keepsAside : yX8_keepsAside.cls = RX8 ∧ yX8_keepsAside.cls ≠ "java/lang/invoke/MethodHandle" ∧ yX8_keepsAside.cls ≠ "java/lang/invoke/VarHandle" ∧ (parseMethodDescriptor yX8_keepsAside.desc).map (fun d => d.parameters.length) = some 0 := ⟨rfl, by decide +kernel, by decide +kernel, by decide +kernel⟩
noncomputable def ov_X8_keepsAside (h0 : Ob) : Option Rt := xop (md_X8_keepsAside_0 xfu h0)
theorem ov_X8_keepsAside_e (h0 : Ob) : ov_X8_keepsAside h0 = md_X8_keepsAside_0 xfu h0 := xop_eq _
theorem sp_X8_keepsAside (h0 : Ob) (hg : oqV (ov_X8_keepsAside h0) = true) : md_X8_keepsAside_0 xfu h0 = RV [(oqO (ov_X8_keepsAside h0) 0)] := (ov_X8_keepsAside_e h0).symm.trans (oqV_eq hg)
noncomputable def g_X8_keepsAside : List AV → List Ob → Bool
  | [.inr (.inl (0, 0))], [h0] => oqV (ov_X8_keepsAside h0)
  | _, _ => false
noncomputable def v_X8_keepsAside : List AV → List Ob → Rt
  | [.inr (.inl (0, 0))], [h0] => (none, [(oqO (ov_X8_keepsAside h0) 0)])
  | _, _ => (none, [])
theorem ct_X8_keepsAside : XCt yX8_keepsAside mX8_keepsAside (fun as μ => if g_X8_keepsAside as μ then some (v_X8_keepsAside as μ) else none) := (ctr_X8_keepsAside xfu).of (fun as μ r h => by
  split at h
  · rename_i hg
    unfold g_X8_keepsAside at hg
    split at hg
    · rw [← h]
      exact (eqf_X8_keepsAside xfu _).trans (sp_X8_keepsAside _ hg)
    · cases hg
  · cases h)
theorem dX8_laysBack_0 : decode cX8_laysBack 0 = .ok (.iconst 0, 1) := by decide +kernel
theorem dX8_laysBack_1 : decode cX8_laysBack 1 = .ok (.istore_n 1, 1) := by decide +kernel
theorem dX8_laysBack_2 : decode cX8_laysBack 2 = .ok (.iload_n 1, 1) := by decide +kernel
theorem dX8_laysBack_3 : decode cX8_laysBack 3 = .ok (.sipush 735, 3) := by decide +kernel
theorem dX8_laysBack_6 : decode cX8_laysBack 6 = .ok (.if_icmp .ge 21, 3) := by decide +kernel
theorem dX8_laysBack_9 : decode cX8_laysBack 9 = .ok (.aload_n 0, 1) := by decide +kernel
theorem dX8_laysBack_10 : decode cX8_laysBack 10 = .ok (.getfield 7, 3) := by decide +kernel
theorem dX8_laysBack_13 : decode cX8_laysBack 13 = .ok (.iload_n 1, 1) := by decide +kernel
theorem dX8_laysBack_14 : decode cX8_laysBack 14 = .ok (.aload_n 0, 1) := by decide +kernel
theorem dX8_laysBack_15 : decode cX8_laysBack 15 = .ok (.getfield 13, 3) := by decide +kernel
theorem dX8_laysBack_18 : decode cX8_laysBack 18 = .ok (.iload_n 1, 1) := by decide +kernel
theorem dX8_laysBack_19 : decode cX8_laysBack 19 = .ok (.iaload, 1) := by decide +kernel
theorem dX8_laysBack_20 : decode cX8_laysBack 20 = .ok (.iastore, 1) := by decide +kernel
theorem dX8_laysBack_21 : decode cX8_laysBack 21 = .ok (.iinc 1 1, 3) := by decide +kernel
theorem dX8_laysBack_24 : decode cX8_laysBack 24 = .ok (.goto (-22), 3) := by decide +kernel
theorem dX8_laysBack_27 : decode cX8_laysBack 27 = .ok (.return_, 1) := by decide +kernel
abbrev mX8_laysBack : XM := (cX8_laysBack, 2, RX8, none, shw_8, 0)
noncomputable def rg_X8_laysBack_0 (k2 : XK) : XK :=
 o_iconst 0 <|
 o_istore 1 <|
 o_cut [] k2
def en_X8_laysBack_0 (a : Ob) : XSt := ([some (.inr (.inl (0, 0))), none], [], [a])
noncomputable def rg_X8_laysBack_2 (k2 : XK) : XK :=
 o_iload 1 <|
 o_iconst 735 <|
 o_icmp_ge (o_return)
 (o_aload 0 <|
 o_get shw_8 8 0 <|
 o_iload 1 <|
 o_aload 0 <|
 o_get shw_8 8 1 <|
 o_iload 1 <|
 o_iald shw_8 <|
 o_iast shw_8 <|
 o_iinc 1 1 <|
 o_cut [] k2)
def en_X8_laysBack_2 (a : Int × Ob) : XSt := ([some (.inr (.inl (0, 0))), some (.inl a.1)], [], [a.2])
noncomputable def mg_X8_laysBack_0 (k2 : (Int × Ob) → Option Rt) (a : Ob) : Option Rt :=
 k2 (0, a)
set_option maxRecDepth 100000 in
set_option maxHeartbeats 4000000 in
theorem rq_X8_laysBack_0 (k2 : XK) (a : Ob) : rg_X8_laysBack_0 k2 (en_X8_laysBack_0 a) = mg_X8_laysBack_0 (fun b => k2 (en_X8_laysBack_2 b)) a := rfl
set_option maxRecDepth 100000 in
set_option maxHeartbeats 4000000 in
theorem sg_X8_laysBack_0 {X : XDyn} {r0 : Rt} (C : XO X mX8_laysBack) {k2 : XK} (q2 : XS X mX8_laysBack r0 2 k2) : XS X mX8_laysBack r0 0 (rg_X8_laysBack_0 k2) := by
 unfold rg_X8_laysBack_0
 exact s_iconst (pc := 0) C dX8_laysBack_0 <|
    s_istore_n (pc := 1) C dX8_laysBack_1 rfl <|
    s_cut q2
noncomputable def mg_X8_laysBack_2 (k2 : (Int × Ob) → Option Rt) (a : Int × Ob) : Option Rt :=
 if xw a.1 ≥ 735 then (RV [a.2])
 else (if xin a.1 735 then (
 if xin a.1 735 then (
 k2 ((a.1 + 1), (xset a.2 1 (xw a.1).toNat (a.2 2 (xw a.1).toNat)))) else none) else none)
set_option maxRecDepth 100000 in
set_option maxHeartbeats 4000000 in
theorem rq_X8_laysBack_2 (k2 : XK) (a : Int × Ob) : rg_X8_laysBack_2 k2 (en_X8_laysBack_2 a) = mg_X8_laysBack_2 (fun b => k2 (en_X8_laysBack_2 b)) a := rfl
set_option maxRecDepth 100000 in
set_option maxHeartbeats 4000000 in
theorem sg_X8_laysBack_2 {X : XDyn} {r0 : Rt} (C : XO X mX8_laysBack) {k2 : XK} (q2 : XS X mX8_laysBack r0 2 k2) : XS X mX8_laysBack r0 2 (rg_X8_laysBack_2 k2) := by
 unfold rg_X8_laysBack_2
 exact s_iload_n (pc := 2) C dX8_laysBack_2 rfl <|
    s_sipush (pc := 3) C dX8_laysBack_3 (by decide) <|
    s_icmp_ge (pc := 6) C dX8_laysBack_6 (by decide) (s_return (pc := 27) C rfl dX8_laysBack_27)
    (s_aload_n (pc := 9) C dX8_laysBack_9 rfl <|
    s_get (pc := 10) C (ci := 8) (kf := 0) rfl inX8 (by decide) wd_871 dX8_laysBack_10 <|
    s_iload_n (pc := 13) C dX8_laysBack_13 rfl <|
    s_aload_n (pc := 14) C dX8_laysBack_14 rfl <|
    s_get (pc := 15) C (ci := 8) (kf := 1) rfl inX8 (by decide) wd_872 dX8_laysBack_15 <|
    s_iload_n (pc := 18) C dX8_laysBack_18 rfl <|
    s_iald (pc := 19) C dX8_laysBack_19 <|
    s_iast (pc := 20) C dX8_laysBack_20 <|
    s_iinc (pc := 21) C dX8_laysBack_21 <|
    s_goto (pc := 24) C dX8_laysBack_24 (by decide) <|
    s_cut q2)
noncomputable def rw_X8_laysBack_2 (f : Nat) : XK := tlp (fun k2 => rg_X8_laysBack_2 k2) f
noncomputable def lb_X8_laysBack_2 (f : Nat) : ((Int × Ob) → Option Rt) → Int × Ob → Option Rt := fun k2 => mg_X8_laysBack_2 k2
noncomputable def md_X8_laysBack_2 (f : Nat) : Int × Ob → Option Rt := tlp (lb_X8_laysBack_2 f) f
theorem eq_X8_laysBack_2 (f : Nat) (a : Int × Ob) : rw_X8_laysBack_2 f (en_X8_laysBack_2 a) = md_X8_laysBack_2 f a :=
 tlp_enc (en_X8_laysBack_2) (fun k2 a => (rq_X8_laysBack_2 k2 a).trans (congrFun (congr (rfl : mg_X8_laysBack_2 = mg_X8_laysBack_2) rfl) a)) f a
theorem sd_X8_laysBack_2 (f : Nat) {X : XDyn} {r0 : Rt} (C : XO X mX8_laysBack) : XS X mX8_laysBack r0 2 (rw_X8_laysBack_2 f) := s_lp (fun k2 q2 => sg_X8_laysBack_2 C q2) f
noncomputable def rw_X8_laysBack_0 (f : Nat) : XK := rg_X8_laysBack_0 (rw_X8_laysBack_2 f)
noncomputable def md_X8_laysBack_0 (f : Nat) : Ob → Option Rt := mg_X8_laysBack_0 (md_X8_laysBack_2 f)
theorem eq_X8_laysBack_0 (f : Nat) (a : Ob) : rw_X8_laysBack_0 f (en_X8_laysBack_0 a) = md_X8_laysBack_0 f a :=
 (rq_X8_laysBack_0 (rw_X8_laysBack_2 f) a).trans (congrFun (congr (rfl : mg_X8_laysBack_0 = mg_X8_laysBack_0) (funext (eq_X8_laysBack_2 f))) a)
theorem sd_X8_laysBack_0 (f : Nat) {X : XDyn} {r0 : Rt} (C : XO X mX8_laysBack) : XS X mX8_laysBack r0 0 (rw_X8_laysBack_0 f) := sg_X8_laysBack_0 C (sd_X8_laysBack_2 f C)
theorem ctr_X8_laysBack (f : Nat) : XCt yX8_laysBack mX8_laysBack (xF mX8_laysBack (rw_X8_laysBack_0 f)) := xMet (by decide +kernel) rfl (fun _ _ C => sd_X8_laysBack_0 f C)
theorem eqf_X8_laysBack (f : Nat) (h0 : Ob) : xF mX8_laysBack (rw_X8_laysBack_0 f) [.inr (.inl (0, 0))] [h0] = md_X8_laysBack_0 f h0 := eq_X8_laysBack_0 f h0
theorem yi_X8_laysBack : yX8_laysBack.cls = RX8 ∧ yX8_laysBack.cls ≠ "java/lang/invoke/MethodHandle" ∧ yX8_laysBack.cls ≠ "java/lang/invoke/VarHandle" ∧ (parseMethodDescriptor yX8_laysBack.desc).map (fun d => d.parameters.length) = some 0 := ⟨rfl, by decide +kernel, by decide +kernel, by decide +kernel⟩
noncomputable def ov_X8_laysBack (h0 : Ob) : Option Rt := xop (md_X8_laysBack_0 xfu h0)
theorem ov_X8_laysBack_e (h0 : Ob) : ov_X8_laysBack h0 = md_X8_laysBack_0 xfu h0 := xop_eq _
theorem sp_X8_laysBack (h0 : Ob) (hg : oqV (ov_X8_laysBack h0) = true) : md_X8_laysBack_0 xfu h0 = RV [(oqO (ov_X8_laysBack h0) 0)] := (ov_X8_laysBack_e h0).symm.trans (oqV_eq hg)
noncomputable def g_X8_laysBack : List AV → List Ob → Bool
  | [.inr (.inl (0, 0))], [h0] => oqV (ov_X8_laysBack h0)
  | _, _ => false
noncomputable def v_X8_laysBack : List AV → List Ob → Rt
  | [.inr (.inl (0, 0))], [h0] => (none, [(oqO (ov_X8_laysBack h0) 0)])
  | _, _ => (none, [])
theorem ct_X8_laysBack : XCt yX8_laysBack mX8_laysBack (fun as μ => if g_X8_laysBack as μ then some (v_X8_laysBack as μ) else none) := (ctr_X8_laysBack xfu).of (fun as μ r h => by
  split at h
  · rename_i hg
    unfold g_X8_laysBack at hg
    split at hg
    · rw [← h]
      exact (eqf_X8_laysBack xfu _).trans (sp_X8_laysBack _ hg)
    · cases hg
  · cases h)
theorem dX8_keepsAct_0 : decode cX8_keepsAct 0 = .ok (.aload_n 0, 1) := by decide +kernel
theorem dX8_keepsAct_1 : decode cX8_keepsAct 1 = .ok (.getfield 63, 3) := by decide +kernel
theorem dX8_keepsAct_4 : decode cX8_keepsAct 4 = .ok (.bipush 12, 2) := by decide +kernel
theorem dX8_keepsAct_6 : decode cX8_keepsAct 6 = .ok (.if_icmp .ne 46, 3) := by decide +kernel
theorem dX8_keepsAct_9 : decode cX8_keepsAct 9 = .ok (.sipush 735, 3) := by decide +kernel
theorem dX8_keepsAct_12 : decode cX8_keepsAct 12 = .ok (.istore_n 1, 1) := by decide +kernel
theorem dX8_keepsAct_13 : decode cX8_keepsAct 13 = .ok (.iload_n 1, 1) := by decide +kernel
theorem dX8_keepsAct_14 : decode cX8_keepsAct 14 = .ok (.sipush 8820, 3) := by decide +kernel
theorem dX8_keepsAct_17 : decode cX8_keepsAct 17 = .ok (.if_icmp .ge 25, 3) := by decide +kernel
theorem dX8_keepsAct_20 : decode cX8_keepsAct 20 = .ok (.aload_n 0, 1) := by decide +kernel
theorem dX8_keepsAct_21 : decode cX8_keepsAct 21 = .ok (.getfield 16, 3) := by decide +kernel
theorem dX8_keepsAct_24 : decode cX8_keepsAct 24 = .ok (.iload_n 1, 1) := by decide +kernel
theorem dX8_keepsAct_25 : decode cX8_keepsAct 25 = .ok (.sipush 735, 3) := by decide +kernel
theorem dX8_keepsAct_28 : decode cX8_keepsAct 28 = .ok (.isub, 1) := by decide +kernel
theorem dX8_keepsAct_29 : decode cX8_keepsAct 29 = .ok (.aload_n 0, 1) := by decide +kernel
theorem dX8_keepsAct_30 : decode cX8_keepsAct 30 = .ok (.getfield 16, 3) := by decide +kernel
theorem dX8_keepsAct_33 : decode cX8_keepsAct 33 = .ok (.iload_n 1, 1) := by decide +kernel
theorem dX8_keepsAct_34 : decode cX8_keepsAct 34 = .ok (.iaload, 1) := by decide +kernel
theorem dX8_keepsAct_35 : decode cX8_keepsAct 35 = .ok (.iastore, 1) := by decide +kernel
theorem dX8_keepsAct_36 : decode cX8_keepsAct 36 = .ok (.iinc 1 1, 3) := by decide +kernel
theorem dX8_keepsAct_39 : decode cX8_keepsAct 39 = .ok (.goto (-26), 3) := by decide +kernel
theorem dX8_keepsAct_42 : decode cX8_keepsAct 42 = .ok (.aload_n 0, 1) := by decide +kernel
theorem dX8_keepsAct_43 : decode cX8_keepsAct 43 = .ok (.dup, 1) := by decide +kernel
theorem dX8_keepsAct_44 : decode cX8_keepsAct 44 = .ok (.getfield 63, 3) := by decide +kernel
theorem dX8_keepsAct_47 : decode cX8_keepsAct 47 = .ok (.iconst 1, 1) := by decide +kernel
theorem dX8_keepsAct_48 : decode cX8_keepsAct 48 = .ok (.isub, 1) := by decide +kernel
theorem dX8_keepsAct_49 : decode cX8_keepsAct 49 = .ok (.putfield 63, 3) := by decide +kernel
theorem dX8_keepsAct_52 : decode cX8_keepsAct 52 = .ok (.iconst 0, 1) := by decide +kernel
theorem dX8_keepsAct_53 : decode cX8_keepsAct 53 = .ok (.istore_n 1, 1) := by decide +kernel
theorem dX8_keepsAct_54 : decode cX8_keepsAct 54 = .ok (.iload_n 1, 1) := by decide +kernel
theorem dX8_keepsAct_55 : decode cX8_keepsAct 55 = .ok (.sipush 735, 3) := by decide +kernel
theorem dX8_keepsAct_58 : decode cX8_keepsAct 58 = .ok (.if_icmp .ge 30, 3) := by decide +kernel
theorem dX8_keepsAct_61 : decode cX8_keepsAct 61 = .ok (.aload_n 0, 1) := by decide +kernel
theorem dX8_keepsAct_62 : decode cX8_keepsAct 62 = .ok (.getfield 16, 3) := by decide +kernel
theorem dX8_keepsAct_65 : decode cX8_keepsAct 65 = .ok (.sipush 735, 3) := by decide +kernel
theorem dX8_keepsAct_68 : decode cX8_keepsAct 68 = .ok (.aload_n 0, 1) := by decide +kernel
theorem dX8_keepsAct_69 : decode cX8_keepsAct 69 = .ok (.getfield 63, 3) := by decide +kernel
theorem dX8_keepsAct_72 : decode cX8_keepsAct 72 = .ok (.imul, 1) := by decide +kernel
theorem dX8_keepsAct_73 : decode cX8_keepsAct 73 = .ok (.iload_n 1, 1) := by decide +kernel
theorem dX8_keepsAct_74 : decode cX8_keepsAct 74 = .ok (.iadd, 1) := by decide +kernel
theorem dX8_keepsAct_75 : decode cX8_keepsAct 75 = .ok (.aload_n 0, 1) := by decide +kernel
theorem dX8_keepsAct_76 : decode cX8_keepsAct 76 = .ok (.getfield 13, 3) := by decide +kernel
theorem dX8_keepsAct_79 : decode cX8_keepsAct 79 = .ok (.iload_n 1, 1) := by decide +kernel
theorem dX8_keepsAct_80 : decode cX8_keepsAct 80 = .ok (.iaload, 1) := by decide +kernel
theorem dX8_keepsAct_81 : decode cX8_keepsAct 81 = .ok (.iastore, 1) := by decide +kernel
theorem dX8_keepsAct_82 : decode cX8_keepsAct 82 = .ok (.iinc 1 1, 3) := by decide +kernel
theorem dX8_keepsAct_85 : decode cX8_keepsAct 85 = .ok (.goto (-31), 3) := by decide +kernel
theorem dX8_keepsAct_88 : decode cX8_keepsAct 88 = .ok (.aload_n 0, 1) := by decide +kernel
theorem dX8_keepsAct_89 : decode cX8_keepsAct 89 = .ok (.dup, 1) := by decide +kernel
theorem dX8_keepsAct_90 : decode cX8_keepsAct 90 = .ok (.getfield 63, 3) := by decide +kernel
theorem dX8_keepsAct_93 : decode cX8_keepsAct 93 = .ok (.iconst 1, 1) := by decide +kernel
theorem dX8_keepsAct_94 : decode cX8_keepsAct 94 = .ok (.iadd, 1) := by decide +kernel
theorem dX8_keepsAct_95 : decode cX8_keepsAct 95 = .ok (.putfield 63, 3) := by decide +kernel
theorem dX8_keepsAct_98 : decode cX8_keepsAct 98 = .ok (.aload_n 0, 1) := by decide +kernel
theorem dX8_keepsAct_99 : decode cX8_keepsAct 99 = .ok (.getfield 7, 3) := by decide +kernel
theorem dX8_keepsAct_102 : decode cX8_keepsAct 102 = .ok (.iconst 3, 1) := by decide +kernel
theorem dX8_keepsAct_103 : decode cX8_keepsAct 103 = .ok (.dup2, 1) := by decide +kernel
theorem dX8_keepsAct_104 : decode cX8_keepsAct 104 = .ok (.iaload, 1) := by decide +kernel
theorem dX8_keepsAct_105 : decode cX8_keepsAct 105 = .ok (.iconst 1, 1) := by decide +kernel
theorem dX8_keepsAct_106 : decode cX8_keepsAct 106 = .ok (.iadd, 1) := by decide +kernel
theorem dX8_keepsAct_107 : decode cX8_keepsAct 107 = .ok (.iastore, 1) := by decide +kernel
theorem dX8_keepsAct_108 : decode cX8_keepsAct 108 = .ok (.aload_n 0, 1) := by decide +kernel
theorem dX8_keepsAct_109 : decode cX8_keepsAct 109 = .ok (.iconst 1, 1) := by decide +kernel
theorem dX8_keepsAct_110 : decode cX8_keepsAct 110 = .ok (.putfield 67, 3) := by decide +kernel
theorem dX8_keepsAct_113 : decode cX8_keepsAct 113 = .ok (.return_, 1) := by decide +kernel
abbrev mX8_keepsAct : XM := (cX8_keepsAct, 2, RX8, none, shw_8, 0)
noncomputable def rg_X8_keepsAct_0 (k52 : XK) (k13 : XK) : XK :=
 o_aload 0 <|
 o_get shw_8 8 3 <|
 o_iconst 12 <|
 o_icmp_ne (o_cut [] k52)
 (o_iconst 735 <|
 o_istore 1 <|
 o_cut [] k13)
def en_X8_keepsAct_0 (a : Ob) : XSt := ([some (.inr (.inl (0, 0))), none], [], [a])
noncomputable def rg_X8_keepsAct_13 (k52 : XK) (k13 : XK) : XK :=
 o_iload 1 <|
 o_iconst 8820 <|
 o_icmp_ge (o_aload 0 <|
 o_dup <|
 o_get shw_8 8 3 <|
 o_iconst 1 <|
 o_isub <|
 o_put shw_8 8 3 false <|
 o_cut [1] k52)
 (o_aload 0 <|
 o_get shw_8 8 2 <|
 o_iload 1 <|
 o_iconst 735 <|
 o_isub <|
 o_aload 0 <|
 o_get shw_8 8 2 <|
 o_iload 1 <|
 o_iald shw_8 <|
 o_iast shw_8 <|
 o_iinc 1 1 <|
 o_cut [] k13)
def en_X8_keepsAct_13 (a : Int × Ob) : XSt := ([some (.inr (.inl (0, 0))), some (.inl a.1)], [], [a.2])
noncomputable def rg_X8_keepsAct_52 (k54 : XK) : XK :=
 o_iconst 0 <|
 o_istore 1 <|
 o_cut [] k54
def en_X8_keepsAct_52 (a : Ob) : XSt := ([some (.inr (.inl (0, 0))), none], [], [a])
noncomputable def rg_X8_keepsAct_54 (k54 : XK) : XK :=
 o_iload 1 <|
 o_iconst 735 <|
 o_icmp_ge (o_aload 0 <|
 o_dup <|
 o_get shw_8 8 3 <|
 o_iconst 1 <|
 o_iadd <|
 o_put shw_8 8 3 false <|
 o_aload 0 <|
 o_get shw_8 8 0 <|
 o_iconst 3 <|
 o_dup2 <|
 o_iald shw_8 <|
 o_iconst 1 <|
 o_iadd <|
 o_iast shw_8 <|
 o_aload 0 <|
 o_iconst 1 <|
 o_put shw_8 8 4 true <|
 o_return)
 (o_aload 0 <|
 o_get shw_8 8 2 <|
 o_iconst 735 <|
 o_aload 0 <|
 o_get shw_8 8 3 <|
 o_imul <|
 o_iload 1 <|
 o_iadd <|
 o_aload 0 <|
 o_get shw_8 8 1 <|
 o_iload 1 <|
 o_iald shw_8 <|
 o_iast shw_8 <|
 o_iinc 1 1 <|
 o_cut [] k54)
def en_X8_keepsAct_54 (a : Int × Ob) : XSt := ([some (.inr (.inl (0, 0))), some (.inl a.1)], [], [a.2])
noncomputable def mg_X8_keepsAct_0 (k52 : Ob → Option Rt) (k13 : (Int × Ob) → Option Rt) (a : Ob) : Option Rt :=
 if xw (a 0 3) = 12 then (k13 (735, a))
 else (k52 a)
set_option maxRecDepth 100000 in
set_option maxHeartbeats 4000000 in
theorem rq_X8_keepsAct_0 (k52 : XK) (k13 : XK) (a : Ob) : rg_X8_keepsAct_0 k52 k13 (en_X8_keepsAct_0 a) = mg_X8_keepsAct_0 (fun b => k52 (en_X8_keepsAct_52 b)) (fun b => k13 (en_X8_keepsAct_13 b)) a := rfl
set_option maxRecDepth 100000 in
set_option maxHeartbeats 4000000 in
theorem sg_X8_keepsAct_0 {X : XDyn} {r0 : Rt} (C : XO X mX8_keepsAct) {k52 : XK} (q52 : XS X mX8_keepsAct r0 52 k52) {k13 : XK} (q13 : XS X mX8_keepsAct r0 13 k13) : XS X mX8_keepsAct r0 0 (rg_X8_keepsAct_0 k52 k13) := by
 unfold rg_X8_keepsAct_0
 exact s_aload_n (pc := 0) C dX8_keepsAct_0 rfl <|
    s_get (pc := 1) C (ci := 8) (kf := 3) rfl inX8 (by decide) wd_874 dX8_keepsAct_1 <|
    s_bipush (pc := 4) C dX8_keepsAct_4 (by decide) <|
    s_icmp_ne (pc := 6) C dX8_keepsAct_6 (by decide) (s_cut q52)
    (s_sipush (pc := 9) C dX8_keepsAct_9 (by decide) <|
    s_istore_n (pc := 12) C dX8_keepsAct_12 rfl <|
    s_cut q13)
noncomputable def mg_X8_keepsAct_13 (k52 : Ob → Option Rt) (k13 : (Int × Ob) → Option Rt) (a : Int × Ob) : Option Rt :=
 if xw a.1 ≥ 8820 then (k52 (xset a.2 0 3 ((a.2 0 3) - 1)))
 else (if xin a.1 8820 then (
 if xin (a.1 - 735) 8820 then (
 k13 ((a.1 + 1), (xset a.2 3 (xw (a.1 - 735)).toNat (a.2 3 (xw a.1).toNat)))) else none) else none)
set_option maxRecDepth 100000 in
set_option maxHeartbeats 4000000 in
theorem rq_X8_keepsAct_13 (k52 : XK) (k13 : XK) (a : Int × Ob) : rg_X8_keepsAct_13 k52 k13 (en_X8_keepsAct_13 a) = mg_X8_keepsAct_13 (fun b => k52 (en_X8_keepsAct_52 b)) (fun b => k13 (en_X8_keepsAct_13 b)) a := rfl
set_option maxRecDepth 100000 in
set_option maxHeartbeats 4000000 in
theorem sg_X8_keepsAct_13 {X : XDyn} {r0 : Rt} (C : XO X mX8_keepsAct) {k52 : XK} (q52 : XS X mX8_keepsAct r0 52 k52) {k13 : XK} (q13 : XS X mX8_keepsAct r0 13 k13) : XS X mX8_keepsAct r0 13 (rg_X8_keepsAct_13 k52 k13) := by
 unfold rg_X8_keepsAct_13
 exact s_iload_n (pc := 13) C dX8_keepsAct_13 rfl <|
    s_sipush (pc := 14) C dX8_keepsAct_14 (by decide) <|
    s_icmp_ge (pc := 17) C dX8_keepsAct_17 (by decide) (s_aload_n (pc := 42) C dX8_keepsAct_42 rfl <|
    s_dup (pc := 43) C dX8_keepsAct_43 <|
    s_get (pc := 44) C (ci := 8) (kf := 3) rfl inX8 (by decide) wd_874 dX8_keepsAct_44 <|
    s_iconst (pc := 47) C dX8_keepsAct_47 <|
    s_isub (pc := 48) C dX8_keepsAct_48 <|
    s_put (pc := 49) (z := false) C (ci := 8) (kf := 3) rfl inX8 tyX8_ok nmX8 (by decide) wd_874 rfl rfl dX8_keepsAct_49 <|
    s_cut q52)
    (s_aload_n (pc := 20) C dX8_keepsAct_20 rfl <|
    s_get (pc := 21) C (ci := 8) (kf := 2) rfl inX8 (by decide) wd_873 dX8_keepsAct_21 <|
    s_iload_n (pc := 24) C dX8_keepsAct_24 rfl <|
    s_sipush (pc := 25) C dX8_keepsAct_25 (by decide) <|
    s_isub (pc := 28) C dX8_keepsAct_28 <|
    s_aload_n (pc := 29) C dX8_keepsAct_29 rfl <|
    s_get (pc := 30) C (ci := 8) (kf := 2) rfl inX8 (by decide) wd_873 dX8_keepsAct_30 <|
    s_iload_n (pc := 33) C dX8_keepsAct_33 rfl <|
    s_iald (pc := 34) C dX8_keepsAct_34 <|
    s_iast (pc := 35) C dX8_keepsAct_35 <|
    s_iinc (pc := 36) C dX8_keepsAct_36 <|
    s_goto (pc := 39) C dX8_keepsAct_39 (by decide) <|
    s_cut q13)
noncomputable def mg_X8_keepsAct_52 (k54 : (Int × Ob) → Option Rt) (a : Ob) : Option Rt :=
 k54 (0, a)
set_option maxRecDepth 100000 in
set_option maxHeartbeats 4000000 in
theorem rq_X8_keepsAct_52 (k54 : XK) (a : Ob) : rg_X8_keepsAct_52 k54 (en_X8_keepsAct_52 a) = mg_X8_keepsAct_52 (fun b => k54 (en_X8_keepsAct_54 b)) a := rfl
set_option maxRecDepth 100000 in
set_option maxHeartbeats 4000000 in
theorem sg_X8_keepsAct_52 {X : XDyn} {r0 : Rt} (C : XO X mX8_keepsAct) {k54 : XK} (q54 : XS X mX8_keepsAct r0 54 k54) : XS X mX8_keepsAct r0 52 (rg_X8_keepsAct_52 k54) := by
 unfold rg_X8_keepsAct_52
 exact s_iconst (pc := 52) C dX8_keepsAct_52 <|
    s_istore_n (pc := 53) C dX8_keepsAct_53 rfl <|
    s_cut q54
noncomputable def mg_X8_keepsAct_54 (k54 : (Int × Ob) → Option Rt) (a : Int × Ob) : Option Rt :=
 if xw a.1 ≥ 735 then (RV [(xset (xset (xset a.2 0 3 ((a.2 0 3) + 1)) 1 3 (((xset a.2 0 3 ((a.2 0 3) + 1)) 1 3) + 1)) 0 4 1)])
 else (if xin a.1 735 then (
 if xin ((735 * (a.2 0 3)) + a.1) 8820 then (
 k54 ((a.1 + 1), (xset a.2 3 (xw ((735 * (a.2 0 3)) + a.1)).toNat (a.2 2 (xw a.1).toNat)))) else none) else none)
set_option maxRecDepth 100000 in
set_option maxHeartbeats 4000000 in
theorem rq_X8_keepsAct_54 (k54 : XK) (a : Int × Ob) : rg_X8_keepsAct_54 k54 (en_X8_keepsAct_54 a) = mg_X8_keepsAct_54 (fun b => k54 (en_X8_keepsAct_54 b)) a := rfl
set_option maxRecDepth 100000 in
set_option maxHeartbeats 4000000 in
theorem sg_X8_keepsAct_54 {X : XDyn} {r0 : Rt} (C : XO X mX8_keepsAct) {k54 : XK} (q54 : XS X mX8_keepsAct r0 54 k54) : XS X mX8_keepsAct r0 54 (rg_X8_keepsAct_54 k54) := by
 unfold rg_X8_keepsAct_54
 exact s_iload_n (pc := 54) C dX8_keepsAct_54 rfl <|
    s_sipush (pc := 55) C dX8_keepsAct_55 (by decide) <|
    s_icmp_ge (pc := 58) C dX8_keepsAct_58 (by decide) (s_aload_n (pc := 88) C dX8_keepsAct_88 rfl <|
    s_dup (pc := 89) C dX8_keepsAct_89 <|
    s_get (pc := 90) C (ci := 8) (kf := 3) rfl inX8 (by decide) wd_874 dX8_keepsAct_90 <|
    s_iconst (pc := 93) C dX8_keepsAct_93 <|
    s_iadd (pc := 94) C dX8_keepsAct_94 <|
    s_put (pc := 95) (z := false) C (ci := 8) (kf := 3) rfl inX8 tyX8_ok nmX8 (by decide) wd_874 rfl rfl dX8_keepsAct_95 <|
    s_aload_n (pc := 98) C dX8_keepsAct_98 rfl <|
    s_get (pc := 99) C (ci := 8) (kf := 0) rfl inX8 (by decide) wd_871 dX8_keepsAct_99 <|
    s_iconst (pc := 102) C dX8_keepsAct_102 <|
    s_dup2 (pc := 103) C dX8_keepsAct_103 <|
    s_iald (pc := 104) C dX8_keepsAct_104 <|
    s_iconst (pc := 105) C dX8_keepsAct_105 <|
    s_iadd (pc := 106) C dX8_keepsAct_106 <|
    s_iast (pc := 107) C dX8_keepsAct_107 <|
    s_aload_n (pc := 108) C dX8_keepsAct_108 rfl <|
    s_iconst (pc := 109) C dX8_keepsAct_109 <|
    s_put (pc := 110) (z := true) C (ci := 8) (kf := 4) rfl inX8 tyX8_ok nmX8 (by decide) wd_875 rfl rfl dX8_keepsAct_110 <|
    s_return (pc := 113) C rfl dX8_keepsAct_113)
    (s_aload_n (pc := 61) C dX8_keepsAct_61 rfl <|
    s_get (pc := 62) C (ci := 8) (kf := 2) rfl inX8 (by decide) wd_873 dX8_keepsAct_62 <|
    s_sipush (pc := 65) C dX8_keepsAct_65 (by decide) <|
    s_aload_n (pc := 68) C dX8_keepsAct_68 rfl <|
    s_get (pc := 69) C (ci := 8) (kf := 3) rfl inX8 (by decide) wd_874 dX8_keepsAct_69 <|
    s_imul (pc := 72) C dX8_keepsAct_72 <|
    s_iload_n (pc := 73) C dX8_keepsAct_73 rfl <|
    s_iadd (pc := 74) C dX8_keepsAct_74 <|
    s_aload_n (pc := 75) C dX8_keepsAct_75 rfl <|
    s_get (pc := 76) C (ci := 8) (kf := 1) rfl inX8 (by decide) wd_872 dX8_keepsAct_76 <|
    s_iload_n (pc := 79) C dX8_keepsAct_79 rfl <|
    s_iald (pc := 80) C dX8_keepsAct_80 <|
    s_iast (pc := 81) C dX8_keepsAct_81 <|
    s_iinc (pc := 82) C dX8_keepsAct_82 <|
    s_goto (pc := 85) C dX8_keepsAct_85 (by decide) <|
    s_cut q54)
noncomputable def rw_X8_keepsAct_54 (f : Nat) : XK := tlp (fun k54 => rg_X8_keepsAct_54 k54) f
noncomputable def lb_X8_keepsAct_54 (f : Nat) : ((Int × Ob) → Option Rt) → Int × Ob → Option Rt := fun k54 => mg_X8_keepsAct_54 k54
noncomputable def md_X8_keepsAct_54 (f : Nat) : Int × Ob → Option Rt := tlp (lb_X8_keepsAct_54 f) f
theorem eq_X8_keepsAct_54 (f : Nat) (a : Int × Ob) : rw_X8_keepsAct_54 f (en_X8_keepsAct_54 a) = md_X8_keepsAct_54 f a :=
 tlp_enc (en_X8_keepsAct_54) (fun k54 a => (rq_X8_keepsAct_54 k54 a).trans (congrFun (congr (rfl : mg_X8_keepsAct_54 = mg_X8_keepsAct_54) rfl) a)) f a
theorem sd_X8_keepsAct_54 (f : Nat) {X : XDyn} {r0 : Rt} (C : XO X mX8_keepsAct) : XS X mX8_keepsAct r0 54 (rw_X8_keepsAct_54 f) := s_lp (fun k54 q54 => sg_X8_keepsAct_54 C q54) f
noncomputable def rw_X8_keepsAct_52 (f : Nat) : XK := rg_X8_keepsAct_52 (rw_X8_keepsAct_54 f)
noncomputable def md_X8_keepsAct_52 (f : Nat) : Ob → Option Rt := mg_X8_keepsAct_52 (md_X8_keepsAct_54 f)
theorem eq_X8_keepsAct_52 (f : Nat) (a : Ob) : rw_X8_keepsAct_52 f (en_X8_keepsAct_52 a) = md_X8_keepsAct_52 f a :=
 (rq_X8_keepsAct_52 (rw_X8_keepsAct_54 f) a).trans (congrFun (congr (rfl : mg_X8_keepsAct_52 = mg_X8_keepsAct_52) (funext (eq_X8_keepsAct_54 f))) a)
theorem sd_X8_keepsAct_52 (f : Nat) {X : XDyn} {r0 : Rt} (C : XO X mX8_keepsAct) : XS X mX8_keepsAct r0 52 (rw_X8_keepsAct_52 f) := sg_X8_keepsAct_52 C (sd_X8_keepsAct_54 f C)
noncomputable def rw_X8_keepsAct_13 (f : Nat) : XK := tlp (fun k13 => rg_X8_keepsAct_13 (rw_X8_keepsAct_52 f) k13) f
noncomputable def lb_X8_keepsAct_13 (f : Nat) : ((Int × Ob) → Option Rt) → Int × Ob → Option Rt := fun k13 => mg_X8_keepsAct_13 (md_X8_keepsAct_52 f) k13
noncomputable def md_X8_keepsAct_13 (f : Nat) : Int × Ob → Option Rt := tlp (lb_X8_keepsAct_13 f) f
theorem eq_X8_keepsAct_13 (f : Nat) (a : Int × Ob) : rw_X8_keepsAct_13 f (en_X8_keepsAct_13 a) = md_X8_keepsAct_13 f a :=
 tlp_enc (en_X8_keepsAct_13) (fun k13 a => (rq_X8_keepsAct_13 (rw_X8_keepsAct_52 f) k13 a).trans (congrFun (congr (congr (rfl : mg_X8_keepsAct_13 = mg_X8_keepsAct_13) (funext (eq_X8_keepsAct_52 f))) rfl) a)) f a
theorem sd_X8_keepsAct_13 (f : Nat) {X : XDyn} {r0 : Rt} (C : XO X mX8_keepsAct) : XS X mX8_keepsAct r0 13 (rw_X8_keepsAct_13 f) := s_lp (fun k13 q13 => sg_X8_keepsAct_13 C (sd_X8_keepsAct_52 f C) q13) f
noncomputable def rw_X8_keepsAct_0 (f : Nat) : XK := rg_X8_keepsAct_0 (rw_X8_keepsAct_52 f) (rw_X8_keepsAct_13 f)
noncomputable def md_X8_keepsAct_0 (f : Nat) : Ob → Option Rt := mg_X8_keepsAct_0 (md_X8_keepsAct_52 f) (md_X8_keepsAct_13 f)
theorem eq_X8_keepsAct_0 (f : Nat) (a : Ob) : rw_X8_keepsAct_0 f (en_X8_keepsAct_0 a) = md_X8_keepsAct_0 f a :=
 (rq_X8_keepsAct_0 (rw_X8_keepsAct_52 f) (rw_X8_keepsAct_13 f) a).trans (congrFun (congr (congr (rfl : mg_X8_keepsAct_0 = mg_X8_keepsAct_0) (funext (eq_X8_keepsAct_52 f))) (funext (eq_X8_keepsAct_13 f))) a)
theorem sd_X8_keepsAct_0 (f : Nat) {X : XDyn} {r0 : Rt} (C : XO X mX8_keepsAct) : XS X mX8_keepsAct r0 0 (rw_X8_keepsAct_0 f) := sg_X8_keepsAct_0 C (sd_X8_keepsAct_52 f C) (sd_X8_keepsAct_13 f C)
theorem ctr_X8_keepsAct (f : Nat) : XCt yX8_keepsAct mX8_keepsAct (xF mX8_keepsAct (rw_X8_keepsAct_0 f)) := xMet (by decide +kernel) rfl (fun _ _ C => sd_X8_keepsAct_0 f C)
theorem eqf_X8_keepsAct (f : Nat) (h0 : Ob) : xF mX8_keepsAct (rw_X8_keepsAct_0 f) [.inr (.inl (0, 0))] [h0] = md_X8_keepsAct_0 f h0 := eq_X8_keepsAct_0 f h0
theorem yi_X8_keepsAct : yX8_keepsAct.cls = RX8 ∧ yX8_keepsAct.cls ≠ "java/lang/invoke/MethodHandle" ∧ yX8_keepsAct.cls ≠ "java/lang/invoke/VarHandle" ∧ (parseMethodDescriptor yX8_keepsAct.desc).map (fun d => d.parameters.length) = some 0 := ⟨rfl, by decide +kernel, by decide +kernel, by decide +kernel⟩
noncomputable def ov_X8_keepsAct (h0 : Ob) : Option Rt := xop (md_X8_keepsAct_0 xfu h0)
theorem ov_X8_keepsAct_e (h0 : Ob) : ov_X8_keepsAct h0 = md_X8_keepsAct_0 xfu h0 := xop_eq _
theorem sp_X8_keepsAct (h0 : Ob) (hg : oqV (ov_X8_keepsAct h0) = true) : md_X8_keepsAct_0 xfu h0 = RV [(oqO (ov_X8_keepsAct h0) 0)] := (ov_X8_keepsAct_e h0).symm.trans (oqV_eq hg)
noncomputable def g_X8_keepsAct : List AV → List Ob → Bool
  | [.inr (.inl (0, 0))], [h0] => oqV (ov_X8_keepsAct h0)
  | _, _ => false
noncomputable def v_X8_keepsAct : List AV → List Ob → Rt
  | [.inr (.inl (0, 0))], [h0] => (none, [(oqO (ov_X8_keepsAct h0) 0)])
  | _, _ => (none, [])
theorem ct_X8_keepsAct : XCt yX8_keepsAct mX8_keepsAct (fun as μ => if g_X8_keepsAct as μ then some (v_X8_keepsAct as μ) else none) := (ctr_X8_keepsAct xfu).of (fun as μ r h => by
  split at h
  · rename_i hg
    unfold g_X8_keepsAct at hg
    split at hg
    · rw [← h]
      exact (eqf_X8_keepsAct xfu _).trans (sp_X8_keepsAct _ hg)
    · cases hg
  · cases h)
theorem dX8_touches_0 : decode cX8_touches 0 = .ok (.aload_n 0, 1) := by decide +kernel
theorem dX8_touches_1 : decode cX8_touches 1 = .ok (.getfield 7, 3) := by decide +kernel
theorem dX8_touches_4 : decode cX8_touches 4 = .ok (.bipush 61, 2) := by decide +kernel
theorem dX8_touches_6 : decode cX8_touches 6 = .ok (.iload_n 1, 1) := by decide +kernel
theorem dX8_touches_7 : decode cX8_touches 7 = .ok (.iadd, 1) := by decide +kernel
theorem dX8_touches_8 : decode cX8_touches 8 = .ok (.aload_n 0, 1) := by decide +kernel
theorem dX8_touches_9 : decode cX8_touches 9 = .ok (.getfield 7, 3) := by decide +kernel
theorem dX8_touches_12 : decode cX8_touches 12 = .ok (.iconst 3, 1) := by decide +kernel
theorem dX8_touches_13 : decode cX8_touches 13 = .ok (.iaload, 1) := by decide +kernel
theorem dX8_touches_14 : decode cX8_touches 14 = .ok (.iastore, 1) := by decide +kernel
theorem dX8_touches_15 : decode cX8_touches 15 = .ok (.return_, 1) := by decide +kernel
abbrev mX8_touches : XM := (cX8_touches, 2, RX8, none, shw_8, 0)
noncomputable def rg_X8_touches_0 : XK :=
 o_aload 0 <|
 o_get shw_8 8 0 <|
 o_iconst 61 <|
 o_iload 1 <|
 o_iadd <|
 o_aload 0 <|
 o_get shw_8 8 0 <|
 o_iconst 3 <|
 o_iald shw_8 <|
 o_iast shw_8 <|
 o_return
def en_X8_touches_0 (p1 : Int) (a : Ob) : XSt := ([some (.inr (.inl (0, 0))), some (.inl p1)], [], [a])
noncomputable def mg_X8_touches_0 (p1 : Int) (a : Ob) : Option Rt :=
 if xin (61 + p1) 735 then (
 RV [(xset a 1 (xw (61 + p1)).toNat (a 1 3))]) else none
set_option maxRecDepth 100000 in
set_option maxHeartbeats 4000000 in
theorem rq_X8_touches_0 (p1 : Int) (a : Ob) : rg_X8_touches_0 (en_X8_touches_0 p1 a) = mg_X8_touches_0 p1 a := rfl
set_option maxRecDepth 100000 in
set_option maxHeartbeats 4000000 in
theorem sg_X8_touches_0 {X : XDyn} {r0 : Rt} (C : XO X mX8_touches) : XS X mX8_touches r0 0 (rg_X8_touches_0) := by
 unfold rg_X8_touches_0
 exact s_aload_n (pc := 0) C dX8_touches_0 rfl <|
    s_get (pc := 1) C (ci := 8) (kf := 0) rfl inX8 (by decide) wd_871 dX8_touches_1 <|
    s_bipush (pc := 4) C dX8_touches_4 (by decide) <|
    s_iload_n (pc := 6) C dX8_touches_6 rfl <|
    s_iadd (pc := 7) C dX8_touches_7 <|
    s_aload_n (pc := 8) C dX8_touches_8 rfl <|
    s_get (pc := 9) C (ci := 8) (kf := 0) rfl inX8 (by decide) wd_871 dX8_touches_9 <|
    s_iconst (pc := 12) C dX8_touches_12 <|
    s_iald (pc := 13) C dX8_touches_13 <|
    s_iast (pc := 14) C dX8_touches_14 <|
    s_return (pc := 15) C rfl dX8_touches_15
noncomputable def rw_X8_touches_0 : XK := rg_X8_touches_0
noncomputable def md_X8_touches_0 (p1 : Int) : Ob → Option Rt := mg_X8_touches_0 p1
theorem eq_X8_touches_0 (p1 : Int) (a : Ob) : rw_X8_touches_0 (en_X8_touches_0 p1 a) = md_X8_touches_0 p1 a :=
 rq_X8_touches_0 p1 a
theorem sd_X8_touches_0 {X : XDyn} {r0 : Rt} (C : XO X mX8_touches) : XS X mX8_touches r0 0 (rw_X8_touches_0) := sg_X8_touches_0 C
theorem ctr_X8_touches : XCt yX8_touches mX8_touches (xF mX8_touches (rw_X8_touches_0)) := xMet (by decide +kernel) rfl (fun _ _ C => sd_X8_touches_0 C)
theorem eqf_X8_touches (p1 : Int) (h0 : Ob) : xF mX8_touches (rw_X8_touches_0) [.inr (.inl (0, 0)), .inl p1] [h0] = md_X8_touches_0 p1 h0 := eq_X8_touches_0 p1 h0
theorem yi_X8_touches : yX8_touches.cls = RX8 ∧ yX8_touches.cls ≠ "java/lang/invoke/MethodHandle" ∧ yX8_touches.cls ≠ "java/lang/invoke/VarHandle" ∧ (parseMethodDescriptor yX8_touches.desc).map (fun d => d.parameters.length) = some 1 := ⟨rfl, by decide +kernel, by decide +kernel, by decide +kernel⟩
noncomputable def ov_X8_touches (p1 : Int) (h0 : Ob) : Option Rt := xop (md_X8_touches_0 p1 h0)
theorem ov_X8_touches_e (p1 : Int) (h0 : Ob) : ov_X8_touches p1 h0 = md_X8_touches_0 p1 h0 := xop_eq _
theorem sp_X8_touches (p1 : Int) (h0 : Ob) (hg : oqV (ov_X8_touches p1 h0) = true) : md_X8_touches_0 p1 h0 = RV [(oqO (ov_X8_touches p1 h0) 0)] := (ov_X8_touches_e p1 h0).symm.trans (oqV_eq hg)
noncomputable def g_X8_touches : List AV → List Ob → Bool
  | [.inr (.inl (0, 0)), .inl p1], [h0] => oqV (ov_X8_touches p1 h0)
  | _, _ => false
noncomputable def v_X8_touches : List AV → List Ob → Rt
  | [.inr (.inl (0, 0)), .inl p1], [h0] => (none, [(oqO (ov_X8_touches p1 h0) 0)])
  | _, _ => (none, [])
theorem ct_X8_touches : XCt yX8_touches mX8_touches (fun as μ => if g_X8_touches as μ then some (v_X8_touches as μ) else none) := (ctr_X8_touches ).of (fun as μ r h => by
  split at h
  · rename_i hg
    unfold g_X8_touches at hg
    split at hg
    · rw [← h]
      exact (eqf_X8_touches _ _).trans (sp_X8_touches _ _ hg)
    · cases hg
  · cases h)
theorem dX8_undo_0 : decode cX8_undo 0 = .ok (.aload_n 0, 1) := by decide +kernel
theorem dX8_undo_1 : decode cX8_undo 1 = .ok (.getfield 63, 3) := by decide +kernel
theorem dX8_undo_4 : decode cX8_undo 4 = .ok (.ifCond .ne 5, 3) := by decide +kernel
theorem dX8_undo_7 : decode cX8_undo 7 = .ok (.iconst (-1), 1) := by decide +kernel
theorem dX8_undo_8 : decode cX8_undo 8 = .ok (.ireturn, 1) := by decide +kernel
theorem dX8_undo_9 : decode cX8_undo 9 = .ok (.aload_n 0, 1) := by decide +kernel
theorem dX8_undo_10 : decode cX8_undo 10 = .ok (.dup, 1) := by decide +kernel
theorem dX8_undo_11 : decode cX8_undo 11 = .ok (.getfield 63, 3) := by decide +kernel
theorem dX8_undo_14 : decode cX8_undo 14 = .ok (.iconst 1, 1) := by decide +kernel
theorem dX8_undo_15 : decode cX8_undo 15 = .ok (.isub, 1) := by decide +kernel
theorem dX8_undo_16 : decode cX8_undo 16 = .ok (.putfield 63, 3) := by decide +kernel
theorem dX8_undo_19 : decode cX8_undo 19 = .ok (.iconst 0, 1) := by decide +kernel
theorem dX8_undo_20 : decode cX8_undo 20 = .ok (.istore_n 1, 1) := by decide +kernel
theorem dX8_undo_21 : decode cX8_undo 21 = .ok (.iload_n 1, 1) := by decide +kernel
theorem dX8_undo_22 : decode cX8_undo 22 = .ok (.sipush 735, 3) := by decide +kernel
theorem dX8_undo_25 : decode cX8_undo 25 = .ok (.if_icmp .ge 30, 3) := by decide +kernel
theorem dX8_undo_28 : decode cX8_undo 28 = .ok (.aload_n 0, 1) := by decide +kernel
theorem dX8_undo_29 : decode cX8_undo 29 = .ok (.getfield 7, 3) := by decide +kernel
theorem dX8_undo_32 : decode cX8_undo 32 = .ok (.iload_n 1, 1) := by decide +kernel
theorem dX8_undo_33 : decode cX8_undo 33 = .ok (.aload_n 0, 1) := by decide +kernel
theorem dX8_undo_34 : decode cX8_undo 34 = .ok (.getfield 16, 3) := by decide +kernel
theorem dX8_undo_37 : decode cX8_undo 37 = .ok (.sipush 735, 3) := by decide +kernel
theorem dX8_undo_40 : decode cX8_undo 40 = .ok (.aload_n 0, 1) := by decide +kernel
theorem dX8_undo_41 : decode cX8_undo 41 = .ok (.getfield 63, 3) := by decide +kernel
theorem dX8_undo_44 : decode cX8_undo 44 = .ok (.imul, 1) := by decide +kernel
theorem dX8_undo_45 : decode cX8_undo 45 = .ok (.iload_n 1, 1) := by decide +kernel
theorem dX8_undo_46 : decode cX8_undo 46 = .ok (.iadd, 1) := by decide +kernel
theorem dX8_undo_47 : decode cX8_undo 47 = .ok (.iaload, 1) := by decide +kernel
theorem dX8_undo_48 : decode cX8_undo 48 = .ok (.iastore, 1) := by decide +kernel
theorem dX8_undo_49 : decode cX8_undo 49 = .ok (.iinc 1 1, 3) := by decide +kernel
theorem dX8_undo_52 : decode cX8_undo 52 = .ok (.goto (-31), 3) := by decide +kernel
theorem dX8_undo_55 : decode cX8_undo 55 = .ok (.aload_n 0, 1) := by decide +kernel
theorem dX8_undo_56 : decode cX8_undo 56 = .ok (.iconst 0, 1) := by decide +kernel
theorem dX8_undo_57 : decode cX8_undo 57 = .ok (.putfield 67, 3) := by decide +kernel
theorem dX8_undo_60 : decode cX8_undo 60 = .ok (.aload_n 0, 1) := by decide +kernel
theorem dX8_undo_61 : decode cX8_undo 61 = .ok (.getfield 63, 3) := by decide +kernel
theorem dX8_undo_64 : decode cX8_undo 64 = .ok (.ireturn, 1) := by decide +kernel
abbrev mX8_undo : XM := (cX8_undo, 2, RX8, (some .int), shw_8, 0)
noncomputable def rg_X8_undo_0 (k21 : XK) : XK :=
 o_aload 0 <|
 o_get shw_8 8 3 <|
 o_if_ne (o_aload 0 <|
 o_dup <|
 o_get shw_8 8 3 <|
 o_iconst 1 <|
 o_isub <|
 o_put shw_8 8 3 false <|
 o_iconst 0 <|
 o_istore 1 <|
 o_cut [] k21)
 (o_iconst (-1) <|
 o_ireturn)
def en_X8_undo_0 (a : Ob) : XSt := ([some (.inr (.inl (0, 0))), none], [], [a])
noncomputable def rg_X8_undo_21 (k21 : XK) : XK :=
 o_iload 1 <|
 o_iconst 735 <|
 o_icmp_ge (o_aload 0 <|
 o_iconst 0 <|
 o_put shw_8 8 4 true <|
 o_aload 0 <|
 o_get shw_8 8 3 <|
 o_ireturn)
 (o_aload 0 <|
 o_get shw_8 8 0 <|
 o_iload 1 <|
 o_aload 0 <|
 o_get shw_8 8 2 <|
 o_iconst 735 <|
 o_aload 0 <|
 o_get shw_8 8 3 <|
 o_imul <|
 o_iload 1 <|
 o_iadd <|
 o_iald shw_8 <|
 o_iast shw_8 <|
 o_iinc 1 1 <|
 o_cut [] k21)
def en_X8_undo_21 (a : Int × Ob) : XSt := ([some (.inr (.inl (0, 0))), some (.inl a.1)], [], [a.2])
noncomputable def mg_X8_undo_0 (k21 : (Int × Ob) → Option Rt) (a : Ob) : Option Rt :=
 if xw (a 0 3) = 0 then (RI (-1) [a])
 else (k21 (0, (xset a 0 3 ((a 0 3) - 1))))
set_option maxRecDepth 100000 in
set_option maxHeartbeats 4000000 in
theorem rq_X8_undo_0 (k21 : XK) (a : Ob) : rg_X8_undo_0 k21 (en_X8_undo_0 a) = mg_X8_undo_0 (fun b => k21 (en_X8_undo_21 b)) a := rfl
set_option maxRecDepth 100000 in
set_option maxHeartbeats 4000000 in
theorem sg_X8_undo_0 {X : XDyn} {r0 : Rt} (C : XO X mX8_undo) {k21 : XK} (q21 : XS X mX8_undo r0 21 k21) : XS X mX8_undo r0 0 (rg_X8_undo_0 k21) := by
 unfold rg_X8_undo_0
 exact s_aload_n (pc := 0) C dX8_undo_0 rfl <|
    s_get (pc := 1) C (ci := 8) (kf := 3) rfl inX8 (by decide) wd_874 dX8_undo_1 <|
    s_if_ne (pc := 4) C dX8_undo_4 (by decide) (s_aload_n (pc := 9) C dX8_undo_9 rfl <|
    s_dup (pc := 10) C dX8_undo_10 <|
    s_get (pc := 11) C (ci := 8) (kf := 3) rfl inX8 (by decide) wd_874 dX8_undo_11 <|
    s_iconst (pc := 14) C dX8_undo_14 <|
    s_isub (pc := 15) C dX8_undo_15 <|
    s_put (pc := 16) (z := false) C (ci := 8) (kf := 3) rfl inX8 tyX8_ok nmX8 (by decide) wd_874 rfl rfl dX8_undo_16 <|
    s_iconst (pc := 19) C dX8_undo_19 <|
    s_istore_n (pc := 20) C dX8_undo_20 rfl <|
    s_cut q21)
    (s_iconst (pc := 7) C dX8_undo_7 <|
    s_ireturn (pc := 8) C rfl dX8_undo_8)
noncomputable def mg_X8_undo_21 (k21 : (Int × Ob) → Option Rt) (a : Int × Ob) : Option Rt :=
 if xw a.1 ≥ 735 then (RI ((xset a.2 0 4 0) 0 3) [(xset a.2 0 4 0)])
 else (if xin ((735 * (a.2 0 3)) + a.1) 8820 then (
 if xin a.1 735 then (
 k21 ((a.1 + 1), (xset a.2 1 (xw a.1).toNat (a.2 3 (xw ((735 * (a.2 0 3)) + a.1)).toNat)))) else none) else none)
set_option maxRecDepth 100000 in
set_option maxHeartbeats 4000000 in
theorem rq_X8_undo_21 (k21 : XK) (a : Int × Ob) : rg_X8_undo_21 k21 (en_X8_undo_21 a) = mg_X8_undo_21 (fun b => k21 (en_X8_undo_21 b)) a := rfl
set_option maxRecDepth 100000 in
set_option maxHeartbeats 4000000 in
theorem sg_X8_undo_21 {X : XDyn} {r0 : Rt} (C : XO X mX8_undo) {k21 : XK} (q21 : XS X mX8_undo r0 21 k21) : XS X mX8_undo r0 21 (rg_X8_undo_21 k21) := by
 unfold rg_X8_undo_21
 exact s_iload_n (pc := 21) C dX8_undo_21 rfl <|
    s_sipush (pc := 22) C dX8_undo_22 (by decide) <|
    s_icmp_ge (pc := 25) C dX8_undo_25 (by decide) (s_aload_n (pc := 55) C dX8_undo_55 rfl <|
    s_iconst (pc := 56) C dX8_undo_56 <|
    s_put (pc := 57) (z := true) C (ci := 8) (kf := 4) rfl inX8 tyX8_ok nmX8 (by decide) wd_875 rfl rfl dX8_undo_57 <|
    s_aload_n (pc := 60) C dX8_undo_60 rfl <|
    s_get (pc := 61) C (ci := 8) (kf := 3) rfl inX8 (by decide) wd_874 dX8_undo_61 <|
    s_ireturn (pc := 64) C rfl dX8_undo_64)
    (s_aload_n (pc := 28) C dX8_undo_28 rfl <|
    s_get (pc := 29) C (ci := 8) (kf := 0) rfl inX8 (by decide) wd_871 dX8_undo_29 <|
    s_iload_n (pc := 32) C dX8_undo_32 rfl <|
    s_aload_n (pc := 33) C dX8_undo_33 rfl <|
    s_get (pc := 34) C (ci := 8) (kf := 2) rfl inX8 (by decide) wd_873 dX8_undo_34 <|
    s_sipush (pc := 37) C dX8_undo_37 (by decide) <|
    s_aload_n (pc := 40) C dX8_undo_40 rfl <|
    s_get (pc := 41) C (ci := 8) (kf := 3) rfl inX8 (by decide) wd_874 dX8_undo_41 <|
    s_imul (pc := 44) C dX8_undo_44 <|
    s_iload_n (pc := 45) C dX8_undo_45 rfl <|
    s_iadd (pc := 46) C dX8_undo_46 <|
    s_iald (pc := 47) C dX8_undo_47 <|
    s_iast (pc := 48) C dX8_undo_48 <|
    s_iinc (pc := 49) C dX8_undo_49 <|
    s_goto (pc := 52) C dX8_undo_52 (by decide) <|
    s_cut q21)
noncomputable def rw_X8_undo_21 (f : Nat) : XK := tlp (fun k21 => rg_X8_undo_21 k21) f
noncomputable def lb_X8_undo_21 (f : Nat) : ((Int × Ob) → Option Rt) → Int × Ob → Option Rt := fun k21 => mg_X8_undo_21 k21
noncomputable def md_X8_undo_21 (f : Nat) : Int × Ob → Option Rt := tlp (lb_X8_undo_21 f) f
theorem eq_X8_undo_21 (f : Nat) (a : Int × Ob) : rw_X8_undo_21 f (en_X8_undo_21 a) = md_X8_undo_21 f a :=
 tlp_enc (en_X8_undo_21) (fun k21 a => (rq_X8_undo_21 k21 a).trans (congrFun (congr (rfl : mg_X8_undo_21 = mg_X8_undo_21) rfl) a)) f a
theorem sd_X8_undo_21 (f : Nat) {X : XDyn} {r0 : Rt} (C : XO X mX8_undo) : XS X mX8_undo r0 21 (rw_X8_undo_21 f) := s_lp (fun k21 q21 => sg_X8_undo_21 C q21) f
noncomputable def rw_X8_undo_0 (f : Nat) : XK := rg_X8_undo_0 (rw_X8_undo_21 f)
noncomputable def md_X8_undo_0 (f : Nat) : Ob → Option Rt := mg_X8_undo_0 (md_X8_undo_21 f)
theorem eq_X8_undo_0 (f : Nat) (a : Ob) : rw_X8_undo_0 f (en_X8_undo_0 a) = md_X8_undo_0 f a :=
 (rq_X8_undo_0 (rw_X8_undo_21 f) a).trans (congrFun (congr (rfl : mg_X8_undo_0 = mg_X8_undo_0) (funext (eq_X8_undo_21 f))) a)
theorem sd_X8_undo_0 (f : Nat) {X : XDyn} {r0 : Rt} (C : XO X mX8_undo) : XS X mX8_undo r0 0 (rw_X8_undo_0 f) := sg_X8_undo_0 C (sd_X8_undo_21 f C)
theorem ctr_X8_undo (f : Nat) : XCt yX8_undo mX8_undo (xF mX8_undo (rw_X8_undo_0 f)) := xMet (by decide +kernel) rfl (fun _ _ C => sd_X8_undo_0 f C)
theorem eqf_X8_undo (f : Nat) (h0 : Ob) : xF mX8_undo (rw_X8_undo_0 f) [.inr (.inl (0, 0))] [h0] = md_X8_undo_0 f h0 := eq_X8_undo_0 f h0
theorem yi_X8_undo : yX8_undo.cls = RX8 ∧ yX8_undo.cls ≠ "java/lang/invoke/MethodHandle" ∧ yX8_undo.cls ≠ "java/lang/invoke/VarHandle" ∧ (parseMethodDescriptor yX8_undo.desc).map (fun d => d.parameters.length) = some 0 := ⟨rfl, by decide +kernel, by decide +kernel, by decide +kernel⟩
theorem dX8_ahead_0 : decode cX8_ahead 0 = .ok (.aload_n 0, 1) := by decide +kernel
theorem dX8_ahead_1 : decode cX8_ahead 1 = .ok (.getfield 16, 3) := by decide +kernel
theorem dX8_ahead_4 : decode cX8_ahead 4 = .ok (.sipush 735, 3) := by decide +kernel
theorem dX8_ahead_7 : decode cX8_ahead 7 = .ok (.aload_n 0, 1) := by decide +kernel
theorem dX8_ahead_8 : decode cX8_ahead 8 = .ok (.getfield 63, 3) := by decide +kernel
theorem dX8_ahead_11 : decode cX8_ahead 11 = .ok (.iconst 1, 1) := by decide +kernel
theorem dX8_ahead_12 : decode cX8_ahead 12 = .ok (.isub, 1) := by decide +kernel
theorem dX8_ahead_13 : decode cX8_ahead 13 = .ok (.imul, 1) := by decide +kernel
theorem dX8_ahead_14 : decode cX8_ahead 14 = .ok (.iload_n 1, 1) := by decide +kernel
theorem dX8_ahead_15 : decode cX8_ahead 15 = .ok (.iadd, 1) := by decide +kernel
theorem dX8_ahead_16 : decode cX8_ahead 16 = .ok (.iaload, 1) := by decide +kernel
theorem dX8_ahead_17 : decode cX8_ahead 17 = .ok (.ireturn, 1) := by decide +kernel
abbrev mX8_ahead : XM := (cX8_ahead, 2, RX8, (some .int), shw_8, 0)
noncomputable def rg_X8_ahead_0 : XK :=
 o_aload 0 <|
 o_get shw_8 8 2 <|
 o_iconst 735 <|
 o_aload 0 <|
 o_get shw_8 8 3 <|
 o_iconst 1 <|
 o_isub <|
 o_imul <|
 o_iload 1 <|
 o_iadd <|
 o_iald shw_8 <|
 o_ireturn
def en_X8_ahead_0 (p1 : Int) (h0 : Ob) (a : Unit) : XSt := ([some (.inr (.inl (0, 0))), some (.inl p1)], [], [h0])
noncomputable def mg_X8_ahead_0 (p1 : Int) (h0 : Ob) (a : Unit) : Option Rt :=
 if xin ((735 * ((h0 0 3) - 1)) + p1) 8820 then (
 RI (h0 3 (xw ((735 * ((h0 0 3) - 1)) + p1)).toNat) [h0]) else none
set_option maxRecDepth 100000 in
set_option maxHeartbeats 4000000 in
theorem rq_X8_ahead_0 (p1 : Int) (h0 : Ob) (a : Unit) : rg_X8_ahead_0 (en_X8_ahead_0 p1 h0 a) = mg_X8_ahead_0 p1 h0 a := rfl
set_option maxRecDepth 100000 in
set_option maxHeartbeats 4000000 in
theorem sg_X8_ahead_0 {X : XDyn} {r0 : Rt} (C : XO X mX8_ahead) : XS X mX8_ahead r0 0 (rg_X8_ahead_0) := by
 unfold rg_X8_ahead_0
 exact s_aload_n (pc := 0) C dX8_ahead_0 rfl <|
    s_get (pc := 1) C (ci := 8) (kf := 2) rfl inX8 (by decide) wd_873 dX8_ahead_1 <|
    s_sipush (pc := 4) C dX8_ahead_4 (by decide) <|
    s_aload_n (pc := 7) C dX8_ahead_7 rfl <|
    s_get (pc := 8) C (ci := 8) (kf := 3) rfl inX8 (by decide) wd_874 dX8_ahead_8 <|
    s_iconst (pc := 11) C dX8_ahead_11 <|
    s_isub (pc := 12) C dX8_ahead_12 <|
    s_imul (pc := 13) C dX8_ahead_13 <|
    s_iload_n (pc := 14) C dX8_ahead_14 rfl <|
    s_iadd (pc := 15) C dX8_ahead_15 <|
    s_iald (pc := 16) C dX8_ahead_16 <|
    s_ireturn (pc := 17) C rfl dX8_ahead_17
noncomputable def rw_X8_ahead_0 : XK := rg_X8_ahead_0
noncomputable def md_X8_ahead_0 (p1 : Int) (h0 : Ob) : Unit → Option Rt := mg_X8_ahead_0 p1 h0
theorem eq_X8_ahead_0 (p1 : Int) (h0 : Ob) (a : Unit) : rw_X8_ahead_0 (en_X8_ahead_0 p1 h0 a) = md_X8_ahead_0 p1 h0 a :=
 rq_X8_ahead_0 p1 h0 a
theorem sd_X8_ahead_0 {X : XDyn} {r0 : Rt} (C : XO X mX8_ahead) : XS X mX8_ahead r0 0 (rw_X8_ahead_0) := sg_X8_ahead_0 C
theorem ctr_X8_ahead : XCt yX8_ahead mX8_ahead (xF mX8_ahead (rw_X8_ahead_0)) := xMet (by decide +kernel) rfl (fun _ _ C => sd_X8_ahead_0 C)
theorem eqf_X8_ahead (p1 : Int) (h0 : Ob) : xF mX8_ahead (rw_X8_ahead_0) [.inr (.inl (0, 0)), .inl p1] [h0] = md_X8_ahead_0 p1 h0 () := eq_X8_ahead_0 p1 h0 ()
theorem yi_X8_ahead : yX8_ahead.cls = RX8 ∧ yX8_ahead.cls ≠ "java/lang/invoke/MethodHandle" ∧ yX8_ahead.cls ≠ "java/lang/invoke/VarHandle" ∧ (parseMethodDescriptor yX8_ahead.desc).map (fun d => d.parameters.length) = some 1 := ⟨rfl, by decide +kernel, by decide +kernel, by decide +kernel⟩
noncomputable def ov_X8_ahead (p1 : Int) (h0 : Ob) : Option Rt := xop (md_X8_ahead_0 p1 h0 ())
theorem ov_X8_ahead_e (p1 : Int) (h0 : Ob) : ov_X8_ahead p1 h0 = md_X8_ahead_0 p1 h0 () := xop_eq _
theorem sp_X8_ahead (p1 : Int) (h0 : Ob) (hg : pd (ov_X8_ahead p1 h0 = RI (oqR (ov_X8_ahead p1 h0)) [h0]) = true) : md_X8_ahead_0 p1 h0 () = RI (oqR (ov_X8_ahead p1 h0)) [h0] := (ov_X8_ahead_e p1 h0).symm.trans (pd_of hg)
noncomputable def g_X8_ahead : List AV → List Ob → Bool
  | [.inr (.inl (0, 0)), .inl p1], [h0] => pd (ov_X8_ahead p1 h0 = RI (oqR (ov_X8_ahead p1 h0)) [h0])
  | _, _ => false
noncomputable def v_X8_ahead : List AV → List Ob → Rt
  | [.inr (.inl (0, 0)), .inl p1], [h0] => (some (.inl (oqR (ov_X8_ahead p1 h0))), [h0])
  | _, _ => (none, [])
theorem ct_X8_ahead : XCt yX8_ahead mX8_ahead (fun as μ => if g_X8_ahead as μ then some (v_X8_ahead as μ) else none) := (ctr_X8_ahead ).of (fun as μ r h => by
  split at h
  · rename_i hg
    unfold g_X8_ahead at hg
    split at hg
    · rw [← h]
      exact (eqf_X8_ahead _ _).trans (sp_X8_ahead _ _ hg)
    · cases hg
  · cases h)
theorem dX8_moved_0 : decode cX8_moved 0 = .ok (.iconst 0, 1) := by decide +kernel
theorem dX8_moved_1 : decode cX8_moved 1 = .ok (.istore_n 1, 1) := by decide +kernel
theorem dX8_moved_2 : decode cX8_moved 2 = .ok (.iconst 0, 1) := by decide +kernel
theorem dX8_moved_3 : decode cX8_moved 3 = .ok (.istore_n 2, 1) := by decide +kernel
theorem dX8_moved_4 : decode cX8_moved 4 = .ok (.iload_n 2, 1) := by decide +kernel
theorem dX8_moved_5 : decode cX8_moved 5 = .ok (.bipush 8, 2) := by decide +kernel
theorem dX8_moved_7 : decode cX8_moved 7 = .ok (.if_icmp .ge 63, 3) := by decide +kernel
theorem dX8_moved_10 : decode cX8_moved 10 = .ok (.aload_n 0, 1) := by decide +kernel
theorem dX8_moved_11 : decode cX8_moved 11 = .ok (.getfield 67, 3) := by decide +kernel
theorem dX8_moved_14 : decode cX8_moved 14 = .ok (.ifCond .eq 56, 3) := by decide +kernel
theorem dX8_moved_17 : decode cX8_moved 17 = .ok (.iload_n 1, 1) := by decide +kernel
theorem dX8_moved_18 : decode cX8_moved 18 = .ok (.aload_n 0, 1) := by decide +kernel
theorem dX8_moved_19 : decode cX8_moved 19 = .ok (.iload_n 2, 1) := by decide +kernel
theorem dX8_moved_20 : decode cX8_moved 20 = .ok (.invokevirtual 83, 3) := by decide +kernel
theorem dX8_moved_23 : decode cX8_moved 23 = .ok (.ifCond .eq 38, 3) := by decide +kernel
theorem dX8_moved_26 : decode cX8_moved 26 = .ok (.aload_n 0, 1) := by decide +kernel
theorem dX8_moved_27 : decode cX8_moved 27 = .ok (.iconst 5, 1) := by decide +kernel
theorem dX8_moved_28 : decode cX8_moved 28 = .ok (.iload_n 2, 1) := by decide +kernel
theorem dX8_moved_29 : decode cX8_moved 29 = .ok (.iadd, 1) := by decide +kernel
theorem dX8_moved_30 : decode cX8_moved 30 = .ok (.invokevirtual 198, 3) := by decide +kernel
theorem dX8_moved_33 : decode cX8_moved 33 = .ok (.iconst 1, 1) := by decide +kernel
theorem dX8_moved_34 : decode cX8_moved 34 = .ok (.if_icmp .ne 27, 3) := by decide +kernel
theorem dX8_moved_37 : decode cX8_moved 37 = .ok (.aload_n 0, 1) := by decide +kernel
theorem dX8_moved_38 : decode cX8_moved 38 = .ok (.bipush 13, 2) := by decide +kernel
theorem dX8_moved_40 : decode cX8_moved 40 = .ok (.iload_n 2, 1) := by decide +kernel
theorem dX8_moved_41 : decode cX8_moved 41 = .ok (.iadd, 1) := by decide +kernel
theorem dX8_moved_42 : decode cX8_moved 42 = .ok (.invokevirtual 198, 3) := by decide +kernel
theorem dX8_moved_45 : decode cX8_moved 45 = .ok (.aload_n 0, 1) := by decide +kernel
theorem dX8_moved_46 : decode cX8_moved 46 = .ok (.getfield 7, 3) := by decide +kernel
theorem dX8_moved_49 : decode cX8_moved 49 = .ok (.bipush 13, 2) := by decide +kernel
theorem dX8_moved_51 : decode cX8_moved 51 = .ok (.iload_n 2, 1) := by decide +kernel
theorem dX8_moved_52 : decode cX8_moved 52 = .ok (.iadd, 1) := by decide +kernel
theorem dX8_moved_53 : decode cX8_moved 53 = .ok (.iaload, 1) := by decide +kernel
theorem dX8_moved_54 : decode cX8_moved 54 = .ok (.if_icmp .eq 7, 3) := by decide +kernel
theorem dX8_moved_57 : decode cX8_moved 57 = .ok (.iconst 1, 1) := by decide +kernel
theorem dX8_moved_58 : decode cX8_moved 58 = .ok (.goto 4, 3) := by decide +kernel
theorem dX8_moved_61 : decode cX8_moved 61 = .ok (.iconst 0, 1) := by decide +kernel
theorem dX8_moved_62 : decode cX8_moved 62 = .ok (.iadd, 1) := by decide +kernel
theorem dX8_moved_63 : decode cX8_moved 63 = .ok (.istore_n 1, 1) := by decide +kernel
theorem dX8_moved_64 : decode cX8_moved 64 = .ok (.iinc 2 1, 3) := by decide +kernel
theorem dX8_moved_67 : decode cX8_moved 67 = .ok (.goto (-63), 3) := by decide +kernel
theorem dX8_moved_70 : decode cX8_moved 70 = .ok (.iload_n 1, 1) := by decide +kernel
theorem dX8_moved_71 : decode cX8_moved 71 = .ok (.ireturn, 1) := by decide +kernel
abbrev mX8_moved : XM := (cX8_moved, 3, RX8, (some .int), shw_8, 2)
noncomputable def rg_X8_moved_0 (k4 : XK) : XK :=
 o_iconst 0 <|
 o_istore 1 <|
 o_iconst 0 <|
 o_istore 2 <|
 o_cut [] k4
def en_X8_moved_0 (h0 : Ob) (a : Unit) : XSt := ([some (.inr (.inl (0, 0))), none, none], [], [h0])
noncomputable def rg_X8_moved_4 (k61 : XK) (k62 : XK) : XK :=
 o_iload 2 <|
 o_iconst 8 <|
 o_icmp_ge (o_iload 1 <|
 o_ireturn)
 (o_aload 0 <|
 o_get shw_8 8 4 <|
 o_if_eq (o_iload 1 <|
 o_ireturn)
 (o_iload 1 <|
 o_aload 0 <|
 o_iload 2 <|
 o_callV 2 1 [0] f_X8_isFull <|
 o_if_eq (o_cut [1] k61)
 (o_aload 0 <|
 o_iconst 5 <|
 o_iload 2 <|
 o_iadd <|
 o_callVg 2 1 [0] g_X8_ahead v_X8_ahead <|
 o_iconst 1 <|
 o_icmp_ne (o_cut [1] k61)
 (o_aload 0 <|
 o_iconst 13 <|
 o_iload 2 <|
 o_iadd <|
 o_callVg 2 1 [0] g_X8_ahead v_X8_ahead <|
 o_aload 0 <|
 o_get shw_8 8 0 <|
 o_iconst 13 <|
 o_iload 2 <|
 o_iadd <|
 o_iald shw_8 <|
 o_icmp_eq (o_cut [1] k61)
 (o_iconst 1 <|
 o_cut [1] k62)))))
def en_X8_moved_4 (h0 : Ob) (a : Int × Int) : XSt := ([some (.inr (.inl (0, 0))), some (.inl a.1), some (.inl a.2)], [], [h0])
noncomputable def rg_X8_moved_61 (k62 : XK) : XK :=
 o_iconst 0 <|
 o_cut [] k62
def en_X8_moved_61 (h0 : Ob) (a : Int × Int) : XSt := ([some (.inr (.inl (0, 0))), none, some (.inl a.1)], [.inl a.2], [h0])
noncomputable def rg_X8_moved_62 (k4 : XK) : XK :=
 o_iadd <|
 o_istore 1 <|
 o_iinc 2 1 <|
 o_cut [] k4
def en_X8_moved_62 (h0 : Ob) (a : Int × Int × Int) : XSt := ([some (.inr (.inl (0, 0))), none, some (.inl a.1)], [.inl a.2.2, .inl a.2.1], [h0])
noncomputable def mg_X8_moved_0 (h0 : Ob) (k4 : (Int × Int) → Option Rt) (a : Unit) : Option Rt :=
 k4 (0, 0)
set_option maxRecDepth 100000 in
set_option maxHeartbeats 4000000 in
theorem rq_X8_moved_0 (h0 : Ob) (k4 : XK) (a : Unit) : rg_X8_moved_0 k4 (en_X8_moved_0 h0 a) = mg_X8_moved_0 h0 (fun b => k4 (en_X8_moved_4 h0 b)) a := rfl
set_option maxRecDepth 100000 in
set_option maxHeartbeats 4000000 in
theorem sg_X8_moved_0 {X : XDyn} {r0 : Rt} (C : XO X mX8_moved) {k4 : XK} (q4 : XS X mX8_moved r0 4 k4) : XS X mX8_moved r0 0 (rg_X8_moved_0 k4) := by
 unfold rg_X8_moved_0
 exact s_iconst (pc := 0) C dX8_moved_0 <|
    s_istore_n (pc := 1) C dX8_moved_1 rfl <|
    s_iconst (pc := 2) C dX8_moved_2 <|
    s_istore_n (pc := 3) C dX8_moved_3 rfl <|
    s_cut q4
noncomputable def mg_X8_moved_4 (h0 : Ob) (k61 : (Int × Int) → Option Rt) (k62 : (Int × Int × Int) → Option Rt) (a : Int × Int) : Option Rt :=
 if xw a.2 ≥ 8 then (RI a.1 [h0])
 else (if xw (h0 0 4) = 0 then (RI a.1 [h0])
 else (if xw (bz (fulM h0 a.2)) = 0 then (k61 (a.2, a.1))
 else (if pd (ov_X8_ahead (5 + a.2) h0 = RI (oqR (ov_X8_ahead (5 + a.2) h0)) [h0]) then (
 if xw (oqR (ov_X8_ahead (5 + a.2) h0)) = 1 then (if pd (ov_X8_ahead (13 + a.2) h0 = RI (oqR (ov_X8_ahead (13 + a.2) h0)) [h0]) then (
 if xin (13 + a.2) 735 then (
 if xw (oqR (ov_X8_ahead (13 + a.2) h0)) = xw (h0 1 (xw (13 + a.2)).toNat) then (k61 (a.2, a.1))
 else (k62 (a.2, a.1, 1))) else none) else none)
 else (k61 (a.2, a.1))) else none)))
set_option maxRecDepth 100000 in
set_option maxHeartbeats 4000000 in
theorem rq_X8_moved_4 (h0 : Ob) (k61 : XK) (k62 : XK) (a : Int × Int) : rg_X8_moved_4 k61 k62 (en_X8_moved_4 h0 a) = mg_X8_moved_4 h0 (fun b => k61 (en_X8_moved_61 h0 b)) (fun b => k62 (en_X8_moved_62 h0 b)) a := rfl
set_option maxRecDepth 100000 in
set_option maxHeartbeats 4000000 in
theorem sg_X8_moved_4 {X : XDyn} {r0 : Rt} (C : XO X mX8_moved) {k61 : XK} (q61 : XS X mX8_moved r0 61 k61) {k62 : XK} (q62 : XS X mX8_moved r0 62 k62) : XS X mX8_moved r0 4 (rg_X8_moved_4 k61 k62) := by
 unfold rg_X8_moved_4
 exact s_iload_n (pc := 4) C dX8_moved_4 rfl <|
    s_bipush (pc := 5) C dX8_moved_5 (by decide) <|
    s_icmp_ge (pc := 7) C dX8_moved_7 (by decide) (s_iload_n (pc := 70) C dX8_moved_70 rfl <|
    s_ireturn (pc := 71) C rfl dX8_moved_71)
    (s_aload_n (pc := 10) C dX8_moved_10 rfl <|
    s_get (pc := 11) C (ci := 8) (kf := 4) rfl inX8 (by decide) wd_875 dX8_moved_11 <|
    s_if_eq (pc := 14) C dX8_moved_14 (by decide) (s_iload_n (pc := 70) C dX8_moved_70 rfl <|
    s_ireturn (pc := 71) C rfl dX8_moved_71)
    (s_iload_n (pc := 17) C dX8_moved_17 rfl <|
    s_aload_n (pc := 18) C dX8_moved_18 rfl <|
    s_iload_n (pc := 19) C dX8_moved_19 rfl <|
    s_callV (pc := 20) C ct_X8_isFull (n := 2) (rk := 1) (mp := [0]) ⟨rfl, by decide, rfl⟩ (ci := 8) rfl rfl (by decide) (by decide) yi_X8_isFull (by decide) wd_987 wd_989 wd_24 wd_81 wd_990 dX8_moved_20 <|
    s_if_eq (pc := 23) C dX8_moved_23 (by decide) (s_cut q61)
    (s_aload_n (pc := 26) C dX8_moved_26 rfl <|
    s_iconst (pc := 27) C dX8_moved_27 <|
    s_iload_n (pc := 28) C dX8_moved_28 rfl <|
    s_iadd (pc := 29) C dX8_moved_29 <|
    s_callVg (pc := 30) C ct_X8_ahead (n := 2) (rk := 1) (mp := [0]) ⟨rfl, by decide, rfl⟩ (ci := 8) rfl rfl (by decide) (by decide) yi_X8_ahead (by decide) wd_1217 wd_1219 wd_64 wd_81 wd_1220 dX8_moved_30 <|
    s_iconst (pc := 33) C dX8_moved_33 <|
    s_icmp_ne (pc := 34) C dX8_moved_34 (by decide) (s_cut q61)
    (s_aload_n (pc := 37) C dX8_moved_37 rfl <|
    s_bipush (pc := 38) C dX8_moved_38 (by decide) <|
    s_iload_n (pc := 40) C dX8_moved_40 rfl <|
    s_iadd (pc := 41) C dX8_moved_41 <|
    s_callVg (pc := 42) C ct_X8_ahead (n := 2) (rk := 1) (mp := [0]) ⟨rfl, by decide, rfl⟩ (ci := 8) rfl rfl (by decide) (by decide) yi_X8_ahead (by decide) wd_1217 wd_1219 wd_64 wd_81 wd_1220 dX8_moved_42 <|
    s_aload_n (pc := 45) C dX8_moved_45 rfl <|
    s_get (pc := 46) C (ci := 8) (kf := 0) rfl inX8 (by decide) wd_871 dX8_moved_46 <|
    s_bipush (pc := 49) C dX8_moved_49 (by decide) <|
    s_iload_n (pc := 51) C dX8_moved_51 rfl <|
    s_iadd (pc := 52) C dX8_moved_52 <|
    s_iald (pc := 53) C dX8_moved_53 <|
    s_icmp_eq (pc := 54) C dX8_moved_54 (by decide) (s_cut q61)
    (s_iconst (pc := 57) C dX8_moved_57 <|
    s_goto (pc := 58) C dX8_moved_58 (by decide) <|
    s_cut q62)))))
noncomputable def mg_X8_moved_61 (h0 : Ob) (k62 : (Int × Int × Int) → Option Rt) (a : Int × Int) : Option Rt :=
 k62 (a.1, a.2, 0)
set_option maxRecDepth 100000 in
set_option maxHeartbeats 4000000 in
theorem rq_X8_moved_61 (h0 : Ob) (k62 : XK) (a : Int × Int) : rg_X8_moved_61 k62 (en_X8_moved_61 h0 a) = mg_X8_moved_61 h0 (fun b => k62 (en_X8_moved_62 h0 b)) a := rfl
set_option maxRecDepth 100000 in
set_option maxHeartbeats 4000000 in
theorem sg_X8_moved_61 {X : XDyn} {r0 : Rt} (C : XO X mX8_moved) {k62 : XK} (q62 : XS X mX8_moved r0 62 k62) : XS X mX8_moved r0 61 (rg_X8_moved_61 k62) := by
 unfold rg_X8_moved_61
 exact s_iconst (pc := 61) C dX8_moved_61 <|
    s_cut q62
noncomputable def mg_X8_moved_62 (h0 : Ob) (k4 : (Int × Int) → Option Rt) (a : Int × Int × Int) : Option Rt :=
 k4 ((a.2.1 + a.2.2), (a.1 + 1))
set_option maxRecDepth 100000 in
set_option maxHeartbeats 4000000 in
theorem rq_X8_moved_62 (h0 : Ob) (k4 : XK) (a : Int × Int × Int) : rg_X8_moved_62 k4 (en_X8_moved_62 h0 a) = mg_X8_moved_62 h0 (fun b => k4 (en_X8_moved_4 h0 b)) a := rfl
set_option maxRecDepth 100000 in
set_option maxHeartbeats 4000000 in
theorem sg_X8_moved_62 {X : XDyn} {r0 : Rt} (C : XO X mX8_moved) {k4 : XK} (q4 : XS X mX8_moved r0 4 k4) : XS X mX8_moved r0 62 (rg_X8_moved_62 k4) := by
 unfold rg_X8_moved_62
 exact s_iadd (pc := 62) C dX8_moved_62 <|
    s_istore_n (pc := 63) C dX8_moved_63 rfl <|
    s_iinc (pc := 64) C dX8_moved_64 <|
    s_goto (pc := 67) C dX8_moved_67 (by decide) <|
    s_cut q4
noncomputable def rw_X8_moved_62 (f : Nat) (k4 : XK) : XK := rg_X8_moved_62 k4
noncomputable def md_X8_moved_62 (h0 : Ob) (f : Nat) (k4 : (Int × Int) → Option Rt) : Int × Int × Int → Option Rt := mg_X8_moved_62 h0 k4
theorem eq_X8_moved_62 (h0 : Ob) (f : Nat) (k4 : XK) (a : Int × Int × Int) : rw_X8_moved_62 f k4 (en_X8_moved_62 h0 a) = md_X8_moved_62 h0 f (fun b => k4 (en_X8_moved_4 h0 b)) a :=
 (rq_X8_moved_62 h0 k4 a).trans (congrFun (congr (rfl : mg_X8_moved_62 h0 = mg_X8_moved_62 h0) rfl) a)
theorem sd_X8_moved_62 (f : Nat) {X : XDyn} {r0 : Rt} (C : XO X mX8_moved) {k4 : XK} (q4 : XS X mX8_moved r0 4 k4) : XS X mX8_moved r0 62 (rw_X8_moved_62 f k4) := sg_X8_moved_62 C q4
noncomputable def rw_X8_moved_61 (f : Nat) (k4 : XK) : XK := rg_X8_moved_61 (rw_X8_moved_62 f k4)
noncomputable def md_X8_moved_61 (h0 : Ob) (f : Nat) (k4 : (Int × Int) → Option Rt) : Int × Int → Option Rt := mg_X8_moved_61 h0 (md_X8_moved_62 h0 f k4)
theorem eq_X8_moved_61 (h0 : Ob) (f : Nat) (k4 : XK) (a : Int × Int) : rw_X8_moved_61 f k4 (en_X8_moved_61 h0 a) = md_X8_moved_61 h0 f (fun b => k4 (en_X8_moved_4 h0 b)) a :=
 (rq_X8_moved_61 h0 (rw_X8_moved_62 f k4) a).trans (congrFun (congr (rfl : mg_X8_moved_61 h0 = mg_X8_moved_61 h0) (funext (eq_X8_moved_62 h0 f k4))) a)
theorem sd_X8_moved_61 (f : Nat) {X : XDyn} {r0 : Rt} (C : XO X mX8_moved) {k4 : XK} (q4 : XS X mX8_moved r0 4 k4) : XS X mX8_moved r0 61 (rw_X8_moved_61 f k4) := sg_X8_moved_61 C (sd_X8_moved_62 f C q4)
noncomputable def rw_X8_moved_4 (f : Nat) : XK := tlp (fun k4 => rg_X8_moved_4 (rw_X8_moved_61 f k4) (rw_X8_moved_62 f k4)) f
noncomputable def lb_X8_moved_4 (h0 : Ob) (f : Nat) : ((Int × Int) → Option Rt) → Int × Int → Option Rt := fun k4 => mg_X8_moved_4 h0 (md_X8_moved_61 h0 f k4) (md_X8_moved_62 h0 f k4)
noncomputable def md_X8_moved_4 (h0 : Ob) (f : Nat) : Int × Int → Option Rt := tlp (lb_X8_moved_4 h0 f) f
theorem eq_X8_moved_4 (h0 : Ob) (f : Nat) (a : Int × Int) : rw_X8_moved_4 f (en_X8_moved_4 h0 a) = md_X8_moved_4 h0 f a :=
 tlp_enc (en_X8_moved_4 h0) (fun k4 a => (rq_X8_moved_4 h0 (rw_X8_moved_61 f k4) (rw_X8_moved_62 f k4) a).trans (congrFun (congr (congr (rfl : mg_X8_moved_4 h0 = mg_X8_moved_4 h0) (funext (eq_X8_moved_61 h0 f k4))) (funext (eq_X8_moved_62 h0 f k4))) a)) f a
theorem sd_X8_moved_4 (f : Nat) {X : XDyn} {r0 : Rt} (C : XO X mX8_moved) : XS X mX8_moved r0 4 (rw_X8_moved_4 f) := s_lp (fun k4 q4 => sg_X8_moved_4 C (sd_X8_moved_61 f C q4) (sd_X8_moved_62 f C q4)) f
noncomputable def rw_X8_moved_0 (f : Nat) : XK := rg_X8_moved_0 (rw_X8_moved_4 f)
noncomputable def md_X8_moved_0 (h0 : Ob) (f : Nat) : Unit → Option Rt := mg_X8_moved_0 h0 (md_X8_moved_4 h0 f)
theorem eq_X8_moved_0 (h0 : Ob) (f : Nat) (a : Unit) : rw_X8_moved_0 f (en_X8_moved_0 h0 a) = md_X8_moved_0 h0 f a :=
 (rq_X8_moved_0 h0 (rw_X8_moved_4 f) a).trans (congrFun (congr (rfl : mg_X8_moved_0 h0 = mg_X8_moved_0 h0) (funext (eq_X8_moved_4 h0 f))) a)
theorem sd_X8_moved_0 (f : Nat) {X : XDyn} {r0 : Rt} (C : XO X mX8_moved) : XS X mX8_moved r0 0 (rw_X8_moved_0 f) := sg_X8_moved_0 C (sd_X8_moved_4 f C)
theorem ctr_X8_moved (f : Nat) : XCt yX8_moved mX8_moved (xF mX8_moved (rw_X8_moved_0 f)) := xMet (by decide +kernel) rfl (fun _ _ C => sd_X8_moved_0 f C)
theorem eqf_X8_moved (f : Nat) (h0 : Ob) : xF mX8_moved (rw_X8_moved_0 f) [.inr (.inl (0, 0))] [h0] = md_X8_moved_0 h0 f () := eq_X8_moved_0 h0 f ()
theorem yi_X8_moved : yX8_moved.cls = RX8 ∧ yX8_moved.cls ≠ "java/lang/invoke/MethodHandle" ∧ yX8_moved.cls ≠ "java/lang/invoke/VarHandle" ∧ (parseMethodDescriptor yX8_moved.desc).map (fun d => d.parameters.length) = some 0 := ⟨rfl, by decide +kernel, by decide +kernel, by decide +kernel⟩
noncomputable def ov_X8_moved (h0 : Ob) : Option Rt := xop (md_X8_moved_0 h0 xfu ())
theorem ov_X8_moved_e (h0 : Ob) : ov_X8_moved h0 = md_X8_moved_0 h0 xfu () := xop_eq _
theorem sp_X8_moved (h0 : Ob) (hg : pd (ov_X8_moved h0 = RI (oqR (ov_X8_moved h0)) [h0]) = true) : md_X8_moved_0 h0 xfu () = RI (oqR (ov_X8_moved h0)) [h0] := (ov_X8_moved_e h0).symm.trans (pd_of hg)
noncomputable def g_X8_moved : List AV → List Ob → Bool
  | [.inr (.inl (0, 0))], [h0] => pd (ov_X8_moved h0 = RI (oqR (ov_X8_moved h0)) [h0])
  | _, _ => false
noncomputable def v_X8_moved : List AV → List Ob → Rt
  | [.inr (.inl (0, 0))], [h0] => (some (.inl (oqR (ov_X8_moved h0))), [h0])
  | _, _ => (none, [])
theorem ct_X8_moved : XCt yX8_moved mX8_moved (fun as μ => if g_X8_moved as μ then some (v_X8_moved as μ) else none) := (ctr_X8_moved xfu).of (fun as μ r h => by
  split at h
  · rename_i hg
    unfold g_X8_moved at hg
    split at hg
    · rw [← h]
      exact (eqf_X8_moved xfu _).trans (sp_X8_moved _ hg)
    · cases hg
  · cases h)
theorem dX8_fills_0 : decode cX8_fills 0 = .ok (.aload_n 0, 1) := by decide +kernel
theorem dX8_fills_1 : decode cX8_fills 1 = .ok (.getfield 7, 3) := by decide +kernel
theorem dX8_fills_4 : decode cX8_fills 4 = .ok (.iconst 5, 1) := by decide +kernel
theorem dX8_fills_5 : decode cX8_fills 5 = .ok (.iload_n 1, 1) := by decide +kernel
theorem dX8_fills_6 : decode cX8_fills 6 = .ok (.iadd, 1) := by decide +kernel
theorem dX8_fills_7 : decode cX8_fills 7 = .ok (.iconst 1, 1) := by decide +kernel
theorem dX8_fills_8 : decode cX8_fills 8 = .ok (.iastore, 1) := by decide +kernel
theorem dX8_fills_9 : decode cX8_fills 9 = .ok (.aload_n 0, 1) := by decide +kernel
theorem dX8_fills_10 : decode cX8_fills 10 = .ok (.getfield 7, 3) := by decide +kernel
theorem dX8_fills_13 : decode cX8_fills 13 = .ok (.bipush 13, 2) := by decide +kernel
theorem dX8_fills_15 : decode cX8_fills 15 = .ok (.iload_n 1, 1) := by decide +kernel
theorem dX8_fills_16 : decode cX8_fills 16 = .ok (.iadd, 1) := by decide +kernel
theorem dX8_fills_17 : decode cX8_fills 17 = .ok (.iload_n 2, 1) := by decide +kernel
theorem dX8_fills_18 : decode cX8_fills 18 = .ok (.iastore, 1) := by decide +kernel
theorem dX8_fills_19 : decode cX8_fills 19 = .ok (.aload_n 0, 1) := by decide +kernel
theorem dX8_fills_20 : decode cX8_fills 20 = .ok (.iload_n 1, 1) := by decide +kernel
theorem dX8_fills_21 : decode cX8_fills 21 = .ok (.iconst 0, 1) := by decide +kernel
theorem dX8_fills_22 : decode cX8_fills 22 = .ok (.bipush 60, 2) := by decide +kernel
theorem dX8_fills_24 : decode cX8_fills 24 = .ok (.invokevirtual 201, 3) := by decide +kernel
theorem dX8_fills_27 : decode cX8_fills 27 = .ok (.return_, 1) := by decide +kernel
abbrev mX8_fills : XM := (cX8_fills, 3, RX8, none, shw_8, 1)
noncomputable def rg_X8_fills_0 : XK :=
 o_aload 0 <|
 o_get shw_8 8 0 <|
 o_iconst 5 <|
 o_iload 1 <|
 o_iadd <|
 o_iconst 1 <|
 o_iast shw_8 <|
 o_aload 0 <|
 o_get shw_8 8 0 <|
 o_iconst 13 <|
 o_iload 1 <|
 o_iadd <|
 o_iload 2 <|
 o_iast shw_8 <|
 o_aload 0 <|
 o_iload 1 <|
 o_iconst 0 <|
 o_iconst 60 <|
 o_callVg 4 0 [0] g_X8_clearsContents v_X8_clearsContents <|
 o_return
def en_X8_fills_0 (p1 : Int) (p2 : Int) (a : Ob) : XSt := ([some (.inr (.inl (0, 0))), some (.inl p1), some (.inl p2)], [], [a])
noncomputable def mg_X8_fills_0 (p1 : Int) (p2 : Int) (a : Ob) : Option Rt :=
 if xin (5 + p1) 735 then (
 if xin (13 + p1) 735 then (
 if oqV (ov_X8_clearsContents p1 (0 : Int) (60 : Int) (xset (xset a 1 (xw (5 + p1)).toNat 1) 1 (xw (13 + p1)).toNat p2)) then (
 RV [(oqO (ov_X8_clearsContents p1 (0 : Int) (60 : Int) (xset (xset a 1 (xw (5 + p1)).toNat 1) 1 (xw (13 + p1)).toNat p2)) 0)]) else none) else none) else none
set_option maxRecDepth 100000 in
set_option maxHeartbeats 4000000 in
theorem rq_X8_fills_0 (p1 : Int) (p2 : Int) (a : Ob) : rg_X8_fills_0 (en_X8_fills_0 p1 p2 a) = mg_X8_fills_0 p1 p2 a := rfl
set_option maxRecDepth 100000 in
set_option maxHeartbeats 4000000 in
theorem sg_X8_fills_0 {X : XDyn} {r0 : Rt} (C : XO X mX8_fills) : XS X mX8_fills r0 0 (rg_X8_fills_0) := by
 unfold rg_X8_fills_0
 exact s_aload_n (pc := 0) C dX8_fills_0 rfl <|
    s_get (pc := 1) C (ci := 8) (kf := 0) rfl inX8 (by decide) wd_871 dX8_fills_1 <|
    s_iconst (pc := 4) C dX8_fills_4 <|
    s_iload_n (pc := 5) C dX8_fills_5 rfl <|
    s_iadd (pc := 6) C dX8_fills_6 <|
    s_iconst (pc := 7) C dX8_fills_7 <|
    s_iast (pc := 8) C dX8_fills_8 <|
    s_aload_n (pc := 9) C dX8_fills_9 rfl <|
    s_get (pc := 10) C (ci := 8) (kf := 0) rfl inX8 (by decide) wd_871 dX8_fills_10 <|
    s_bipush (pc := 13) C dX8_fills_13 (by decide) <|
    s_iload_n (pc := 15) C dX8_fills_15 rfl <|
    s_iadd (pc := 16) C dX8_fills_16 <|
    s_iload_n (pc := 17) C dX8_fills_17 rfl <|
    s_iast (pc := 18) C dX8_fills_18 <|
    s_aload_n (pc := 19) C dX8_fills_19 rfl <|
    s_iload_n (pc := 20) C dX8_fills_20 rfl <|
    s_iconst (pc := 21) C dX8_fills_21 <|
    s_bipush (pc := 22) C dX8_fills_22 (by decide) <|
    s_callVg (pc := 24) C ct_X8_clearsContents (n := 4) (rk := 0) (mp := [0]) ⟨rfl, by decide, rfl⟩ (ci := 8) rfl rfl (by decide) (by decide) yi_X8_clearsContents (by decide) wd_1109 wd_1111 wd_53 wd_81 wd_1112 dX8_fills_24 <|
    s_return (pc := 27) C rfl dX8_fills_27
noncomputable def rw_X8_fills_0 : XK := rg_X8_fills_0
noncomputable def md_X8_fills_0 (p1 : Int) (p2 : Int) : Ob → Option Rt := mg_X8_fills_0 p1 p2
theorem eq_X8_fills_0 (p1 : Int) (p2 : Int) (a : Ob) : rw_X8_fills_0 (en_X8_fills_0 p1 p2 a) = md_X8_fills_0 p1 p2 a :=
 rq_X8_fills_0 p1 p2 a
theorem sd_X8_fills_0 {X : XDyn} {r0 : Rt} (C : XO X mX8_fills) : XS X mX8_fills r0 0 (rw_X8_fills_0) := sg_X8_fills_0 C
theorem ctr_X8_fills : XCt yX8_fills mX8_fills (xF mX8_fills (rw_X8_fills_0)) := xMet (by decide +kernel) rfl (fun _ _ C => sd_X8_fills_0 C)
theorem eqf_X8_fills (p1 : Int) (p2 : Int) (h0 : Ob) : xF mX8_fills (rw_X8_fills_0) [.inr (.inl (0, 0)), .inl p1, .inl p2] [h0] = md_X8_fills_0 p1 p2 h0 := eq_X8_fills_0 p1 p2 h0
theorem yi_X8_fills : yX8_fills.cls = RX8 ∧ yX8_fills.cls ≠ "java/lang/invoke/MethodHandle" ∧ yX8_fills.cls ≠ "java/lang/invoke/VarHandle" ∧ (parseMethodDescriptor yX8_fills.desc).map (fun d => d.parameters.length) = some 2 := ⟨rfl, by decide +kernel, by decide +kernel, by decide +kernel⟩
noncomputable def ov_X8_fills (p1 p2 : Int) (h0 : Ob) : Option Rt := xop (md_X8_fills_0 p1 p2 h0)
theorem ov_X8_fills_e (p1 p2 : Int) (h0 : Ob) : ov_X8_fills p1 p2 h0 = md_X8_fills_0 p1 p2 h0 := xop_eq _
theorem sp_X8_fills (p1 p2 : Int) (h0 : Ob) (hg : oqV (ov_X8_fills p1 p2 h0) = true) : md_X8_fills_0 p1 p2 h0 = RV [(oqO (ov_X8_fills p1 p2 h0) 0)] := (ov_X8_fills_e p1 p2 h0).symm.trans (oqV_eq hg)
noncomputable def g_X8_fills : List AV → List Ob → Bool
  | [.inr (.inl (0, 0)), .inl p1, .inl p2], [h0] => oqV (ov_X8_fills p1 p2 h0)
  | _, _ => false
noncomputable def v_X8_fills : List AV → List Ob → Rt
  | [.inr (.inl (0, 0)), .inl p1, .inl p2], [h0] => (none, [(oqO (ov_X8_fills p1 p2 h0) 0)])
  | _, _ => (none, [])
theorem ct_X8_fills : XCt yX8_fills mX8_fills (fun as μ => if g_X8_fills as μ then some (v_X8_fills as μ) else none) := (ctr_X8_fills ).of (fun as μ r h => by
  split at h
  · rename_i hg
    unfold g_X8_fills at hg
    split at hg
    · rw [← h]
      exact (eqf_X8_fills _ _ _).trans (sp_X8_fills _ _ _ hg)
    · cases hg
  · cases h)
