theorem dX6_usedWith_0 : decode cX6_usedWith 0 = .ok (.iload_n 1, 1) := by decide +kernel
theorem dX6_usedWith_1 : decode cX6_usedWith 1 = .ok (.ifCond .ge 6, 3) := by decide +kernel
theorem dX6_usedWith_4 : decode cX6_usedWith 4 = .ok (.ldc 49, 2) := by decide +kernel
theorem dX6_usedWith_6 : decode cX6_usedWith 6 = .ok (.ireturn, 1) := by decide +kernel
theorem dX6_usedWith_7 : decode cX6_usedWith 7 = .ok (.iload_n 1, 1) := by decide +kernel
theorem dX6_usedWith_8 : decode cX6_usedWith 8 = .ok (.sipush 256, 3) := by decide +kernel
theorem dX6_usedWith_11 : decode cX6_usedWith 11 = .ok (.idiv, 1) := by decide +kernel
theorem dX6_usedWith_12 : decode cX6_usedWith 12 = .ok (.istore_n 3, 1) := by decide +kernel
theorem dX6_usedWith_13 : decode cX6_usedWith 13 = .ok (.iload_n 3, 1) := by decide +kernel
theorem dX6_usedWith_14 : decode cX6_usedWith 14 = .ok (.aload_n 0, 1) := by decide +kernel
theorem dX6_usedWith_15 : decode cX6_usedWith 15 = .ok (.getfield 18, 3) := by decide +kernel
theorem dX6_usedWith_18 : decode cX6_usedWith 18 = .ok (.if_icmp .ge 23, 3) := by decide +kernel
theorem dX6_usedWith_21 : decode cX6_usedWith 21 = .ok (.iload_n 1, 1) := by decide +kernel
theorem dX6_usedWith_22 : decode cX6_usedWith 22 = .ok (.sipush 256, 3) := by decide +kernel
theorem dX6_usedWith_25 : decode cX6_usedWith 25 = .ok (.irem, 1) := by decide +kernel
theorem dX6_usedWith_26 : decode cX6_usedWith 26 = .ok (.iload_n 2, 1) := by decide +kernel
theorem dX6_usedWith_27 : decode cX6_usedWith 27 = .ok (.iadd, 1) := by decide +kernel
theorem dX6_usedWith_28 : decode cX6_usedWith 28 = .ok (.aload_n 0, 1) := by decide +kernel
theorem dX6_usedWith_29 : decode cX6_usedWith 29 = .ok (.getfield 15, 3) := by decide +kernel
theorem dX6_usedWith_32 : decode cX6_usedWith 32 = .ok (.iload_n 3, 1) := by decide +kernel
theorem dX6_usedWith_33 : decode cX6_usedWith 33 = .ok (.iaload, 1) := by decide +kernel
theorem dX6_usedWith_34 : decode cX6_usedWith 34 = .ok (.if_icmp .gt 7, 3) := by decide +kernel
theorem dX6_usedWith_37 : decode cX6_usedWith 37 = .ok (.iload_n 1, 1) := by decide +kernel
theorem dX6_usedWith_38 : decode cX6_usedWith 38 = .ok (.iload_n 2, 1) := by decide +kernel
theorem dX6_usedWith_39 : decode cX6_usedWith 39 = .ok (.iadd, 1) := by decide +kernel
theorem dX6_usedWith_40 : decode cX6_usedWith 40 = .ok (.ireturn, 1) := by decide +kernel
theorem dX6_usedWith_41 : decode cX6_usedWith 41 = .ok (.iload_n 3, 1) := by decide +kernel
theorem dX6_usedWith_42 : decode cX6_usedWith 42 = .ok (.iconst 1, 1) := by decide +kernel
theorem dX6_usedWith_43 : decode cX6_usedWith 43 = .ok (.iadd, 1) := by decide +kernel
theorem dX6_usedWith_44 : decode cX6_usedWith 44 = .ok (.istore 4, 2) := by decide +kernel
theorem dX6_usedWith_46 : decode cX6_usedWith 46 = .ok (.iload 4, 2) := by decide +kernel
theorem dX6_usedWith_48 : decode cX6_usedWith 48 = .ok (.aload_n 0, 1) := by decide +kernel
theorem dX6_usedWith_49 : decode cX6_usedWith 49 = .ok (.getfield 18, 3) := by decide +kernel
theorem dX6_usedWith_52 : decode cX6_usedWith 52 = .ok (.if_icmp .ge 29, 3) := by decide +kernel
theorem dX6_usedWith_55 : decode cX6_usedWith 55 = .ok (.iload_n 2, 1) := by decide +kernel
theorem dX6_usedWith_56 : decode cX6_usedWith 56 = .ok (.aload_n 0, 1) := by decide +kernel
theorem dX6_usedWith_57 : decode cX6_usedWith 57 = .ok (.getfield 15, 3) := by decide +kernel
theorem dX6_usedWith_60 : decode cX6_usedWith 60 = .ok (.iload 4, 2) := by decide +kernel
theorem dX6_usedWith_62 : decode cX6_usedWith 62 = .ok (.iaload, 1) := by decide +kernel
theorem dX6_usedWith_63 : decode cX6_usedWith 63 = .ok (.if_icmp .gt 12, 3) := by decide +kernel
theorem dX6_usedWith_66 : decode cX6_usedWith 66 = .ok (.iload 4, 2) := by decide +kernel
theorem dX6_usedWith_68 : decode cX6_usedWith 68 = .ok (.sipush 256, 3) := by decide +kernel
theorem dX6_usedWith_71 : decode cX6_usedWith 71 = .ok (.imul, 1) := by decide +kernel
theorem dX6_usedWith_72 : decode cX6_usedWith 72 = .ok (.iload_n 2, 1) := by decide +kernel
theorem dX6_usedWith_73 : decode cX6_usedWith 73 = .ok (.iadd, 1) := by decide +kernel
theorem dX6_usedWith_74 : decode cX6_usedWith 74 = .ok (.ireturn, 1) := by decide +kernel
theorem dX6_usedWith_75 : decode cX6_usedWith 75 = .ok (.iinc 4 1, 3) := by decide +kernel
theorem dX6_usedWith_78 : decode cX6_usedWith 78 = .ok (.goto (-32), 3) := by decide +kernel
theorem dX6_usedWith_81 : decode cX6_usedWith 81 = .ok (.ldc 49, 2) := by decide +kernel
theorem dX6_usedWith_83 : decode cX6_usedWith 83 = .ok (.ireturn, 1) := by decide +kernel
abbrev mX6_usedWith : XM := (cX6_usedWith, 5, RX6, (some .int), shw_6, 0)
noncomputable def rg_X6_usedWith_0 (k41 : XK) : XK :=
 o_iload 1 <|
 o_if_ge (o_iload 1 <|
 o_iconst 256 <|
 o_idiv <|
 o_istore 3 <|
 o_iload 3 <|
 o_aload 0 <|
 o_get shw_6 6 2 <|
 o_icmp_ge (o_cut [] k41)
 (o_iload 1 <|
 o_iconst 256 <|
 o_irem <|
 o_iload 2 <|
 o_iadd <|
 o_aload 0 <|
 o_get shw_6 6 1 <|
 o_iload 3 <|
 o_iald shw_6 <|
 o_icmp_gt (o_cut [] k41)
 (o_iload 1 <|
 o_iload 2 <|
 o_iadd <|
 o_ireturn)))
 (o_iconst 65536 <|
 o_ireturn)
def en_X6_usedWith_0 (p1 : Int) (p2 : Int) (h0 : Ob) (a : Unit) : XSt := ([some (.inr (.inl (0, 0))), some (.inl p1), some (.inl p2), none, none], [], [h0])
noncomputable def rg_X6_usedWith_41 (k46 : XK) : XK :=
 o_iload 3 <|
 o_iconst 1 <|
 o_iadd <|
 o_istore 4 <|
 o_cut [3] k46
def en_X6_usedWith_41 (p1 : Int) (p2 : Int) (h0 : Ob) (a : Int) : XSt := ([some (.inr (.inl (0, 0))), some (.inl p1), some (.inl p2), some (.inl a), none], [], [h0])
noncomputable def rg_X6_usedWith_46 (k46 : XK) : XK :=
 o_iload 4 <|
 o_aload 0 <|
 o_get shw_6 6 2 <|
 o_icmp_ge (o_iconst 65536 <|
 o_ireturn)
 (o_iload 2 <|
 o_aload 0 <|
 o_get shw_6 6 1 <|
 o_iload 4 <|
 o_iald shw_6 <|
 o_icmp_gt (o_iinc 4 1 <|
 o_cut [] k46)
 (o_iload 4 <|
 o_iconst 256 <|
 o_imul <|
 o_iload 2 <|
 o_iadd <|
 o_ireturn))
def en_X6_usedWith_46 (p1 : Int) (p2 : Int) (h0 : Ob) (a : Int) : XSt := ([some (.inr (.inl (0, 0))), some (.inl p1), some (.inl p2), none, some (.inl a)], [], [h0])
noncomputable def mg_X6_usedWith_0 (p1 : Int) (p2 : Int) (h0 : Ob) (k41 : Int → Option Rt) (a : Unit) : Option Rt :=
 if xw p1 ≥ 0 then (if xw (xdiv p1 256) ≥ xw (h0 0 2) then (k41 (xdiv p1 256))
 else (if xin (xdiv p1 256) 12 then (
 if xw ((xrem p1 256) + p2) > xw (h0 2 (xw (xdiv p1 256)).toNat) then (k41 (xdiv p1 256))
 else (RI (p1 + p2) [h0])) else none))
 else (RI 65536 [h0])
set_option maxRecDepth 100000 in
set_option maxHeartbeats 4000000 in
theorem rq_X6_usedWith_0 (p1 : Int) (p2 : Int) (h0 : Ob) (k41 : XK) (a : Unit) : rg_X6_usedWith_0 k41 (en_X6_usedWith_0 p1 p2 h0 a) = mg_X6_usedWith_0 p1 p2 h0 (fun b => k41 (en_X6_usedWith_41 p1 p2 h0 b)) a := rfl
set_option maxRecDepth 100000 in
set_option maxHeartbeats 4000000 in
theorem sg_X6_usedWith_0 {X : XDyn} {r0 : Rt} (C : XO X mX6_usedWith) {k41 : XK} (q41 : XS X mX6_usedWith r0 41 k41) : XS X mX6_usedWith r0 0 (rg_X6_usedWith_0 k41) := by
 unfold rg_X6_usedWith_0
 exact s_iload_n (pc := 0) C dX6_usedWith_0 rfl <|
    s_if_ge (pc := 1) C dX6_usedWith_1 (by decide) (s_iload_n (pc := 7) C dX6_usedWith_7 rfl <|
    s_sipush (pc := 8) C dX6_usedWith_8 (by decide) <|
    s_idiv (pc := 11) C dX6_usedWith_11 <|
    s_istore_n (pc := 12) C dX6_usedWith_12 rfl <|
    s_iload_n (pc := 13) C dX6_usedWith_13 rfl <|
    s_aload_n (pc := 14) C dX6_usedWith_14 rfl <|
    s_get (pc := 15) C (ci := 6) (kf := 2) rfl inX6 (by decide) wd_203 dX6_usedWith_15 <|
    s_icmp_ge (pc := 18) C dX6_usedWith_18 (by decide) (s_cut q41)
    (s_iload_n (pc := 21) C dX6_usedWith_21 rfl <|
    s_sipush (pc := 22) C dX6_usedWith_22 (by decide) <|
    s_irem (pc := 25) C dX6_usedWith_25 <|
    s_iload_n (pc := 26) C dX6_usedWith_26 rfl <|
    s_iadd (pc := 27) C dX6_usedWith_27 <|
    s_aload_n (pc := 28) C dX6_usedWith_28 rfl <|
    s_get (pc := 29) C (ci := 6) (kf := 1) rfl inX6 (by decide) wd_200 dX6_usedWith_29 <|
    s_iload_n (pc := 32) C dX6_usedWith_32 rfl <|
    s_iald (pc := 33) C dX6_usedWith_33 <|
    s_icmp_gt (pc := 34) C dX6_usedWith_34 (by decide) (s_cut q41)
    (s_iload_n (pc := 37) C dX6_usedWith_37 rfl <|
    s_iload_n (pc := 38) C dX6_usedWith_38 rfl <|
    s_iadd (pc := 39) C dX6_usedWith_39 <|
    s_ireturn (pc := 40) C rfl dX6_usedWith_40)))
    (s_ldc (pc := 4) C dX6_usedWith_4 wd_474 rfl <|
    s_ireturn (pc := 6) C rfl dX6_usedWith_6)
noncomputable def mg_X6_usedWith_41 (p1 : Int) (p2 : Int) (h0 : Ob) (k46 : Int → Option Rt) (a : Int) : Option Rt :=
 k46 (a + 1)
set_option maxRecDepth 100000 in
set_option maxHeartbeats 4000000 in
theorem rq_X6_usedWith_41 (p1 : Int) (p2 : Int) (h0 : Ob) (k46 : XK) (a : Int) : rg_X6_usedWith_41 k46 (en_X6_usedWith_41 p1 p2 h0 a) = mg_X6_usedWith_41 p1 p2 h0 (fun b => k46 (en_X6_usedWith_46 p1 p2 h0 b)) a := rfl
set_option maxRecDepth 100000 in
set_option maxHeartbeats 4000000 in
theorem sg_X6_usedWith_41 {X : XDyn} {r0 : Rt} (C : XO X mX6_usedWith) {k46 : XK} (q46 : XS X mX6_usedWith r0 46 k46) : XS X mX6_usedWith r0 41 (rg_X6_usedWith_41 k46) := by
 unfold rg_X6_usedWith_41
 exact s_iload_n (pc := 41) C dX6_usedWith_41 rfl <|
    s_iconst (pc := 42) C dX6_usedWith_42 <|
    s_iadd (pc := 43) C dX6_usedWith_43 <|
    s_istore (pc := 44) C dX6_usedWith_44 <|
    s_cut q46
noncomputable def mg_X6_usedWith_46 (p1 : Int) (p2 : Int) (h0 : Ob) (k46 : Int → Option Rt) (a : Int) : Option Rt :=
 if xw a ≥ xw (h0 0 2) then (RI 65536 [h0])
 else (if xin a 12 then (
 if xw p2 > xw (h0 2 (xw a).toNat) then (k46 (a + 1))
 else (RI ((a * 256) + p2) [h0])) else none)
set_option maxRecDepth 100000 in
set_option maxHeartbeats 4000000 in
theorem rq_X6_usedWith_46 (p1 : Int) (p2 : Int) (h0 : Ob) (k46 : XK) (a : Int) : rg_X6_usedWith_46 k46 (en_X6_usedWith_46 p1 p2 h0 a) = mg_X6_usedWith_46 p1 p2 h0 (fun b => k46 (en_X6_usedWith_46 p1 p2 h0 b)) a := rfl
set_option maxRecDepth 100000 in
set_option maxHeartbeats 4000000 in
theorem sg_X6_usedWith_46 {X : XDyn} {r0 : Rt} (C : XO X mX6_usedWith) {k46 : XK} (q46 : XS X mX6_usedWith r0 46 k46) : XS X mX6_usedWith r0 46 (rg_X6_usedWith_46 k46) := by
 unfold rg_X6_usedWith_46
 exact s_iload (pc := 46) C dX6_usedWith_46 <|
    s_aload_n (pc := 48) C dX6_usedWith_48 rfl <|
    s_get (pc := 49) C (ci := 6) (kf := 2) rfl inX6 (by decide) wd_203 dX6_usedWith_49 <|
    s_icmp_ge (pc := 52) C dX6_usedWith_52 (by decide) (s_ldc (pc := 81) C dX6_usedWith_81 wd_474 rfl <|
    s_ireturn (pc := 83) C rfl dX6_usedWith_83)
    (s_iload_n (pc := 55) C dX6_usedWith_55 rfl <|
    s_aload_n (pc := 56) C dX6_usedWith_56 rfl <|
    s_get (pc := 57) C (ci := 6) (kf := 1) rfl inX6 (by decide) wd_200 dX6_usedWith_57 <|
    s_iload (pc := 60) C dX6_usedWith_60 <|
    s_iald (pc := 62) C dX6_usedWith_62 <|
    s_icmp_gt (pc := 63) C dX6_usedWith_63 (by decide) (s_iinc (pc := 75) C dX6_usedWith_75 <|
    s_goto (pc := 78) C dX6_usedWith_78 (by decide) <|
    s_cut q46)
    (s_iload (pc := 66) C dX6_usedWith_66 <|
    s_sipush (pc := 68) C dX6_usedWith_68 (by decide) <|
    s_imul (pc := 71) C dX6_usedWith_71 <|
    s_iload_n (pc := 72) C dX6_usedWith_72 rfl <|
    s_iadd (pc := 73) C dX6_usedWith_73 <|
    s_ireturn (pc := 74) C rfl dX6_usedWith_74))
noncomputable def rw_X6_usedWith_46 (f : Nat) : XK := tlp (fun k46 => rg_X6_usedWith_46 k46) f
noncomputable def lb_X6_usedWith_46 (p1 : Int) (p2 : Int) (h0 : Ob) (f : Nat) : ((Int) → Option Rt) → Int → Option Rt := fun k46 => mg_X6_usedWith_46 p1 p2 h0 k46
noncomputable def md_X6_usedWith_46 (p1 : Int) (p2 : Int) (h0 : Ob) (f : Nat) : Int → Option Rt := tlp (lb_X6_usedWith_46 p1 p2 h0 f) f
theorem eq_X6_usedWith_46 (p1 : Int) (p2 : Int) (h0 : Ob) (f : Nat) (a : Int) : rw_X6_usedWith_46 f (en_X6_usedWith_46 p1 p2 h0 a) = md_X6_usedWith_46 p1 p2 h0 f a :=
 tlp_enc (en_X6_usedWith_46 p1 p2 h0) (fun k46 a => (rq_X6_usedWith_46 p1 p2 h0 k46 a).trans (congrFun (congr (rfl : mg_X6_usedWith_46 p1 p2 h0 = mg_X6_usedWith_46 p1 p2 h0) rfl) a)) f a
theorem sd_X6_usedWith_46 (f : Nat) {X : XDyn} {r0 : Rt} (C : XO X mX6_usedWith) : XS X mX6_usedWith r0 46 (rw_X6_usedWith_46 f) := s_lp (fun k46 q46 => sg_X6_usedWith_46 C q46) f
noncomputable def rw_X6_usedWith_41 (f : Nat) : XK := rg_X6_usedWith_41 (rw_X6_usedWith_46 f)
noncomputable def md_X6_usedWith_41 (p1 : Int) (p2 : Int) (h0 : Ob) (f : Nat) : Int → Option Rt := mg_X6_usedWith_41 p1 p2 h0 (md_X6_usedWith_46 p1 p2 h0 f)
theorem eq_X6_usedWith_41 (p1 : Int) (p2 : Int) (h0 : Ob) (f : Nat) (a : Int) : rw_X6_usedWith_41 f (en_X6_usedWith_41 p1 p2 h0 a) = md_X6_usedWith_41 p1 p2 h0 f a :=
 (rq_X6_usedWith_41 p1 p2 h0 (rw_X6_usedWith_46 f) a).trans (congrFun (congr (rfl : mg_X6_usedWith_41 p1 p2 h0 = mg_X6_usedWith_41 p1 p2 h0) (funext (eq_X6_usedWith_46 p1 p2 h0 f))) a)
theorem sd_X6_usedWith_41 (f : Nat) {X : XDyn} {r0 : Rt} (C : XO X mX6_usedWith) : XS X mX6_usedWith r0 41 (rw_X6_usedWith_41 f) := sg_X6_usedWith_41 C (sd_X6_usedWith_46 f C)
noncomputable def rw_X6_usedWith_0 (f : Nat) : XK := rg_X6_usedWith_0 (rw_X6_usedWith_41 f)
noncomputable def md_X6_usedWith_0 (p1 : Int) (p2 : Int) (h0 : Ob) (f : Nat) : Unit → Option Rt := mg_X6_usedWith_0 p1 p2 h0 (md_X6_usedWith_41 p1 p2 h0 f)
theorem eq_X6_usedWith_0 (p1 : Int) (p2 : Int) (h0 : Ob) (f : Nat) (a : Unit) : rw_X6_usedWith_0 f (en_X6_usedWith_0 p1 p2 h0 a) = md_X6_usedWith_0 p1 p2 h0 f a :=
 (rq_X6_usedWith_0 p1 p2 h0 (rw_X6_usedWith_41 f) a).trans (congrFun (congr (rfl : mg_X6_usedWith_0 p1 p2 h0 = mg_X6_usedWith_0 p1 p2 h0) (funext (eq_X6_usedWith_41 p1 p2 h0 f))) a)
theorem sd_X6_usedWith_0 (f : Nat) {X : XDyn} {r0 : Rt} (C : XO X mX6_usedWith) : XS X mX6_usedWith r0 0 (rw_X6_usedWith_0 f) := sg_X6_usedWith_0 C (sd_X6_usedWith_41 f C)
theorem ctr_X6_usedWith (f : Nat) : XCt yX6_usedWith mX6_usedWith (xF mX6_usedWith (rw_X6_usedWith_0 f)) := xMet (by decide +kernel) rfl (fun _ _ C => sd_X6_usedWith_0 f C)
theorem eqf_X6_usedWith (f : Nat) (p1 : Int) (p2 : Int) (h0 : Ob) : xF mX6_usedWith (rw_X6_usedWith_0 f) [.inr (.inl (0, 0)), .inl p1, .inl p2] [h0] = md_X6_usedWith_0 p1 p2 h0 f () := eq_X6_usedWith_0 p1 p2 h0 f ()
theorem yi_X6_usedWith : yX6_usedWith.cls = RX6 ∧ yX6_usedWith.cls ≠ "java/lang/invoke/MethodHandle" ∧ yX6_usedWith.cls ≠ "java/lang/invoke/VarHandle" ∧ (parseMethodDescriptor yX6_usedWith.desc).map (fun d => d.parameters.length) = some 2 := ⟨rfl, by decide +kernel, by decide +kernel, by decide +kernel⟩
theorem sp_X6_usedWith (f : Nat) (hf : 1000 ≤ f) (p1 p2 : Int) (h0 : Ob) (hg : rk h0 = true) : md_X6_usedWith_0 p1 p2 h0 f () = RI (uwF h0 p1 p2) [h0] := by
  obtain ⟨g1, g2⟩ := rk_iff.mp hg
  have hx : xw (h0 0 2) = h0 0 2 := xw_id (by omega) (by omega)
  simp only [md_X6_usedWith_0, mg_X6_usedWith_0, md_X6_usedWith_41, mg_X6_usedWith_41]
  unfold uwF
  by_cases hu : xw p1 ≥ 0
  · rw [if_pos hu, xdiv_pos hu (by omega) (by omega), xrem_pos hu (by omega) (by omega), hx]
    have hub : xw p1 < 2147483648 := by rw [xw_def]; omega
    have hd : 0 ≤ xw p1 / 256 ∧ xw p1 / 256 ≤ xw p1 := by omega
    rw [xw_id (x := xw p1 / 256) (by omega) (by omega), if_neg (show ¬ xw p1 < 0 by omega)]
    have key : ∀ (d i f' : Nat), (h0 0 2).toNat ≤ i + d → i ≤ 16777216 → d < f' → tlp (lb_X6_usedWith_46 p1 p2 h0 f) f' (i : Int) = RI (match (List.range' i ((h0 0 2).toNat - i)).find? (fun i => decide (xw p2 ≤ xw (h0 2 i))) with
        | some i => (i : Int) * 256 + p2
        | none => 65536) [h0] := by
      intro d
      induction d with
      | zero =>
        intro i f' hi hi2 hf
        cases f' with
        | zero => omega
        | succ f' =>
          rw [tlp_succ]
          simp only [lb_X6_usedWith_46, mg_X6_usedWith_46, xw_nat (show i < 2147483648 by omega), hx]
          rw [if_pos (by omega), show (h0 0 2).toNat - i = 0 by omega]
          rfl
      | succ d ih =>
        intro i f' hi hi2 hf
        cases f' with
        | zero => omega
        | succ f' =>
          rw [tlp_succ]
          simp only [lb_X6_usedWith_46, mg_X6_usedWith_46, xw_nat (show i < 2147483648 by omega), hx, toNat_nat]
          by_cases hin : (i : Int) ≥ h0 0 2
          · rw [if_pos hin, show (h0 0 2).toNat - i = 0 by omega]
            rfl
          · rw [if_neg hin, xin_nat (show i < 12 by omega) (by omega), if_pos rfl, show (h0 0 2).toNat - i = ((h0 0 2).toNat - (i + 1)) + 1 by omega, List.range'_succ, List.find?_cons]
            by_cases hq : xw p2 ≤ xw (h0 2 i)
            · rw [if_neg (by omega)]
              simp [hq]
            · rw [if_pos (by omega)]
              simp only [hq, decide_false]
              exact ih (i + 1) f' (by omega) (by omega) (by omega)
    have hfin : md_X6_usedWith_46 p1 p2 h0 f (xw p1 / 256 + 1) = RI (match (List.range (h0 0 2).toNat).find? (fun i : Nat => decide (xw p1 / 256 < (i : Int)) && decide (xw p2 ≤ xw (h0 2 i))) with
        | some i => (i : Int) * 256 + p2
        | none => 65536) [h0] := by
      have hc : xw p1 / 256 + 1 = (((xw p1 / 256 + 1).toNat : Nat) : Int) := by omega
      rw [hc]
      have := key 12 (xw p1 / 256 + 1).toNat f (by omega) (by omega) (by omega)
      refine this.trans ?_
      generalize hc1 : (xw p1 / 256 + 1).toNat = c1
      have e : (List.range (h0 0 2).toNat).find? (fun i : Nat => decide (xw p1 / 256 < (i : Int)) && decide (xw p2 ≤ xw (h0 2 i))) = (List.range' c1 ((h0 0 2).toNat - c1)).find? (fun i => decide (xw p2 ≤ xw (h0 2 i))) := by
        rw [List.range_eq_range']
        have key2 : ∀ (d s : Nat), (List.range' s d).find? (fun i : Nat => decide (xw p1 / 256 < (i : Int)) && decide (xw p2 ≤ xw (h0 2 i))) = (List.range' (max s c1) (d - (max s c1 - s))).find? (fun i => decide (xw p2 ≤ xw (h0 2 i))) := by
          intro d
          induction d with
          | zero => intro s; simp
          | succ d ih =>
            intro s
            rw [List.range'_succ, List.find?_cons]
            by_cases hs : c1 ≤ s
            · have t1 : decide (xw p1 / 256 < (s : Int)) = true := decide_eq_true (by omega)
              rw [t1, Bool.true_and, show max s c1 = s by omega, show d + 1 - (s - s) = d + 1 by omega, List.range'_succ, List.find?_cons, ih (s + 1), show max (s + 1) c1 = s + 1 by omega, show d - (s + 1 - (s + 1)) = d by omega]
            · have t1 : decide (xw p1 / 256 < (s : Int)) = false := decide_eq_false (by omega)
              rw [t1, Bool.false_and, ih (s + 1), show max (s + 1) c1 = c1 by omega, show max s c1 = c1 by omega, show d - (c1 - (s + 1)) = d + 1 - (c1 - s) by omega]
        have := key2 (h0 0 2).toNat 0
        simpa using this
      rw [e]
    by_cases h1 : xw p1 / 256 < h0 0 2
    · rw [if_neg (by omega), xin_of (n := 12) (by rw [xw_id (by omega) (by omega)]; omega) (by rw [xw_id (by omega) (by omega)]; omega), if_pos rfl]
      by_cases h2 : xw (xw p1 % 256 + p2) ≤ xw (h0 2 (xw p1 / 256).toNat)
      · rw [if_neg (by omega), if_pos (show xw p1 / 256 < h0 0 2 ∧ xw (xw p1 % 256 + p2) ≤ xw (h0 2 (xw p1 / 256).toNat) from ⟨h1, h2⟩)]
      · rw [if_pos (by omega), if_neg (show ¬ (xw p1 / 256 < h0 0 2 ∧ xw (xw p1 % 256 + p2) ≤ xw (h0 2 (xw p1 / 256).toNat)) from fun z => h2 z.2)]
        exact hfin
    · rw [if_pos (by omega), if_neg (show ¬ (xw p1 / 256 < h0 0 2 ∧ xw (xw p1 % 256 + p2) ≤ xw (h0 2 (xw p1 / 256).toNat)) from fun z => h1 z.1)]
      exact hfin
  · rw [if_neg hu, if_pos (show xw p1 < 0 by omega)]
noncomputable def g_X6_usedWith : List AV → List Ob → Bool
  | [.inr (.inl (0, 0)), .inl p1, .inl p2], [h0] => rk h0
  | _, _ => false
noncomputable def v_X6_usedWith : List AV → List Ob → Rt
  | [.inr (.inl (0, 0)), .inl p1, .inl p2], [h0] => (some (.inl (uwF h0 p1 p2)), [h0])
  | _, _ => (none, [])
theorem ct_X6_usedWith : XCt yX6_usedWith mX6_usedWith (fun as μ => if g_X6_usedWith as μ then some (v_X6_usedWith as μ) else none) := (ctr_X6_usedWith xfu).of (fun as μ r h => by
  split at h
  · rename_i hg
    unfold g_X6_usedWith at hg
    split at hg
    · rw [← h]
      exact (eqf_X6_usedWith xfu _ _ _).trans (sp_X6_usedWith xfu (xfu_ge (by decide)) _ _ _ hg)
    · cases hg
  · cases h)
theorem dX4_add_0 : decode cX4_add 0 = .ok (.aload_n 0, 1) := by decide +kernel
theorem dX4_add_1 : decode cX4_add 1 = .ok (.getfield 18, 3) := by decide +kernel
theorem dX4_add_4 : decode cX4_add 4 = .ok (.bipush 11, 2) := by decide +kernel
theorem dX4_add_6 : decode cX4_add 6 = .ok (.if_icmp .ge 53, 3) := by decide +kernel
theorem dX4_add_9 : decode cX4_add 9 = .ok (.aload_n 0, 1) := by decide +kernel
theorem dX4_add_10 : decode cX4_add 10 = .ok (.getfield 9, 3) := by decide +kernel
theorem dX4_add_13 : decode cX4_add 13 = .ok (.aload_n 0, 1) := by decide +kernel
theorem dX4_add_14 : decode cX4_add 14 = .ok (.getfield 18, 3) := by decide +kernel
theorem dX4_add_17 : decode cX4_add 17 = .ok (.iload_n 1, 1) := by decide +kernel
theorem dX4_add_18 : decode cX4_add 18 = .ok (.iastore, 1) := by decide +kernel
theorem dX4_add_19 : decode cX4_add 19 = .ok (.aload_n 0, 1) := by decide +kernel
theorem dX4_add_20 : decode cX4_add 20 = .ok (.dup, 1) := by decide +kernel
theorem dX4_add_21 : decode cX4_add 21 = .ok (.getfield 18, 3) := by decide +kernel
theorem dX4_add_24 : decode cX4_add 24 = .ok (.iconst 1, 1) := by decide +kernel
theorem dX4_add_25 : decode cX4_add 25 = .ok (.iadd, 1) := by decide +kernel
theorem dX4_add_26 : decode cX4_add 26 = .ok (.putfield 18, 3) := by decide +kernel
theorem dX4_add_29 : decode cX4_add 29 = .ok (.aload_n 0, 1) := by decide +kernel
theorem dX4_add_30 : decode cX4_add 30 = .ok (.dup, 1) := by decide +kernel
theorem dX4_add_31 : decode cX4_add 31 = .ok (.getfield 22, 3) := by decide +kernel
theorem dX4_add_34 : decode cX4_add 34 = .ok (.iload_n 1, 1) := by decide +kernel
theorem dX4_add_35 : decode cX4_add 35 = .ok (.iadd, 1) := by decide +kernel
theorem dX4_add_36 : decode cX4_add 36 = .ok (.putfield 22, 3) := by decide +kernel
theorem dX4_add_39 : decode cX4_add 39 = .ok (.aload_n 0, 1) := by decide +kernel
theorem dX4_add_40 : decode cX4_add 40 = .ok (.iload_n 1, 1) := by decide +kernel
theorem dX4_add_41 : decode cX4_add 41 = .ok (.aload_n 0, 1) := by decide +kernel
theorem dX4_add_42 : decode cX4_add 42 = .ok (.getfield 25, 3) := by decide +kernel
theorem dX4_add_45 : decode cX4_add 45 = .ok (.if_icmp .le 7, 3) := by decide +kernel
theorem dX4_add_48 : decode cX4_add 48 = .ok (.iload_n 1, 1) := by decide +kernel
theorem dX4_add_49 : decode cX4_add 49 = .ok (.goto 7, 3) := by decide +kernel
theorem dX4_add_52 : decode cX4_add 52 = .ok (.aload_n 0, 1) := by decide +kernel
theorem dX4_add_53 : decode cX4_add 53 = .ok (.getfield 25, 3) := by decide +kernel
theorem dX4_add_56 : decode cX4_add 56 = .ok (.putfield 25, 3) := by decide +kernel
theorem dX4_add_59 : decode cX4_add 59 = .ok (.return_, 1) := by decide +kernel
abbrev mX4_add : XM := (cX4_add, 2, RX4, none, shw_4, 0)
noncomputable def rg_X4_add_0 : XK :=
 o_aload 0 <|
 o_get shw_4 4 2 <|
 o_iconst 11 <|
 o_icmp_ge (o_return)
 (o_aload 0 <|
 o_get shw_4 4 0 <|
 o_aload 0 <|
 o_get shw_4 4 2 <|
 o_iload 1 <|
 o_iast shw_4 <|
 o_aload 0 <|
 o_dup <|
 o_get shw_4 4 2 <|
 o_iconst 1 <|
 o_iadd <|
 o_put shw_4 4 2 false <|
 o_aload 0 <|
 o_dup <|
 o_get shw_4 4 3 <|
 o_iload 1 <|
 o_iadd <|
 o_put shw_4 4 3 false <|
 o_aload 0 <|
 o_iload 1 <|
 o_aload 0 <|
 o_get shw_4 4 4 <|
 o_icmp_le (o_aload 0 <|
 o_get shw_4 4 4 <|
 o_put shw_4 4 4 false <|
 o_return)
 (o_iload 1 <|
 o_put shw_4 4 4 false <|
 o_return))
def en_X4_add_0 (p1 : Int) (a : Ob) : XSt := ([some (.inr (.inl (0, 0))), some (.inl p1)], [], [a])
noncomputable def mg_X4_add_0 (p1 : Int) (a : Ob) : Option Rt :=
 if xw (a 0 2) ≥ 11 then (RV [a])
 else (if xin (a 0 2) 11 then (
 if xw p1 ≤ xw ((xset (xset (xset a 1 (xw (a 0 2)).toNat p1) 0 2 (((xset a 1 (xw (a 0 2)).toNat p1) 0 2) + 1)) 0 3 (((xset (xset a 1 (xw (a 0 2)).toNat p1) 0 2 (((xset a 1 (xw (a 0 2)).toNat p1) 0 2) + 1)) 0 3) + p1)) 0 4) then (RV [(xset (xset (xset (xset a 1 (xw (a 0 2)).toNat p1) 0 2 (((xset a 1 (xw (a 0 2)).toNat p1) 0 2) + 1)) 0 3 (((xset (xset a 1 (xw (a 0 2)).toNat p1) 0 2 (((xset a 1 (xw (a 0 2)).toNat p1) 0 2) + 1)) 0 3) + p1)) 0 4 ((xset (xset (xset a 1 (xw (a 0 2)).toNat p1) 0 2 (((xset a 1 (xw (a 0 2)).toNat p1) 0 2) + 1)) 0 3 (((xset (xset a 1 (xw (a 0 2)).toNat p1) 0 2 (((xset a 1 (xw (a 0 2)).toNat p1) 0 2) + 1)) 0 3) + p1)) 0 4))])
 else (RV [(xset (xset (xset (xset a 1 (xw (a 0 2)).toNat p1) 0 2 (((xset a 1 (xw (a 0 2)).toNat p1) 0 2) + 1)) 0 3 (((xset (xset a 1 (xw (a 0 2)).toNat p1) 0 2 (((xset a 1 (xw (a 0 2)).toNat p1) 0 2) + 1)) 0 3) + p1)) 0 4 p1)])) else none)
set_option maxRecDepth 100000 in
set_option maxHeartbeats 4000000 in
theorem rq_X4_add_0 (p1 : Int) (a : Ob) : rg_X4_add_0 (en_X4_add_0 p1 a) = mg_X4_add_0 p1 a := rfl
set_option maxRecDepth 100000 in
set_option maxHeartbeats 4000000 in
theorem sg_X4_add_0 {X : XDyn} {r0 : Rt} (C : XO X mX4_add) : XS X mX4_add r0 0 (rg_X4_add_0) := by
 unfold rg_X4_add_0
 exact s_aload_n (pc := 0) C dX4_add_0 rfl <|
    s_get (pc := 1) C (ci := 4) (kf := 2) rfl inX4 (by decide) wd_222 dX4_add_1 <|
    s_bipush (pc := 4) C dX4_add_4 (by decide) <|
    s_icmp_ge (pc := 6) C dX4_add_6 (by decide) (s_return (pc := 59) C rfl dX4_add_59)
    (s_aload_n (pc := 9) C dX4_add_9 rfl <|
    s_get (pc := 10) C (ci := 4) (kf := 0) rfl inX4 (by decide) wd_220 dX4_add_10 <|
    s_aload_n (pc := 13) C dX4_add_13 rfl <|
    s_get (pc := 14) C (ci := 4) (kf := 2) rfl inX4 (by decide) wd_222 dX4_add_14 <|
    s_iload_n (pc := 17) C dX4_add_17 rfl <|
    s_iast (pc := 18) C dX4_add_18 <|
    s_aload_n (pc := 19) C dX4_add_19 rfl <|
    s_dup (pc := 20) C dX4_add_20 <|
    s_get (pc := 21) C (ci := 4) (kf := 2) rfl inX4 (by decide) wd_222 dX4_add_21 <|
    s_iconst (pc := 24) C dX4_add_24 <|
    s_iadd (pc := 25) C dX4_add_25 <|
    s_put (pc := 26) (z := false) C (ci := 4) (kf := 2) rfl inX4 tyX4_ok nmX4 (by decide) wd_222 rfl rfl dX4_add_26 <|
    s_aload_n (pc := 29) C dX4_add_29 rfl <|
    s_dup (pc := 30) C dX4_add_30 <|
    s_get (pc := 31) C (ci := 4) (kf := 3) rfl inX4 (by decide) wd_223 dX4_add_31 <|
    s_iload_n (pc := 34) C dX4_add_34 rfl <|
    s_iadd (pc := 35) C dX4_add_35 <|
    s_put (pc := 36) (z := false) C (ci := 4) (kf := 3) rfl inX4 tyX4_ok nmX4 (by decide) wd_223 rfl rfl dX4_add_36 <|
    s_aload_n (pc := 39) C dX4_add_39 rfl <|
    s_iload_n (pc := 40) C dX4_add_40 rfl <|
    s_aload_n (pc := 41) C dX4_add_41 rfl <|
    s_get (pc := 42) C (ci := 4) (kf := 4) rfl inX4 (by decide) wd_224 dX4_add_42 <|
    s_icmp_le (pc := 45) C dX4_add_45 (by decide) (s_aload_n (pc := 52) C dX4_add_52 rfl <|
    s_get (pc := 53) C (ci := 4) (kf := 4) rfl inX4 (by decide) wd_224 dX4_add_53 <|
    s_put (pc := 56) (z := false) C (ci := 4) (kf := 4) rfl inX4 tyX4_ok nmX4 (by decide) wd_224 rfl rfl dX4_add_56 <|
    s_return (pc := 59) C rfl dX4_add_59)
    (s_iload_n (pc := 48) C dX4_add_48 rfl <|
    s_goto (pc := 49) C dX4_add_49 (by decide) <|
    s_put (pc := 56) (z := false) C (ci := 4) (kf := 4) rfl inX4 tyX4_ok nmX4 (by decide) wd_224 rfl rfl dX4_add_56 <|
    s_return (pc := 59) C rfl dX4_add_59))
noncomputable def rw_X4_add_0 : XK := rg_X4_add_0
noncomputable def md_X4_add_0 (p1 : Int) : Ob → Option Rt := mg_X4_add_0 p1
theorem eq_X4_add_0 (p1 : Int) (a : Ob) : rw_X4_add_0 (en_X4_add_0 p1 a) = md_X4_add_0 p1 a :=
 rq_X4_add_0 p1 a
theorem sd_X4_add_0 {X : XDyn} {r0 : Rt} (C : XO X mX4_add) : XS X mX4_add r0 0 (rw_X4_add_0) := sg_X4_add_0 C
theorem ctr_X4_add : XCt yX4_add mX4_add (xF mX4_add (rw_X4_add_0)) := xMet (by decide +kernel) rfl (fun _ _ C => sd_X4_add_0 C)
theorem eqf_X4_add (p1 : Int) (h0 : Ob) : xF mX4_add (rw_X4_add_0) [.inr (.inl (0, 0)), .inl p1] [h0] = md_X4_add_0 p1 h0 := eq_X4_add_0 p1 h0
theorem yi_X4_add : yX4_add.cls = RX4 ∧ yX4_add.cls ≠ "java/lang/invoke/MethodHandle" ∧ yX4_add.cls ≠ "java/lang/invoke/VarHandle" ∧ (parseMethodDescriptor yX4_add.desc).map (fun d => d.parameters.length) = some 1 := ⟨rfl, by decide +kernel, by decide +kernel, by decide +kernel⟩
theorem sp_X4_add (p1 : Int) (h0 : Ob) (hg : decide (0 ≤ xw (h0 0 2)) = true) : md_X4_add_0 p1 h0 = RV [pkA h0 p1] := by
  have hg := of_decide_eq_true hg
  simp only [md_X4_add_0, mg_X4_add_0]
  unfold pkA
  have e1 : xset h0 1 (xw (h0 0 2)).toNat p1 0 2 = h0 0 2 := xset_part _ _ _ _ (by omega) _
  have e2 : ∀ v : Int, xset (xset h0 1 (xw (h0 0 2)).toNat p1) 0 2 v 0 3 = h0 0 3 := fun v => by rw [xset_idx _ _ _ _ (by omega), xset_part _ _ _ _ (by omega)]
  have e3 : ∀ v w : Int, xset (xset (xset h0 1 (xw (h0 0 2)).toNat p1) 0 2 v) 0 3 w 0 4 = h0 0 4 := fun v w => by rw [xset_idx _ _ _ _ (by omega), xset_idx _ _ _ _ (by omega), xset_part _ _ _ _ (by omega)]
  by_cases h1 : xw (h0 0 2) ≥ 11
  · rw [if_pos h1, if_neg (by omega)]
  · rw [if_neg h1, xin_of (n := 11) hg (by omega), if_pos rfl, if_pos (show xw (h0 0 2) < 11 by omega)]
    simp only [e1, e2, e3]
    by_cases h2 : xw (h0 0 4) < xw p1
    · rw [if_neg (by omega), if_pos h2]
    · rw [if_pos (by omega), if_neg h2]
noncomputable def g_X4_add : List AV → List Ob → Bool
  | [.inr (.inl (0, 0)), .inl p1], [h0] => decide (0 ≤ xw (h0 0 2))
  | _, _ => false
noncomputable def v_X4_add : List AV → List Ob → Rt
  | [.inr (.inl (0, 0)), .inl p1], [h0] => (none, [(pkA h0 p1)])
  | _, _ => (none, [])
theorem ct_X4_add : XCt yX4_add mX4_add (fun as μ => if g_X4_add as μ then some (v_X4_add as μ) else none) := (ctr_X4_add ).of (fun as μ r h => by
  split at h
  · rename_i hg
    unfold g_X4_add at hg
    split at hg
    · rw [← h]
      exact (eqf_X4_add _ _).trans (sp_X4_add _ _ hg)
    · cases hg
  · cases h)
theorem dX4_fillWith_0 : decode cX4_fillWith 0 = .ok (.aload_n 0, 1) := by decide +kernel
theorem dX4_fillWith_1 : decode cX4_fillWith 1 = .ok (.iconst 0, 1) := by decide +kernel
theorem dX4_fillWith_2 : decode cX4_fillWith 2 = .ok (.putfield 18, 3) := by decide +kernel
theorem dX4_fillWith_5 : decode cX4_fillWith 5 = .ok (.aload_n 0, 1) := by decide +kernel
theorem dX4_fillWith_6 : decode cX4_fillWith 6 = .ok (.iconst 0, 1) := by decide +kernel
theorem dX4_fillWith_7 : decode cX4_fillWith 7 = .ok (.putfield 22, 3) := by decide +kernel
theorem dX4_fillWith_10 : decode cX4_fillWith 10 = .ok (.aload_n 0, 1) := by decide +kernel
theorem dX4_fillWith_11 : decode cX4_fillWith 11 = .ok (.iconst 0, 1) := by decide +kernel
theorem dX4_fillWith_12 : decode cX4_fillWith 12 = .ok (.putfield 25, 3) := by decide +kernel
theorem dX4_fillWith_15 : decode cX4_fillWith 15 = .ok (.iconst 0, 1) := by decide +kernel
theorem dX4_fillWith_16 : decode cX4_fillWith 16 = .ok (.istore_n 3, 1) := by decide +kernel
theorem dX4_fillWith_17 : decode cX4_fillWith 17 = .ok (.iload_n 3, 1) := by decide +kernel
theorem dX4_fillWith_18 : decode cX4_fillWith 18 = .ok (.bipush 8, 2) := by decide +kernel
theorem dX4_fillWith_20 : decode cX4_fillWith 20 = .ok (.if_icmp .ge 29, 3) := by decide +kernel
theorem dX4_fillWith_23 : decode cX4_fillWith 23 = .ok (.iload_n 2, 1) := by decide +kernel
theorem dX4_fillWith_24 : decode cX4_fillWith 24 = .ok (.iload_n 3, 1) := by decide +kernel
theorem dX4_fillWith_25 : decode cX4_fillWith 25 = .ok (.invokestatic 28, 3) := by decide +kernel
theorem dX4_fillWith_28 : decode cX4_fillWith 28 = .ok (.ifCond .eq 15, 3) := by decide +kernel
theorem dX4_fillWith_31 : decode cX4_fillWith 31 = .ok (.aload_n 0, 1) := by decide +kernel
theorem dX4_fillWith_32 : decode cX4_fillWith 32 = .ok (.aload_n 1, 1) := by decide +kernel
theorem dX4_fillWith_33 : decode cX4_fillWith 33 = .ok (.getfield 32, 3) := by decide +kernel
theorem dX4_fillWith_36 : decode cX4_fillWith 36 = .ok (.iload_n 3, 1) := by decide +kernel
theorem dX4_fillWith_37 : decode cX4_fillWith 37 = .ok (.iaload, 1) := by decide +kernel
theorem dX4_fillWith_38 : decode cX4_fillWith 38 = .ok (.iconst 1, 1) := by decide +kernel
theorem dX4_fillWith_39 : decode cX4_fillWith 39 = .ok (.iadd, 1) := by decide +kernel
theorem dX4_fillWith_40 : decode cX4_fillWith 40 = .ok (.invokevirtual 37, 3) := by decide +kernel
theorem dX4_fillWith_43 : decode cX4_fillWith 43 = .ok (.iinc 3 1, 3) := by decide +kernel
theorem dX4_fillWith_46 : decode cX4_fillWith 46 = .ok (.goto (-29), 3) := by decide +kernel
theorem dX4_fillWith_49 : decode cX4_fillWith 49 = .ok (.return_, 1) := by decide +kernel
abbrev mX4_fillWith : XM := (cX4_fillWith, 4, RX4, none, shw_4_3, 1)
noncomputable def rg_X4_fillWith_0 (k17 : XK) : XK :=
 o_aload 0 <|
 o_iconst 0 <|
 o_put shw_4_3 4 2 false <|
 o_aload 0 <|
 o_iconst 0 <|
 o_put shw_4_3 4 3 false <|
 o_aload 0 <|
 o_iconst 0 <|
 o_put shw_4_3 4 4 false <|
 o_iconst 0 <|
 o_istore 3 <|
 o_cut [] k17
def en_X4_fillWith_0 (p2 : Int) (h1 : Ob) (a : Ob) : XSt := ([some (.inr (.inl (0, 0))), some (.inr (.inl (1, 0))), some (.inl p2), none], [], [a, h1])
noncomputable def rg_X4_fillWith_17 (k43 : XK) : XK :=
 o_iload 3 <|
 o_iconst 8 <|
 o_icmp_ge (o_return)
 (o_iload 2 <|
 o_iload 3 <|
 o_callS 2 1 [] f_X7_isIn <|
 o_if_eq (o_cut [] k43)
 (o_aload 0 <|
 o_aload 1 <|
 o_get shw_4_3 3 1 <|
 o_iload 3 <|
 o_iald shw_4_3 <|
 o_iconst 1 <|
 o_iadd <|
 o_callVg 2 0 [0] g_X4_add v_X4_add <|
 o_cut [] k43))
def en_X4_fillWith_17 (p2 : Int) (h1 : Ob) (a : Int × Ob) : XSt := ([some (.inr (.inl (0, 0))), some (.inr (.inl (1, 0))), some (.inl p2), some (.inl a.1)], [], [a.2, h1])
noncomputable def rg_X4_fillWith_43 (k17 : XK) : XK :=
 o_iinc 3 1 <|
 o_cut [] k17
def en_X4_fillWith_43 (p2 : Int) (h1 : Ob) (a : Int × Ob) : XSt := ([some (.inr (.inl (0, 0))), some (.inr (.inl (1, 0))), some (.inl p2), some (.inl a.1)], [], [a.2, h1])
noncomputable def mg_X4_fillWith_0 (p2 : Int) (h1 : Ob) (k17 : (Int × Ob) → Option Rt) (a : Ob) : Option Rt :=
 k17 (0, (xset (xset (xset a 0 2 0) 0 3 0) 0 4 0))
set_option maxRecDepth 100000 in
set_option maxHeartbeats 4000000 in
theorem rq_X4_fillWith_0 (p2 : Int) (h1 : Ob) (k17 : XK) (a : Ob) : rg_X4_fillWith_0 k17 (en_X4_fillWith_0 p2 h1 a) = mg_X4_fillWith_0 p2 h1 (fun b => k17 (en_X4_fillWith_17 p2 h1 b)) a := rfl
set_option maxRecDepth 100000 in
set_option maxHeartbeats 4000000 in
theorem sg_X4_fillWith_0 {X : XDyn} {r0 : Rt} (C : XO X mX4_fillWith) {k17 : XK} (q17 : XS X mX4_fillWith r0 17 k17) : XS X mX4_fillWith r0 0 (rg_X4_fillWith_0 k17) := by
 unfold rg_X4_fillWith_0
 exact s_aload_n (pc := 0) C dX4_fillWith_0 rfl <|
    s_iconst (pc := 1) C dX4_fillWith_1 <|
    s_put (pc := 2) (z := false) C (ci := 4) (kf := 2) rfl inX4 tyX4_ok nmX4 (by decide) wd_222 rfl rfl dX4_fillWith_2 <|
    s_aload_n (pc := 5) C dX4_fillWith_5 rfl <|
    s_iconst (pc := 6) C dX4_fillWith_6 <|
    s_put (pc := 7) (z := false) C (ci := 4) (kf := 3) rfl inX4 tyX4_ok nmX4 (by decide) wd_223 rfl rfl dX4_fillWith_7 <|
    s_aload_n (pc := 10) C dX4_fillWith_10 rfl <|
    s_iconst (pc := 11) C dX4_fillWith_11 <|
    s_put (pc := 12) (z := false) C (ci := 4) (kf := 4) rfl inX4 tyX4_ok nmX4 (by decide) wd_224 rfl rfl dX4_fillWith_12 <|
    s_iconst (pc := 15) C dX4_fillWith_15 <|
    s_istore_n (pc := 16) C dX4_fillWith_16 rfl <|
    s_cut q17
noncomputable def mg_X4_fillWith_17 (p2 : Int) (h1 : Ob) (k43 : (Int × Ob) → Option Rt) (a : Int × Ob) : Option Rt :=
 if xw a.1 ≥ 8 then (RV [a.2, h1])
 else (if xw (bz (inS p2 a.1)) = 0 then (k43 (a.1, a.2))
 else (if xin a.1 11 then (
 if decide (0 ≤ xw (a.2 0 2)) then (
 k43 (a.1, (pkA a.2 ((h1 2 (xw a.1).toNat) + 1)))) else none) else none))
set_option maxRecDepth 100000 in
set_option maxHeartbeats 4000000 in
theorem rq_X4_fillWith_17 (p2 : Int) (h1 : Ob) (k43 : XK) (a : Int × Ob) : rg_X4_fillWith_17 k43 (en_X4_fillWith_17 p2 h1 a) = mg_X4_fillWith_17 p2 h1 (fun b => k43 (en_X4_fillWith_43 p2 h1 b)) a := rfl
set_option maxRecDepth 100000 in
set_option maxHeartbeats 4000000 in
theorem sg_X4_fillWith_17 {X : XDyn} {r0 : Rt} (C : XO X mX4_fillWith) {k43 : XK} (q43 : XS X mX4_fillWith r0 43 k43) : XS X mX4_fillWith r0 17 (rg_X4_fillWith_17 k43) := by
 unfold rg_X4_fillWith_17
 exact s_iload_n (pc := 17) C dX4_fillWith_17 rfl <|
    s_bipush (pc := 18) C dX4_fillWith_18 (by decide) <|
    s_icmp_ge (pc := 20) C dX4_fillWith_20 (by decide) (s_return (pc := 49) C rfl dX4_fillWith_49)
    (s_iload_n (pc := 23) C dX4_fillWith_23 rfl <|
    s_iload_n (pc := 24) C dX4_fillWith_24 rfl <|
    s_callN (pc := 25) C ct_X7_isIn (n := 2) (rk := 1) (mp := []) ⟨rfl, by decide, rfl⟩ (by decide) (by decide) yi_X7_isIn wd_451 wd_355 wd_73 wd_356 dX4_fillWith_25 <|
    s_if_eq (pc := 28) C dX4_fillWith_28 (by decide) (s_cut q43)
    (s_aload_n (pc := 31) C dX4_fillWith_31 rfl <|
    s_aload_n (pc := 32) C dX4_fillWith_32 rfl <|
    s_get (pc := 33) C (ci := 3) (kf := 1) rfl inX3 (by decide) wd_106 dX4_fillWith_33 <|
    s_iload_n (pc := 36) C dX4_fillWith_36 rfl <|
    s_iald (pc := 37) C dX4_fillWith_37 <|
    s_iconst (pc := 38) C dX4_fillWith_38 <|
    s_iadd (pc := 39) C dX4_fillWith_39 <|
    s_callVg (pc := 40) C ct_X4_add (n := 2) (rk := 0) (mp := [0]) ⟨rfl, by decide, rfl⟩ (ci := 4) rfl rfl (by decide) (by decide) yi_X4_add (by decide) wd_452 wd_453 wd_454 wd_77 wd_455 dX4_fillWith_40 <|
    s_cut q43))
noncomputable def mg_X4_fillWith_43 (p2 : Int) (h1 : Ob) (k17 : (Int × Ob) → Option Rt) (a : Int × Ob) : Option Rt :=
 k17 ((a.1 + 1), a.2)
set_option maxRecDepth 100000 in
set_option maxHeartbeats 4000000 in
theorem rq_X4_fillWith_43 (p2 : Int) (h1 : Ob) (k17 : XK) (a : Int × Ob) : rg_X4_fillWith_43 k17 (en_X4_fillWith_43 p2 h1 a) = mg_X4_fillWith_43 p2 h1 (fun b => k17 (en_X4_fillWith_17 p2 h1 b)) a := rfl
set_option maxRecDepth 100000 in
set_option maxHeartbeats 4000000 in
theorem sg_X4_fillWith_43 {X : XDyn} {r0 : Rt} (C : XO X mX4_fillWith) {k17 : XK} (q17 : XS X mX4_fillWith r0 17 k17) : XS X mX4_fillWith r0 43 (rg_X4_fillWith_43 k17) := by
 unfold rg_X4_fillWith_43
 exact s_iinc (pc := 43) C dX4_fillWith_43 <|
    s_goto (pc := 46) C dX4_fillWith_46 (by decide) <|
    s_cut q17
noncomputable def rw_X4_fillWith_43 (f : Nat) (k17 : XK) : XK := rg_X4_fillWith_43 k17
noncomputable def md_X4_fillWith_43 (p2 : Int) (h1 : Ob) (f : Nat) (k17 : (Int × Ob) → Option Rt) : Int × Ob → Option Rt := mg_X4_fillWith_43 p2 h1 k17
theorem eq_X4_fillWith_43 (p2 : Int) (h1 : Ob) (f : Nat) (k17 : XK) (a : Int × Ob) : rw_X4_fillWith_43 f k17 (en_X4_fillWith_43 p2 h1 a) = md_X4_fillWith_43 p2 h1 f (fun b => k17 (en_X4_fillWith_17 p2 h1 b)) a :=
 (rq_X4_fillWith_43 p2 h1 k17 a).trans (congrFun (congr (rfl : mg_X4_fillWith_43 p2 h1 = mg_X4_fillWith_43 p2 h1) rfl) a)
theorem sd_X4_fillWith_43 (f : Nat) {X : XDyn} {r0 : Rt} (C : XO X mX4_fillWith) {k17 : XK} (q17 : XS X mX4_fillWith r0 17 k17) : XS X mX4_fillWith r0 43 (rw_X4_fillWith_43 f k17) := sg_X4_fillWith_43 C q17
noncomputable def rw_X4_fillWith_17 (f : Nat) : XK := tlp (fun k17 => rg_X4_fillWith_17 (rw_X4_fillWith_43 f k17)) f
noncomputable def lb_X4_fillWith_17 (p2 : Int) (h1 : Ob) (f : Nat) : ((Int × Ob) → Option Rt) → Int × Ob → Option Rt := fun k17 => mg_X4_fillWith_17 p2 h1 (md_X4_fillWith_43 p2 h1 f k17)
noncomputable def md_X4_fillWith_17 (p2 : Int) (h1 : Ob) (f : Nat) : Int × Ob → Option Rt := tlp (lb_X4_fillWith_17 p2 h1 f) f
theorem eq_X4_fillWith_17 (p2 : Int) (h1 : Ob) (f : Nat) (a : Int × Ob) : rw_X4_fillWith_17 f (en_X4_fillWith_17 p2 h1 a) = md_X4_fillWith_17 p2 h1 f a :=
 tlp_enc (en_X4_fillWith_17 p2 h1) (fun k17 a => (rq_X4_fillWith_17 p2 h1 (rw_X4_fillWith_43 f k17) a).trans (congrFun (congr (rfl : mg_X4_fillWith_17 p2 h1 = mg_X4_fillWith_17 p2 h1) (funext (eq_X4_fillWith_43 p2 h1 f k17))) a)) f a
theorem sd_X4_fillWith_17 (f : Nat) {X : XDyn} {r0 : Rt} (C : XO X mX4_fillWith) : XS X mX4_fillWith r0 17 (rw_X4_fillWith_17 f) := s_lp (fun k17 q17 => sg_X4_fillWith_17 C (sd_X4_fillWith_43 f C q17)) f
noncomputable def rw_X4_fillWith_0 (f : Nat) : XK := rg_X4_fillWith_0 (rw_X4_fillWith_17 f)
noncomputable def md_X4_fillWith_0 (p2 : Int) (h1 : Ob) (f : Nat) : Ob → Option Rt := mg_X4_fillWith_0 p2 h1 (md_X4_fillWith_17 p2 h1 f)
theorem eq_X4_fillWith_0 (p2 : Int) (h1 : Ob) (f : Nat) (a : Ob) : rw_X4_fillWith_0 f (en_X4_fillWith_0 p2 h1 a) = md_X4_fillWith_0 p2 h1 f a :=
 (rq_X4_fillWith_0 p2 h1 (rw_X4_fillWith_17 f) a).trans (congrFun (congr (rfl : mg_X4_fillWith_0 p2 h1 = mg_X4_fillWith_0 p2 h1) (funext (eq_X4_fillWith_17 p2 h1 f))) a)
theorem sd_X4_fillWith_0 (f : Nat) {X : XDyn} {r0 : Rt} (C : XO X mX4_fillWith) : XS X mX4_fillWith r0 0 (rw_X4_fillWith_0 f) := sg_X4_fillWith_0 C (sd_X4_fillWith_17 f C)
theorem ctr_X4_fillWith (f : Nat) : XCt yX4_fillWith mX4_fillWith (xF mX4_fillWith (rw_X4_fillWith_0 f)) := xMet (by decide +kernel) rfl (fun _ _ C => sd_X4_fillWith_0 f C)
theorem eqf_X4_fillWith (f : Nat) (p2 : Int) (h0 : Ob) (h1 : Ob) : xF mX4_fillWith (rw_X4_fillWith_0 f) [.inr (.inl (0, 0)), .inr (.inl (1, 0)), .inl p2] [h0, h1] = md_X4_fillWith_0 p2 h1 f h0 := eq_X4_fillWith_0 p2 h1 f h0
theorem yi_X4_fillWith : yX4_fillWith.cls = RX4 ∧ yX4_fillWith.cls ≠ "java/lang/invoke/MethodHandle" ∧ yX4_fillWith.cls ≠ "java/lang/invoke/VarHandle" ∧ (parseMethodDescriptor yX4_fillWith.desc).map (fun d => d.parameters.length) = some 2 := ⟨rfl, by decide +kernel, by decide +kernel, by decide +kernel⟩
theorem pkA_cnt (p : Ob) (a : Int) : (pkA p a) 0 2 = if xw (p 0 2) < 11 then p 0 2 + 1 else p 0 2 := by
  unfold pkA
  split
  · rw [xset_idx _ _ _ _ (by omega), xset_idx _ _ _ _ (by omega), xset_same]
  · rfl
theorem sp_X4_fillWith (f : Nat) (hf : 1000 ≤ f) (p2 : Int) (h0 h1 : Ob) : md_X4_fillWith_0 p2 h1 f h0 = RV [pkF h0 h1 p2, h1] := by
  rw [pkF_e]
  show md_X4_fillWith_17 p2 h1 f (0, xset (xset (xset h0 0 2 0) 0 3 0) 0 4 0) = _
  refine (loop_fold 8 _ (fun s : Ob => RV [s, h1]) (fun i s => ((i : Int), s)) (fun i (s : Ob) => 0 ≤ s 0 2 ∧ s 0 2 ≤ i) (fun k i s hi hI => ?_) (fun k s _ => rfl) f _ (by omega) ?_).1
  · obtain ⟨i1, i2⟩ := hI
    have hx : xw (s 0 2) = s 0 2 := xw_id (by omega) (by omega)
    have t1 : decide (0 ≤ xw (s 0 2)) = true := decide_eq_true (by omega)
    refine ⟨?_, ?_⟩
    · simp only [md_X4_fillWith_0, mg_X4_fillWith_0, lb_X4_fillWith_17, mg_X4_fillWith_17, md_X4_fillWith_43, mg_X4_fillWith_43, xw_nat (show i < 2147483648 by omega), bz_0, xin_nat (show i < 11 by omega) (show 11 ≤ 2147483648 by omega), toNat_nat, t1, if_true]
      rw [if_neg (by omega)]
      cases inS p2 (i : Int) <;> rfl
    · split
      · rw [pkA_cnt, hx, if_pos (by omega)]; omega
      · omega
  · rw [xset_idx _ _ _ _ (by omega), xset_idx _ _ _ _ (by omega), xset_same]
    omega
noncomputable def f_X4_fillWith : List AV → List Ob → Option Rt
  | [.inr (.inl (0, 0)), .inr (.inl (1, 0)), .inl p2], [h0, h1] => some (none, [(pkF h0 h1 p2), h1])
  | _, _ => none
theorem ct_X4_fillWith : XCt yX4_fillWith mX4_fillWith f_X4_fillWith := (ctr_X4_fillWith xfu).of (fun as μ r h => by
  unfold f_X4_fillWith at h
  split at h
  · rw [← h]
    exact (eqf_X4_fillWith xfu _ _ _).trans (sp_X4_fillWith xfu (xfu_ge (by decide)) _ _ _)
  · cases h)
