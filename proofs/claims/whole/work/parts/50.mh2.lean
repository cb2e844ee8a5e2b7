theorem dX7_start_0 : decode cX7_start 0 = .ok (.iload_n 1, 1) := by decide +kernel
theorem dX7_start_1 : decode cX7_start 1 = .ok (.bipush 8, 2) := by decide +kernel
theorem dX7_start_3 : decode cX7_start 3 = .ok (.if_icmp .lt 15, 3) := by decide +kernel
theorem dX7_start_6 : decode cX7_start 6 = .ok (.iload_n 1, 1) := by decide +kernel
theorem dX7_start_7 : decode cX7_start 7 = .ok (.iload_n 2, 1) := by decide +kernel
theorem dX7_start_8 : decode cX7_start 8 = .ok (.if_icmp .gt 10, 3) := by decide +kernel
theorem dX7_start_11 : decode cX7_start 11 = .ok (.iload_n 2, 1) := by decide +kernel
theorem dX7_start_12 : decode cX7_start 12 = .ok (.sipush 200, 3) := by decide +kernel
theorem dX7_start_15 : decode cX7_start 15 = .ok (.if_icmp .le 5, 3) := by decide +kernel
theorem dX7_start_18 : decode cX7_start 18 = .ok (.iconst 0, 1) := by decide +kernel
theorem dX7_start_19 : decode cX7_start 19 = .ok (.ireturn, 1) := by decide +kernel
theorem dX7_start_20 : decode cX7_start 20 = .ok (.aload_n 0, 1) := by decide +kernel
theorem dX7_start_21 : decode cX7_start 21 = .ok (.getfield 12, 3) := by decide +kernel
theorem dX7_start_24 : decode cX7_start 24 = .ok (.iload_n 1, 1) := by decide +kernel
theorem dX7_start_25 : decode cX7_start 25 = .ok (.iload_n 2, 1) := by decide +kernel
theorem dX7_start_26 : decode cX7_start 26 = .ok (.invokevirtual 54, 3) := by decide +kernel
theorem dX7_start_29 : decode cX7_start 29 = .ok (.aload_n 0, 1) := by decide +kernel
theorem dX7_start_30 : decode cX7_start 30 = .ok (.getfield 22, 3) := by decide +kernel
theorem dX7_start_33 : decode cX7_start 33 = .ok (.invokevirtual 58, 3) := by decide +kernel
theorem dX7_start_36 : decode cX7_start 36 = .ok (.iconst 1, 1) := by decide +kernel
theorem dX7_start_37 : decode cX7_start 37 = .ok (.ireturn, 1) := by decide +kernel
abbrev mX7_start : XM := (cX7_start, 3, RX7, (some .boolean), shw_M, 1)
noncomputable def rg_X7_start_0 : XK :=
 o_iload 1 <|
 o_iconst 8 <|
 o_icmp_lt (o_iconst 0 <|
 o_zreturn)
 (o_iload 1 <|
 o_iload 2 <|
 o_icmp_gt (o_iconst 0 <|
 o_zreturn)
 (o_iload 2 <|
 o_iconst 200 <|
 o_icmp_le (o_aload 0 <|
 o_get shw_M 7 0 <|
 o_iload 1 <|
 o_iload 2 <|
 o_callV 3 0 [1] f_X3_begin <|
 o_aload 0 <|
 o_get shw_M 7 2 <|
 o_callV 1 0 [3, 4, 5, 6, 7, 8, 9, 10, 11, 12, 13, 14, 15, 16] f_X5_forget <|
 o_iconst 1 <|
 o_zreturn)
 (o_iconst 0 <|
 o_zreturn)))
def en_X7_start_0 (p1 : Int) (p2 : Int) (h0 : Ob) (h2 : Ob) (h4 : Ob) (h5 : Ob) (h6 : Ob) (h7 : Ob) (h8 : Ob) (h9 : Ob) (h10 : Ob) (h11 : Ob) (h12 : Ob) (h13 : Ob) (h14 : Ob) (h15 : Ob) (h16 : Ob) (h17 : Ob) (h18 : Ob) (h19 : Ob) (h20 : Ob) (h21 : Ob) (h22 : Ob) (h23 : Ob) (h24 : Ob) (a : Ob × Ob) : XSt := ([some (.inr (.inl (0, 0))), some (.inl p1), some (.inl p2)], [], [h0, a.1, h2, a.2, h4, h5, h6, h7, h8, h9, h10, h11, h12, h13, h14, h15, h16, h17, h18, h19, h20, h21, h22, h23, h24])
noncomputable def mg_X7_start_0 (p1 : Int) (p2 : Int) (h0 : Ob) (h2 : Ob) (h4 : Ob) (h5 : Ob) (h6 : Ob) (h7 : Ob) (h8 : Ob) (h9 : Ob) (h10 : Ob) (h11 : Ob) (h12 : Ob) (h13 : Ob) (h14 : Ob) (h15 : Ob) (h16 : Ob) (h17 : Ob) (h18 : Ob) (h19 : Ob) (h20 : Ob) (h21 : Ob) (h22 : Ob) (h23 : Ob) (h24 : Ob) (a : Ob × Ob) : Option Rt :=
 if xw p1 < 8 then (RI 0 [h0, a.1, h2, a.2, h4, h5, h6, h7, h8, h9, h10, h11, h12, h13, h14, h15, h16, h17, h18, h19, h20, h21, h22, h23, h24])
 else (if xw p1 > xw p2 then (RI 0 [h0, a.1, h2, a.2, h4, h5, h6, h7, h8, h9, h10, h11, h12, h13, h14, h15, h16, h17, h18, h19, h20, h21, h22, h23, h24])
 else (if xw p2 ≤ 200 then (RI 1 [h0, (begO a.1 p1 p2), h2, (fgtO a.2), h4, h5, h6, h7, h8, h9, h10, h11, h12, h13, h14, h15, h16, h17, h18, h19, h20, h21, h22, h23, h24])
 else (RI 0 [h0, a.1, h2, a.2, h4, h5, h6, h7, h8, h9, h10, h11, h12, h13, h14, h15, h16, h17, h18, h19, h20, h21, h22, h23, h24])))
set_option maxRecDepth 100000 in
set_option maxHeartbeats 4000000 in
theorem rq_X7_start_0 (p1 : Int) (p2 : Int) (h0 : Ob) (h2 : Ob) (h4 : Ob) (h5 : Ob) (h6 : Ob) (h7 : Ob) (h8 : Ob) (h9 : Ob) (h10 : Ob) (h11 : Ob) (h12 : Ob) (h13 : Ob) (h14 : Ob) (h15 : Ob) (h16 : Ob) (h17 : Ob) (h18 : Ob) (h19 : Ob) (h20 : Ob) (h21 : Ob) (h22 : Ob) (h23 : Ob) (h24 : Ob) (a : Ob × Ob) : rg_X7_start_0 (en_X7_start_0 p1 p2 h0 h2 h4 h5 h6 h7 h8 h9 h10 h11 h12 h13 h14 h15 h16 h17 h18 h19 h20 h21 h22 h23 h24 a) = mg_X7_start_0 p1 p2 h0 h2 h4 h5 h6 h7 h8 h9 h10 h11 h12 h13 h14 h15 h16 h17 h18 h19 h20 h21 h22 h23 h24 a := rfl
set_option maxRecDepth 100000 in
set_option maxHeartbeats 4000000 in
theorem sg_X7_start_0 {X : XDyn} {r0 : Rt} (C : XO X mX7_start) : XS X mX7_start r0 0 (rg_X7_start_0) := by
 unfold rg_X7_start_0
 exact s_iload_n (pc := 0) C dX7_start_0 rfl <|
    s_bipush (pc := 1) C dX7_start_1 (by decide) <|
    s_icmp_lt (pc := 3) C dX7_start_3 (by decide) (s_iconst (pc := 18) C dX7_start_18 <|
    s_zreturn (pc := 19) C rfl dX7_start_19)
    (s_iload_n (pc := 6) C dX7_start_6 rfl <|
    s_iload_n (pc := 7) C dX7_start_7 rfl <|
    s_icmp_gt (pc := 8) C dX7_start_8 (by decide) (s_iconst (pc := 18) C dX7_start_18 <|
    s_zreturn (pc := 19) C rfl dX7_start_19)
    (s_iload_n (pc := 11) C dX7_start_11 rfl <|
    s_sipush (pc := 12) C dX7_start_12 (by decide) <|
    s_icmp_le (pc := 15) C dX7_start_15 (by decide) (s_aload_n (pc := 20) C dX7_start_20 rfl <|
    s_get (pc := 21) C (ci := 7) (kf := 0) rfl inX7 (by decide) wd_312 dX7_start_21 <|
    s_iload_n (pc := 24) C dX7_start_24 rfl <|
    s_iload_n (pc := 25) C dX7_start_25 rfl <|
    s_callV (pc := 26) C ct_X3_begin (n := 3) (rk := 0) (mp := [1]) ⟨rfl, by decide, rfl⟩ (ci := 3) rfl rfl (by decide) (by decide) yi_X3_begin (by decide) wd_308 wd_309 wd_310 wd_74 wd_311 dX7_start_26 <|
    s_aload_n (pc := 29) C dX7_start_29 rfl <|
    s_get (pc := 30) C (ci := 7) (kf := 2) rfl inX7 (by decide) wd_314 dX7_start_30 <|
    s_callV (pc := 33) C ct_X5_forget (n := 1) (rk := 0) (mp := [3, 4, 5, 6, 7, 8, 9, 10, 11, 12, 13, 14, 15, 16]) ⟨rfl, by decide, rfl⟩ (ci := 5) rfl rfl (by decide) (by decide) yi_X5_forget (by decide) wd_338 wd_339 wd_340 wd_75 wd_341 dX7_start_33 <|
    s_iconst (pc := 36) C dX7_start_36 <|
    s_zreturn (pc := 37) C rfl dX7_start_37)
    (s_iconst (pc := 18) C dX7_start_18 <|
    s_zreturn (pc := 19) C rfl dX7_start_19)))
noncomputable def rw_X7_start_0 : XK := rg_X7_start_0
noncomputable def md_X7_start_0 (p1 : Int) (p2 : Int) (h0 : Ob) (h2 : Ob) (h4 : Ob) (h5 : Ob) (h6 : Ob) (h7 : Ob) (h8 : Ob) (h9 : Ob) (h10 : Ob) (h11 : Ob) (h12 : Ob) (h13 : Ob) (h14 : Ob) (h15 : Ob) (h16 : Ob) (h17 : Ob) (h18 : Ob) (h19 : Ob) (h20 : Ob) (h21 : Ob) (h22 : Ob) (h23 : Ob) (h24 : Ob) : Ob × Ob → Option Rt := mg_X7_start_0 p1 p2 h0 h2 h4 h5 h6 h7 h8 h9 h10 h11 h12 h13 h14 h15 h16 h17 h18 h19 h20 h21 h22 h23 h24
theorem eq_X7_start_0 (p1 : Int) (p2 : Int) (h0 : Ob) (h2 : Ob) (h4 : Ob) (h5 : Ob) (h6 : Ob) (h7 : Ob) (h8 : Ob) (h9 : Ob) (h10 : Ob) (h11 : Ob) (h12 : Ob) (h13 : Ob) (h14 : Ob) (h15 : Ob) (h16 : Ob) (h17 : Ob) (h18 : Ob) (h19 : Ob) (h20 : Ob) (h21 : Ob) (h22 : Ob) (h23 : Ob) (h24 : Ob) (a : Ob × Ob) : rw_X7_start_0 (en_X7_start_0 p1 p2 h0 h2 h4 h5 h6 h7 h8 h9 h10 h11 h12 h13 h14 h15 h16 h17 h18 h19 h20 h21 h22 h23 h24 a) = md_X7_start_0 p1 p2 h0 h2 h4 h5 h6 h7 h8 h9 h10 h11 h12 h13 h14 h15 h16 h17 h18 h19 h20 h21 h22 h23 h24 a :=
 rq_X7_start_0 p1 p2 h0 h2 h4 h5 h6 h7 h8 h9 h10 h11 h12 h13 h14 h15 h16 h17 h18 h19 h20 h21 h22 h23 h24 a
theorem sd_X7_start_0 {X : XDyn} {r0 : Rt} (C : XO X mX7_start) : XS X mX7_start r0 0 (rw_X7_start_0) := sg_X7_start_0 C
theorem ctr_X7_start : XCt yX7_start mX7_start (xF mX7_start (rw_X7_start_0)) := xMet (by decide +kernel) rfl (fun _ _ C => sd_X7_start_0 C)
theorem eqf_X7_start (p1 : Int) (p2 : Int) (h0 : Ob) (h1 : Ob) (h2 : Ob) (h3 : Ob) (h4 : Ob) (h5 : Ob) (h6 : Ob) (h7 : Ob) (h8 : Ob) (h9 : Ob) (h10 : Ob) (h11 : Ob) (h12 : Ob) (h13 : Ob) (h14 : Ob) (h15 : Ob) (h16 : Ob) (h17 : Ob) (h18 : Ob) (h19 : Ob) (h20 : Ob) (h21 : Ob) (h22 : Ob) (h23 : Ob) (h24 : Ob) : xF mX7_start (rw_X7_start_0) [.inr (.inl (0, 0)), .inl p1, .inl p2] [h0, h1, h2, h3, h4, h5, h6, h7, h8, h9, h10, h11, h12, h13, h14, h15, h16, h17, h18, h19, h20, h21, h22, h23, h24] = md_X7_start_0 p1 p2 h0 h2 h4 h5 h6 h7 h8 h9 h10 h11 h12 h13 h14 h15 h16 h17 h18 h19 h20 h21 h22 h23 h24 (h1, h3) := eq_X7_start_0 p1 p2 h0 h2 h4 h5 h6 h7 h8 h9 h10 h11 h12 h13 h14 h15 h16 h17 h18 h19 h20 h21 h22 h23 h24 (h1, h3)
theorem yi_X7_start : yX7_start.cls = RX7 ∧ yX7_start.cls ≠ "java/lang/invoke/MethodHandle" ∧ yX7_start.cls ≠ "java/lang/invoke/VarHandle" ∧ (parseMethodDescriptor yX7_start.desc).map (fun d => d.parameters.length) = some 2 := ⟨rfl, by decide +kernel, by decide +kernel, by decide +kernel⟩
theorem dX7_put_0 : decode cX7_put 0 = .ok (.aload_n 0, 1) := by decide +kernel
theorem dX7_put_1 : decode cX7_put 1 = .ok (.getfield 12, 3) := by decide +kernel
theorem dX7_put_4 : decode cX7_put 4 = .ok (.iload_n 1, 1) := by decide +kernel
theorem dX7_put_5 : decode cX7_put 5 = .ok (.invokevirtual 91, 3) := by decide +kernel
theorem dX7_put_8 : decode cX7_put 8 = .ok (.ifCond .eq 15, 3) := by decide +kernel
theorem dX7_put_11 : decode cX7_put 11 = .ok (.aload_n 0, 1) := by decide +kernel
theorem dX7_put_12 : decode cX7_put 12 = .ok (.getfield 12, 3) := by decide +kernel
theorem dX7_put_15 : decode cX7_put 15 = .ok (.iload_n 1, 1) := by decide +kernel
theorem dX7_put_16 : decode cX7_put 16 = .ok (.iload_n 2, 1) := by decide +kernel
theorem dX7_put_17 : decode cX7_put 17 = .ok (.invokevirtual 94, 3) := by decide +kernel
theorem dX7_put_20 : decode cX7_put 20 = .ok (.ifCond .ne 5, 3) := by decide +kernel
theorem dX7_put_23 : decode cX7_put 23 = .ok (.iconst 0, 1) := by decide +kernel
theorem dX7_put_24 : decode cX7_put 24 = .ok (.ireturn, 1) := by decide +kernel
theorem dX7_put_25 : decode cX7_put 25 = .ok (.aload_n 0, 1) := by decide +kernel
theorem dX7_put_26 : decode cX7_put 26 = .ok (.iload_n 1, 1) := by decide +kernel
theorem dX7_put_27 : decode cX7_put 27 = .ok (.iload_n 2, 1) := by decide +kernel
theorem dX7_put_28 : decode cX7_put 28 = .ok (.iload_n 3, 1) := by decide +kernel
theorem dX7_put_29 : decode cX7_put 29 = .ok (.invokevirtual 98, 3) := by decide +kernel
theorem dX7_put_32 : decode cX7_put 32 = .ok (.istore 4, 2) := by decide +kernel
theorem dX7_put_34 : decode cX7_put 34 = .ok (.aload_n 0, 1) := by decide +kernel
theorem dX7_put_35 : decode cX7_put 35 = .ok (.iload_n 1, 1) := by decide +kernel
theorem dX7_put_36 : decode cX7_put 36 = .ok (.invokevirtual 87, 3) := by decide +kernel
theorem dX7_put_39 : decode cX7_put 39 = .ok (.iload 4, 2) := by decide +kernel
theorem dX7_put_41 : decode cX7_put 41 = .ok (.ireturn, 1) := by decide +kernel
abbrev mX7_put : XM := (cX7_put, 5, RX7, (some .int), shw_M, 4)
noncomputable def rg_X7_put_0 : XK :=
 o_aload 0 <|
 o_get shw_M 7 0 <|
 o_iload 1 <|
 o_callV 2 1 [1] f_X3_isFull <|
 o_if_eq (o_iconst 0 <|
 o_ireturn)
 (o_aload 0 <|
 o_get shw_M 7 0 <|
 o_iload 1 <|
 o_iload 2 <|
 o_callV 3 1 [1] f_X3_isContent <|
 o_if_ne (o_aload 0 <|
 o_iload 1 <|
 o_iload 2 <|
 o_iload 3 <|
 o_callVg 4 1 [0, 1, 2, 3, 4, 5, 6, 7, 8, 9, 10, 11, 12, 13, 14, 15, 16, 17, 18, 19, 20, 21, 22, 23, 24] g_X7_tell v_X7_tell <|
 o_istore 4 <|
 o_aload 0 <|
 o_iload 1 <|
 o_callV 2 0 [0, 1, 2, 3, 4, 5, 6, 7, 8, 9, 10, 11, 12, 13, 14, 15, 16, 17, 18, 19, 20, 21, 22, 23, 24] f_X7_finish <|
 o_iload 4 <|
 o_ireturn)
 (o_iconst 0 <|
 o_ireturn))
def en_X7_put_0 (p1 : Int) (p2 : Int) (p3 : Int) (h0 : Ob) (h2 : Ob) (h17 : Ob) (h18 : Ob) (h19 : Ob) (h20 : Ob) (h21 : Ob) (h22 : Ob) (h23 : Ob) (h24 : Ob) (a : Ob × Ob × Ob × Ob × Ob × Ob × Ob × Ob × Ob × Ob × Ob × Ob × Ob × Ob × Ob) : XSt := ([some (.inr (.inl (0, 0))), some (.inl p1), some (.inl p2), some (.inl p3), none], [], [h0, a.1, h2, a.2.1, a.2.2.1, a.2.2.2.1, a.2.2.2.2.1, a.2.2.2.2.2.1, a.2.2.2.2.2.2.1, a.2.2.2.2.2.2.2.1, a.2.2.2.2.2.2.2.2.1, a.2.2.2.2.2.2.2.2.2.1, a.2.2.2.2.2.2.2.2.2.2.1, a.2.2.2.2.2.2.2.2.2.2.2.1, a.2.2.2.2.2.2.2.2.2.2.2.2.1, a.2.2.2.2.2.2.2.2.2.2.2.2.2.1, a.2.2.2.2.2.2.2.2.2.2.2.2.2.2, h17, h18, h19, h20, h21, h22, h23, h24])
noncomputable def mg_X7_put_0 (p1 : Int) (p2 : Int) (p3 : Int) (h0 : Ob) (h2 : Ob) (h17 : Ob) (h18 : Ob) (h19 : Ob) (h20 : Ob) (h21 : Ob) (h22 : Ob) (h23 : Ob) (h24 : Ob) (a : Ob × Ob × Ob × Ob × Ob × Ob × Ob × Ob × Ob × Ob × Ob × Ob × Ob × Ob × Ob) : Option Rt :=
 if xw (bz (ful a.1 p1)) = 0 then (RI 0 [h0, a.1, h2, a.2.1, a.2.2.1, a.2.2.2.1, a.2.2.2.2.1, a.2.2.2.2.2.1, a.2.2.2.2.2.2.1, a.2.2.2.2.2.2.2.1, a.2.2.2.2.2.2.2.2.1, a.2.2.2.2.2.2.2.2.2.1, a.2.2.2.2.2.2.2.2.2.2.1, a.2.2.2.2.2.2.2.2.2.2.2.1, a.2.2.2.2.2.2.2.2.2.2.2.2.1, a.2.2.2.2.2.2.2.2.2.2.2.2.2.1, a.2.2.2.2.2.2.2.2.2.2.2.2.2.2, h17, h18, h19, h20, h21, h22, h23, h24])
 else (if xw (bz (iscon a.1 p1 p2)) = 0 then (RI 0 [h0, a.1, h2, a.2.1, a.2.2.1, a.2.2.2.1, a.2.2.2.2.1, a.2.2.2.2.2.1, a.2.2.2.2.2.2.1, a.2.2.2.2.2.2.2.1, a.2.2.2.2.2.2.2.2.1, a.2.2.2.2.2.2.2.2.2.1, a.2.2.2.2.2.2.2.2.2.2.1, a.2.2.2.2.2.2.2.2.2.2.2.1, a.2.2.2.2.2.2.2.2.2.2.2.2.1, a.2.2.2.2.2.2.2.2.2.2.2.2.2.1, a.2.2.2.2.2.2.2.2.2.2.2.2.2.2, h17, h18, h19, h20, h21, h22, h23, h24])
 else (if pd (PG a.2.1) then (
 RI (conF a.1 p1 p2) [h0, (finO (scoO a.1 p1 p2 p3) p1), h2, (keeO a.2.1), (svK a.2.1 0 a.2.2.1 a.1), (svK a.2.1 1 a.2.2.2.1 a.1), (svK a.2.1 2 a.2.2.2.2.1 a.1), (svK a.2.1 3 a.2.2.2.2.2.1 a.1), (svK a.2.1 4 a.2.2.2.2.2.2.1 a.1), (svK a.2.1 5 a.2.2.2.2.2.2.2.1 a.1), (svK a.2.1 6 a.2.2.2.2.2.2.2.2.1 a.1), (svK a.2.1 7 a.2.2.2.2.2.2.2.2.2.1 a.1), (svK a.2.1 8 a.2.2.2.2.2.2.2.2.2.2.1 a.1), (svK a.2.1 9 a.2.2.2.2.2.2.2.2.2.2.2.1 a.1), (svK a.2.1 10 a.2.2.2.2.2.2.2.2.2.2.2.2.1 a.1), (svK a.2.1 11 a.2.2.2.2.2.2.2.2.2.2.2.2.2.1 a.1), (svK a.2.1 12 a.2.2.2.2.2.2.2.2.2.2.2.2.2.2 a.1), h17, h18, h19, h20, h21, h22, h23, h24]) else none))
set_option maxRecDepth 100000 in
set_option maxHeartbeats 4000000 in
theorem rq_X7_put_0 (p1 : Int) (p2 : Int) (p3 : Int) (h0 : Ob) (h2 : Ob) (h17 : Ob) (h18 : Ob) (h19 : Ob) (h20 : Ob) (h21 : Ob) (h22 : Ob) (h23 : Ob) (h24 : Ob) (a : Ob × Ob × Ob × Ob × Ob × Ob × Ob × Ob × Ob × Ob × Ob × Ob × Ob × Ob × Ob) : rg_X7_put_0 (en_X7_put_0 p1 p2 p3 h0 h2 h17 h18 h19 h20 h21 h22 h23 h24 a) = mg_X7_put_0 p1 p2 p3 h0 h2 h17 h18 h19 h20 h21 h22 h23 h24 a := rfl
set_option maxRecDepth 100000 in
set_option maxHeartbeats 4000000 in
theorem sg_X7_put_0 {X : XDyn} {r0 : Rt} (C : XO X mX7_put) : XS X mX7_put r0 0 (rg_X7_put_0) := by
 unfold rg_X7_put_0
 exact s_aload_n (pc := 0) C dX7_put_0 rfl <|
    s_get (pc := 1) C (ci := 7) (kf := 0) rfl inX7 (by decide) wd_312 dX7_put_1 <|
    s_iload_n (pc := 4) C dX7_put_4 rfl <|
    s_callV (pc := 5) C ct_X3_isFull (n := 2) (rk := 1) (mp := [1]) ⟨rfl, by decide, rfl⟩ (ci := 3) rfl rfl (by decide) (by decide) yi_X3_isFull (by decide) wd_555 wd_556 wd_557 wd_74 wd_558 dX7_put_5 <|
    s_if_eq (pc := 8) C dX7_put_8 (by decide) (s_iconst (pc := 23) C dX7_put_23 <|
    s_ireturn (pc := 24) C rfl dX7_put_24)
    (s_aload_n (pc := 11) C dX7_put_11 rfl <|
    s_get (pc := 12) C (ci := 7) (kf := 0) rfl inX7 (by decide) wd_312 dX7_put_12 <|
    s_iload_n (pc := 15) C dX7_put_15 rfl <|
    s_iload_n (pc := 16) C dX7_put_16 rfl <|
    s_callV (pc := 17) C ct_X3_isContent (n := 3) (rk := 1) (mp := [1]) ⟨rfl, by decide, rfl⟩ (ci := 3) rfl rfl (by decide) (by decide) yi_X3_isContent (by decide) wd_559 wd_560 wd_561 wd_74 wd_562 dX7_put_17 <|
    s_if_ne (pc := 20) C dX7_put_20 (by decide) (s_aload_n (pc := 25) C dX7_put_25 rfl <|
    s_iload_n (pc := 26) C dX7_put_26 rfl <|
    s_iload_n (pc := 27) C dX7_put_27 rfl <|
    s_iload_n (pc := 28) C dX7_put_28 rfl <|
    s_callVg (pc := 29) C ct_X7_tell (n := 4) (rk := 1) (mp := [0, 1, 2, 3, 4, 5, 6, 7, 8, 9, 10, 11, 12, 13, 14, 15, 16, 17, 18, 19, 20, 21, 22, 23, 24]) ⟨rfl, by decide, rfl⟩ (ci := 7) rfl rfl (by decide) (by decide) yi_X7_tell (by decide) wd_563 wd_565 wd_11 wd_73 wd_566 dX7_put_29 <|
    s_istore (pc := 32) C dX7_put_32 <|
    s_aload_n (pc := 34) C dX7_put_34 rfl <|
    s_iload_n (pc := 35) C dX7_put_35 rfl <|
    s_callV (pc := 36) C ct_X7_finish (n := 2) (rk := 0) (mp := [0, 1, 2, 3, 4, 5, 6, 7, 8, 9, 10, 11, 12, 13, 14, 15, 16, 17, 18, 19, 20, 21, 22, 23, 24]) ⟨rfl, by decide, rfl⟩ (ci := 7) rfl rfl (by decide) (by decide) yi_X7_finish (by decide) wd_542 wd_544 wd_10 wd_73 wd_545 dX7_put_36 <|
    s_iload (pc := 39) C dX7_put_39 <|
    s_ireturn (pc := 41) C rfl dX7_put_41)
    (s_iconst (pc := 23) C dX7_put_23 <|
    s_ireturn (pc := 24) C rfl dX7_put_24))
noncomputable def rw_X7_put_0 : XK := rg_X7_put_0
noncomputable def md_X7_put_0 (p1 : Int) (p2 : Int) (p3 : Int) (h0 : Ob) (h2 : Ob) (h17 : Ob) (h18 : Ob) (h19 : Ob) (h20 : Ob) (h21 : Ob) (h22 : Ob) (h23 : Ob) (h24 : Ob) : Ob × Ob × Ob × Ob × Ob × Ob × Ob × Ob × Ob × Ob × Ob × Ob × Ob × Ob × Ob → Option Rt := mg_X7_put_0 p1 p2 p3 h0 h2 h17 h18 h19 h20 h21 h22 h23 h24
theorem eq_X7_put_0 (p1 : Int) (p2 : Int) (p3 : Int) (h0 : Ob) (h2 : Ob) (h17 : Ob) (h18 : Ob) (h19 : Ob) (h20 : Ob) (h21 : Ob) (h22 : Ob) (h23 : Ob) (h24 : Ob) (a : Ob × Ob × Ob × Ob × Ob × Ob × Ob × Ob × Ob × Ob × Ob × Ob × Ob × Ob × Ob) : rw_X7_put_0 (en_X7_put_0 p1 p2 p3 h0 h2 h17 h18 h19 h20 h21 h22 h23 h24 a) = md_X7_put_0 p1 p2 p3 h0 h2 h17 h18 h19 h20 h21 h22 h23 h24 a :=
 rq_X7_put_0 p1 p2 p3 h0 h2 h17 h18 h19 h20 h21 h22 h23 h24 a
theorem sd_X7_put_0 {X : XDyn} {r0 : Rt} (C : XO X mX7_put) : XS X mX7_put r0 0 (rw_X7_put_0) := sg_X7_put_0 C
theorem ctr_X7_put : XCt yX7_put mX7_put (xF mX7_put (rw_X7_put_0)) := xMet (by decide +kernel) rfl (fun _ _ C => sd_X7_put_0 C)
theorem eqf_X7_put (p1 : Int) (p2 : Int) (p3 : Int) (h0 : Ob) (h1 : Ob) (h2 : Ob) (h3 : Ob) (h4 : Ob) (h5 : Ob) (h6 : Ob) (h7 : Ob) (h8 : Ob) (h9 : Ob) (h10 : Ob) (h11 : Ob) (h12 : Ob) (h13 : Ob) (h14 : Ob) (h15 : Ob) (h16 : Ob) (h17 : Ob) (h18 : Ob) (h19 : Ob) (h20 : Ob) (h21 : Ob) (h22 : Ob) (h23 : Ob) (h24 : Ob) : xF mX7_put (rw_X7_put_0) [.inr (.inl (0, 0)), .inl p1, .inl p2, .inl p3] [h0, h1, h2, h3, h4, h5, h6, h7, h8, h9, h10, h11, h12, h13, h14, h15, h16, h17, h18, h19, h20, h21, h22, h23, h24] = md_X7_put_0 p1 p2 p3 h0 h2 h17 h18 h19 h20 h21 h22 h23 h24 (h1, h3, h4, h5, h6, h7, h8, h9, h10, h11, h12, h13, h14, h15, h16) := eq_X7_put_0 p1 p2 p3 h0 h2 h17 h18 h19 h20 h21 h22 h23 h24 (h1, h3, h4, h5, h6, h7, h8, h9, h10, h11, h12, h13, h14, h15, h16)
theorem yi_X7_put : yX7_put.cls = RX7 ∧ yX7_put.cls ≠ "java/lang/invoke/MethodHandle" ∧ yX7_put.cls ≠ "java/lang/invoke/VarHandle" ∧ (parseMethodDescriptor yX7_put.desc).map (fun d => d.parameters.length) = some 3 := ⟨rfl, by decide +kernel, by decide +kernel, by decide +kernel⟩
theorem dX7_set_0 : decode cX7_set 0 = .ok (.aload_n 0, 1) := by decide +kernel
theorem dX7_set_1 : decode cX7_set 1 = .ok (.getfield 12, 3) := by decide +kernel
theorem dX7_set_4 : decode cX7_set 4 = .ok (.iload_n 1, 1) := by decide +kernel
theorem dX7_set_5 : decode cX7_set 5 = .ok (.invokevirtual 102, 3) := by decide +kernel
theorem dX7_set_8 : decode cX7_set 8 = .ok (.ifCond .eq 18, 3) := by decide +kernel
theorem dX7_set_11 : decode cX7_set 11 = .ok (.aload_n 0, 1) := by decide +kernel
theorem dX7_set_12 : decode cX7_set 12 = .ok (.getfield 12, 3) := by decide +kernel
theorem dX7_set_15 : decode cX7_set 15 = .ok (.bipush 8, 2) := by decide +kernel
theorem dX7_set_17 : decode cX7_set 17 = .ok (.iload_n 1, 1) := by decide +kernel
theorem dX7_set_18 : decode cX7_set 18 = .ok (.iadd, 1) := by decide +kernel
theorem dX7_set_19 : decode cX7_set 19 = .ok (.iload_n 2, 1) := by decide +kernel
theorem dX7_set_20 : decode cX7_set 20 = .ok (.invokevirtual 94, 3) := by decide +kernel
theorem dX7_set_23 : decode cX7_set 23 = .ok (.ifCond .ne 5, 3) := by decide +kernel
theorem dX7_set_26 : decode cX7_set 26 = .ok (.iconst 0, 1) := by decide +kernel
theorem dX7_set_27 : decode cX7_set 27 = .ok (.ireturn, 1) := by decide +kernel
theorem dX7_set_28 : decode cX7_set 28 = .ok (.aload_n 0, 1) := by decide +kernel
theorem dX7_set_29 : decode cX7_set 29 = .ok (.bipush 8, 2) := by decide +kernel
theorem dX7_set_31 : decode cX7_set 31 = .ok (.iload_n 1, 1) := by decide +kernel
theorem dX7_set_32 : decode cX7_set 32 = .ok (.iadd, 1) := by decide +kernel
theorem dX7_set_33 : decode cX7_set 33 = .ok (.iload_n 2, 1) := by decide +kernel
theorem dX7_set_34 : decode cX7_set 34 = .ok (.iload_n 3, 1) := by decide +kernel
theorem dX7_set_35 : decode cX7_set 35 = .ok (.invokevirtual 98, 3) := by decide +kernel
theorem dX7_set_38 : decode cX7_set 38 = .ok (.istore 4, 2) := by decide +kernel
theorem dX7_set_40 : decode cX7_set 40 = .ok (.aload_n 0, 1) := by decide +kernel
theorem dX7_set_41 : decode cX7_set 41 = .ok (.iconst (-1), 1) := by decide +kernel
theorem dX7_set_42 : decode cX7_set 42 = .ok (.invokevirtual 87, 3) := by decide +kernel
theorem dX7_set_45 : decode cX7_set 45 = .ok (.iload 4, 2) := by decide +kernel
theorem dX7_set_47 : decode cX7_set 47 = .ok (.ireturn, 1) := by decide +kernel
abbrev mX7_set : XM := (cX7_set, 5, RX7, (some .int), shw_M, 4)
noncomputable def rg_X7_set_0 : XK :=
 o_aload 0 <|
 o_get shw_M 7 0 <|
 o_iload 1 <|
 o_callV 2 1 [1] f_X3_isIsland <|
 o_if_eq (o_iconst 0 <|
 o_ireturn)
 (o_aload 0 <|
 o_get shw_M 7 0 <|
 o_iconst 8 <|
 o_iload 1 <|
 o_iadd <|
 o_iload 2 <|
 o_callV 3 1 [1] f_X3_isContent <|
 o_if_ne (o_aload 0 <|
 o_iconst 8 <|
 o_iload 1 <|
 o_iadd <|
 o_iload 2 <|
 o_iload 3 <|
 o_callVg 4 1 [0, 1, 2, 3, 4, 5, 6, 7, 8, 9, 10, 11, 12, 13, 14, 15, 16, 17, 18, 19, 20, 21, 22, 23, 24] g_X7_tell v_X7_tell <|
 o_istore 4 <|
 o_aload 0 <|
 o_iconst (-1) <|
 o_callV 2 0 [0, 1, 2, 3, 4, 5, 6, 7, 8, 9, 10, 11, 12, 13, 14, 15, 16, 17, 18, 19, 20, 21, 22, 23, 24] f_X7_finish <|
 o_iload 4 <|
 o_ireturn)
 (o_iconst 0 <|
 o_ireturn))
def en_X7_set_0 (p1 : Int) (p2 : Int) (p3 : Int) (h0 : Ob) (h2 : Ob) (h17 : Ob) (h18 : Ob) (h19 : Ob) (h20 : Ob) (h21 : Ob) (h22 : Ob) (h23 : Ob) (h24 : Ob) (a : Ob × Ob × Ob × Ob × Ob × Ob × Ob × Ob × Ob × Ob × Ob × Ob × Ob × Ob × Ob) : XSt := ([some (.inr (.inl (0, 0))), some (.inl p1), some (.inl p2), some (.inl p3), none], [], [h0, a.1, h2, a.2.1, a.2.2.1, a.2.2.2.1, a.2.2.2.2.1, a.2.2.2.2.2.1, a.2.2.2.2.2.2.1, a.2.2.2.2.2.2.2.1, a.2.2.2.2.2.2.2.2.1, a.2.2.2.2.2.2.2.2.2.1, a.2.2.2.2.2.2.2.2.2.2.1, a.2.2.2.2.2.2.2.2.2.2.2.1, a.2.2.2.2.2.2.2.2.2.2.2.2.1, a.2.2.2.2.2.2.2.2.2.2.2.2.2.1, a.2.2.2.2.2.2.2.2.2.2.2.2.2.2, h17, h18, h19, h20, h21, h22, h23, h24])
noncomputable def mg_X7_set_0 (p1 : Int) (p2 : Int) (p3 : Int) (h0 : Ob) (h2 : Ob) (h17 : Ob) (h18 : Ob) (h19 : Ob) (h20 : Ob) (h21 : Ob) (h22 : Ob) (h23 : Ob) (h24 : Ob) (a : Ob × Ob × Ob × Ob × Ob × Ob × Ob × Ob × Ob × Ob × Ob × Ob × Ob × Ob × Ob) : Option Rt :=
 if xw (bz (isl a.1 p1)) = 0 then (RI 0 [h0, a.1, h2, a.2.1, a.2.2.1, a.2.2.2.1, a.2.2.2.2.1, a.2.2.2.2.2.1, a.2.2.2.2.2.2.1, a.2.2.2.2.2.2.2.1, a.2.2.2.2.2.2.2.2.1, a.2.2.2.2.2.2.2.2.2.1, a.2.2.2.2.2.2.2.2.2.2.1, a.2.2.2.2.2.2.2.2.2.2.2.1, a.2.2.2.2.2.2.2.2.2.2.2.2.1, a.2.2.2.2.2.2.2.2.2.2.2.2.2.1, a.2.2.2.2.2.2.2.2.2.2.2.2.2.2, h17, h18, h19, h20, h21, h22, h23, h24])
 else (if xw (bz (iscon a.1 (8 + p1) p2)) = 0 then (RI 0 [h0, a.1, h2, a.2.1, a.2.2.1, a.2.2.2.1, a.2.2.2.2.1, a.2.2.2.2.2.1, a.2.2.2.2.2.2.1, a.2.2.2.2.2.2.2.1, a.2.2.2.2.2.2.2.2.1, a.2.2.2.2.2.2.2.2.2.1, a.2.2.2.2.2.2.2.2.2.2.1, a.2.2.2.2.2.2.2.2.2.2.2.1, a.2.2.2.2.2.2.2.2.2.2.2.2.1, a.2.2.2.2.2.2.2.2.2.2.2.2.2.1, a.2.2.2.2.2.2.2.2.2.2.2.2.2.2, h17, h18, h19, h20, h21, h22, h23, h24])
 else (if pd (PG a.2.1) then (
 RI (conF a.1 (8 + p1) p2) [h0, (finO (scoO a.1 (8 + p1) p2 p3) ((-1) : Int)), h2, (keeO a.2.1), (svK a.2.1 0 a.2.2.1 a.1), (svK a.2.1 1 a.2.2.2.1 a.1), (svK a.2.1 2 a.2.2.2.2.1 a.1), (svK a.2.1 3 a.2.2.2.2.2.1 a.1), (svK a.2.1 4 a.2.2.2.2.2.2.1 a.1), (svK a.2.1 5 a.2.2.2.2.2.2.2.1 a.1), (svK a.2.1 6 a.2.2.2.2.2.2.2.2.1 a.1), (svK a.2.1 7 a.2.2.2.2.2.2.2.2.2.1 a.1), (svK a.2.1 8 a.2.2.2.2.2.2.2.2.2.2.1 a.1), (svK a.2.1 9 a.2.2.2.2.2.2.2.2.2.2.2.1 a.1), (svK a.2.1 10 a.2.2.2.2.2.2.2.2.2.2.2.2.1 a.1), (svK a.2.1 11 a.2.2.2.2.2.2.2.2.2.2.2.2.2.1 a.1), (svK a.2.1 12 a.2.2.2.2.2.2.2.2.2.2.2.2.2.2 a.1), h17, h18, h19, h20, h21, h22, h23, h24]) else none))
set_option maxRecDepth 100000 in
set_option maxHeartbeats 4000000 in
theorem rq_X7_set_0 (p1 : Int) (p2 : Int) (p3 : Int) (h0 : Ob) (h2 : Ob) (h17 : Ob) (h18 : Ob) (h19 : Ob) (h20 : Ob) (h21 : Ob) (h22 : Ob) (h23 : Ob) (h24 : Ob) (a : Ob × Ob × Ob × Ob × Ob × Ob × Ob × Ob × Ob × Ob × Ob × Ob × Ob × Ob × Ob) : rg_X7_set_0 (en_X7_set_0 p1 p2 p3 h0 h2 h17 h18 h19 h20 h21 h22 h23 h24 a) = mg_X7_set_0 p1 p2 p3 h0 h2 h17 h18 h19 h20 h21 h22 h23 h24 a := rfl
set_option maxRecDepth 100000 in
set_option maxHeartbeats 4000000 in
theorem sg_X7_set_0 {X : XDyn} {r0 : Rt} (C : XO X mX7_set) : XS X mX7_set r0 0 (rg_X7_set_0) := by
 unfold rg_X7_set_0
 exact s_aload_n (pc := 0) C dX7_set_0 rfl <|
    s_get (pc := 1) C (ci := 7) (kf := 0) rfl inX7 (by decide) wd_312 dX7_set_1 <|
    s_iload_n (pc := 4) C dX7_set_4 rfl <|
    s_callV (pc := 5) C ct_X3_isIsland (n := 2) (rk := 1) (mp := [1]) ⟨rfl, by decide, rfl⟩ (ci := 3) rfl rfl (by decide) (by decide) yi_X3_isIsland (by decide) wd_580 wd_581 wd_582 wd_74 wd_583 dX7_set_5 <|
    s_if_eq (pc := 8) C dX7_set_8 (by decide) (s_iconst (pc := 26) C dX7_set_26 <|
    s_ireturn (pc := 27) C rfl dX7_set_27)
    (s_aload_n (pc := 11) C dX7_set_11 rfl <|
    s_get (pc := 12) C (ci := 7) (kf := 0) rfl inX7 (by decide) wd_312 dX7_set_12 <|
    s_bipush (pc := 15) C dX7_set_15 (by decide) <|
    s_iload_n (pc := 17) C dX7_set_17 rfl <|
    s_iadd (pc := 18) C dX7_set_18 <|
    s_iload_n (pc := 19) C dX7_set_19 rfl <|
    s_callV (pc := 20) C ct_X3_isContent (n := 3) (rk := 1) (mp := [1]) ⟨rfl, by decide, rfl⟩ (ci := 3) rfl rfl (by decide) (by decide) yi_X3_isContent (by decide) wd_559 wd_560 wd_561 wd_74 wd_562 dX7_set_20 <|
    s_if_ne (pc := 23) C dX7_set_23 (by decide) (s_aload_n (pc := 28) C dX7_set_28 rfl <|
    s_bipush (pc := 29) C dX7_set_29 (by decide) <|
    s_iload_n (pc := 31) C dX7_set_31 rfl <|
    s_iadd (pc := 32) C dX7_set_32 <|
    s_iload_n (pc := 33) C dX7_set_33 rfl <|
    s_iload_n (pc := 34) C dX7_set_34 rfl <|
    s_callVg (pc := 35) C ct_X7_tell (n := 4) (rk := 1) (mp := [0, 1, 2, 3, 4, 5, 6, 7, 8, 9, 10, 11, 12, 13, 14, 15, 16, 17, 18, 19, 20, 21, 22, 23, 24]) ⟨rfl, by decide, rfl⟩ (ci := 7) rfl rfl (by decide) (by decide) yi_X7_tell (by decide) wd_563 wd_565 wd_11 wd_73 wd_566 dX7_set_35 <|
    s_istore (pc := 38) C dX7_set_38 <|
    s_aload_n (pc := 40) C dX7_set_40 rfl <|
    s_iconst (pc := 41) C dX7_set_41 <|
    s_callV (pc := 42) C ct_X7_finish (n := 2) (rk := 0) (mp := [0, 1, 2, 3, 4, 5, 6, 7, 8, 9, 10, 11, 12, 13, 14, 15, 16, 17, 18, 19, 20, 21, 22, 23, 24]) ⟨rfl, by decide, rfl⟩ (ci := 7) rfl rfl (by decide) (by decide) yi_X7_finish (by decide) wd_542 wd_544 wd_10 wd_73 wd_545 dX7_set_42 <|
    s_iload (pc := 45) C dX7_set_45 <|
    s_ireturn (pc := 47) C rfl dX7_set_47)
    (s_iconst (pc := 26) C dX7_set_26 <|
    s_ireturn (pc := 27) C rfl dX7_set_27))
noncomputable def rw_X7_set_0 : XK := rg_X7_set_0
noncomputable def md_X7_set_0 (p1 : Int) (p2 : Int) (p3 : Int) (h0 : Ob) (h2 : Ob) (h17 : Ob) (h18 : Ob) (h19 : Ob) (h20 : Ob) (h21 : Ob) (h22 : Ob) (h23 : Ob) (h24 : Ob) : Ob × Ob × Ob × Ob × Ob × Ob × Ob × Ob × Ob × Ob × Ob × Ob × Ob × Ob × Ob → Option Rt := mg_X7_set_0 p1 p2 p3 h0 h2 h17 h18 h19 h20 h21 h22 h23 h24
theorem eq_X7_set_0 (p1 : Int) (p2 : Int) (p3 : Int) (h0 : Ob) (h2 : Ob) (h17 : Ob) (h18 : Ob) (h19 : Ob) (h20 : Ob) (h21 : Ob) (h22 : Ob) (h23 : Ob) (h24 : Ob) (a : Ob × Ob × Ob × Ob × Ob × Ob × Ob × Ob × Ob × Ob × Ob × Ob × Ob × Ob × Ob) : rw_X7_set_0 (en_X7_set_0 p1 p2 p3 h0 h2 h17 h18 h19 h20 h21 h22 h23 h24 a) = md_X7_set_0 p1 p2 p3 h0 h2 h17 h18 h19 h20 h21 h22 h23 h24 a :=
 rq_X7_set_0 p1 p2 p3 h0 h2 h17 h18 h19 h20 h21 h22 h23 h24 a
theorem sd_X7_set_0 {X : XDyn} {r0 : Rt} (C : XO X mX7_set) : XS X mX7_set r0 0 (rw_X7_set_0) := sg_X7_set_0 C
theorem ctr_X7_set : XCt yX7_set mX7_set (xF mX7_set (rw_X7_set_0)) := xMet (by decide +kernel) rfl (fun _ _ C => sd_X7_set_0 C)
theorem eqf_X7_set (p1 : Int) (p2 : Int) (p3 : Int) (h0 : Ob) (h1 : Ob) (h2 : Ob) (h3 : Ob) (h4 : Ob) (h5 : Ob) (h6 : Ob) (h7 : Ob) (h8 : Ob) (h9 : Ob) (h10 : Ob) (h11 : Ob) (h12 : Ob) (h13 : Ob) (h14 : Ob) (h15 : Ob) (h16 : Ob) (h17 : Ob) (h18 : Ob) (h19 : Ob) (h20 : Ob) (h21 : Ob) (h22 : Ob) (h23 : Ob) (h24 : Ob) : xF mX7_set (rw_X7_set_0) [.inr (.inl (0, 0)), .inl p1, .inl p2, .inl p3] [h0, h1, h2, h3, h4, h5, h6, h7, h8, h9, h10, h11, h12, h13, h14, h15, h16, h17, h18, h19, h20, h21, h22, h23, h24] = md_X7_set_0 p1 p2 p3 h0 h2 h17 h18 h19 h20 h21 h22 h23 h24 (h1, h3, h4, h5, h6, h7, h8, h9, h10, h11, h12, h13, h14, h15, h16) := eq_X7_set_0 p1 p2 p3 h0 h2 h17 h18 h19 h20 h21 h22 h23 h24 (h1, h3, h4, h5, h6, h7, h8, h9, h10, h11, h12, h13, h14, h15, h16)
theorem yi_X7_set : yX7_set.cls = RX7 ∧ yX7_set.cls ≠ "java/lang/invoke/MethodHandle" ∧ yX7_set.cls ≠ "java/lang/invoke/VarHandle" ∧ (parseMethodDescriptor yX7_set.desc).map (fun d => d.parameters.length) = some 3 := ⟨rfl, by decide +kernel, by decide +kernel, by decide +kernel⟩
theorem dX7_touch_0 : decode cX7_touch 0 = .ok (.aload_n 0, 1) := by decide +kernel
theorem dX7_touch_1 : decode cX7_touch 1 = .ok (.getfield 12, 3) := by decide +kernel
theorem dX7_touch_4 : decode cX7_touch 4 = .ok (.iload_n 1, 1) := by decide +kernel
theorem dX7_touch_5 : decode cX7_touch 5 = .ok (.invokevirtual 105, 3) := by decide +kernel
theorem dX7_touch_8 : decode cX7_touch 8 = .ok (.ifCond .ne 5, 3) := by decide +kernel
theorem dX7_touch_11 : decode cX7_touch 11 = .ok (.iconst 0, 1) := by decide +kernel
theorem dX7_touch_12 : decode cX7_touch 12 = .ok (.ireturn, 1) := by decide +kernel
theorem dX7_touch_13 : decode cX7_touch 13 = .ok (.aload_n 0, 1) := by decide +kernel
theorem dX7_touch_14 : decode cX7_touch 14 = .ok (.getfield 22, 3) := by decide +kernel
theorem dX7_touch_17 : decode cX7_touch 17 = .ok (.aload_n 0, 1) := by decide +kernel
theorem dX7_touch_18 : decode cX7_touch 18 = .ok (.getfield 12, 3) := by decide +kernel
theorem dX7_touch_21 : decode cX7_touch 21 = .ok (.invokevirtual 69, 3) := by decide +kernel
theorem dX7_touch_24 : decode cX7_touch 24 = .ok (.aload_n 0, 1) := by decide +kernel
theorem dX7_touch_25 : decode cX7_touch 25 = .ok (.iload_n 1, 1) := by decide +kernel
theorem dX7_touch_26 : decode cX7_touch 26 = .ok (.invokevirtual 87, 3) := by decide +kernel
theorem dX7_touch_29 : decode cX7_touch 29 = .ok (.iconst 1, 1) := by decide +kernel
theorem dX7_touch_30 : decode cX7_touch 30 = .ok (.ireturn, 1) := by decide +kernel
abbrev mX7_touch : XM := (cX7_touch, 2, RX7, (some .boolean), shw_M, 3)
noncomputable def rg_X7_touch_0 : XK :=
 o_aload 0 <|
 o_get shw_M 7 0 <|
 o_iload 1 <|
 o_callV 2 1 [1] f_X3_isUsed <|
 o_if_ne (o_aload 0 <|
 o_get shw_M 7 2 <|
 o_aload 0 <|
 o_get shw_M 7 0 <|
 o_callVg 2 0 [3, 4, 5, 6, 7, 8, 9, 10, 11, 12, 13, 14, 15, 16, 1] g_X5_save v_X5_save <|
 o_aload 0 <|
 o_iload 1 <|
 o_callV 2 0 [0, 1, 2, 3, 4, 5, 6, 7, 8, 9, 10, 11, 12, 13, 14, 15, 16, 17, 18, 19, 20, 21, 22, 23, 24] f_X7_finish <|
 o_iconst 1 <|
 o_zreturn)
 (o_iconst 0 <|
 o_zreturn)
def en_X7_touch_0 (p1 : Int) (h0 : Ob) (h2 : Ob) (h17 : Ob) (h18 : Ob) (h19 : Ob) (h20 : Ob) (h21 : Ob) (h22 : Ob) (h23 : Ob) (h24 : Ob) (a : Ob × Ob × Ob × Ob × Ob × Ob × Ob × Ob × Ob × Ob × Ob × Ob × Ob × Ob × Ob) : XSt := ([some (.inr (.inl (0, 0))), some (.inl p1)], [], [h0, a.1, h2, a.2.1, a.2.2.1, a.2.2.2.1, a.2.2.2.2.1, a.2.2.2.2.2.1, a.2.2.2.2.2.2.1, a.2.2.2.2.2.2.2.1, a.2.2.2.2.2.2.2.2.1, a.2.2.2.2.2.2.2.2.2.1, a.2.2.2.2.2.2.2.2.2.2.1, a.2.2.2.2.2.2.2.2.2.2.2.1, a.2.2.2.2.2.2.2.2.2.2.2.2.1, a.2.2.2.2.2.2.2.2.2.2.2.2.2.1, a.2.2.2.2.2.2.2.2.2.2.2.2.2.2, h17, h18, h19, h20, h21, h22, h23, h24])
noncomputable def mg_X7_touch_0 (p1 : Int) (h0 : Ob) (h2 : Ob) (h17 : Ob) (h18 : Ob) (h19 : Ob) (h20 : Ob) (h21 : Ob) (h22 : Ob) (h23 : Ob) (h24 : Ob) (a : Ob × Ob × Ob × Ob × Ob × Ob × Ob × Ob × Ob × Ob × Ob × Ob × Ob × Ob × Ob) : Option Rt :=
 if xw (bz (inS (a.1 0 7) p1)) = 0 then (RI 0 [h0, a.1, h2, a.2.1, a.2.2.1, a.2.2.2.1, a.2.2.2.2.1, a.2.2.2.2.2.1, a.2.2.2.2.2.2.1, a.2.2.2.2.2.2.2.1, a.2.2.2.2.2.2.2.2.1, a.2.2.2.2.2.2.2.2.2.1, a.2.2.2.2.2.2.2.2.2.2.1, a.2.2.2.2.2.2.2.2.2.2.2.1, a.2.2.2.2.2.2.2.2.2.2.2.2.1, a.2.2.2.2.2.2.2.2.2.2.2.2.2.1, a.2.2.2.2.2.2.2.2.2.2.2.2.2.2, h17, h18, h19, h20, h21, h22, h23, h24])
 else (if pd (PG a.2.1) then (
 RI 1 [h0, (finO a.1 p1), h2, (keeO a.2.1), (svK a.2.1 0 a.2.2.1 a.1), (svK a.2.1 1 a.2.2.2.1 a.1), (svK a.2.1 2 a.2.2.2.2.1 a.1), (svK a.2.1 3 a.2.2.2.2.2.1 a.1), (svK a.2.1 4 a.2.2.2.2.2.2.1 a.1), (svK a.2.1 5 a.2.2.2.2.2.2.2.1 a.1), (svK a.2.1 6 a.2.2.2.2.2.2.2.2.1 a.1), (svK a.2.1 7 a.2.2.2.2.2.2.2.2.2.1 a.1), (svK a.2.1 8 a.2.2.2.2.2.2.2.2.2.2.1 a.1), (svK a.2.1 9 a.2.2.2.2.2.2.2.2.2.2.2.1 a.1), (svK a.2.1 10 a.2.2.2.2.2.2.2.2.2.2.2.2.1 a.1), (svK a.2.1 11 a.2.2.2.2.2.2.2.2.2.2.2.2.2.1 a.1), (svK a.2.1 12 a.2.2.2.2.2.2.2.2.2.2.2.2.2.2 a.1), h17, h18, h19, h20, h21, h22, h23, h24]) else none)
set_option maxRecDepth 100000 in
set_option maxHeartbeats 4000000 in
theorem rq_X7_touch_0 (p1 : Int) (h0 : Ob) (h2 : Ob) (h17 : Ob) (h18 : Ob) (h19 : Ob) (h20 : Ob) (h21 : Ob) (h22 : Ob) (h23 : Ob) (h24 : Ob) (a : Ob × Ob × Ob × Ob × Ob × Ob × Ob × Ob × Ob × Ob × Ob × Ob × Ob × Ob × Ob) : rg_X7_touch_0 (en_X7_touch_0 p1 h0 h2 h17 h18 h19 h20 h21 h22 h23 h24 a) = mg_X7_touch_0 p1 h0 h2 h17 h18 h19 h20 h21 h22 h23 h24 a := rfl
set_option maxRecDepth 100000 in
set_option maxHeartbeats 4000000 in
theorem sg_X7_touch_0 {X : XDyn} {r0 : Rt} (C : XO X mX7_touch) : XS X mX7_touch r0 0 (rg_X7_touch_0) := by
 unfold rg_X7_touch_0
 exact s_aload_n (pc := 0) C dX7_touch_0 rfl <|
    s_get (pc := 1) C (ci := 7) (kf := 0) rfl inX7 (by decide) wd_312 dX7_touch_1 <|
    s_iload_n (pc := 4) C dX7_touch_4 rfl <|
    s_callV (pc := 5) C ct_X3_isUsed (n := 2) (rk := 1) (mp := [1]) ⟨rfl, by decide, rfl⟩ (ci := 3) rfl rfl (by decide) (by decide) yi_X3_isUsed (by decide) wd_588 wd_351 wd_352 wd_74 wd_353 dX7_touch_5 <|
    s_if_ne (pc := 8) C dX7_touch_8 (by decide) (s_aload_n (pc := 13) C dX7_touch_13 rfl <|
    s_get (pc := 14) C (ci := 7) (kf := 2) rfl inX7 (by decide) wd_314 dX7_touch_14 <|
    s_aload_n (pc := 17) C dX7_touch_17 rfl <|
    s_get (pc := 18) C (ci := 7) (kf := 0) rfl inX7 (by decide) wd_312 dX7_touch_18 <|
    s_callVg (pc := 21) C ct_X5_save (n := 2) (rk := 0) (mp := [3, 4, 5, 6, 7, 8, 9, 10, 11, 12, 13, 14, 15, 16, 1]) ⟨rfl, by decide, rfl⟩ (ci := 5) rfl rfl (by decide) (by decide) yi_X5_save (by decide) wd_360 wd_361 wd_362 wd_75 wd_363 dX7_touch_21 <|
    s_aload_n (pc := 24) C dX7_touch_24 rfl <|
    s_iload_n (pc := 25) C dX7_touch_25 rfl <|
    s_callV (pc := 26) C ct_X7_finish (n := 2) (rk := 0) (mp := [0, 1, 2, 3, 4, 5, 6, 7, 8, 9, 10, 11, 12, 13, 14, 15, 16, 17, 18, 19, 20, 21, 22, 23, 24]) ⟨rfl, by decide, rfl⟩ (ci := 7) rfl rfl (by decide) (by decide) yi_X7_finish (by decide) wd_542 wd_544 wd_10 wd_73 wd_545 dX7_touch_26 <|
    s_iconst (pc := 29) C dX7_touch_29 <|
    s_zreturn (pc := 30) C rfl dX7_touch_30)
    (s_iconst (pc := 11) C dX7_touch_11 <|
    s_zreturn (pc := 12) C rfl dX7_touch_12)
noncomputable def rw_X7_touch_0 : XK := rg_X7_touch_0
noncomputable def md_X7_touch_0 (p1 : Int) (h0 : Ob) (h2 : Ob) (h17 : Ob) (h18 : Ob) (h19 : Ob) (h20 : Ob) (h21 : Ob) (h22 : Ob) (h23 : Ob) (h24 : Ob) : Ob × Ob × Ob × Ob × Ob × Ob × Ob × Ob × Ob × Ob × Ob × Ob × Ob × Ob × Ob → Option Rt := mg_X7_touch_0 p1 h0 h2 h17 h18 h19 h20 h21 h22 h23 h24
theorem eq_X7_touch_0 (p1 : Int) (h0 : Ob) (h2 : Ob) (h17 : Ob) (h18 : Ob) (h19 : Ob) (h20 : Ob) (h21 : Ob) (h22 : Ob) (h23 : Ob) (h24 : Ob) (a : Ob × Ob × Ob × Ob × Ob × Ob × Ob × Ob × Ob × Ob × Ob × Ob × Ob × Ob × Ob) : rw_X7_touch_0 (en_X7_touch_0 p1 h0 h2 h17 h18 h19 h20 h21 h22 h23 h24 a) = md_X7_touch_0 p1 h0 h2 h17 h18 h19 h20 h21 h22 h23 h24 a :=
 rq_X7_touch_0 p1 h0 h2 h17 h18 h19 h20 h21 h22 h23 h24 a
theorem sd_X7_touch_0 {X : XDyn} {r0 : Rt} (C : XO X mX7_touch) : XS X mX7_touch r0 0 (rw_X7_touch_0) := sg_X7_touch_0 C
theorem ctr_X7_touch : XCt yX7_touch mX7_touch (xF mX7_touch (rw_X7_touch_0)) := xMet (by decide +kernel) rfl (fun _ _ C => sd_X7_touch_0 C)
theorem eqf_X7_touch (p1 : Int) (h0 : Ob) (h1 : Ob) (h2 : Ob) (h3 : Ob) (h4 : Ob) (h5 : Ob) (h6 : Ob) (h7 : Ob) (h8 : Ob) (h9 : Ob) (h10 : Ob) (h11 : Ob) (h12 : Ob) (h13 : Ob) (h14 : Ob) (h15 : Ob) (h16 : Ob) (h17 : Ob) (h18 : Ob) (h19 : Ob) (h20 : Ob) (h21 : Ob) (h22 : Ob) (h23 : Ob) (h24 : Ob) : xF mX7_touch (rw_X7_touch_0) [.inr (.inl (0, 0)), .inl p1] [h0, h1, h2, h3, h4, h5, h6, h7, h8, h9, h10, h11, h12, h13, h14, h15, h16, h17, h18, h19, h20, h21, h22, h23, h24] = md_X7_touch_0 p1 h0 h2 h17 h18 h19 h20 h21 h22 h23 h24 (h1, h3, h4, h5, h6, h7, h8, h9, h10, h11, h12, h13, h14, h15, h16) := eq_X7_touch_0 p1 h0 h2 h17 h18 h19 h20 h21 h22 h23 h24 (h1, h3, h4, h5, h6, h7, h8, h9, h10, h11, h12, h13, h14, h15, h16)
theorem yi_X7_touch : yX7_touch.cls = RX7 ∧ yX7_touch.cls ≠ "java/lang/invoke/MethodHandle" ∧ yX7_touch.cls ≠ "java/lang/invoke/VarHandle" ∧ (parseMethodDescriptor yX7_touch.desc).map (fun d => d.parameters.length) = some 1 := ⟨rfl, by decide +kernel, by decide +kernel, by decide +kernel⟩
theorem dX7_lock_0 : decode cX7_lock 0 = .ok (.aload_n 0, 1) := by decide +kernel
theorem dX7_lock_1 : decode cX7_lock 1 = .ok (.getfield 12, 3) := by decide +kernel
theorem dX7_lock_4 : decode cX7_lock 4 = .ok (.iload_n 1, 1) := by decide +kernel
theorem dX7_lock_5 : decode cX7_lock 5 = .ok (.invokevirtual 91, 3) := by decide +kernel
theorem dX7_lock_8 : decode cX7_lock 8 = .ok (.ifCond .eq 17, 3) := by decide +kernel
theorem dX7_lock_11 : decode cX7_lock 11 = .ok (.aload_n 0, 1) := by decide +kernel
theorem dX7_lock_12 : decode cX7_lock 12 = .ok (.getfield 12, 3) := by decide +kernel
theorem dX7_lock_15 : decode cX7_lock 15 = .ok (.getfield 108, 3) := by decide +kernel
theorem dX7_lock_18 : decode cX7_lock 18 = .ok (.iload_n 1, 1) := by decide +kernel
theorem dX7_lock_19 : decode cX7_lock 19 = .ok (.iaload, 1) := by decide +kernel
theorem dX7_lock_20 : decode cX7_lock 20 = .ok (.bipush 7, 2) := by decide +kernel
theorem dX7_lock_22 : decode cX7_lock 22 = .ok (.if_icmp .lt 5, 3) := by decide +kernel
theorem dX7_lock_25 : decode cX7_lock 25 = .ok (.iconst (-1), 1) := by decide +kernel
theorem dX7_lock_26 : decode cX7_lock 26 = .ok (.ireturn, 1) := by decide +kernel
theorem dX7_lock_27 : decode cX7_lock 27 = .ok (.aload_n 0, 1) := by decide +kernel
theorem dX7_lock_28 : decode cX7_lock 28 = .ok (.getfield 22, 3) := by decide +kernel
theorem dX7_lock_31 : decode cX7_lock 31 = .ok (.aload_n 0, 1) := by decide +kernel
theorem dX7_lock_32 : decode cX7_lock 32 = .ok (.getfield 12, 3) := by decide +kernel
theorem dX7_lock_35 : decode cX7_lock 35 = .ok (.invokevirtual 69, 3) := by decide +kernel
theorem dX7_lock_38 : decode cX7_lock 38 = .ok (.aload_n 0, 1) := by decide +kernel
theorem dX7_lock_39 : decode cX7_lock 39 = .ok (.getfield 12, 3) := by decide +kernel
theorem dX7_lock_42 : decode cX7_lock 42 = .ok (.getfield 108, 3) := by decide +kernel
theorem dX7_lock_45 : decode cX7_lock 45 = .ok (.iload_n 1, 1) := by decide +kernel
theorem dX7_lock_46 : decode cX7_lock 46 = .ok (.dup2, 1) := by decide +kernel
theorem dX7_lock_47 : decode cX7_lock 47 = .ok (.iaload, 1) := by decide +kernel
theorem dX7_lock_48 : decode cX7_lock 48 = .ok (.iconst 1, 1) := by decide +kernel
theorem dX7_lock_49 : decode cX7_lock 49 = .ok (.iadd, 1) := by decide +kernel
theorem dX7_lock_50 : decode cX7_lock 50 = .ok (.iastore, 1) := by decide +kernel
theorem dX7_lock_51 : decode cX7_lock 51 = .ok (.aload_n 0, 1) := by decide +kernel
theorem dX7_lock_52 : decode cX7_lock 52 = .ok (.iload_n 1, 1) := by decide +kernel
theorem dX7_lock_53 : decode cX7_lock 53 = .ok (.invokevirtual 87, 3) := by decide +kernel
theorem dX7_lock_56 : decode cX7_lock 56 = .ok (.aload_n 0, 1) := by decide +kernel
theorem dX7_lock_57 : decode cX7_lock 57 = .ok (.getfield 12, 3) := by decide +kernel
theorem dX7_lock_60 : decode cX7_lock 60 = .ok (.getfield 108, 3) := by decide +kernel
theorem dX7_lock_63 : decode cX7_lock 63 = .ok (.iload_n 1, 1) := by decide +kernel
theorem dX7_lock_64 : decode cX7_lock 64 = .ok (.iaload, 1) := by decide +kernel
theorem dX7_lock_65 : decode cX7_lock 65 = .ok (.ireturn, 1) := by decide +kernel
abbrev mX7_lock : XM := (cX7_lock, 2, RX7, (some .int), shw_M, 3)
noncomputable def rg_X7_lock_0 : XK :=
 o_aload 0 <|
 o_get shw_M 7 0 <|
 o_iload 1 <|
 o_callV 2 1 [1] f_X3_isFull <|
 o_if_eq (o_iconst (-1) <|
 o_ireturn)
 (o_aload 0 <|
 o_get shw_M 7 0 <|
 o_get shw_M 3 3 <|
 o_iload 1 <|
 o_iald shw_M <|
 o_iconst 7 <|
 o_icmp_lt (o_aload 0 <|
 o_get shw_M 7 2 <|
 o_aload 0 <|
 o_get shw_M 7 0 <|
 o_callVg 2 0 [3, 4, 5, 6, 7, 8, 9, 10, 11, 12, 13, 14, 15, 16, 1] g_X5_save v_X5_save <|
 o_aload 0 <|
 o_get shw_M 7 0 <|
 o_get shw_M 3 3 <|
 o_iload 1 <|
 o_dup2 <|
 o_iald shw_M <|
 o_iconst 1 <|
 o_iadd <|
 o_iast shw_M <|
 o_aload 0 <|
 o_iload 1 <|
 o_callV 2 0 [0, 1, 2, 3, 4, 5, 6, 7, 8, 9, 10, 11, 12, 13, 14, 15, 16, 17, 18, 19, 20, 21, 22, 23, 24] f_X7_finish <|
 o_aload 0 <|
 o_get shw_M 7 0 <|
 o_get shw_M 3 3 <|
 o_iload 1 <|
 o_iald shw_M <|
 o_ireturn)
 (o_iconst (-1) <|
 o_ireturn))
def en_X7_lock_0 (p1 : Int) (h0 : Ob) (h2 : Ob) (h17 : Ob) (h18 : Ob) (h19 : Ob) (h20 : Ob) (h21 : Ob) (h22 : Ob) (h23 : Ob) (h24 : Ob) (a : Ob × Ob × Ob × Ob × Ob × Ob × Ob × Ob × Ob × Ob × Ob × Ob × Ob × Ob × Ob) : XSt := ([some (.inr (.inl (0, 0))), some (.inl p1)], [], [h0, a.1, h2, a.2.1, a.2.2.1, a.2.2.2.1, a.2.2.2.2.1, a.2.2.2.2.2.1, a.2.2.2.2.2.2.1, a.2.2.2.2.2.2.2.1, a.2.2.2.2.2.2.2.2.1, a.2.2.2.2.2.2.2.2.2.1, a.2.2.2.2.2.2.2.2.2.2.1, a.2.2.2.2.2.2.2.2.2.2.2.1, a.2.2.2.2.2.2.2.2.2.2.2.2.1, a.2.2.2.2.2.2.2.2.2.2.2.2.2.1, a.2.2.2.2.2.2.2.2.2.2.2.2.2.2, h17, h18, h19, h20, h21, h22, h23, h24])
noncomputable def mg_X7_lock_0 (p1 : Int) (h0 : Ob) (h2 : Ob) (h17 : Ob) (h18 : Ob) (h19 : Ob) (h20 : Ob) (h21 : Ob) (h22 : Ob) (h23 : Ob) (h24 : Ob) (a : Ob × Ob × Ob × Ob × Ob × Ob × Ob × Ob × Ob × Ob × Ob × Ob × Ob × Ob × Ob) : Option Rt :=
 if xw (bz (ful a.1 p1)) = 0 then (RI (-1) [h0, a.1, h2, a.2.1, a.2.2.1, a.2.2.2.1, a.2.2.2.2.1, a.2.2.2.2.2.1, a.2.2.2.2.2.2.1, a.2.2.2.2.2.2.2.1, a.2.2.2.2.2.2.2.2.1, a.2.2.2.2.2.2.2.2.2.1, a.2.2.2.2.2.2.2.2.2.2.1, a.2.2.2.2.2.2.2.2.2.2.2.1, a.2.2.2.2.2.2.2.2.2.2.2.2.1, a.2.2.2.2.2.2.2.2.2.2.2.2.2.1, a.2.2.2.2.2.2.2.2.2.2.2.2.2.2, h17, h18, h19, h20, h21, h22, h23, h24])
 else (if xin p1 8 then (
 if xw (a.1 4 (xw p1).toNat) < 7 then (if pd (PG a.2.1) then (
 if xin p1 8 then (
 if xin p1 8 then (
 if xin p1 8 then (
 RI ((finO (xset a.1 4 (xw p1).toNat ((a.1 4 (xw p1).toNat) + 1)) p1) 4 (xw p1).toNat) [h0, (finO (xset a.1 4 (xw p1).toNat ((a.1 4 (xw p1).toNat) + 1)) p1), h2, (keeO a.2.1), (svK a.2.1 0 a.2.2.1 a.1), (svK a.2.1 1 a.2.2.2.1 a.1), (svK a.2.1 2 a.2.2.2.2.1 a.1), (svK a.2.1 3 a.2.2.2.2.2.1 a.1), (svK a.2.1 4 a.2.2.2.2.2.2.1 a.1), (svK a.2.1 5 a.2.2.2.2.2.2.2.1 a.1), (svK a.2.1 6 a.2.2.2.2.2.2.2.2.1 a.1), (svK a.2.1 7 a.2.2.2.2.2.2.2.2.2.1 a.1), (svK a.2.1 8 a.2.2.2.2.2.2.2.2.2.2.1 a.1), (svK a.2.1 9 a.2.2.2.2.2.2.2.2.2.2.2.1 a.1), (svK a.2.1 10 a.2.2.2.2.2.2.2.2.2.2.2.2.1 a.1), (svK a.2.1 11 a.2.2.2.2.2.2.2.2.2.2.2.2.2.1 a.1), (svK a.2.1 12 a.2.2.2.2.2.2.2.2.2.2.2.2.2.2 a.1), h17, h18, h19, h20, h21, h22, h23, h24]) else none) else none) else none) else none)
 else (RI (-1) [h0, a.1, h2, a.2.1, a.2.2.1, a.2.2.2.1, a.2.2.2.2.1, a.2.2.2.2.2.1, a.2.2.2.2.2.2.1, a.2.2.2.2.2.2.2.1, a.2.2.2.2.2.2.2.2.1, a.2.2.2.2.2.2.2.2.2.1, a.2.2.2.2.2.2.2.2.2.2.1, a.2.2.2.2.2.2.2.2.2.2.2.1, a.2.2.2.2.2.2.2.2.2.2.2.2.1, a.2.2.2.2.2.2.2.2.2.2.2.2.2.1, a.2.2.2.2.2.2.2.2.2.2.2.2.2.2, h17, h18, h19, h20, h21, h22, h23, h24])) else none)
set_option maxRecDepth 100000 in
set_option maxHeartbeats 4000000 in
theorem rq_X7_lock_0 (p1 : Int) (h0 : Ob) (h2 : Ob) (h17 : Ob) (h18 : Ob) (h19 : Ob) (h20 : Ob) (h21 : Ob) (h22 : Ob) (h23 : Ob) (h24 : Ob) (a : Ob × Ob × Ob × Ob × Ob × Ob × Ob × Ob × Ob × Ob × Ob × Ob × Ob × Ob × Ob) : rg_X7_lock_0 (en_X7_lock_0 p1 h0 h2 h17 h18 h19 h20 h21 h22 h23 h24 a) = mg_X7_lock_0 p1 h0 h2 h17 h18 h19 h20 h21 h22 h23 h24 a := rfl
set_option maxRecDepth 100000 in
set_option maxHeartbeats 4000000 in
theorem sg_X7_lock_0 {X : XDyn} {r0 : Rt} (C : XO X mX7_lock) : XS X mX7_lock r0 0 (rg_X7_lock_0) := by
 unfold rg_X7_lock_0
 exact s_aload_n (pc := 0) C dX7_lock_0 rfl <|
    s_get (pc := 1) C (ci := 7) (kf := 0) rfl inX7 (by decide) wd_312 dX7_lock_1 <|
    s_iload_n (pc := 4) C dX7_lock_4 rfl <|
    s_callV (pc := 5) C ct_X3_isFull (n := 2) (rk := 1) (mp := [1]) ⟨rfl, by decide, rfl⟩ (ci := 3) rfl rfl (by decide) (by decide) yi_X3_isFull (by decide) wd_555 wd_556 wd_557 wd_74 wd_558 dX7_lock_5 <|
    s_if_eq (pc := 8) C dX7_lock_8 (by decide) (s_iconst (pc := 25) C dX7_lock_25 <|
    s_ireturn (pc := 26) C rfl dX7_lock_26)
    (s_aload_n (pc := 11) C dX7_lock_11 rfl <|
    s_get (pc := 12) C (ci := 7) (kf := 0) rfl inX7 (by decide) wd_312 dX7_lock_12 <|
    s_get (pc := 15) C (ci := 3) (kf := 3) rfl inX3 (by decide) wd_113 dX7_lock_15 <|
    s_iload_n (pc := 18) C dX7_lock_18 rfl <|
    s_iald (pc := 19) C dX7_lock_19 <|
    s_bipush (pc := 20) C dX7_lock_20 (by decide) <|
    s_icmp_lt (pc := 22) C dX7_lock_22 (by decide) (s_aload_n (pc := 27) C dX7_lock_27 rfl <|
    s_get (pc := 28) C (ci := 7) (kf := 2) rfl inX7 (by decide) wd_314 dX7_lock_28 <|
    s_aload_n (pc := 31) C dX7_lock_31 rfl <|
    s_get (pc := 32) C (ci := 7) (kf := 0) rfl inX7 (by decide) wd_312 dX7_lock_32 <|
    s_callVg (pc := 35) C ct_X5_save (n := 2) (rk := 0) (mp := [3, 4, 5, 6, 7, 8, 9, 10, 11, 12, 13, 14, 15, 16, 1]) ⟨rfl, by decide, rfl⟩ (ci := 5) rfl rfl (by decide) (by decide) yi_X5_save (by decide) wd_360 wd_361 wd_362 wd_75 wd_363 dX7_lock_35 <|
    s_aload_n (pc := 38) C dX7_lock_38 rfl <|
    s_get (pc := 39) C (ci := 7) (kf := 0) rfl inX7 (by decide) wd_312 dX7_lock_39 <|
    s_get (pc := 42) C (ci := 3) (kf := 3) rfl inX3 (by decide) wd_113 dX7_lock_42 <|
    s_iload_n (pc := 45) C dX7_lock_45 rfl <|
    s_dup2 (pc := 46) C dX7_lock_46 <|
    s_iald (pc := 47) C dX7_lock_47 <|
    s_iconst (pc := 48) C dX7_lock_48 <|
    s_iadd (pc := 49) C dX7_lock_49 <|
    s_iast (pc := 50) C dX7_lock_50 <|
    s_aload_n (pc := 51) C dX7_lock_51 rfl <|
    s_iload_n (pc := 52) C dX7_lock_52 rfl <|
    s_callV (pc := 53) C ct_X7_finish (n := 2) (rk := 0) (mp := [0, 1, 2, 3, 4, 5, 6, 7, 8, 9, 10, 11, 12, 13, 14, 15, 16, 17, 18, 19, 20, 21, 22, 23, 24]) ⟨rfl, by decide, rfl⟩ (ci := 7) rfl rfl (by decide) (by decide) yi_X7_finish (by decide) wd_542 wd_544 wd_10 wd_73 wd_545 dX7_lock_53 <|
    s_aload_n (pc := 56) C dX7_lock_56 rfl <|
    s_get (pc := 57) C (ci := 7) (kf := 0) rfl inX7 (by decide) wd_312 dX7_lock_57 <|
    s_get (pc := 60) C (ci := 3) (kf := 3) rfl inX3 (by decide) wd_113 dX7_lock_60 <|
    s_iload_n (pc := 63) C dX7_lock_63 rfl <|
    s_iald (pc := 64) C dX7_lock_64 <|
    s_ireturn (pc := 65) C rfl dX7_lock_65)
    (s_iconst (pc := 25) C dX7_lock_25 <|
    s_ireturn (pc := 26) C rfl dX7_lock_26))
noncomputable def rw_X7_lock_0 : XK := rg_X7_lock_0
noncomputable def md_X7_lock_0 (p1 : Int) (h0 : Ob) (h2 : Ob) (h17 : Ob) (h18 : Ob) (h19 : Ob) (h20 : Ob) (h21 : Ob) (h22 : Ob) (h23 : Ob) (h24 : Ob) : Ob × Ob × Ob × Ob × Ob × Ob × Ob × Ob × Ob × Ob × Ob × Ob × Ob × Ob × Ob → Option Rt := mg_X7_lock_0 p1 h0 h2 h17 h18 h19 h20 h21 h22 h23 h24
theorem eq_X7_lock_0 (p1 : Int) (h0 : Ob) (h2 : Ob) (h17 : Ob) (h18 : Ob) (h19 : Ob) (h20 : Ob) (h21 : Ob) (h22 : Ob) (h23 : Ob) (h24 : Ob) (a : Ob × Ob × Ob × Ob × Ob × Ob × Ob × Ob × Ob × Ob × Ob × Ob × Ob × Ob × Ob) : rw_X7_lock_0 (en_X7_lock_0 p1 h0 h2 h17 h18 h19 h20 h21 h22 h23 h24 a) = md_X7_lock_0 p1 h0 h2 h17 h18 h19 h20 h21 h22 h23 h24 a :=
 rq_X7_lock_0 p1 h0 h2 h17 h18 h19 h20 h21 h22 h23 h24 a
theorem sd_X7_lock_0 {X : XDyn} {r0 : Rt} (C : XO X mX7_lock) : XS X mX7_lock r0 0 (rw_X7_lock_0) := sg_X7_lock_0 C
theorem ctr_X7_lock : XCt yX7_lock mX7_lock (xF mX7_lock (rw_X7_lock_0)) := xMet (by decide +kernel) rfl (fun _ _ C => sd_X7_lock_0 C)
theorem eqf_X7_lock (p1 : Int) (h0 : Ob) (h1 : Ob) (h2 : Ob) (h3 : Ob) (h4 : Ob) (h5 : Ob) (h6 : Ob) (h7 : Ob) (h8 : Ob) (h9 : Ob) (h10 : Ob) (h11 : Ob) (h12 : Ob) (h13 : Ob) (h14 : Ob) (h15 : Ob) (h16 : Ob) (h17 : Ob) (h18 : Ob) (h19 : Ob) (h20 : Ob) (h21 : Ob) (h22 : Ob) (h23 : Ob) (h24 : Ob) : xF mX7_lock (rw_X7_lock_0) [.inr (.inl (0, 0)), .inl p1] [h0, h1, h2, h3, h4, h5, h6, h7, h8, h9, h10, h11, h12, h13, h14, h15, h16, h17, h18, h19, h20, h21, h22, h23, h24] = md_X7_lock_0 p1 h0 h2 h17 h18 h19 h20 h21 h22 h23 h24 (h1, h3, h4, h5, h6, h7, h8, h9, h10, h11, h12, h13, h14, h15, h16) := eq_X7_lock_0 p1 h0 h2 h17 h18 h19 h20 h21 h22 h23 h24 (h1, h3, h4, h5, h6, h7, h8, h9, h10, h11, h12, h13, h14, h15, h16)
theorem yi_X7_lock : yX7_lock.cls = RX7 ∧ yX7_lock.cls ≠ "java/lang/invoke/MethodHandle" ∧ yX7_lock.cls ≠ "java/lang/invoke/VarHandle" ∧ (parseMethodDescriptor yX7_lock.desc).map (fun d => d.parameters.length) = some 1 := ⟨rfl, by decide +kernel, by decide +kernel, by decide +kernel⟩
theorem dX7_unlock_0 : decode cX7_unlock 0 = .ok (.aload_n 0, 1) := by decide +kernel
theorem dX7_unlock_1 : decode cX7_unlock 1 = .ok (.getfield 12, 3) := by decide +kernel
theorem dX7_unlock_4 : decode cX7_unlock 4 = .ok (.iload_n 1, 1) := by decide +kernel
theorem dX7_unlock_5 : decode cX7_unlock 5 = .ok (.invokevirtual 91, 3) := by decide +kernel
theorem dX7_unlock_8 : decode cX7_unlock 8 = .ok (.ifCond .eq 16, 3) := by decide +kernel
theorem dX7_unlock_11 : decode cX7_unlock 11 = .ok (.aload_n 0, 1) := by decide +kernel
theorem dX7_unlock_12 : decode cX7_unlock 12 = .ok (.getfield 12, 3) := by decide +kernel
theorem dX7_unlock_15 : decode cX7_unlock 15 = .ok (.getfield 108, 3) := by decide +kernel
theorem dX7_unlock_18 : decode cX7_unlock 18 = .ok (.iload_n 1, 1) := by decide +kernel
theorem dX7_unlock_19 : decode cX7_unlock 19 = .ok (.iaload, 1) := by decide +kernel
theorem dX7_unlock_20 : decode cX7_unlock 20 = .ok (.iconst 1, 1) := by decide +kernel
theorem dX7_unlock_21 : decode cX7_unlock 21 = .ok (.if_icmp .ge 5, 3) := by decide +kernel
theorem dX7_unlock_24 : decode cX7_unlock 24 = .ok (.iconst (-1), 1) := by decide +kernel
theorem dX7_unlock_25 : decode cX7_unlock 25 = .ok (.ireturn, 1) := by decide +kernel
theorem dX7_unlock_26 : decode cX7_unlock 26 = .ok (.aload_n 0, 1) := by decide +kernel
theorem dX7_unlock_27 : decode cX7_unlock 27 = .ok (.getfield 22, 3) := by decide +kernel
theorem dX7_unlock_30 : decode cX7_unlock 30 = .ok (.aload_n 0, 1) := by decide +kernel
theorem dX7_unlock_31 : decode cX7_unlock 31 = .ok (.getfield 12, 3) := by decide +kernel
theorem dX7_unlock_34 : decode cX7_unlock 34 = .ok (.invokevirtual 69, 3) := by decide +kernel
theorem dX7_unlock_37 : decode cX7_unlock 37 = .ok (.aload_n 0, 1) := by decide +kernel
theorem dX7_unlock_38 : decode cX7_unlock 38 = .ok (.getfield 12, 3) := by decide +kernel
theorem dX7_unlock_41 : decode cX7_unlock 41 = .ok (.getfield 108, 3) := by decide +kernel
theorem dX7_unlock_44 : decode cX7_unlock 44 = .ok (.iload_n 1, 1) := by decide +kernel
theorem dX7_unlock_45 : decode cX7_unlock 45 = .ok (.dup2, 1) := by decide +kernel
theorem dX7_unlock_46 : decode cX7_unlock 46 = .ok (.iaload, 1) := by decide +kernel
theorem dX7_unlock_47 : decode cX7_unlock 47 = .ok (.iconst 1, 1) := by decide +kernel
theorem dX7_unlock_48 : decode cX7_unlock 48 = .ok (.isub, 1) := by decide +kernel
theorem dX7_unlock_49 : decode cX7_unlock 49 = .ok (.iastore, 1) := by decide +kernel
theorem dX7_unlock_50 : decode cX7_unlock 50 = .ok (.aload_n 0, 1) := by decide +kernel
theorem dX7_unlock_51 : decode cX7_unlock 51 = .ok (.iconst (-1), 1) := by decide +kernel
theorem dX7_unlock_52 : decode cX7_unlock 52 = .ok (.invokevirtual 87, 3) := by decide +kernel
theorem dX7_unlock_55 : decode cX7_unlock 55 = .ok (.aload_n 0, 1) := by decide +kernel
theorem dX7_unlock_56 : decode cX7_unlock 56 = .ok (.getfield 12, 3) := by decide +kernel
theorem dX7_unlock_59 : decode cX7_unlock 59 = .ok (.getfield 108, 3) := by decide +kernel
theorem dX7_unlock_62 : decode cX7_unlock 62 = .ok (.iload_n 1, 1) := by decide +kernel
theorem dX7_unlock_63 : decode cX7_unlock 63 = .ok (.iaload, 1) := by decide +kernel
theorem dX7_unlock_64 : decode cX7_unlock 64 = .ok (.ireturn, 1) := by decide +kernel
abbrev mX7_unlock : XM := (cX7_unlock, 2, RX7, (some .int), shw_M, 3)
noncomputable def rg_X7_unlock_0 : XK :=
 o_aload 0 <|
 o_get shw_M 7 0 <|
 o_iload 1 <|
 o_callV 2 1 [1] f_X3_isFull <|
 o_if_eq (o_iconst (-1) <|
 o_ireturn)
 (o_aload 0 <|
 o_get shw_M 7 0 <|
 o_get shw_M 3 3 <|
 o_iload 1 <|
 o_iald shw_M <|
 o_iconst 1 <|
 o_icmp_ge (o_aload 0 <|
 o_get shw_M 7 2 <|
 o_aload 0 <|
 o_get shw_M 7 0 <|
 o_callVg 2 0 [3, 4, 5, 6, 7, 8, 9, 10, 11, 12, 13, 14, 15, 16, 1] g_X5_save v_X5_save <|
 o_aload 0 <|
 o_get shw_M 7 0 <|
 o_get shw_M 3 3 <|
 o_iload 1 <|
 o_dup2 <|
 o_iald shw_M <|
 o_iconst 1 <|
 o_isub <|
 o_iast shw_M <|
 o_aload 0 <|
 o_iconst (-1) <|
 o_callV 2 0 [0, 1, 2, 3, 4, 5, 6, 7, 8, 9, 10, 11, 12, 13, 14, 15, 16, 17, 18, 19, 20, 21, 22, 23, 24] f_X7_finish <|
 o_aload 0 <|
 o_get shw_M 7 0 <|
 o_get shw_M 3 3 <|
 o_iload 1 <|
 o_iald shw_M <|
 o_ireturn)
 (o_iconst (-1) <|
 o_ireturn))
def en_X7_unlock_0 (p1 : Int) (h0 : Ob) (h2 : Ob) (h17 : Ob) (h18 : Ob) (h19 : Ob) (h20 : Ob) (h21 : Ob) (h22 : Ob) (h23 : Ob) (h24 : Ob) (a : Ob × Ob × Ob × Ob × Ob × Ob × Ob × Ob × Ob × Ob × Ob × Ob × Ob × Ob × Ob) : XSt := ([some (.inr (.inl (0, 0))), some (.inl p1)], [], [h0, a.1, h2, a.2.1, a.2.2.1, a.2.2.2.1, a.2.2.2.2.1, a.2.2.2.2.2.1, a.2.2.2.2.2.2.1, a.2.2.2.2.2.2.2.1, a.2.2.2.2.2.2.2.2.1, a.2.2.2.2.2.2.2.2.2.1, a.2.2.2.2.2.2.2.2.2.2.1, a.2.2.2.2.2.2.2.2.2.2.2.1, a.2.2.2.2.2.2.2.2.2.2.2.2.1, a.2.2.2.2.2.2.2.2.2.2.2.2.2.1, a.2.2.2.2.2.2.2.2.2.2.2.2.2.2, h17, h18, h19, h20, h21, h22, h23, h24])
noncomputable def mg_X7_unlock_0 (p1 : Int) (h0 : Ob) (h2 : Ob) (h17 : Ob) (h18 : Ob) (h19 : Ob) (h20 : Ob) (h21 : Ob) (h22 : Ob) (h23 : Ob) (h24 : Ob) (a : Ob × Ob × Ob × Ob × Ob × Ob × Ob × Ob × Ob × Ob × Ob × Ob × Ob × Ob × Ob) : Option Rt :=
 if xw (bz (ful a.1 p1)) = 0 then (RI (-1) [h0, a.1, h2, a.2.1, a.2.2.1, a.2.2.2.1, a.2.2.2.2.1, a.2.2.2.2.2.1, a.2.2.2.2.2.2.1, a.2.2.2.2.2.2.2.1, a.2.2.2.2.2.2.2.2.1, a.2.2.2.2.2.2.2.2.2.1, a.2.2.2.2.2.2.2.2.2.2.1, a.2.2.2.2.2.2.2.2.2.2.2.1, a.2.2.2.2.2.2.2.2.2.2.2.2.1, a.2.2.2.2.2.2.2.2.2.2.2.2.2.1, a.2.2.2.2.2.2.2.2.2.2.2.2.2.2, h17, h18, h19, h20, h21, h22, h23, h24])
 else (if xin p1 8 then (
 if xw (a.1 4 (xw p1).toNat) ≥ 1 then (if pd (PG a.2.1) then (
 if xin p1 8 then (
 if xin p1 8 then (
 if xin p1 8 then (
 RI ((finO (xset a.1 4 (xw p1).toNat ((a.1 4 (xw p1).toNat) - 1)) ((-1) : Int)) 4 (xw p1).toNat) [h0, (finO (xset a.1 4 (xw p1).toNat ((a.1 4 (xw p1).toNat) - 1)) ((-1) : Int)), h2, (keeO a.2.1), (svK a.2.1 0 a.2.2.1 a.1), (svK a.2.1 1 a.2.2.2.1 a.1), (svK a.2.1 2 a.2.2.2.2.1 a.1), (svK a.2.1 3 a.2.2.2.2.2.1 a.1), (svK a.2.1 4 a.2.2.2.2.2.2.1 a.1), (svK a.2.1 5 a.2.2.2.2.2.2.2.1 a.1), (svK a.2.1 6 a.2.2.2.2.2.2.2.2.1 a.1), (svK a.2.1 7 a.2.2.2.2.2.2.2.2.2.1 a.1), (svK a.2.1 8 a.2.2.2.2.2.2.2.2.2.2.1 a.1), (svK a.2.1 9 a.2.2.2.2.2.2.2.2.2.2.2.1 a.1), (svK a.2.1 10 a.2.2.2.2.2.2.2.2.2.2.2.2.1 a.1), (svK a.2.1 11 a.2.2.2.2.2.2.2.2.2.2.2.2.2.1 a.1), (svK a.2.1 12 a.2.2.2.2.2.2.2.2.2.2.2.2.2.2 a.1), h17, h18, h19, h20, h21, h22, h23, h24]) else none) else none) else none) else none)
 else (RI (-1) [h0, a.1, h2, a.2.1, a.2.2.1, a.2.2.2.1, a.2.2.2.2.1, a.2.2.2.2.2.1, a.2.2.2.2.2.2.1, a.2.2.2.2.2.2.2.1, a.2.2.2.2.2.2.2.2.1, a.2.2.2.2.2.2.2.2.2.1, a.2.2.2.2.2.2.2.2.2.2.1, a.2.2.2.2.2.2.2.2.2.2.2.1, a.2.2.2.2.2.2.2.2.2.2.2.2.1, a.2.2.2.2.2.2.2.2.2.2.2.2.2.1, a.2.2.2.2.2.2.2.2.2.2.2.2.2.2, h17, h18, h19, h20, h21, h22, h23, h24])) else none)
set_option maxRecDepth 100000 in
set_option maxHeartbeats 4000000 in
theorem rq_X7_unlock_0 (p1 : Int) (h0 : Ob) (h2 : Ob) (h17 : Ob) (h18 : Ob) (h19 : Ob) (h20 : Ob) (h21 : Ob) (h22 : Ob) (h23 : Ob) (h24 : Ob) (a : Ob × Ob × Ob × Ob × Ob × Ob × Ob × Ob × Ob × Ob × Ob × Ob × Ob × Ob × Ob) : rg_X7_unlock_0 (en_X7_unlock_0 p1 h0 h2 h17 h18 h19 h20 h21 h22 h23 h24 a) = mg_X7_unlock_0 p1 h0 h2 h17 h18 h19 h20 h21 h22 h23 h24 a := rfl
set_option maxRecDepth 100000 in
set_option maxHeartbeats 4000000 in
theorem sg_X7_unlock_0 {X : XDyn} {r0 : Rt} (C : XO X mX7_unlock) : XS X mX7_unlock r0 0 (rg_X7_unlock_0) := by
 unfold rg_X7_unlock_0
 exact s_aload_n (pc := 0) C dX7_unlock_0 rfl <|
    s_get (pc := 1) C (ci := 7) (kf := 0) rfl inX7 (by decide) wd_312 dX7_unlock_1 <|
    s_iload_n (pc := 4) C dX7_unlock_4 rfl <|
    s_callV (pc := 5) C ct_X3_isFull (n := 2) (rk := 1) (mp := [1]) ⟨rfl, by decide, rfl⟩ (ci := 3) rfl rfl (by decide) (by decide) yi_X3_isFull (by decide) wd_555 wd_556 wd_557 wd_74 wd_558 dX7_unlock_5 <|
    s_if_eq (pc := 8) C dX7_unlock_8 (by decide) (s_iconst (pc := 24) C dX7_unlock_24 <|
    s_ireturn (pc := 25) C rfl dX7_unlock_25)
    (s_aload_n (pc := 11) C dX7_unlock_11 rfl <|
    s_get (pc := 12) C (ci := 7) (kf := 0) rfl inX7 (by decide) wd_312 dX7_unlock_12 <|
    s_get (pc := 15) C (ci := 3) (kf := 3) rfl inX3 (by decide) wd_113 dX7_unlock_15 <|
    s_iload_n (pc := 18) C dX7_unlock_18 rfl <|
    s_iald (pc := 19) C dX7_unlock_19 <|
    s_iconst (pc := 20) C dX7_unlock_20 <|
    s_icmp_ge (pc := 21) C dX7_unlock_21 (by decide) (s_aload_n (pc := 26) C dX7_unlock_26 rfl <|
    s_get (pc := 27) C (ci := 7) (kf := 2) rfl inX7 (by decide) wd_314 dX7_unlock_27 <|
    s_aload_n (pc := 30) C dX7_unlock_30 rfl <|
    s_get (pc := 31) C (ci := 7) (kf := 0) rfl inX7 (by decide) wd_312 dX7_unlock_31 <|
    s_callVg (pc := 34) C ct_X5_save (n := 2) (rk := 0) (mp := [3, 4, 5, 6, 7, 8, 9, 10, 11, 12, 13, 14, 15, 16, 1]) ⟨rfl, by decide, rfl⟩ (ci := 5) rfl rfl (by decide) (by decide) yi_X5_save (by decide) wd_360 wd_361 wd_362 wd_75 wd_363 dX7_unlock_34 <|
    s_aload_n (pc := 37) C dX7_unlock_37 rfl <|
    s_get (pc := 38) C (ci := 7) (kf := 0) rfl inX7 (by decide) wd_312 dX7_unlock_38 <|
    s_get (pc := 41) C (ci := 3) (kf := 3) rfl inX3 (by decide) wd_113 dX7_unlock_41 <|
    s_iload_n (pc := 44) C dX7_unlock_44 rfl <|
    s_dup2 (pc := 45) C dX7_unlock_45 <|
    s_iald (pc := 46) C dX7_unlock_46 <|
    s_iconst (pc := 47) C dX7_unlock_47 <|
    s_isub (pc := 48) C dX7_unlock_48 <|
    s_iast (pc := 49) C dX7_unlock_49 <|
    s_aload_n (pc := 50) C dX7_unlock_50 rfl <|
    s_iconst (pc := 51) C dX7_unlock_51 <|
    s_callV (pc := 52) C ct_X7_finish (n := 2) (rk := 0) (mp := [0, 1, 2, 3, 4, 5, 6, 7, 8, 9, 10, 11, 12, 13, 14, 15, 16, 17, 18, 19, 20, 21, 22, 23, 24]) ⟨rfl, by decide, rfl⟩ (ci := 7) rfl rfl (by decide) (by decide) yi_X7_finish (by decide) wd_542 wd_544 wd_10 wd_73 wd_545 dX7_unlock_52 <|
    s_aload_n (pc := 55) C dX7_unlock_55 rfl <|
    s_get (pc := 56) C (ci := 7) (kf := 0) rfl inX7 (by decide) wd_312 dX7_unlock_56 <|
    s_get (pc := 59) C (ci := 3) (kf := 3) rfl inX3 (by decide) wd_113 dX7_unlock_59 <|
    s_iload_n (pc := 62) C dX7_unlock_62 rfl <|
    s_iald (pc := 63) C dX7_unlock_63 <|
    s_ireturn (pc := 64) C rfl dX7_unlock_64)
    (s_iconst (pc := 24) C dX7_unlock_24 <|
    s_ireturn (pc := 25) C rfl dX7_unlock_25))
noncomputable def rw_X7_unlock_0 : XK := rg_X7_unlock_0
noncomputable def md_X7_unlock_0 (p1 : Int) (h0 : Ob) (h2 : Ob) (h17 : Ob) (h18 : Ob) (h19 : Ob) (h20 : Ob) (h21 : Ob) (h22 : Ob) (h23 : Ob) (h24 : Ob) : Ob × Ob × Ob × Ob × Ob × Ob × Ob × Ob × Ob × Ob × Ob × Ob × Ob × Ob × Ob → Option Rt := mg_X7_unlock_0 p1 h0 h2 h17 h18 h19 h20 h21 h22 h23 h24
theorem eq_X7_unlock_0 (p1 : Int) (h0 : Ob) (h2 : Ob) (h17 : Ob) (h18 : Ob) (h19 : Ob) (h20 : Ob) (h21 : Ob) (h22 : Ob) (h23 : Ob) (h24 : Ob) (a : Ob × Ob × Ob × Ob × Ob × Ob × Ob × Ob × Ob × Ob × Ob × Ob × Ob × Ob × Ob) : rw_X7_unlock_0 (en_X7_unlock_0 p1 h0 h2 h17 h18 h19 h20 h21 h22 h23 h24 a) = md_X7_unlock_0 p1 h0 h2 h17 h18 h19 h20 h21 h22 h23 h24 a :=
 rq_X7_unlock_0 p1 h0 h2 h17 h18 h19 h20 h21 h22 h23 h24 a
theorem sd_X7_unlock_0 {X : XDyn} {r0 : Rt} (C : XO X mX7_unlock) : XS X mX7_unlock r0 0 (rw_X7_unlock_0) := sg_X7_unlock_0 C
theorem ctr_X7_unlock : XCt yX7_unlock mX7_unlock (xF mX7_unlock (rw_X7_unlock_0)) := xMet (by decide +kernel) rfl (fun _ _ C => sd_X7_unlock_0 C)
theorem eqf_X7_unlock (p1 : Int) (h0 : Ob) (h1 : Ob) (h2 : Ob) (h3 : Ob) (h4 : Ob) (h5 : Ob) (h6 : Ob) (h7 : Ob) (h8 : Ob) (h9 : Ob) (h10 : Ob) (h11 : Ob) (h12 : Ob) (h13 : Ob) (h14 : Ob) (h15 : Ob) (h16 : Ob) (h17 : Ob) (h18 : Ob) (h19 : Ob) (h20 : Ob) (h21 : Ob) (h22 : Ob) (h23 : Ob) (h24 : Ob) : xF mX7_unlock (rw_X7_unlock_0) [.inr (.inl (0, 0)), .inl p1] [h0, h1, h2, h3, h4, h5, h6, h7, h8, h9, h10, h11, h12, h13, h14, h15, h16, h17, h18, h19, h20, h21, h22, h23, h24] = md_X7_unlock_0 p1 h0 h2 h17 h18 h19 h20 h21 h22 h23 h24 (h1, h3, h4, h5, h6, h7, h8, h9, h10, h11, h12, h13, h14, h15, h16) := eq_X7_unlock_0 p1 h0 h2 h17 h18 h19 h20 h21 h22 h23 h24 (h1, h3, h4, h5, h6, h7, h8, h9, h10, h11, h12, h13, h14, h15, h16)
theorem yi_X7_unlock : yX7_unlock.cls = RX7 ∧ yX7_unlock.cls ≠ "java/lang/invoke/MethodHandle" ∧ yX7_unlock.cls ≠ "java/lang/invoke/VarHandle" ∧ (parseMethodDescriptor yX7_unlock.desc).map (fun d => d.parameters.length) = some 1 := ⟨rfl, by decide +kernel, by decide +kernel, by decide +kernel⟩
theorem dX7_high_0 : decode cX7_high 0 = .ok (.aload_n 0, 1) := by decide +kernel
theorem dX7_high_1 : decode cX7_high 1 = .ok (.getfield 12, 3) := by decide +kernel
theorem dX7_high_4 : decode cX7_high 4 = .ok (.iload_n 1, 1) := by decide +kernel
theorem dX7_high_5 : decode cX7_high 5 = .ok (.invokevirtual 112, 3) := by decide +kernel
theorem dX7_high_8 : decode cX7_high 8 = .ok (.ifCond .ne 5, 3) := by decide +kernel
theorem dX7_high_11 : decode cX7_high 11 = .ok (.iconst (-1), 1) := by decide +kernel
theorem dX7_high_12 : decode cX7_high 12 = .ok (.ireturn, 1) := by decide +kernel
theorem dX7_high_13 : decode cX7_high 13 = .ok (.aload_n 0, 1) := by decide +kernel
theorem dX7_high_14 : decode cX7_high 14 = .ok (.getfield 22, 3) := by decide +kernel
theorem dX7_high_17 : decode cX7_high 17 = .ok (.aload_n 0, 1) := by decide +kernel
theorem dX7_high_18 : decode cX7_high 18 = .ok (.getfield 12, 3) := by decide +kernel
theorem dX7_high_21 : decode cX7_high 21 = .ok (.invokevirtual 69, 3) := by decide +kernel
theorem dX7_high_24 : decode cX7_high 24 = .ok (.aload_n 0, 1) := by decide +kernel
theorem dX7_high_25 : decode cX7_high 25 = .ok (.getfield 50, 3) := by decide +kernel
theorem dX7_high_28 : decode cX7_high 28 = .ok (.aload_n 0, 1) := by decide +kernel
theorem dX7_high_29 : decode cX7_high 29 = .ok (.getfield 12, 3) := by decide +kernel
theorem dX7_high_32 : decode cX7_high 32 = .ok (.iload_n 1, 1) := by decide +kernel
theorem dX7_high_33 : decode cX7_high 33 = .ok (.iconst 0, 1) := by decide +kernel
theorem dX7_high_34 : decode cX7_high 34 = .ok (.iconst 0, 1) := by decide +kernel
theorem dX7_high_35 : decode cX7_high 35 = .ok (.invokevirtual 115, 3) := by decide +kernel
theorem dX7_high_38 : decode cX7_high 38 = .ok (.istore_n 2, 1) := by decide +kernel
theorem dX7_high_39 : decode cX7_high 39 = .ok (.iload_n 2, 1) := by decide +kernel
theorem dX7_high_40 : decode cX7_high 40 = .ok (.iconst (-1), 1) := by decide +kernel
theorem dX7_high_41 : decode cX7_high 41 = .ok (.if_icmp .eq 13, 3) := by decide +kernel
theorem dX7_high_44 : decode cX7_high 44 = .ok (.aload_n 0, 1) := by decide +kernel
theorem dX7_high_45 : decode cX7_high 45 = .ok (.getfield 12, 3) := by decide +kernel
theorem dX7_high_48 : decode cX7_high 48 = .ok (.getfield 119, 3) := by decide +kernel
theorem dX7_high_51 : decode cX7_high 51 = .ok (.iload_n 1, 1) := by decide +kernel
theorem dX7_high_52 : decode cX7_high 52 = .ok (.iload_n 2, 1) := by decide +kernel
theorem dX7_high_53 : decode cX7_high 53 = .ok (.iastore, 1) := by decide +kernel
theorem dX7_high_54 : decode cX7_high 54 = .ok (.aload_n 0, 1) := by decide +kernel
theorem dX7_high_55 : decode cX7_high 55 = .ok (.getfield 12, 3) := by decide +kernel
theorem dX7_high_58 : decode cX7_high 58 = .ok (.getfield 108, 3) := by decide +kernel
theorem dX7_high_61 : decode cX7_high 61 = .ok (.iload_n 1, 1) := by decide +kernel
theorem dX7_high_62 : decode cX7_high 62 = .ok (.iconst 1, 1) := by decide +kernel
theorem dX7_high_63 : decode cX7_high 63 = .ok (.iastore, 1) := by decide +kernel
theorem dX7_high_64 : decode cX7_high 64 = .ok (.aload_n 0, 1) := by decide +kernel
theorem dX7_high_65 : decode cX7_high 65 = .ok (.iload_n 1, 1) := by decide +kernel
theorem dX7_high_66 : decode cX7_high 66 = .ok (.invokevirtual 87, 3) := by decide +kernel
theorem dX7_high_69 : decode cX7_high 69 = .ok (.aload_n 0, 1) := by decide +kernel
theorem dX7_high_70 : decode cX7_high 70 = .ok (.getfield 12, 3) := by decide +kernel
theorem dX7_high_73 : decode cX7_high 73 = .ok (.getfield 119, 3) := by decide +kernel
theorem dX7_high_76 : decode cX7_high 76 = .ok (.iload_n 1, 1) := by decide +kernel
theorem dX7_high_77 : decode cX7_high 77 = .ok (.iaload, 1) := by decide +kernel
theorem dX7_high_78 : decode cX7_high 78 = .ok (.ireturn, 1) := by decide +kernel
abbrev mX7_high : XM := (cX7_high, 3, RX7, (some .int), shw_M, 3)
noncomputable def rg_X7_high_0 (k54 : XK) : XK :=
 o_aload 0 <|
 o_get shw_M 7 0 <|
 o_iload 1 <|
 o_callV 2 1 [1] f_X3_isMovable <|
 o_if_ne (o_aload 0 <|
 o_get shw_M 7 2 <|
 o_aload 0 <|
 o_get shw_M 7 0 <|
 o_callVg 2 0 [3, 4, 5, 6, 7, 8, 9, 10, 11, 12, 13, 14, 15, 16, 1] g_X5_save v_X5_save <|
 o_aload 0 <|
 o_get shw_M 7 6 <|
 o_aload 0 <|
 o_get shw_M 7 0 <|
 o_iload 1 <|
 o_iconst 0 <|
 o_iconst 0 <|
 o_callVg 5 1 [23, 24, 1] g_X1_highest v_X1_highest <|
 o_istore 2 <|
 o_iload 2 <|
 o_iconst (-1) <|
 o_icmp_eq (o_cut [2] k54)
 (o_aload 0 <|
 o_get shw_M 7 0 <|
 o_get shw_M 3 0 <|
 o_iload 1 <|
 o_iload 2 <|
 o_iast shw_M <|
 o_cut [2] k54))
 (o_iconst (-1) <|
 o_ireturn)
def en_X7_high_0 (p1 : Int) (h0 : Ob) (h2 : Ob) (h17 : Ob) (h18 : Ob) (h19 : Ob) (h20 : Ob) (h21 : Ob) (h22 : Ob) (h23 : Ob) (a : Ob × Ob × Ob × Ob × Ob × Ob × Ob × Ob × Ob × Ob × Ob × Ob × Ob × Ob × Ob × Ob) : XSt := ([some (.inr (.inl (0, 0))), some (.inl p1), none], [], [h0, a.1, h2, a.2.1, a.2.2.1, a.2.2.2.1, a.2.2.2.2.1, a.2.2.2.2.2.1, a.2.2.2.2.2.2.1, a.2.2.2.2.2.2.2.1, a.2.2.2.2.2.2.2.2.1, a.2.2.2.2.2.2.2.2.2.1, a.2.2.2.2.2.2.2.2.2.2.1, a.2.2.2.2.2.2.2.2.2.2.2.1, a.2.2.2.2.2.2.2.2.2.2.2.2.1, a.2.2.2.2.2.2.2.2.2.2.2.2.2.1, a.2.2.2.2.2.2.2.2.2.2.2.2.2.2.1, h17, h18, h19, h20, h21, h22, h23, a.2.2.2.2.2.2.2.2.2.2.2.2.2.2.2])
noncomputable def rg_X7_high_54 : XK :=
 o_aload 0 <|
 o_get shw_M 7 0 <|
 o_get shw_M 3 3 <|
 o_iload 1 <|
 o_iconst 1 <|
 o_iast shw_M <|
 o_aload 0 <|
 o_iload 1 <|
 o_callV 2 0 [0, 1, 2, 3, 4, 5, 6, 7, 8, 9, 10, 11, 12, 13, 14, 15, 16, 17, 18, 19, 20, 21, 22, 23, 24] f_X7_finish <|
 o_aload 0 <|
 o_get shw_M 7 0 <|
 o_get shw_M 3 0 <|
 o_iload 1 <|
 o_iald shw_M <|
 o_ireturn
def en_X7_high_54 (p1 : Int) (h0 : Ob) (h2 : Ob) (h17 : Ob) (h18 : Ob) (h19 : Ob) (h20 : Ob) (h21 : Ob) (h22 : Ob) (h23 : Ob) (a : Ob × Ob × Ob × Ob × Ob × Ob × Ob × Ob × Ob × Ob × Ob × Ob × Ob × Ob × Ob × Ob) : XSt := ([some (.inr (.inl (0, 0))), some (.inl p1), none], [], [h0, a.1, h2, a.2.1, a.2.2.1, a.2.2.2.1, a.2.2.2.2.1, a.2.2.2.2.2.1, a.2.2.2.2.2.2.1, a.2.2.2.2.2.2.2.1, a.2.2.2.2.2.2.2.2.1, a.2.2.2.2.2.2.2.2.2.1, a.2.2.2.2.2.2.2.2.2.2.1, a.2.2.2.2.2.2.2.2.2.2.2.1, a.2.2.2.2.2.2.2.2.2.2.2.2.1, a.2.2.2.2.2.2.2.2.2.2.2.2.2.1, a.2.2.2.2.2.2.2.2.2.2.2.2.2.2.1, h17, h18, h19, h20, h21, h22, h23, a.2.2.2.2.2.2.2.2.2.2.2.2.2.2.2])
noncomputable def mg_X7_high_0 (p1 : Int) (h0 : Ob) (h2 : Ob) (h17 : Ob) (h18 : Ob) (h19 : Ob) (h20 : Ob) (h21 : Ob) (h22 : Ob) (h23 : Ob) (k54 : (Ob × Ob × Ob × Ob × Ob × Ob × Ob × Ob × Ob × Ob × Ob × Ob × Ob × Ob × Ob × Ob) → Option Rt) (a : Ob × Ob × Ob × Ob × Ob × Ob × Ob × Ob × Ob × Ob × Ob × Ob × Ob × Ob × Ob × Ob) : Option Rt :=
 if xw (bz (mov a.1 p1)) = 0 then (RI (-1) [h0, a.1, h2, a.2.1, a.2.2.1, a.2.2.2.1, a.2.2.2.2.1, a.2.2.2.2.2.1, a.2.2.2.2.2.2.1, a.2.2.2.2.2.2.2.1, a.2.2.2.2.2.2.2.2.1, a.2.2.2.2.2.2.2.2.2.1, a.2.2.2.2.2.2.2.2.2.2.1, a.2.2.2.2.2.2.2.2.2.2.2.1, a.2.2.2.2.2.2.2.2.2.2.2.2.1, a.2.2.2.2.2.2.2.2.2.2.2.2.2.1, a.2.2.2.2.2.2.2.2.2.2.2.2.2.2.1, h17, h18, h19, h20, h21, h22, h23, a.2.2.2.2.2.2.2.2.2.2.2.2.2.2.2])
 else (if pd (PG a.2.1) then (
 if pd (LW a.1 ∧ 0 ≤ p1 ∧ p1 < 8 ∧ 0 ≤ (0 : Int) ∧ 0 ≤ (0 : Int) ∧ (0 : Int) + (0 : Int) ≤ 200 ∧ (1 ≤ (0 : Int) ∨ (0 : Int) = 0)) then (
 if xw (hiF a.1 p1 (0 : Int) (0 : Int)) = (-1) then (k54 (a.1, a.2.1, (svK a.2.1 0 a.2.2.1 a.1), (svK a.2.1 1 a.2.2.2.1 a.1), (svK a.2.1 2 a.2.2.2.2.1 a.1), (svK a.2.1 3 a.2.2.2.2.2.1 a.1), (svK a.2.1 4 a.2.2.2.2.2.2.1 a.1), (svK a.2.1 5 a.2.2.2.2.2.2.2.1 a.1), (svK a.2.1 6 a.2.2.2.2.2.2.2.2.1 a.1), (svK a.2.1 7 a.2.2.2.2.2.2.2.2.2.1 a.1), (svK a.2.1 8 a.2.2.2.2.2.2.2.2.2.2.1 a.1), (svK a.2.1 9 a.2.2.2.2.2.2.2.2.2.2.2.1 a.1), (svK a.2.1 10 a.2.2.2.2.2.2.2.2.2.2.2.2.1 a.1), (svK a.2.1 11 a.2.2.2.2.2.2.2.2.2.2.2.2.2.1 a.1), (svK a.2.1 12 a.2.2.2.2.2.2.2.2.2.2.2.2.2.2.1 a.1), (hiO a.2.2.2.2.2.2.2.2.2.2.2.2.2.2.2 a.1 p1)))
 else (if xin p1 11 then (
 k54 ((xset a.1 1 (xw p1).toNat (hiF a.1 p1 (0 : Int) (0 : Int))), a.2.1, (svK a.2.1 0 a.2.2.1 a.1), (svK a.2.1 1 a.2.2.2.1 a.1), (svK a.2.1 2 a.2.2.2.2.1 a.1), (svK a.2.1 3 a.2.2.2.2.2.1 a.1), (svK a.2.1 4 a.2.2.2.2.2.2.1 a.1), (svK a.2.1 5 a.2.2.2.2.2.2.2.1 a.1), (svK a.2.1 6 a.2.2.2.2.2.2.2.2.1 a.1), (svK a.2.1 7 a.2.2.2.2.2.2.2.2.2.1 a.1), (svK a.2.1 8 a.2.2.2.2.2.2.2.2.2.2.1 a.1), (svK a.2.1 9 a.2.2.2.2.2.2.2.2.2.2.2.1 a.1), (svK a.2.1 10 a.2.2.2.2.2.2.2.2.2.2.2.2.1 a.1), (svK a.2.1 11 a.2.2.2.2.2.2.2.2.2.2.2.2.2.1 a.1), (svK a.2.1 12 a.2.2.2.2.2.2.2.2.2.2.2.2.2.2.1 a.1), (hiO a.2.2.2.2.2.2.2.2.2.2.2.2.2.2.2 a.1 p1))) else none)) else none) else none)
set_option maxRecDepth 100000 in
set_option maxHeartbeats 4000000 in
theorem rq_X7_high_0 (p1 : Int) (h0 : Ob) (h2 : Ob) (h17 : Ob) (h18 : Ob) (h19 : Ob) (h20 : Ob) (h21 : Ob) (h22 : Ob) (h23 : Ob) (k54 : XK) (a : Ob × Ob × Ob × Ob × Ob × Ob × Ob × Ob × Ob × Ob × Ob × Ob × Ob × Ob × Ob × Ob) : rg_X7_high_0 k54 (en_X7_high_0 p1 h0 h2 h17 h18 h19 h20 h21 h22 h23 a) = mg_X7_high_0 p1 h0 h2 h17 h18 h19 h20 h21 h22 h23 (fun b => k54 (en_X7_high_54 p1 h0 h2 h17 h18 h19 h20 h21 h22 h23 b)) a := rfl
set_option maxRecDepth 100000 in
set_option maxHeartbeats 4000000 in
theorem sg_X7_high_0 {X : XDyn} {r0 : Rt} (C : XO X mX7_high) {k54 : XK} (q54 : XS X mX7_high r0 54 k54) : XS X mX7_high r0 0 (rg_X7_high_0 k54) := by
 unfold rg_X7_high_0
 exact s_aload_n (pc := 0) C dX7_high_0 rfl <|
    s_get (pc := 1) C (ci := 7) (kf := 0) rfl inX7 (by decide) wd_312 dX7_high_1 <|
    s_iload_n (pc := 4) C dX7_high_4 rfl <|
    s_callV (pc := 5) C ct_X3_isMovable (n := 2) (rk := 1) (mp := [1]) ⟨rfl, by decide, rfl⟩ (ci := 3) rfl rfl (by decide) (by decide) yi_X3_isMovable (by decide) wd_601 wd_413 wd_414 wd_74 wd_415 dX7_high_5 <|
    s_if_ne (pc := 8) C dX7_high_8 (by decide) (s_aload_n (pc := 13) C dX7_high_13 rfl <|
    s_get (pc := 14) C (ci := 7) (kf := 2) rfl inX7 (by decide) wd_314 dX7_high_14 <|
    s_aload_n (pc := 17) C dX7_high_17 rfl <|
    s_get (pc := 18) C (ci := 7) (kf := 0) rfl inX7 (by decide) wd_312 dX7_high_18 <|
    s_callVg (pc := 21) C ct_X5_save (n := 2) (rk := 0) (mp := [3, 4, 5, 6, 7, 8, 9, 10, 11, 12, 13, 14, 15, 16, 1]) ⟨rfl, by decide, rfl⟩ (ci := 5) rfl rfl (by decide) (by decide) yi_X5_save (by decide) wd_360 wd_361 wd_362 wd_75 wd_363 dX7_high_21 <|
    s_aload_n (pc := 24) C dX7_high_24 rfl <|
    s_get (pc := 25) C (ci := 7) (kf := 6) rfl inX7 (by decide) wd_318 dX7_high_25 <|
    s_aload_n (pc := 28) C dX7_high_28 rfl <|
    s_get (pc := 29) C (ci := 7) (kf := 0) rfl inX7 (by decide) wd_312 dX7_high_29 <|
    s_iload_n (pc := 32) C dX7_high_32 rfl <|
    s_iconst (pc := 33) C dX7_high_33 <|
    s_iconst (pc := 34) C dX7_high_34 <|
    s_callVg (pc := 35) C ct_X1_highest (n := 5) (rk := 1) (mp := [23, 24, 1]) ⟨rfl, by decide, rfl⟩ (ci := 1) rfl rfl (by decide) (by decide) yi_X1_highest (by decide) wd_602 wd_603 wd_604 wd_80 wd_605 dX7_high_35 <|
    s_istore_n (pc := 38) C dX7_high_38 rfl <|
    s_iload_n (pc := 39) C dX7_high_39 rfl <|
    s_iconst (pc := 40) C dX7_high_40 <|
    s_icmp_eq (pc := 41) C dX7_high_41 (by decide) (s_cut q54)
    (s_aload_n (pc := 44) C dX7_high_44 rfl <|
    s_get (pc := 45) C (ci := 7) (kf := 0) rfl inX7 (by decide) wd_312 dX7_high_45 <|
    s_get (pc := 48) C (ci := 3) (kf := 0) rfl inX3 (by decide) wd_104 dX7_high_48 <|
    s_iload_n (pc := 51) C dX7_high_51 rfl <|
    s_iload_n (pc := 52) C dX7_high_52 rfl <|
    s_iast (pc := 53) C dX7_high_53 <|
    s_cut q54))
    (s_iconst (pc := 11) C dX7_high_11 <|
    s_ireturn (pc := 12) C rfl dX7_high_12)
noncomputable def mg_X7_high_54 (p1 : Int) (h0 : Ob) (h2 : Ob) (h17 : Ob) (h18 : Ob) (h19 : Ob) (h20 : Ob) (h21 : Ob) (h22 : Ob) (h23 : Ob) (a : Ob × Ob × Ob × Ob × Ob × Ob × Ob × Ob × Ob × Ob × Ob × Ob × Ob × Ob × Ob × Ob) : Option Rt :=
 if xin p1 8 then (
 if xin p1 11 then (
 RI ((finO (xset a.1 4 (xw p1).toNat 1) p1) 1 (xw p1).toNat) [h0, (finO (xset a.1 4 (xw p1).toNat 1) p1), h2, (keeO a.2.1), a.2.2.1, a.2.2.2.1, a.2.2.2.2.1, a.2.2.2.2.2.1, a.2.2.2.2.2.2.1, a.2.2.2.2.2.2.2.1, a.2.2.2.2.2.2.2.2.1, a.2.2.2.2.2.2.2.2.2.1, a.2.2.2.2.2.2.2.2.2.2.1, a.2.2.2.2.2.2.2.2.2.2.2.1, a.2.2.2.2.2.2.2.2.2.2.2.2.1, a.2.2.2.2.2.2.2.2.2.2.2.2.2.1, a.2.2.2.2.2.2.2.2.2.2.2.2.2.2.1, h17, h18, h19, h20, h21, h22, h23, a.2.2.2.2.2.2.2.2.2.2.2.2.2.2.2]) else none) else none
set_option maxRecDepth 100000 in
set_option maxHeartbeats 4000000 in
theorem rq_X7_high_54 (p1 : Int) (h0 : Ob) (h2 : Ob) (h17 : Ob) (h18 : Ob) (h19 : Ob) (h20 : Ob) (h21 : Ob) (h22 : Ob) (h23 : Ob) (a : Ob × Ob × Ob × Ob × Ob × Ob × Ob × Ob × Ob × Ob × Ob × Ob × Ob × Ob × Ob × Ob) : rg_X7_high_54 (en_X7_high_54 p1 h0 h2 h17 h18 h19 h20 h21 h22 h23 a) = mg_X7_high_54 p1 h0 h2 h17 h18 h19 h20 h21 h22 h23 a := rfl
set_option maxRecDepth 100000 in
set_option maxHeartbeats 4000000 in
theorem sg_X7_high_54 {X : XDyn} {r0 : Rt} (C : XO X mX7_high) : XS X mX7_high r0 54 (rg_X7_high_54) := by
 unfold rg_X7_high_54
 exact s_aload_n (pc := 54) C dX7_high_54 rfl <|
    s_get (pc := 55) C (ci := 7) (kf := 0) rfl inX7 (by decide) wd_312 dX7_high_55 <|
    s_get (pc := 58) C (ci := 3) (kf := 3) rfl inX3 (by decide) wd_113 dX7_high_58 <|
    s_iload_n (pc := 61) C dX7_high_61 rfl <|
    s_iconst (pc := 62) C dX7_high_62 <|
    s_iast (pc := 63) C dX7_high_63 <|
    s_aload_n (pc := 64) C dX7_high_64 rfl <|
    s_iload_n (pc := 65) C dX7_high_65 rfl <|
    s_callV (pc := 66) C ct_X7_finish (n := 2) (rk := 0) (mp := [0, 1, 2, 3, 4, 5, 6, 7, 8, 9, 10, 11, 12, 13, 14, 15, 16, 17, 18, 19, 20, 21, 22, 23, 24]) ⟨rfl, by decide, rfl⟩ (ci := 7) rfl rfl (by decide) (by decide) yi_X7_finish (by decide) wd_542 wd_544 wd_10 wd_73 wd_545 dX7_high_66 <|
    s_aload_n (pc := 69) C dX7_high_69 rfl <|
    s_get (pc := 70) C (ci := 7) (kf := 0) rfl inX7 (by decide) wd_312 dX7_high_70 <|
    s_get (pc := 73) C (ci := 3) (kf := 0) rfl inX3 (by decide) wd_104 dX7_high_73 <|
    s_iload_n (pc := 76) C dX7_high_76 rfl <|
    s_iald (pc := 77) C dX7_high_77 <|
    s_ireturn (pc := 78) C rfl dX7_high_78
noncomputable def rw_X7_high_54 : XK := rg_X7_high_54
noncomputable def md_X7_high_54 (p1 : Int) (h0 : Ob) (h2 : Ob) (h17 : Ob) (h18 : Ob) (h19 : Ob) (h20 : Ob) (h21 : Ob) (h22 : Ob) (h23 : Ob) : Ob × Ob × Ob × Ob × Ob × Ob × Ob × Ob × Ob × Ob × Ob × Ob × Ob × Ob × Ob × Ob → Option Rt := mg_X7_high_54 p1 h0 h2 h17 h18 h19 h20 h21 h22 h23
theorem eq_X7_high_54 (p1 : Int) (h0 : Ob) (h2 : Ob) (h17 : Ob) (h18 : Ob) (h19 : Ob) (h20 : Ob) (h21 : Ob) (h22 : Ob) (h23 : Ob) (a : Ob × Ob × Ob × Ob × Ob × Ob × Ob × Ob × Ob × Ob × Ob × Ob × Ob × Ob × Ob × Ob) : rw_X7_high_54 (en_X7_high_54 p1 h0 h2 h17 h18 h19 h20 h21 h22 h23 a) = md_X7_high_54 p1 h0 h2 h17 h18 h19 h20 h21 h22 h23 a :=
 rq_X7_high_54 p1 h0 h2 h17 h18 h19 h20 h21 h22 h23 a
theorem sd_X7_high_54 {X : XDyn} {r0 : Rt} (C : XO X mX7_high) : XS X mX7_high r0 54 (rw_X7_high_54) := sg_X7_high_54 C
noncomputable def rw_X7_high_0 : XK := rg_X7_high_0 (rw_X7_high_54)
noncomputable def md_X7_high_0 (p1 : Int) (h0 : Ob) (h2 : Ob) (h17 : Ob) (h18 : Ob) (h19 : Ob) (h20 : Ob) (h21 : Ob) (h22 : Ob) (h23 : Ob) : Ob × Ob × Ob × Ob × Ob × Ob × Ob × Ob × Ob × Ob × Ob × Ob × Ob × Ob × Ob × Ob → Option Rt := mg_X7_high_0 p1 h0 h2 h17 h18 h19 h20 h21 h22 h23 (md_X7_high_54 p1 h0 h2 h17 h18 h19 h20 h21 h22 h23)
theorem eq_X7_high_0 (p1 : Int) (h0 : Ob) (h2 : Ob) (h17 : Ob) (h18 : Ob) (h19 : Ob) (h20 : Ob) (h21 : Ob) (h22 : Ob) (h23 : Ob) (a : Ob × Ob × Ob × Ob × Ob × Ob × Ob × Ob × Ob × Ob × Ob × Ob × Ob × Ob × Ob × Ob) : rw_X7_high_0 (en_X7_high_0 p1 h0 h2 h17 h18 h19 h20 h21 h22 h23 a) = md_X7_high_0 p1 h0 h2 h17 h18 h19 h20 h21 h22 h23 a :=
 (rq_X7_high_0 p1 h0 h2 h17 h18 h19 h20 h21 h22 h23 (rw_X7_high_54) a).trans (congrFun (congr (rfl : mg_X7_high_0 p1 h0 h2 h17 h18 h19 h20 h21 h22 h23 = mg_X7_high_0 p1 h0 h2 h17 h18 h19 h20 h21 h22 h23) (funext (eq_X7_high_54 p1 h0 h2 h17 h18 h19 h20 h21 h22 h23))) a)
theorem sd_X7_high_0 {X : XDyn} {r0 : Rt} (C : XO X mX7_high) : XS X mX7_high r0 0 (rw_X7_high_0) := sg_X7_high_0 C (sd_X7_high_54 C)
theorem ctr_X7_high : XCt yX7_high mX7_high (xF mX7_high (rw_X7_high_0)) := xMet (by decide +kernel) rfl (fun _ _ C => sd_X7_high_0 C)
theorem eqf_X7_high (p1 : Int) (h0 : Ob) (h1 : Ob) (h2 : Ob) (h3 : Ob) (h4 : Ob) (h5 : Ob) (h6 : Ob) (h7 : Ob) (h8 : Ob) (h9 : Ob) (h10 : Ob) (h11 : Ob) (h12 : Ob) (h13 : Ob) (h14 : Ob) (h15 : Ob) (h16 : Ob) (h17 : Ob) (h18 : Ob) (h19 : Ob) (h20 : Ob) (h21 : Ob) (h22 : Ob) (h23 : Ob) (h24 : Ob) : xF mX7_high (rw_X7_high_0) [.inr (.inl (0, 0)), .inl p1] [h0, h1, h2, h3, h4, h5, h6, h7, h8, h9, h10, h11, h12, h13, h14, h15, h16, h17, h18, h19, h20, h21, h22, h23, h24] = md_X7_high_0 p1 h0 h2 h17 h18 h19 h20 h21 h22 h23 (h1, h3, h4, h5, h6, h7, h8, h9, h10, h11, h12, h13, h14, h15, h16, h24) := eq_X7_high_0 p1 h0 h2 h17 h18 h19 h20 h21 h22 h23 (h1, h3, h4, h5, h6, h7, h8, h9, h10, h11, h12, h13, h14, h15, h16, h24)
theorem yi_X7_high : yX7_high.cls = RX7 ∧ yX7_high.cls ≠ "java/lang/invoke/MethodHandle" ∧ yX7_high.cls ≠ "java/lang/invoke/VarHandle" ∧ (parseMethodDescriptor yX7_high.desc).map (fun d => d.parameters.length) = some 1 := ⟨rfl, by decide +kernel, by decide +kernel, by decide +kernel⟩
theorem dX7_mark_0 : decode cX7_mark 0 = .ok (.aload_n 0, 1) := by decide +kernel
theorem dX7_mark_1 : decode cX7_mark 1 = .ok (.getfield 12, 3) := by decide +kernel
theorem dX7_mark_4 : decode cX7_mark 4 = .ok (.iload_n 1, 1) := by decide +kernel
theorem dX7_mark_5 : decode cX7_mark 5 = .ok (.invokevirtual 105, 3) := by decide +kernel
theorem dX7_mark_8 : decode cX7_mark 8 = .ok (.ifCond .eq 15, 3) := by decide +kernel
theorem dX7_mark_11 : decode cX7_mark 11 = .ok (.aload_n 0, 1) := by decide +kernel
theorem dX7_mark_12 : decode cX7_mark 12 = .ok (.getfield 12, 3) := by decide +kernel
theorem dX7_mark_15 : decode cX7_mark 15 = .ok (.iload_n 1, 1) := by decide +kernel
theorem dX7_mark_16 : decode cX7_mark 16 = .ok (.invokevirtual 122, 3) := by decide +kernel
theorem dX7_mark_19 : decode cX7_mark 19 = .ok (.iload_n 2, 1) := by decide +kernel
theorem dX7_mark_20 : decode cX7_mark 20 = .ok (.if_icmp .ne 5, 3) := by decide +kernel
theorem dX7_mark_23 : decode cX7_mark 23 = .ok (.iconst 0, 1) := by decide +kernel
theorem dX7_mark_24 : decode cX7_mark 24 = .ok (.ireturn, 1) := by decide +kernel
theorem dX7_mark_25 : decode cX7_mark 25 = .ok (.aload_n 0, 1) := by decide +kernel
theorem dX7_mark_26 : decode cX7_mark 26 = .ok (.getfield 22, 3) := by decide +kernel
theorem dX7_mark_29 : decode cX7_mark 29 = .ok (.aload_n 0, 1) := by decide +kernel
theorem dX7_mark_30 : decode cX7_mark 30 = .ok (.getfield 12, 3) := by decide +kernel
theorem dX7_mark_33 : decode cX7_mark 33 = .ok (.invokevirtual 69, 3) := by decide +kernel
theorem dX7_mark_36 : decode cX7_mark 36 = .ok (.aload_n 0, 1) := by decide +kernel
theorem dX7_mark_37 : decode cX7_mark 37 = .ok (.getfield 12, 3) := by decide +kernel
theorem dX7_mark_40 : decode cX7_mark 40 = .ok (.dup, 1) := by decide +kernel
theorem dX7_mark_41 : decode cX7_mark 41 = .ok (.getfield 125, 3) := by decide +kernel
theorem dX7_mark_44 : decode cX7_mark 44 = .ok (.iconst 1, 1) := by decide +kernel
theorem dX7_mark_45 : decode cX7_mark 45 = .ok (.iload_n 1, 1) := by decide +kernel
theorem dX7_mark_46 : decode cX7_mark 46 = .ok (.ishl, 1) := by decide +kernel
theorem dX7_mark_47 : decode cX7_mark 47 = .ok (.ixor, 1) := by decide +kernel
theorem dX7_mark_48 : decode cX7_mark 48 = .ok (.putfield 125, 3) := by decide +kernel
theorem dX7_mark_51 : decode cX7_mark 51 = .ok (.aload_n 0, 1) := by decide +kernel
theorem dX7_mark_52 : decode cX7_mark 52 = .ok (.iconst (-1), 1) := by decide +kernel
theorem dX7_mark_53 : decode cX7_mark 53 = .ok (.invokevirtual 87, 3) := by decide +kernel
theorem dX7_mark_56 : decode cX7_mark 56 = .ok (.iconst 1, 1) := by decide +kernel
theorem dX7_mark_57 : decode cX7_mark 57 = .ok (.ireturn, 1) := by decide +kernel
abbrev mX7_mark : XM := (cX7_mark, 3, RX7, (some .boolean), shw_M, 3)
noncomputable def rg_X7_mark_0 : XK :=
 o_aload 0 <|
 o_get shw_M 7 0 <|
 o_iload 1 <|
 o_callV 2 1 [1] f_X3_isUsed <|
 o_if_eq (o_iconst 0 <|
 o_zreturn)
 (o_aload 0 <|
 o_get shw_M 7 0 <|
 o_iload 1 <|
 o_callV 2 1 [1] f_X3_isPurgeable <|
 o_iload 2 <|
 o_icmp_ne (o_aload 0 <|
 o_get shw_M 7 2 <|
 o_aload 0 <|
 o_get shw_M 7 0 <|
 o_callVg 2 0 [3, 4, 5, 6, 7, 8, 9, 10, 11, 12, 13, 14, 15, 16, 1] g_X5_save v_X5_save <|
 o_aload 0 <|
 o_get shw_M 7 0 <|
 o_dup <|
 o_get shw_M 3 8 <|
 o_iconst 1 <|
 o_iload 1 <|
 o_ishl <|
 o_ixor <|
 o_put shw_M 3 8 false <|
 o_aload 0 <|
 o_iconst (-1) <|
 o_callV 2 0 [0, 1, 2, 3, 4, 5, 6, 7, 8, 9, 10, 11, 12, 13, 14, 15, 16, 17, 18, 19, 20, 21, 22, 23, 24] f_X7_finish <|
 o_iconst 1 <|
 o_zreturn)
 (o_iconst 0 <|
 o_zreturn))
def en_X7_mark_0 (p1 : Int) (p2 : Int) (h0 : Ob) (h2 : Ob) (h17 : Ob) (h18 : Ob) (h19 : Ob) (h20 : Ob) (h21 : Ob) (h22 : Ob) (h23 : Ob) (h24 : Ob) (a : Ob × Ob × Ob × Ob × Ob × Ob × Ob × Ob × Ob × Ob × Ob × Ob × Ob × Ob × Ob) : XSt := ([some (.inr (.inl (0, 0))), some (.inl p1), some (.inl p2)], [], [h0, a.1, h2, a.2.1, a.2.2.1, a.2.2.2.1, a.2.2.2.2.1, a.2.2.2.2.2.1, a.2.2.2.2.2.2.1, a.2.2.2.2.2.2.2.1, a.2.2.2.2.2.2.2.2.1, a.2.2.2.2.2.2.2.2.2.1, a.2.2.2.2.2.2.2.2.2.2.1, a.2.2.2.2.2.2.2.2.2.2.2.1, a.2.2.2.2.2.2.2.2.2.2.2.2.1, a.2.2.2.2.2.2.2.2.2.2.2.2.2.1, a.2.2.2.2.2.2.2.2.2.2.2.2.2.2, h17, h18, h19, h20, h21, h22, h23, h24])
noncomputable def mg_X7_mark_0 (p1 : Int) (p2 : Int) (h0 : Ob) (h2 : Ob) (h17 : Ob) (h18 : Ob) (h19 : Ob) (h20 : Ob) (h21 : Ob) (h22 : Ob) (h23 : Ob) (h24 : Ob) (a : Ob × Ob × Ob × Ob × Ob × Ob × Ob × Ob × Ob × Ob × Ob × Ob × Ob × Ob × Ob) : Option Rt :=
 if xw (bz (inS (a.1 0 7) p1)) = 0 then (RI 0 [h0, a.1, h2, a.2.1, a.2.2.1, a.2.2.2.1, a.2.2.2.2.1, a.2.2.2.2.2.1, a.2.2.2.2.2.2.1, a.2.2.2.2.2.2.2.1, a.2.2.2.2.2.2.2.2.1, a.2.2.2.2.2.2.2.2.2.1, a.2.2.2.2.2.2.2.2.2.2.1, a.2.2.2.2.2.2.2.2.2.2.2.1, a.2.2.2.2.2.2.2.2.2.2.2.2.1, a.2.2.2.2.2.2.2.2.2.2.2.2.2.1, a.2.2.2.2.2.2.2.2.2.2.2.2.2.2, h17, h18, h19, h20, h21, h22, h23, h24])
 else (if xw (bz (inS (a.1 0 8) p1)) = xw p2 then (RI 0 [h0, a.1, h2, a.2.1, a.2.2.1, a.2.2.2.1, a.2.2.2.2.1, a.2.2.2.2.2.1, a.2.2.2.2.2.2.1, a.2.2.2.2.2.2.2.1, a.2.2.2.2.2.2.2.2.1, a.2.2.2.2.2.2.2.2.2.1, a.2.2.2.2.2.2.2.2.2.2.1, a.2.2.2.2.2.2.2.2.2.2.2.1, a.2.2.2.2.2.2.2.2.2.2.2.2.1, a.2.2.2.2.2.2.2.2.2.2.2.2.2.1, a.2.2.2.2.2.2.2.2.2.2.2.2.2.2, h17, h18, h19, h20, h21, h22, h23, h24])
 else (if pd (PG a.2.1) then (
 RI 1 [h0, (finO (xset a.1 0 8 (xxor (a.1 0 8) (xshl 1 p1))) ((-1) : Int)), h2, (keeO a.2.1), (svK a.2.1 0 a.2.2.1 a.1), (svK a.2.1 1 a.2.2.2.1 a.1), (svK a.2.1 2 a.2.2.2.2.1 a.1), (svK a.2.1 3 a.2.2.2.2.2.1 a.1), (svK a.2.1 4 a.2.2.2.2.2.2.1 a.1), (svK a.2.1 5 a.2.2.2.2.2.2.2.1 a.1), (svK a.2.1 6 a.2.2.2.2.2.2.2.2.1 a.1), (svK a.2.1 7 a.2.2.2.2.2.2.2.2.2.1 a.1), (svK a.2.1 8 a.2.2.2.2.2.2.2.2.2.2.1 a.1), (svK a.2.1 9 a.2.2.2.2.2.2.2.2.2.2.2.1 a.1), (svK a.2.1 10 a.2.2.2.2.2.2.2.2.2.2.2.2.1 a.1), (svK a.2.1 11 a.2.2.2.2.2.2.2.2.2.2.2.2.2.1 a.1), (svK a.2.1 12 a.2.2.2.2.2.2.2.2.2.2.2.2.2.2 a.1), h17, h18, h19, h20, h21, h22, h23, h24]) else none))
set_option maxRecDepth 100000 in
set_option maxHeartbeats 4000000 in
theorem rq_X7_mark_0 (p1 : Int) (p2 : Int) (h0 : Ob) (h2 : Ob) (h17 : Ob) (h18 : Ob) (h19 : Ob) (h20 : Ob) (h21 : Ob) (h22 : Ob) (h23 : Ob) (h24 : Ob) (a : Ob × Ob × Ob × Ob × Ob × Ob × Ob × Ob × Ob × Ob × Ob × Ob × Ob × Ob × Ob) : rg_X7_mark_0 (en_X7_mark_0 p1 p2 h0 h2 h17 h18 h19 h20 h21 h22 h23 h24 a) = mg_X7_mark_0 p1 p2 h0 h2 h17 h18 h19 h20 h21 h22 h23 h24 a := rfl
set_option maxRecDepth 100000 in
set_option maxHeartbeats 4000000 in
theorem sg_X7_mark_0 {X : XDyn} {r0 : Rt} (C : XO X mX7_mark) : XS X mX7_mark r0 0 (rg_X7_mark_0) := by
 unfold rg_X7_mark_0
 exact s_aload_n (pc := 0) C dX7_mark_0 rfl <|
    s_get (pc := 1) C (ci := 7) (kf := 0) rfl inX7 (by decide) wd_312 dX7_mark_1 <|
    s_iload_n (pc := 4) C dX7_mark_4 rfl <|
    s_callV (pc := 5) C ct_X3_isUsed (n := 2) (rk := 1) (mp := [1]) ⟨rfl, by decide, rfl⟩ (ci := 3) rfl rfl (by decide) (by decide) yi_X3_isUsed (by decide) wd_588 wd_351 wd_352 wd_74 wd_353 dX7_mark_5 <|
    s_if_eq (pc := 8) C dX7_mark_8 (by decide) (s_iconst (pc := 23) C dX7_mark_23 <|
    s_zreturn (pc := 24) C rfl dX7_mark_24)
    (s_aload_n (pc := 11) C dX7_mark_11 rfl <|
    s_get (pc := 12) C (ci := 7) (kf := 0) rfl inX7 (by decide) wd_312 dX7_mark_12 <|
    s_iload_n (pc := 15) C dX7_mark_15 rfl <|
    s_callV (pc := 16) C ct_X3_isPurgeable (n := 2) (rk := 1) (mp := [1]) ⟨rfl, by decide, rfl⟩ (ci := 3) rfl rfl (by decide) (by decide) yi_X3_isPurgeable (by decide) wd_614 wd_615 wd_616 wd_74 wd_617 dX7_mark_16 <|
    s_iload_n (pc := 19) C dX7_mark_19 rfl <|
    s_icmp_ne (pc := 20) C dX7_mark_20 (by decide) (s_aload_n (pc := 25) C dX7_mark_25 rfl <|
    s_get (pc := 26) C (ci := 7) (kf := 2) rfl inX7 (by decide) wd_314 dX7_mark_26 <|
    s_aload_n (pc := 29) C dX7_mark_29 rfl <|
    s_get (pc := 30) C (ci := 7) (kf := 0) rfl inX7 (by decide) wd_312 dX7_mark_30 <|
    s_callVg (pc := 33) C ct_X5_save (n := 2) (rk := 0) (mp := [3, 4, 5, 6, 7, 8, 9, 10, 11, 12, 13, 14, 15, 16, 1]) ⟨rfl, by decide, rfl⟩ (ci := 5) rfl rfl (by decide) (by decide) yi_X5_save (by decide) wd_360 wd_361 wd_362 wd_75 wd_363 dX7_mark_33 <|
    s_aload_n (pc := 36) C dX7_mark_36 rfl <|
    s_get (pc := 37) C (ci := 7) (kf := 0) rfl inX7 (by decide) wd_312 dX7_mark_37 <|
    s_dup (pc := 40) C dX7_mark_40 <|
    s_get (pc := 41) C (ci := 3) (kf := 8) rfl inX3 (by decide) wd_124 dX7_mark_41 <|
    s_iconst (pc := 44) C dX7_mark_44 <|
    s_iload_n (pc := 45) C dX7_mark_45 rfl <|
    s_ishl (pc := 46) C dX7_mark_46 <|
    s_ixor (pc := 47) C dX7_mark_47 <|
    s_put (pc := 48) (z := false) C (ci := 3) (kf := 8) rfl inX3 tyX3_ok nmX3 (by decide) wd_124 rfl rfl dX7_mark_48 <|
    s_aload_n (pc := 51) C dX7_mark_51 rfl <|
    s_iconst (pc := 52) C dX7_mark_52 <|
    s_callV (pc := 53) C ct_X7_finish (n := 2) (rk := 0) (mp := [0, 1, 2, 3, 4, 5, 6, 7, 8, 9, 10, 11, 12, 13, 14, 15, 16, 17, 18, 19, 20, 21, 22, 23, 24]) ⟨rfl, by decide, rfl⟩ (ci := 7) rfl rfl (by decide) (by decide) yi_X7_finish (by decide) wd_542 wd_544 wd_10 wd_73 wd_545 dX7_mark_53 <|
    s_iconst (pc := 56) C dX7_mark_56 <|
    s_zreturn (pc := 57) C rfl dX7_mark_57)
    (s_iconst (pc := 23) C dX7_mark_23 <|
    s_zreturn (pc := 24) C rfl dX7_mark_24))
noncomputable def rw_X7_mark_0 : XK := rg_X7_mark_0
noncomputable def md_X7_mark_0 (p1 : Int) (p2 : Int) (h0 : Ob) (h2 : Ob) (h17 : Ob) (h18 : Ob) (h19 : Ob) (h20 : Ob) (h21 : Ob) (h22 : Ob) (h23 : Ob) (h24 : Ob) : Ob × Ob × Ob × Ob × Ob × Ob × Ob × Ob × Ob × Ob × Ob × Ob × Ob × Ob × Ob → Option Rt := mg_X7_mark_0 p1 p2 h0 h2 h17 h18 h19 h20 h21 h22 h23 h24
theorem eq_X7_mark_0 (p1 : Int) (p2 : Int) (h0 : Ob) (h2 : Ob) (h17 : Ob) (h18 : Ob) (h19 : Ob) (h20 : Ob) (h21 : Ob) (h22 : Ob) (h23 : Ob) (h24 : Ob) (a : Ob × Ob × Ob × Ob × Ob × Ob × Ob × Ob × Ob × Ob × Ob × Ob × Ob × Ob × Ob) : rw_X7_mark_0 (en_X7_mark_0 p1 p2 h0 h2 h17 h18 h19 h20 h21 h22 h23 h24 a) = md_X7_mark_0 p1 p2 h0 h2 h17 h18 h19 h20 h21 h22 h23 h24 a :=
 rq_X7_mark_0 p1 p2 h0 h2 h17 h18 h19 h20 h21 h22 h23 h24 a
theorem sd_X7_mark_0 {X : XDyn} {r0 : Rt} (C : XO X mX7_mark) : XS X mX7_mark r0 0 (rw_X7_mark_0) := sg_X7_mark_0 C
theorem ctr_X7_mark : XCt yX7_mark mX7_mark (xF mX7_mark (rw_X7_mark_0)) := xMet (by decide +kernel) rfl (fun _ _ C => sd_X7_mark_0 C)
theorem eqf_X7_mark (p1 : Int) (p2 : Int) (h0 : Ob) (h1 : Ob) (h2 : Ob) (h3 : Ob) (h4 : Ob) (h5 : Ob) (h6 : Ob) (h7 : Ob) (h8 : Ob) (h9 : Ob) (h10 : Ob) (h11 : Ob) (h12 : Ob) (h13 : Ob) (h14 : Ob) (h15 : Ob) (h16 : Ob) (h17 : Ob) (h18 : Ob) (h19 : Ob) (h20 : Ob) (h21 : Ob) (h22 : Ob) (h23 : Ob) (h24 : Ob) : xF mX7_mark (rw_X7_mark_0) [.inr (.inl (0, 0)), .inl p1, .inl p2] [h0, h1, h2, h3, h4, h5, h6, h7, h8, h9, h10, h11, h12, h13, h14, h15, h16, h17, h18, h19, h20, h21, h22, h23, h24] = md_X7_mark_0 p1 p2 h0 h2 h17 h18 h19 h20 h21 h22 h23 h24 (h1, h3, h4, h5, h6, h7, h8, h9, h10, h11, h12, h13, h14, h15, h16) := eq_X7_mark_0 p1 p2 h0 h2 h17 h18 h19 h20 h21 h22 h23 h24 (h1, h3, h4, h5, h6, h7, h8, h9, h10, h11, h12, h13, h14, h15, h16)
theorem yi_X7_mark : yX7_mark.cls = RX7 ∧ yX7_mark.cls ≠ "java/lang/invoke/MethodHandle" ∧ yX7_mark.cls ≠ "java/lang/invoke/VarHandle" ∧ (parseMethodDescriptor yX7_mark.desc).map (fun d => d.parameters.length) = some 2 := ⟨rfl, by decide +kernel, by decide +kernel, by decide +kernel⟩
theorem dX7_drop_0 : decode cX7_drop 0 = .ok (.aload_n 0, 1) := by decide +kernel
theorem dX7_drop_1 : decode cX7_drop 1 = .ok (.getfield 12, 3) := by decide +kernel
theorem dX7_drop_4 : decode cX7_drop 4 = .ok (.iload_n 1, 1) := by decide +kernel
theorem dX7_drop_5 : decode cX7_drop 5 = .ok (.invokevirtual 105, 3) := by decide +kernel
theorem dX7_drop_8 : decode cX7_drop 8 = .ok (.ifCond .eq 15, 3) := by decide +kernel
theorem dX7_drop_11 : decode cX7_drop 11 = .ok (.aload_n 0, 1) := by decide +kernel
theorem dX7_drop_12 : decode cX7_drop 12 = .ok (.getfield 12, 3) := by decide +kernel
theorem dX7_drop_15 : decode cX7_drop 15 = .ok (.getfield 108, 3) := by decide +kernel
theorem dX7_drop_18 : decode cX7_drop 18 = .ok (.iload_n 1, 1) := by decide +kernel
theorem dX7_drop_19 : decode cX7_drop 19 = .ok (.iaload, 1) := by decide +kernel
theorem dX7_drop_20 : decode cX7_drop 20 = .ok (.ifCond .le 5, 3) := by decide +kernel
theorem dX7_drop_23 : decode cX7_drop 23 = .ok (.iconst 0, 1) := by decide +kernel
theorem dX7_drop_24 : decode cX7_drop 24 = .ok (.ireturn, 1) := by decide +kernel
theorem dX7_drop_25 : decode cX7_drop 25 = .ok (.aload_n 0, 1) := by decide +kernel
theorem dX7_drop_26 : decode cX7_drop 26 = .ok (.getfield 22, 3) := by decide +kernel
theorem dX7_drop_29 : decode cX7_drop 29 = .ok (.aload_n 0, 1) := by decide +kernel
theorem dX7_drop_30 : decode cX7_drop 30 = .ok (.getfield 12, 3) := by decide +kernel
theorem dX7_drop_33 : decode cX7_drop 33 = .ok (.invokevirtual 69, 3) := by decide +kernel
theorem dX7_drop_36 : decode cX7_drop 36 = .ok (.aload_n 0, 1) := by decide +kernel
theorem dX7_drop_37 : decode cX7_drop 37 = .ok (.getfield 12, 3) := by decide +kernel
theorem dX7_drop_40 : decode cX7_drop 40 = .ok (.dup, 1) := by decide +kernel
theorem dX7_drop_41 : decode cX7_drop 41 = .ok (.getfield 129, 3) := by decide +kernel
theorem dX7_drop_44 : decode cX7_drop 44 = .ok (.iconst 1, 1) := by decide +kernel
theorem dX7_drop_45 : decode cX7_drop 45 = .ok (.iload_n 1, 1) := by decide +kernel
theorem dX7_drop_46 : decode cX7_drop 46 = .ok (.ishl, 1) := by decide +kernel
theorem dX7_drop_47 : decode cX7_drop 47 = .ok (.iconst (-1), 1) := by decide +kernel
theorem dX7_drop_48 : decode cX7_drop 48 = .ok (.ixor, 1) := by decide +kernel
theorem dX7_drop_49 : decode cX7_drop 49 = .ok (.iand, 1) := by decide +kernel
theorem dX7_drop_50 : decode cX7_drop 50 = .ok (.putfield 129, 3) := by decide +kernel
theorem dX7_drop_53 : decode cX7_drop 53 = .ok (.aload_n 0, 1) := by decide +kernel
theorem dX7_drop_54 : decode cX7_drop 54 = .ok (.getfield 12, 3) := by decide +kernel
theorem dX7_drop_57 : decode cX7_drop 57 = .ok (.getfield 119, 3) := by decide +kernel
theorem dX7_drop_60 : decode cX7_drop 60 = .ok (.iload_n 1, 1) := by decide +kernel
theorem dX7_drop_61 : decode cX7_drop 61 = .ok (.iconst (-1), 1) := by decide +kernel
theorem dX7_drop_62 : decode cX7_drop 62 = .ok (.iastore, 1) := by decide +kernel
theorem dX7_drop_63 : decode cX7_drop 63 = .ok (.aload_n 0, 1) := by decide +kernel
theorem dX7_drop_64 : decode cX7_drop 64 = .ok (.iconst (-1), 1) := by decide +kernel
theorem dX7_drop_65 : decode cX7_drop 65 = .ok (.invokevirtual 87, 3) := by decide +kernel
theorem dX7_drop_68 : decode cX7_drop 68 = .ok (.iconst 1, 1) := by decide +kernel
theorem dX7_drop_69 : decode cX7_drop 69 = .ok (.ireturn, 1) := by decide +kernel
abbrev mX7_drop : XM := (cX7_drop, 2, RX7, (some .boolean), shw_M, 3)
noncomputable def rg_X7_drop_0 : XK :=
 o_aload 0 <|
 o_get shw_M 7 0 <|
 o_iload 1 <|
 o_callV 2 1 [1] f_X3_isUsed <|
 o_if_eq (o_iconst 0 <|
 o_zreturn)
 (o_aload 0 <|
 o_get shw_M 7 0 <|
 o_get shw_M 3 3 <|
 o_iload 1 <|
 o_iald shw_M <|
 o_if_le (o_aload 0 <|
 o_get shw_M 7 2 <|
 o_aload 0 <|
 o_get shw_M 7 0 <|
 o_callVg 2 0 [3, 4, 5, 6, 7, 8, 9, 10, 11, 12, 13, 14, 15, 16, 1] g_X5_save v_X5_save <|
 o_aload 0 <|
 o_get shw_M 7 0 <|
 o_dup <|
 o_get shw_M 3 7 <|
 o_iconst 1 <|
 o_iload 1 <|
 o_ishl <|
 o_iconst (-1) <|
 o_ixor <|
 o_iand <|
 o_put shw_M 3 7 false <|
 o_aload 0 <|
 o_get shw_M 7 0 <|
 o_get shw_M 3 0 <|
 o_iload 1 <|
 o_iconst (-1) <|
 o_iast shw_M <|
 o_aload 0 <|
 o_iconst (-1) <|
 o_callV 2 0 [0, 1, 2, 3, 4, 5, 6, 7, 8, 9, 10, 11, 12, 13, 14, 15, 16, 17, 18, 19, 20, 21, 22, 23, 24] f_X7_finish <|
 o_iconst 1 <|
 o_zreturn)
 (o_iconst 0 <|
 o_zreturn))
def en_X7_drop_0 (p1 : Int) (h0 : Ob) (h2 : Ob) (h17 : Ob) (h18 : Ob) (h19 : Ob) (h20 : Ob) (h21 : Ob) (h22 : Ob) (h23 : Ob) (h24 : Ob) (a : Ob × Ob × Ob × Ob × Ob × Ob × Ob × Ob × Ob × Ob × Ob × Ob × Ob × Ob × Ob) : XSt := ([some (.inr (.inl (0, 0))), some (.inl p1)], [], [h0, a.1, h2, a.2.1, a.2.2.1, a.2.2.2.1, a.2.2.2.2.1, a.2.2.2.2.2.1, a.2.2.2.2.2.2.1, a.2.2.2.2.2.2.2.1, a.2.2.2.2.2.2.2.2.1, a.2.2.2.2.2.2.2.2.2.1, a.2.2.2.2.2.2.2.2.2.2.1, a.2.2.2.2.2.2.2.2.2.2.2.1, a.2.2.2.2.2.2.2.2.2.2.2.2.1, a.2.2.2.2.2.2.2.2.2.2.2.2.2.1, a.2.2.2.2.2.2.2.2.2.2.2.2.2.2, h17, h18, h19, h20, h21, h22, h23, h24])
noncomputable def mg_X7_drop_0 (p1 : Int) (h0 : Ob) (h2 : Ob) (h17 : Ob) (h18 : Ob) (h19 : Ob) (h20 : Ob) (h21 : Ob) (h22 : Ob) (h23 : Ob) (h24 : Ob) (a : Ob × Ob × Ob × Ob × Ob × Ob × Ob × Ob × Ob × Ob × Ob × Ob × Ob × Ob × Ob) : Option Rt :=
 if xw (bz (inS (a.1 0 7) p1)) = 0 then (RI 0 [h0, a.1, h2, a.2.1, a.2.2.1, a.2.2.2.1, a.2.2.2.2.1, a.2.2.2.2.2.1, a.2.2.2.2.2.2.1, a.2.2.2.2.2.2.2.1, a.2.2.2.2.2.2.2.2.1, a.2.2.2.2.2.2.2.2.2.1, a.2.2.2.2.2.2.2.2.2.2.1, a.2.2.2.2.2.2.2.2.2.2.2.1, a.2.2.2.2.2.2.2.2.2.2.2.2.1, a.2.2.2.2.2.2.2.2.2.2.2.2.2.1, a.2.2.2.2.2.2.2.2.2.2.2.2.2.2, h17, h18, h19, h20, h21, h22, h23, h24])
 else (if xin p1 8 then (
 if xw (a.1 4 (xw p1).toNat) ≤ 0 then (if pd (PG a.2.1) then (
 if xin p1 11 then (
 RI 1 [h0, (finO (xset (xset a.1 0 7 (xand (a.1 0 7) (xxor (xshl 1 p1) (-1)))) 1 (xw p1).toNat (-1)) ((-1) : Int)), h2, (keeO a.2.1), (svK a.2.1 0 a.2.2.1 a.1), (svK a.2.1 1 a.2.2.2.1 a.1), (svK a.2.1 2 a.2.2.2.2.1 a.1), (svK a.2.1 3 a.2.2.2.2.2.1 a.1), (svK a.2.1 4 a.2.2.2.2.2.2.1 a.1), (svK a.2.1 5 a.2.2.2.2.2.2.2.1 a.1), (svK a.2.1 6 a.2.2.2.2.2.2.2.2.1 a.1), (svK a.2.1 7 a.2.2.2.2.2.2.2.2.2.1 a.1), (svK a.2.1 8 a.2.2.2.2.2.2.2.2.2.2.1 a.1), (svK a.2.1 9 a.2.2.2.2.2.2.2.2.2.2.2.1 a.1), (svK a.2.1 10 a.2.2.2.2.2.2.2.2.2.2.2.2.1 a.1), (svK a.2.1 11 a.2.2.2.2.2.2.2.2.2.2.2.2.2.1 a.1), (svK a.2.1 12 a.2.2.2.2.2.2.2.2.2.2.2.2.2.2 a.1), h17, h18, h19, h20, h21, h22, h23, h24]) else none) else none)
 else (RI 0 [h0, a.1, h2, a.2.1, a.2.2.1, a.2.2.2.1, a.2.2.2.2.1, a.2.2.2.2.2.1, a.2.2.2.2.2.2.1, a.2.2.2.2.2.2.2.1, a.2.2.2.2.2.2.2.2.1, a.2.2.2.2.2.2.2.2.2.1, a.2.2.2.2.2.2.2.2.2.2.1, a.2.2.2.2.2.2.2.2.2.2.2.1, a.2.2.2.2.2.2.2.2.2.2.2.2.1, a.2.2.2.2.2.2.2.2.2.2.2.2.2.1, a.2.2.2.2.2.2.2.2.2.2.2.2.2.2, h17, h18, h19, h20, h21, h22, h23, h24])) else none)
set_option maxRecDepth 100000 in
set_option maxHeartbeats 4000000 in
theorem rq_X7_drop_0 (p1 : Int) (h0 : Ob) (h2 : Ob) (h17 : Ob) (h18 : Ob) (h19 : Ob) (h20 : Ob) (h21 : Ob) (h22 : Ob) (h23 : Ob) (h24 : Ob) (a : Ob × Ob × Ob × Ob × Ob × Ob × Ob × Ob × Ob × Ob × Ob × Ob × Ob × Ob × Ob) : rg_X7_drop_0 (en_X7_drop_0 p1 h0 h2 h17 h18 h19 h20 h21 h22 h23 h24 a) = mg_X7_drop_0 p1 h0 h2 h17 h18 h19 h20 h21 h22 h23 h24 a := rfl
set_option maxRecDepth 100000 in
set_option maxHeartbeats 4000000 in
theorem sg_X7_drop_0 {X : XDyn} {r0 : Rt} (C : XO X mX7_drop) : XS X mX7_drop r0 0 (rg_X7_drop_0) := by
 unfold rg_X7_drop_0
 exact s_aload_n (pc := 0) C dX7_drop_0 rfl <|
    s_get (pc := 1) C (ci := 7) (kf := 0) rfl inX7 (by decide) wd_312 dX7_drop_1 <|
    s_iload_n (pc := 4) C dX7_drop_4 rfl <|
    s_callV (pc := 5) C ct_X3_isUsed (n := 2) (rk := 1) (mp := [1]) ⟨rfl, by decide, rfl⟩ (ci := 3) rfl rfl (by decide) (by decide) yi_X3_isUsed (by decide) wd_588 wd_351 wd_352 wd_74 wd_353 dX7_drop_5 <|
    s_if_eq (pc := 8) C dX7_drop_8 (by decide) (s_iconst (pc := 23) C dX7_drop_23 <|
    s_zreturn (pc := 24) C rfl dX7_drop_24)
    (s_aload_n (pc := 11) C dX7_drop_11 rfl <|
    s_get (pc := 12) C (ci := 7) (kf := 0) rfl inX7 (by decide) wd_312 dX7_drop_12 <|
    s_get (pc := 15) C (ci := 3) (kf := 3) rfl inX3 (by decide) wd_113 dX7_drop_15 <|
    s_iload_n (pc := 18) C dX7_drop_18 rfl <|
    s_iald (pc := 19) C dX7_drop_19 <|
    s_if_le (pc := 20) C dX7_drop_20 (by decide) (s_aload_n (pc := 25) C dX7_drop_25 rfl <|
    s_get (pc := 26) C (ci := 7) (kf := 2) rfl inX7 (by decide) wd_314 dX7_drop_26 <|
    s_aload_n (pc := 29) C dX7_drop_29 rfl <|
    s_get (pc := 30) C (ci := 7) (kf := 0) rfl inX7 (by decide) wd_312 dX7_drop_30 <|
    s_callVg (pc := 33) C ct_X5_save (n := 2) (rk := 0) (mp := [3, 4, 5, 6, 7, 8, 9, 10, 11, 12, 13, 14, 15, 16, 1]) ⟨rfl, by decide, rfl⟩ (ci := 5) rfl rfl (by decide) (by decide) yi_X5_save (by decide) wd_360 wd_361 wd_362 wd_75 wd_363 dX7_drop_33 <|
    s_aload_n (pc := 36) C dX7_drop_36 rfl <|
    s_get (pc := 37) C (ci := 7) (kf := 0) rfl inX7 (by decide) wd_312 dX7_drop_37 <|
    s_dup (pc := 40) C dX7_drop_40 <|
    s_get (pc := 41) C (ci := 3) (kf := 7) rfl inX3 (by decide) wd_122 dX7_drop_41 <|
    s_iconst (pc := 44) C dX7_drop_44 <|
    s_iload_n (pc := 45) C dX7_drop_45 rfl <|
    s_ishl (pc := 46) C dX7_drop_46 <|
    s_iconst (pc := 47) C dX7_drop_47 <|
    s_ixor (pc := 48) C dX7_drop_48 <|
    s_iand (pc := 49) C dX7_drop_49 <|
    s_put (pc := 50) (z := false) C (ci := 3) (kf := 7) rfl inX3 tyX3_ok nmX3 (by decide) wd_122 rfl rfl dX7_drop_50 <|
    s_aload_n (pc := 53) C dX7_drop_53 rfl <|
    s_get (pc := 54) C (ci := 7) (kf := 0) rfl inX7 (by decide) wd_312 dX7_drop_54 <|
    s_get (pc := 57) C (ci := 3) (kf := 0) rfl inX3 (by decide) wd_104 dX7_drop_57 <|
    s_iload_n (pc := 60) C dX7_drop_60 rfl <|
    s_iconst (pc := 61) C dX7_drop_61 <|
    s_iast (pc := 62) C dX7_drop_62 <|
    s_aload_n (pc := 63) C dX7_drop_63 rfl <|
    s_iconst (pc := 64) C dX7_drop_64 <|
    s_callV (pc := 65) C ct_X7_finish (n := 2) (rk := 0) (mp := [0, 1, 2, 3, 4, 5, 6, 7, 8, 9, 10, 11, 12, 13, 14, 15, 16, 17, 18, 19, 20, 21, 22, 23, 24]) ⟨rfl, by decide, rfl⟩ (ci := 7) rfl rfl (by decide) (by decide) yi_X7_finish (by decide) wd_542 wd_544 wd_10 wd_73 wd_545 dX7_drop_65 <|
    s_iconst (pc := 68) C dX7_drop_68 <|
    s_zreturn (pc := 69) C rfl dX7_drop_69)
    (s_iconst (pc := 23) C dX7_drop_23 <|
    s_zreturn (pc := 24) C rfl dX7_drop_24))
noncomputable def rw_X7_drop_0 : XK := rg_X7_drop_0
noncomputable def md_X7_drop_0 (p1 : Int) (h0 : Ob) (h2 : Ob) (h17 : Ob) (h18 : Ob) (h19 : Ob) (h20 : Ob) (h21 : Ob) (h22 : Ob) (h23 : Ob) (h24 : Ob) : Ob × Ob × Ob × Ob × Ob × Ob × Ob × Ob × Ob × Ob × Ob × Ob × Ob × Ob × Ob → Option Rt := mg_X7_drop_0 p1 h0 h2 h17 h18 h19 h20 h21 h22 h23 h24
theorem eq_X7_drop_0 (p1 : Int) (h0 : Ob) (h2 : Ob) (h17 : Ob) (h18 : Ob) (h19 : Ob) (h20 : Ob) (h21 : Ob) (h22 : Ob) (h23 : Ob) (h24 : Ob) (a : Ob × Ob × Ob × Ob × Ob × Ob × Ob × Ob × Ob × Ob × Ob × Ob × Ob × Ob × Ob) : rw_X7_drop_0 (en_X7_drop_0 p1 h0 h2 h17 h18 h19 h20 h21 h22 h23 h24 a) = md_X7_drop_0 p1 h0 h2 h17 h18 h19 h20 h21 h22 h23 h24 a :=
 rq_X7_drop_0 p1 h0 h2 h17 h18 h19 h20 h21 h22 h23 h24 a
theorem sd_X7_drop_0 {X : XDyn} {r0 : Rt} (C : XO X mX7_drop) : XS X mX7_drop r0 0 (rw_X7_drop_0) := sg_X7_drop_0 C
theorem ctr_X7_drop : XCt yX7_drop mX7_drop (xF mX7_drop (rw_X7_drop_0)) := xMet (by decide +kernel) rfl (fun _ _ C => sd_X7_drop_0 C)
theorem eqf_X7_drop (p1 : Int) (h0 : Ob) (h1 : Ob) (h2 : Ob) (h3 : Ob) (h4 : Ob) (h5 : Ob) (h6 : Ob) (h7 : Ob) (h8 : Ob) (h9 : Ob) (h10 : Ob) (h11 : Ob) (h12 : Ob) (h13 : Ob) (h14 : Ob) (h15 : Ob) (h16 : Ob) (h17 : Ob) (h18 : Ob) (h19 : Ob) (h20 : Ob) (h21 : Ob) (h22 : Ob) (h23 : Ob) (h24 : Ob) : xF mX7_drop (rw_X7_drop_0) [.inr (.inl (0, 0)), .inl p1] [h0, h1, h2, h3, h4, h5, h6, h7, h8, h9, h10, h11, h12, h13, h14, h15, h16, h17, h18, h19, h20, h21, h22, h23, h24] = md_X7_drop_0 p1 h0 h2 h17 h18 h19 h20 h21 h22 h23 h24 (h1, h3, h4, h5, h6, h7, h8, h9, h10, h11, h12, h13, h14, h15, h16) := eq_X7_drop_0 p1 h0 h2 h17 h18 h19 h20 h21 h22 h23 h24 (h1, h3, h4, h5, h6, h7, h8, h9, h10, h11, h12, h13, h14, h15, h16)
theorem yi_X7_drop : yX7_drop.cls = RX7 ∧ yX7_drop.cls ≠ "java/lang/invoke/MethodHandle" ∧ yX7_drop.cls ≠ "java/lang/invoke/VarHandle" ∧ (parseMethodDescriptor yX7_drop.desc).map (fun d => d.parameters.length) = some 1 := ⟨rfl, by decide +kernel, by decide +kernel, by decide +kernel⟩
theorem dX7_least_0 : decode cX7_least 0 = .ok (.aload_n 0, 1) := by decide +kernel
theorem dX7_least_1 : decode cX7_least 1 = .ok (.getfield 12, 3) := by decide +kernel
theorem dX7_least_4 : decode cX7_least 4 = .ok (.iload_n 1, 1) := by decide +kernel
theorem dX7_least_5 : decode cX7_least 5 = .ok (.invokevirtual 91, 3) := by decide +kernel
theorem dX7_least_8 : decode cX7_least 8 = .ok (.ifCond .eq 34, 3) := by decide +kernel
theorem dX7_least_11 : decode cX7_least 11 = .ok (.iload_n 2, 1) := by decide +kernel
theorem dX7_least_12 : decode cX7_least 12 = .ok (.iconst 1, 1) := by decide +kernel
theorem dX7_least_13 : decode cX7_least 13 = .ok (.if_icmp .lt 29, 3) := by decide +kernel
theorem dX7_least_16 : decode cX7_least 16 = .ok (.iload_n 2, 1) := by decide +kernel
theorem dX7_least_17 : decode cX7_least 17 = .ok (.aload_n 0, 1) := by decide +kernel
theorem dX7_least_18 : decode cX7_least 18 = .ok (.getfield 12, 3) := by decide +kernel
theorem dX7_least_21 : decode cX7_least 21 = .ok (.getfield 132, 3) := by decide +kernel
theorem dX7_least_24 : decode cX7_least 24 = .ok (.iload_n 1, 1) := by decide +kernel
theorem dX7_least_25 : decode cX7_least 25 = .ok (.iaload, 1) := by decide +kernel
theorem dX7_least_26 : decode cX7_least 26 = .ok (.if_icmp .gt 16, 3) := by decide +kernel
theorem dX7_least_29 : decode cX7_least 29 = .ok (.iload_n 2, 1) := by decide +kernel
theorem dX7_least_30 : decode cX7_least 30 = .ok (.aload_n 0, 1) := by decide +kernel
theorem dX7_least_31 : decode cX7_least 31 = .ok (.getfield 12, 3) := by decide +kernel
theorem dX7_least_34 : decode cX7_least 34 = .ok (.getfield 135, 3) := by decide +kernel
theorem dX7_least_37 : decode cX7_least 37 = .ok (.iload_n 1, 1) := by decide +kernel
theorem dX7_least_38 : decode cX7_least 38 = .ok (.iaload, 1) := by decide +kernel
theorem dX7_least_39 : decode cX7_least 39 = .ok (.if_icmp .ne 5, 3) := by decide +kernel
theorem dX7_least_42 : decode cX7_least 42 = .ok (.iconst (-1), 1) := by decide +kernel
theorem dX7_least_43 : decode cX7_least 43 = .ok (.ireturn, 1) := by decide +kernel
theorem dX7_least_44 : decode cX7_least 44 = .ok (.aload_n 0, 1) := by decide +kernel
theorem dX7_least_45 : decode cX7_least 45 = .ok (.getfield 22, 3) := by decide +kernel
theorem dX7_least_48 : decode cX7_least 48 = .ok (.aload_n 0, 1) := by decide +kernel
theorem dX7_least_49 : decode cX7_least 49 = .ok (.getfield 12, 3) := by decide +kernel
theorem dX7_least_52 : decode cX7_least 52 = .ok (.invokevirtual 69, 3) := by decide +kernel
theorem dX7_least_55 : decode cX7_least 55 = .ok (.aload_n 0, 1) := by decide +kernel
theorem dX7_least_56 : decode cX7_least 56 = .ok (.getfield 12, 3) := by decide +kernel
theorem dX7_least_59 : decode cX7_least 59 = .ok (.getfield 135, 3) := by decide +kernel
theorem dX7_least_62 : decode cX7_least 62 = .ok (.iload_n 1, 1) := by decide +kernel
theorem dX7_least_63 : decode cX7_least 63 = .ok (.iaload, 1) := by decide +kernel
theorem dX7_least_64 : decode cX7_least 64 = .ok (.istore_n 3, 1) := by decide +kernel
theorem dX7_least_65 : decode cX7_least 65 = .ok (.aload_n 0, 1) := by decide +kernel
theorem dX7_least_66 : decode cX7_least 66 = .ok (.getfield 12, 3) := by decide +kernel
theorem dX7_least_69 : decode cX7_least 69 = .ok (.getfield 135, 3) := by decide +kernel
theorem dX7_least_72 : decode cX7_least 72 = .ok (.iload_n 1, 1) := by decide +kernel
theorem dX7_least_73 : decode cX7_least 73 = .ok (.iload_n 2, 1) := by decide +kernel
theorem dX7_least_74 : decode cX7_least 74 = .ok (.iastore, 1) := by decide +kernel
theorem dX7_least_75 : decode cX7_least 75 = .ok (.aload_n 0, 1) := by decide +kernel
theorem dX7_least_76 : decode cX7_least 76 = .ok (.iconst (-1), 1) := by decide +kernel
theorem dX7_least_77 : decode cX7_least 77 = .ok (.invokevirtual 87, 3) := by decide +kernel
theorem dX7_least_80 : decode cX7_least 80 = .ok (.iload_n 3, 1) := by decide +kernel
theorem dX7_least_81 : decode cX7_least 81 = .ok (.ireturn, 1) := by decide +kernel
abbrev mX7_least : XM := (cX7_least, 4, RX7, (some .int), shw_M, 3)
noncomputable def rg_X7_least_0 : XK :=
 o_aload 0 <|
 o_get shw_M 7 0 <|
 o_iload 1 <|
 o_callV 2 1 [1] f_X3_isFull <|
 o_if_eq (o_iconst (-1) <|
 o_ireturn)
 (o_iload 2 <|
 o_iconst 1 <|
 o_icmp_lt (o_iconst (-1) <|
 o_ireturn)
 (o_iload 2 <|
 o_aload 0 <|
 o_get shw_M 7 0 <|
 o_get shw_M 3 1 <|
 o_iload 1 <|
 o_iald shw_M <|
 o_icmp_gt (o_iconst (-1) <|
 o_ireturn)
 (o_iload 2 <|
 o_aload 0 <|
 o_get shw_M 7 0 <|
 o_get shw_M 3 4 <|
 o_iload 1 <|
 o_iald shw_M <|
 o_icmp_ne (o_aload 0 <|
 o_get shw_M 7 2 <|
 o_aload 0 <|
 o_get shw_M 7 0 <|
 o_callVg 2 0 [3, 4, 5, 6, 7, 8, 9, 10, 11, 12, 13, 14, 15, 16, 1] g_X5_save v_X5_save <|
 o_aload 0 <|
 o_get shw_M 7 0 <|
 o_get shw_M 3 4 <|
 o_iload 1 <|
 o_iald shw_M <|
 o_istore 3 <|
 o_aload 0 <|
 o_get shw_M 7 0 <|
 o_get shw_M 3 4 <|
 o_iload 1 <|
 o_iload 2 <|
 o_iast shw_M <|
 o_aload 0 <|
 o_iconst (-1) <|
 o_callV 2 0 [0, 1, 2, 3, 4, 5, 6, 7, 8, 9, 10, 11, 12, 13, 14, 15, 16, 17, 18, 19, 20, 21, 22, 23, 24] f_X7_finish <|
 o_iload 3 <|
 o_ireturn)
 (o_iconst (-1) <|
 o_ireturn))))
def en_X7_least_0 (p1 : Int) (p2 : Int) (h0 : Ob) (h2 : Ob) (h17 : Ob) (h18 : Ob) (h19 : Ob) (h20 : Ob) (h21 : Ob) (h22 : Ob) (h23 : Ob) (h24 : Ob) (a : Ob × Ob × Ob × Ob × Ob × Ob × Ob × Ob × Ob × Ob × Ob × Ob × Ob × Ob × Ob) : XSt := ([some (.inr (.inl (0, 0))), some (.inl p1), some (.inl p2), none], [], [h0, a.1, h2, a.2.1, a.2.2.1, a.2.2.2.1, a.2.2.2.2.1, a.2.2.2.2.2.1, a.2.2.2.2.2.2.1, a.2.2.2.2.2.2.2.1, a.2.2.2.2.2.2.2.2.1, a.2.2.2.2.2.2.2.2.2.1, a.2.2.2.2.2.2.2.2.2.2.1, a.2.2.2.2.2.2.2.2.2.2.2.1, a.2.2.2.2.2.2.2.2.2.2.2.2.1, a.2.2.2.2.2.2.2.2.2.2.2.2.2.1, a.2.2.2.2.2.2.2.2.2.2.2.2.2.2, h17, h18, h19, h20, h21, h22, h23, h24])
noncomputable def mg_X7_least_0 (p1 : Int) (p2 : Int) (h0 : Ob) (h2 : Ob) (h17 : Ob) (h18 : Ob) (h19 : Ob) (h20 : Ob) (h21 : Ob) (h22 : Ob) (h23 : Ob) (h24 : Ob) (a : Ob × Ob × Ob × Ob × Ob × Ob × Ob × Ob × Ob × Ob × Ob × Ob × Ob × Ob × Ob) : Option Rt :=
 if xw (bz (ful a.1 p1)) = 0 then (RI (-1) [h0, a.1, h2, a.2.1, a.2.2.1, a.2.2.2.1, a.2.2.2.2.1, a.2.2.2.2.2.1, a.2.2.2.2.2.2.1, a.2.2.2.2.2.2.2.1, a.2.2.2.2.2.2.2.2.1, a.2.2.2.2.2.2.2.2.2.1, a.2.2.2.2.2.2.2.2.2.2.1, a.2.2.2.2.2.2.2.2.2.2.2.1, a.2.2.2.2.2.2.2.2.2.2.2.2.1, a.2.2.2.2.2.2.2.2.2.2.2.2.2.1, a.2.2.2.2.2.2.2.2.2.2.2.2.2.2, h17, h18, h19, h20, h21, h22, h23, h24])
 else (if xw p2 < 1 then (RI (-1) [h0, a.1, h2, a.2.1, a.2.2.1, a.2.2.2.1, a.2.2.2.2.1, a.2.2.2.2.2.1, a.2.2.2.2.2.2.1, a.2.2.2.2.2.2.2.1, a.2.2.2.2.2.2.2.2.1, a.2.2.2.2.2.2.2.2.2.1, a.2.2.2.2.2.2.2.2.2.2.1, a.2.2.2.2.2.2.2.2.2.2.2.1, a.2.2.2.2.2.2.2.2.2.2.2.2.1, a.2.2.2.2.2.2.2.2.2.2.2.2.2.1, a.2.2.2.2.2.2.2.2.2.2.2.2.2.2, h17, h18, h19, h20, h21, h22, h23, h24])
 else (if xin p1 11 then (
 if xw p2 > xw (a.1 2 (xw p1).toNat) then (RI (-1) [h0, a.1, h2, a.2.1, a.2.2.1, a.2.2.2.1, a.2.2.2.2.1, a.2.2.2.2.2.1, a.2.2.2.2.2.2.1, a.2.2.2.2.2.2.2.1, a.2.2.2.2.2.2.2.2.1, a.2.2.2.2.2.2.2.2.2.1, a.2.2.2.2.2.2.2.2.2.2.1, a.2.2.2.2.2.2.2.2.2.2.2.1, a.2.2.2.2.2.2.2.2.2.2.2.2.1, a.2.2.2.2.2.2.2.2.2.2.2.2.2.1, a.2.2.2.2.2.2.2.2.2.2.2.2.2.2, h17, h18, h19, h20, h21, h22, h23, h24])
 else (if xin p1 8 then (
 if xw p2 = xw (a.1 5 (xw p1).toNat) then (RI (-1) [h0, a.1, h2, a.2.1, a.2.2.1, a.2.2.2.1, a.2.2.2.2.1, a.2.2.2.2.2.1, a.2.2.2.2.2.2.1, a.2.2.2.2.2.2.2.1, a.2.2.2.2.2.2.2.2.1, a.2.2.2.2.2.2.2.2.2.1, a.2.2.2.2.2.2.2.2.2.2.1, a.2.2.2.2.2.2.2.2.2.2.2.1, a.2.2.2.2.2.2.2.2.2.2.2.2.1, a.2.2.2.2.2.2.2.2.2.2.2.2.2.1, a.2.2.2.2.2.2.2.2.2.2.2.2.2.2, h17, h18, h19, h20, h21, h22, h23, h24])
 else (if pd (PG a.2.1) then (
 if xin p1 8 then (
 if xin p1 8 then (
 RI (a.1 5 (xw p1).toNat) [h0, (finO (xset a.1 5 (xw p1).toNat p2) ((-1) : Int)), h2, (keeO a.2.1), (svK a.2.1 0 a.2.2.1 a.1), (svK a.2.1 1 a.2.2.2.1 a.1), (svK a.2.1 2 a.2.2.2.2.1 a.1), (svK a.2.1 3 a.2.2.2.2.2.1 a.1), (svK a.2.1 4 a.2.2.2.2.2.2.1 a.1), (svK a.2.1 5 a.2.2.2.2.2.2.2.1 a.1), (svK a.2.1 6 a.2.2.2.2.2.2.2.2.1 a.1), (svK a.2.1 7 a.2.2.2.2.2.2.2.2.2.1 a.1), (svK a.2.1 8 a.2.2.2.2.2.2.2.2.2.2.1 a.1), (svK a.2.1 9 a.2.2.2.2.2.2.2.2.2.2.2.1 a.1), (svK a.2.1 10 a.2.2.2.2.2.2.2.2.2.2.2.2.1 a.1), (svK a.2.1 11 a.2.2.2.2.2.2.2.2.2.2.2.2.2.1 a.1), (svK a.2.1 12 a.2.2.2.2.2.2.2.2.2.2.2.2.2.2 a.1), h17, h18, h19, h20, h21, h22, h23, h24]) else none) else none) else none)) else none)) else none))
set_option maxRecDepth 100000 in
set_option maxHeartbeats 4000000 in
theorem rq_X7_least_0 (p1 : Int) (p2 : Int) (h0 : Ob) (h2 : Ob) (h17 : Ob) (h18 : Ob) (h19 : Ob) (h20 : Ob) (h21 : Ob) (h22 : Ob) (h23 : Ob) (h24 : Ob) (a : Ob × Ob × Ob × Ob × Ob × Ob × Ob × Ob × Ob × Ob × Ob × Ob × Ob × Ob × Ob) : rg_X7_least_0 (en_X7_least_0 p1 p2 h0 h2 h17 h18 h19 h20 h21 h22 h23 h24 a) = mg_X7_least_0 p1 p2 h0 h2 h17 h18 h19 h20 h21 h22 h23 h24 a := rfl
set_option maxRecDepth 100000 in
set_option maxHeartbeats 4000000 in
theorem sg_X7_least_0 {X : XDyn} {r0 : Rt} (C : XO X mX7_least) : XS X mX7_least r0 0 (rg_X7_least_0) := by
 unfold rg_X7_least_0
 exact s_aload_n (pc := 0) C dX7_least_0 rfl <|
    s_get (pc := 1) C (ci := 7) (kf := 0) rfl inX7 (by decide) wd_312 dX7_least_1 <|
    s_iload_n (pc := 4) C dX7_least_4 rfl <|
    s_callV (pc := 5) C ct_X3_isFull (n := 2) (rk := 1) (mp := [1]) ⟨rfl, by decide, rfl⟩ (ci := 3) rfl rfl (by decide) (by decide) yi_X3_isFull (by decide) wd_555 wd_556 wd_557 wd_74 wd_558 dX7_least_5 <|
    s_if_eq (pc := 8) C dX7_least_8 (by decide) (s_iconst (pc := 42) C dX7_least_42 <|
    s_ireturn (pc := 43) C rfl dX7_least_43)
    (s_iload_n (pc := 11) C dX7_least_11 rfl <|
    s_iconst (pc := 12) C dX7_least_12 <|
    s_icmp_lt (pc := 13) C dX7_least_13 (by decide) (s_iconst (pc := 42) C dX7_least_42 <|
    s_ireturn (pc := 43) C rfl dX7_least_43)
    (s_iload_n (pc := 16) C dX7_least_16 rfl <|
    s_aload_n (pc := 17) C dX7_least_17 rfl <|
    s_get (pc := 18) C (ci := 7) (kf := 0) rfl inX7 (by decide) wd_312 dX7_least_18 <|
    s_get (pc := 21) C (ci := 3) (kf := 1) rfl inX3 (by decide) wd_110 dX7_least_21 <|
    s_iload_n (pc := 24) C dX7_least_24 rfl <|
    s_iald (pc := 25) C dX7_least_25 <|
    s_icmp_gt (pc := 26) C dX7_least_26 (by decide) (s_iconst (pc := 42) C dX7_least_42 <|
    s_ireturn (pc := 43) C rfl dX7_least_43)
    (s_iload_n (pc := 29) C dX7_least_29 rfl <|
    s_aload_n (pc := 30) C dX7_least_30 rfl <|
    s_get (pc := 31) C (ci := 7) (kf := 0) rfl inX7 (by decide) wd_312 dX7_least_31 <|
    s_get (pc := 34) C (ci := 3) (kf := 4) rfl inX3 (by decide) wd_116 dX7_least_34 <|
    s_iload_n (pc := 37) C dX7_least_37 rfl <|
    s_iald (pc := 38) C dX7_least_38 <|
    s_icmp_ne (pc := 39) C dX7_least_39 (by decide) (s_aload_n (pc := 44) C dX7_least_44 rfl <|
    s_get (pc := 45) C (ci := 7) (kf := 2) rfl inX7 (by decide) wd_314 dX7_least_45 <|
    s_aload_n (pc := 48) C dX7_least_48 rfl <|
    s_get (pc := 49) C (ci := 7) (kf := 0) rfl inX7 (by decide) wd_312 dX7_least_49 <|
    s_callVg (pc := 52) C ct_X5_save (n := 2) (rk := 0) (mp := [3, 4, 5, 6, 7, 8, 9, 10, 11, 12, 13, 14, 15, 16, 1]) ⟨rfl, by decide, rfl⟩ (ci := 5) rfl rfl (by decide) (by decide) yi_X5_save (by decide) wd_360 wd_361 wd_362 wd_75 wd_363 dX7_least_52 <|
    s_aload_n (pc := 55) C dX7_least_55 rfl <|
    s_get (pc := 56) C (ci := 7) (kf := 0) rfl inX7 (by decide) wd_312 dX7_least_56 <|
    s_get (pc := 59) C (ci := 3) (kf := 4) rfl inX3 (by decide) wd_116 dX7_least_59 <|
    s_iload_n (pc := 62) C dX7_least_62 rfl <|
    s_iald (pc := 63) C dX7_least_63 <|
    s_istore_n (pc := 64) C dX7_least_64 rfl <|
    s_aload_n (pc := 65) C dX7_least_65 rfl <|
    s_get (pc := 66) C (ci := 7) (kf := 0) rfl inX7 (by decide) wd_312 dX7_least_66 <|
    s_get (pc := 69) C (ci := 3) (kf := 4) rfl inX3 (by decide) wd_116 dX7_least_69 <|
    s_iload_n (pc := 72) C dX7_least_72 rfl <|
    s_iload_n (pc := 73) C dX7_least_73 rfl <|
    s_iast (pc := 74) C dX7_least_74 <|
    s_aload_n (pc := 75) C dX7_least_75 rfl <|
    s_iconst (pc := 76) C dX7_least_76 <|
    s_callV (pc := 77) C ct_X7_finish (n := 2) (rk := 0) (mp := [0, 1, 2, 3, 4, 5, 6, 7, 8, 9, 10, 11, 12, 13, 14, 15, 16, 17, 18, 19, 20, 21, 22, 23, 24]) ⟨rfl, by decide, rfl⟩ (ci := 7) rfl rfl (by decide) (by decide) yi_X7_finish (by decide) wd_542 wd_544 wd_10 wd_73 wd_545 dX7_least_77 <|
    s_iload_n (pc := 80) C dX7_least_80 rfl <|
    s_ireturn (pc := 81) C rfl dX7_least_81)
    (s_iconst (pc := 42) C dX7_least_42 <|
    s_ireturn (pc := 43) C rfl dX7_least_43))))
noncomputable def rw_X7_least_0 : XK := rg_X7_least_0
noncomputable def md_X7_least_0 (p1 : Int) (p2 : Int) (h0 : Ob) (h2 : Ob) (h17 : Ob) (h18 : Ob) (h19 : Ob) (h20 : Ob) (h21 : Ob) (h22 : Ob) (h23 : Ob) (h24 : Ob) : Ob × Ob × Ob × Ob × Ob × Ob × Ob × Ob × Ob × Ob × Ob × Ob × Ob × Ob × Ob → Option Rt := mg_X7_least_0 p1 p2 h0 h2 h17 h18 h19 h20 h21 h22 h23 h24
theorem eq_X7_least_0 (p1 : Int) (p2 : Int) (h0 : Ob) (h2 : Ob) (h17 : Ob) (h18 : Ob) (h19 : Ob) (h20 : Ob) (h21 : Ob) (h22 : Ob) (h23 : Ob) (h24 : Ob) (a : Ob × Ob × Ob × Ob × Ob × Ob × Ob × Ob × Ob × Ob × Ob × Ob × Ob × Ob × Ob) : rw_X7_least_0 (en_X7_least_0 p1 p2 h0 h2 h17 h18 h19 h20 h21 h22 h23 h24 a) = md_X7_least_0 p1 p2 h0 h2 h17 h18 h19 h20 h21 h22 h23 h24 a :=
 rq_X7_least_0 p1 p2 h0 h2 h17 h18 h19 h20 h21 h22 h23 h24 a
theorem sd_X7_least_0 {X : XDyn} {r0 : Rt} (C : XO X mX7_least) : XS X mX7_least r0 0 (rw_X7_least_0) := sg_X7_least_0 C
theorem ctr_X7_least : XCt yX7_least mX7_least (xF mX7_least (rw_X7_least_0)) := xMet (by decide +kernel) rfl (fun _ _ C => sd_X7_least_0 C)
theorem eqf_X7_least (p1 : Int) (p2 : Int) (h0 : Ob) (h1 : Ob) (h2 : Ob) (h3 : Ob) (h4 : Ob) (h5 : Ob) (h6 : Ob) (h7 : Ob) (h8 : Ob) (h9 : Ob) (h10 : Ob) (h11 : Ob) (h12 : Ob) (h13 : Ob) (h14 : Ob) (h15 : Ob) (h16 : Ob) (h17 : Ob) (h18 : Ob) (h19 : Ob) (h20 : Ob) (h21 : Ob) (h22 : Ob) (h23 : Ob) (h24 : Ob) : xF mX7_least (rw_X7_least_0) [.inr (.inl (0, 0)), .inl p1, .inl p2] [h0, h1, h2, h3, h4, h5, h6, h7, h8, h9, h10, h11, h12, h13, h14, h15, h16, h17, h18, h19, h20, h21, h22, h23, h24] = md_X7_least_0 p1 p2 h0 h2 h17 h18 h19 h20 h21 h22 h23 h24 (h1, h3, h4, h5, h6, h7, h8, h9, h10, h11, h12, h13, h14, h15, h16) := eq_X7_least_0 p1 p2 h0 h2 h17 h18 h19 h20 h21 h22 h23 h24 (h1, h3, h4, h5, h6, h7, h8, h9, h10, h11, h12, h13, h14, h15, h16)
theorem yi_X7_least : yX7_least.cls = RX7 ∧ yX7_least.cls ≠ "java/lang/invoke/MethodHandle" ∧ yX7_least.cls ≠ "java/lang/invoke/VarHandle" ∧ (parseMethodDescriptor yX7_least.desc).map (fun d => d.parameters.length) = some 2 := ⟨rfl, by decide +kernel, by decide +kernel, by decide +kernel⟩
theorem dX7_purge_0 : decode cX7_purge 0 = .ok (.aload_n 0, 1) := by decide +kernel
theorem dX7_purge_1 : decode cX7_purge 1 = .ok (.getfield 12, 3) := by decide +kernel
theorem dX7_purge_4 : decode cX7_purge 4 = .ok (.iload_n 1, 1) := by decide +kernel
theorem dX7_purge_5 : decode cX7_purge 5 = .ok (.invokevirtual 112, 3) := by decide +kernel
theorem dX7_purge_8 : decode cX7_purge 8 = .ok (.ifCond .eq 14, 3) := by decide +kernel
theorem dX7_purge_11 : decode cX7_purge 11 = .ok (.aload_n 0, 1) := by decide +kernel
theorem dX7_purge_12 : decode cX7_purge 12 = .ok (.getfield 12, 3) := by decide +kernel
theorem dX7_purge_15 : decode cX7_purge 15 = .ok (.iload_n 1, 1) := by decide +kernel
theorem dX7_purge_16 : decode cX7_purge 16 = .ok (.invokevirtual 122, 3) := by decide +kernel
theorem dX7_purge_19 : decode cX7_purge 19 = .ok (.ifCond .ne 5, 3) := by decide +kernel
theorem dX7_purge_22 : decode cX7_purge 22 = .ok (.iconst 0, 1) := by decide +kernel
theorem dX7_purge_23 : decode cX7_purge 23 = .ok (.ireturn, 1) := by decide +kernel
theorem dX7_purge_24 : decode cX7_purge 24 = .ok (.aload_n 0, 1) := by decide +kernel
theorem dX7_purge_25 : decode cX7_purge 25 = .ok (.getfield 22, 3) := by decide +kernel
theorem dX7_purge_28 : decode cX7_purge 28 = .ok (.aload_n 0, 1) := by decide +kernel
theorem dX7_purge_29 : decode cX7_purge 29 = .ok (.getfield 12, 3) := by decide +kernel
theorem dX7_purge_32 : decode cX7_purge 32 = .ok (.invokevirtual 69, 3) := by decide +kernel
theorem dX7_purge_35 : decode cX7_purge 35 = .ok (.aload_n 0, 1) := by decide +kernel
theorem dX7_purge_36 : decode cX7_purge 36 = .ok (.getfield 12, 3) := by decide +kernel
theorem dX7_purge_39 : decode cX7_purge 39 = .ok (.getfield 119, 3) := by decide +kernel
theorem dX7_purge_42 : decode cX7_purge 42 = .ok (.iload_n 1, 1) := by decide +kernel
theorem dX7_purge_43 : decode cX7_purge 43 = .ok (.iconst (-1), 1) := by decide +kernel
theorem dX7_purge_44 : decode cX7_purge 44 = .ok (.iastore, 1) := by decide +kernel
theorem dX7_purge_45 : decode cX7_purge 45 = .ok (.aload_n 0, 1) := by decide +kernel
theorem dX7_purge_46 : decode cX7_purge 46 = .ok (.iconst (-1), 1) := by decide +kernel
theorem dX7_purge_47 : decode cX7_purge 47 = .ok (.invokevirtual 87, 3) := by decide +kernel
theorem dX7_purge_50 : decode cX7_purge 50 = .ok (.iconst 1, 1) := by decide +kernel
theorem dX7_purge_51 : decode cX7_purge 51 = .ok (.ireturn, 1) := by decide +kernel
abbrev mX7_purge : XM := (cX7_purge, 2, RX7, (some .boolean), shw_M, 3)
noncomputable def rg_X7_purge_0 : XK :=
 o_aload 0 <|
 o_get shw_M 7 0 <|
 o_iload 1 <|
 o_callV 2 1 [1] f_X3_isMovable <|
 o_if_eq (o_iconst 0 <|
 o_zreturn)
 (o_aload 0 <|
 o_get shw_M 7 0 <|
 o_iload 1 <|
 o_callV 2 1 [1] f_X3_isPurgeable <|
 o_if_ne (o_aload 0 <|
 o_get shw_M 7 2 <|
 o_aload 0 <|
 o_get shw_M 7 0 <|
 o_callVg 2 0 [3, 4, 5, 6, 7, 8, 9, 10, 11, 12, 13, 14, 15, 16, 1] g_X5_save v_X5_save <|
 o_aload 0 <|
 o_get shw_M 7 0 <|
 o_get shw_M 3 0 <|
 o_iload 1 <|
 o_iconst (-1) <|
 o_iast shw_M <|
 o_aload 0 <|
 o_iconst (-1) <|
 o_callV 2 0 [0, 1, 2, 3, 4, 5, 6, 7, 8, 9, 10, 11, 12, 13, 14, 15, 16, 17, 18, 19, 20, 21, 22, 23, 24] f_X7_finish <|
 o_iconst 1 <|
 o_zreturn)
 (o_iconst 0 <|
 o_zreturn))
def en_X7_purge_0 (p1 : Int) (h0 : Ob) (h2 : Ob) (h17 : Ob) (h18 : Ob) (h19 : Ob) (h20 : Ob) (h21 : Ob) (h22 : Ob) (h23 : Ob) (h24 : Ob) (a : Ob × Ob × Ob × Ob × Ob × Ob × Ob × Ob × Ob × Ob × Ob × Ob × Ob × Ob × Ob) : XSt := ([some (.inr (.inl (0, 0))), some (.inl p1)], [], [h0, a.1, h2, a.2.1, a.2.2.1, a.2.2.2.1, a.2.2.2.2.1, a.2.2.2.2.2.1, a.2.2.2.2.2.2.1, a.2.2.2.2.2.2.2.1, a.2.2.2.2.2.2.2.2.1, a.2.2.2.2.2.2.2.2.2.1, a.2.2.2.2.2.2.2.2.2.2.1, a.2.2.2.2.2.2.2.2.2.2.2.1, a.2.2.2.2.2.2.2.2.2.2.2.2.1, a.2.2.2.2.2.2.2.2.2.2.2.2.2.1, a.2.2.2.2.2.2.2.2.2.2.2.2.2.2, h17, h18, h19, h20, h21, h22, h23, h24])
noncomputable def mg_X7_purge_0 (p1 : Int) (h0 : Ob) (h2 : Ob) (h17 : Ob) (h18 : Ob) (h19 : Ob) (h20 : Ob) (h21 : Ob) (h22 : Ob) (h23 : Ob) (h24 : Ob) (a : Ob × Ob × Ob × Ob × Ob × Ob × Ob × Ob × Ob × Ob × Ob × Ob × Ob × Ob × Ob) : Option Rt :=
 if xw (bz (mov a.1 p1)) = 0 then (RI 0 [h0, a.1, h2, a.2.1, a.2.2.1, a.2.2.2.1, a.2.2.2.2.1, a.2.2.2.2.2.1, a.2.2.2.2.2.2.1, a.2.2.2.2.2.2.2.1, a.2.2.2.2.2.2.2.2.1, a.2.2.2.2.2.2.2.2.2.1, a.2.2.2.2.2.2.2.2.2.2.1, a.2.2.2.2.2.2.2.2.2.2.2.1, a.2.2.2.2.2.2.2.2.2.2.2.2.1, a.2.2.2.2.2.2.2.2.2.2.2.2.2.1, a.2.2.2.2.2.2.2.2.2.2.2.2.2.2, h17, h18, h19, h20, h21, h22, h23, h24])
 else (if xw (bz (inS (a.1 0 8) p1)) = 0 then (RI 0 [h0, a.1, h2, a.2.1, a.2.2.1, a.2.2.2.1, a.2.2.2.2.1, a.2.2.2.2.2.1, a.2.2.2.2.2.2.1, a.2.2.2.2.2.2.2.1, a.2.2.2.2.2.2.2.2.1, a.2.2.2.2.2.2.2.2.2.1, a.2.2.2.2.2.2.2.2.2.2.1, a.2.2.2.2.2.2.2.2.2.2.2.1, a.2.2.2.2.2.2.2.2.2.2.2.2.1, a.2.2.2.2.2.2.2.2.2.2.2.2.2.1, a.2.2.2.2.2.2.2.2.2.2.2.2.2.2, h17, h18, h19, h20, h21, h22, h23, h24])
 else (if pd (PG a.2.1) then (
 if xin p1 11 then (
 RI 1 [h0, (finO (xset a.1 1 (xw p1).toNat (-1)) ((-1) : Int)), h2, (keeO a.2.1), (svK a.2.1 0 a.2.2.1 a.1), (svK a.2.1 1 a.2.2.2.1 a.1), (svK a.2.1 2 a.2.2.2.2.1 a.1), (svK a.2.1 3 a.2.2.2.2.2.1 a.1), (svK a.2.1 4 a.2.2.2.2.2.2.1 a.1), (svK a.2.1 5 a.2.2.2.2.2.2.2.1 a.1), (svK a.2.1 6 a.2.2.2.2.2.2.2.2.1 a.1), (svK a.2.1 7 a.2.2.2.2.2.2.2.2.2.1 a.1), (svK a.2.1 8 a.2.2.2.2.2.2.2.2.2.2.1 a.1), (svK a.2.1 9 a.2.2.2.2.2.2.2.2.2.2.2.1 a.1), (svK a.2.1 10 a.2.2.2.2.2.2.2.2.2.2.2.2.1 a.1), (svK a.2.1 11 a.2.2.2.2.2.2.2.2.2.2.2.2.2.1 a.1), (svK a.2.1 12 a.2.2.2.2.2.2.2.2.2.2.2.2.2.2 a.1), h17, h18, h19, h20, h21, h22, h23, h24]) else none) else none))
set_option maxRecDepth 100000 in
set_option maxHeartbeats 4000000 in
theorem rq_X7_purge_0 (p1 : Int) (h0 : Ob) (h2 : Ob) (h17 : Ob) (h18 : Ob) (h19 : Ob) (h20 : Ob) (h21 : Ob) (h22 : Ob) (h23 : Ob) (h24 : Ob) (a : Ob × Ob × Ob × Ob × Ob × Ob × Ob × Ob × Ob × Ob × Ob × Ob × Ob × Ob × Ob) : rg_X7_purge_0 (en_X7_purge_0 p1 h0 h2 h17 h18 h19 h20 h21 h22 h23 h24 a) = mg_X7_purge_0 p1 h0 h2 h17 h18 h19 h20 h21 h22 h23 h24 a := rfl
set_option maxRecDepth 100000 in
set_option maxHeartbeats 4000000 in
theorem sg_X7_purge_0 {X : XDyn} {r0 : Rt} (C : XO X mX7_purge) : XS X mX7_purge r0 0 (rg_X7_purge_0) := by
 unfold rg_X7_purge_0
 exact s_aload_n (pc := 0) C dX7_purge_0 rfl <|
    s_get (pc := 1) C (ci := 7) (kf := 0) rfl inX7 (by decide) wd_312 dX7_purge_1 <|
    s_iload_n (pc := 4) C dX7_purge_4 rfl <|
    s_callV (pc := 5) C ct_X3_isMovable (n := 2) (rk := 1) (mp := [1]) ⟨rfl, by decide, rfl⟩ (ci := 3) rfl rfl (by decide) (by decide) yi_X3_isMovable (by decide) wd_601 wd_413 wd_414 wd_74 wd_415 dX7_purge_5 <|
    s_if_eq (pc := 8) C dX7_purge_8 (by decide) (s_iconst (pc := 22) C dX7_purge_22 <|
    s_zreturn (pc := 23) C rfl dX7_purge_23)
    (s_aload_n (pc := 11) C dX7_purge_11 rfl <|
    s_get (pc := 12) C (ci := 7) (kf := 0) rfl inX7 (by decide) wd_312 dX7_purge_12 <|
    s_iload_n (pc := 15) C dX7_purge_15 rfl <|
    s_callV (pc := 16) C ct_X3_isPurgeable (n := 2) (rk := 1) (mp := [1]) ⟨rfl, by decide, rfl⟩ (ci := 3) rfl rfl (by decide) (by decide) yi_X3_isPurgeable (by decide) wd_614 wd_615 wd_616 wd_74 wd_617 dX7_purge_16 <|
    s_if_ne (pc := 19) C dX7_purge_19 (by decide) (s_aload_n (pc := 24) C dX7_purge_24 rfl <|
    s_get (pc := 25) C (ci := 7) (kf := 2) rfl inX7 (by decide) wd_314 dX7_purge_25 <|
    s_aload_n (pc := 28) C dX7_purge_28 rfl <|
    s_get (pc := 29) C (ci := 7) (kf := 0) rfl inX7 (by decide) wd_312 dX7_purge_29 <|
    s_callVg (pc := 32) C ct_X5_save (n := 2) (rk := 0) (mp := [3, 4, 5, 6, 7, 8, 9, 10, 11, 12, 13, 14, 15, 16, 1]) ⟨rfl, by decide, rfl⟩ (ci := 5) rfl rfl (by decide) (by decide) yi_X5_save (by decide) wd_360 wd_361 wd_362 wd_75 wd_363 dX7_purge_32 <|
    s_aload_n (pc := 35) C dX7_purge_35 rfl <|
    s_get (pc := 36) C (ci := 7) (kf := 0) rfl inX7 (by decide) wd_312 dX7_purge_36 <|
    s_get (pc := 39) C (ci := 3) (kf := 0) rfl inX3 (by decide) wd_104 dX7_purge_39 <|
    s_iload_n (pc := 42) C dX7_purge_42 rfl <|
    s_iconst (pc := 43) C dX7_purge_43 <|
    s_iast (pc := 44) C dX7_purge_44 <|
    s_aload_n (pc := 45) C dX7_purge_45 rfl <|
    s_iconst (pc := 46) C dX7_purge_46 <|
    s_callV (pc := 47) C ct_X7_finish (n := 2) (rk := 0) (mp := [0, 1, 2, 3, 4, 5, 6, 7, 8, 9, 10, 11, 12, 13, 14, 15, 16, 17, 18, 19, 20, 21, 22, 23, 24]) ⟨rfl, by decide, rfl⟩ (ci := 7) rfl rfl (by decide) (by decide) yi_X7_finish (by decide) wd_542 wd_544 wd_10 wd_73 wd_545 dX7_purge_47 <|
    s_iconst (pc := 50) C dX7_purge_50 <|
    s_zreturn (pc := 51) C rfl dX7_purge_51)
    (s_iconst (pc := 22) C dX7_purge_22 <|
    s_zreturn (pc := 23) C rfl dX7_purge_23))
noncomputable def rw_X7_purge_0 : XK := rg_X7_purge_0
noncomputable def md_X7_purge_0 (p1 : Int) (h0 : Ob) (h2 : Ob) (h17 : Ob) (h18 : Ob) (h19 : Ob) (h20 : Ob) (h21 : Ob) (h22 : Ob) (h23 : Ob) (h24 : Ob) : Ob × Ob × Ob × Ob × Ob × Ob × Ob × Ob × Ob × Ob × Ob × Ob × Ob × Ob × Ob → Option Rt := mg_X7_purge_0 p1 h0 h2 h17 h18 h19 h20 h21 h22 h23 h24
theorem eq_X7_purge_0 (p1 : Int) (h0 : Ob) (h2 : Ob) (h17 : Ob) (h18 : Ob) (h19 : Ob) (h20 : Ob) (h21 : Ob) (h22 : Ob) (h23 : Ob) (h24 : Ob) (a : Ob × Ob × Ob × Ob × Ob × Ob × Ob × Ob × Ob × Ob × Ob × Ob × Ob × Ob × Ob) : rw_X7_purge_0 (en_X7_purge_0 p1 h0 h2 h17 h18 h19 h20 h21 h22 h23 h24 a) = md_X7_purge_0 p1 h0 h2 h17 h18 h19 h20 h21 h22 h23 h24 a :=
 rq_X7_purge_0 p1 h0 h2 h17 h18 h19 h20 h21 h22 h23 h24 a
theorem sd_X7_purge_0 {X : XDyn} {r0 : Rt} (C : XO X mX7_purge) : XS X mX7_purge r0 0 (rw_X7_purge_0) := sg_X7_purge_0 C
theorem ctr_X7_purge : XCt yX7_purge mX7_purge (xF mX7_purge (rw_X7_purge_0)) := xMet (by decide +kernel) rfl (fun _ _ C => sd_X7_purge_0 C)
theorem eqf_X7_purge (p1 : Int) (h0 : Ob) (h1 : Ob) (h2 : Ob) (h3 : Ob) (h4 : Ob) (h5 : Ob) (h6 : Ob) (h7 : Ob) (h8 : Ob) (h9 : Ob) (h10 : Ob) (h11 : Ob) (h12 : Ob) (h13 : Ob) (h14 : Ob) (h15 : Ob) (h16 : Ob) (h17 : Ob) (h18 : Ob) (h19 : Ob) (h20 : Ob) (h21 : Ob) (h22 : Ob) (h23 : Ob) (h24 : Ob) : xF mX7_purge (rw_X7_purge_0) [.inr (.inl (0, 0)), .inl p1] [h0, h1, h2, h3, h4, h5, h6, h7, h8, h9, h10, h11, h12, h13, h14, h15, h16, h17, h18, h19, h20, h21, h22, h23, h24] = md_X7_purge_0 p1 h0 h2 h17 h18 h19 h20 h21 h22 h23 h24 (h1, h3, h4, h5, h6, h7, h8, h9, h10, h11, h12, h13, h14, h15, h16) := eq_X7_purge_0 p1 h0 h2 h17 h18 h19 h20 h21 h22 h23 h24 (h1, h3, h4, h5, h6, h7, h8, h9, h10, h11, h12, h13, h14, h15, h16)
theorem yi_X7_purge : yX7_purge.cls = RX7 ∧ yX7_purge.cls ≠ "java/lang/invoke/MethodHandle" ∧ yX7_purge.cls ≠ "java/lang/invoke/VarHandle" ∧ (parseMethodDescriptor yX7_purge.desc).map (fun d => d.parameters.length) = some 1 := ⟨rfl, by decide +kernel, by decide +kernel, by decide +kernel⟩
theorem dX7_unfix_0 : decode cX7_unfix 0 = .ok (.aload_n 0, 1) := by decide +kernel
theorem dX7_unfix_1 : decode cX7_unfix 1 = .ok (.getfield 12, 3) := by decide +kernel
theorem dX7_unfix_4 : decode cX7_unfix 4 = .ok (.iload_n 1, 1) := by decide +kernel
theorem dX7_unfix_5 : decode cX7_unfix 5 = .ok (.invokevirtual 102, 3) := by decide +kernel
theorem dX7_unfix_8 : decode cX7_unfix 8 = .ok (.ifCond .ne 5, 3) := by decide +kernel
theorem dX7_unfix_11 : decode cX7_unfix 11 = .ok (.iconst 0, 1) := by decide +kernel
theorem dX7_unfix_12 : decode cX7_unfix 12 = .ok (.ireturn, 1) := by decide +kernel
theorem dX7_unfix_13 : decode cX7_unfix 13 = .ok (.aload_n 0, 1) := by decide +kernel
theorem dX7_unfix_14 : decode cX7_unfix 14 = .ok (.getfield 22, 3) := by decide +kernel
theorem dX7_unfix_17 : decode cX7_unfix 17 = .ok (.aload_n 0, 1) := by decide +kernel
theorem dX7_unfix_18 : decode cX7_unfix 18 = .ok (.getfield 12, 3) := by decide +kernel
theorem dX7_unfix_21 : decode cX7_unfix 21 = .ok (.invokevirtual 69, 3) := by decide +kernel
theorem dX7_unfix_24 : decode cX7_unfix 24 = .ok (.aload_n 0, 1) := by decide +kernel
theorem dX7_unfix_25 : decode cX7_unfix 25 = .ok (.getfield 12, 3) := by decide +kernel
theorem dX7_unfix_28 : decode cX7_unfix 28 = .ok (.getfield 119, 3) := by decide +kernel
theorem dX7_unfix_31 : decode cX7_unfix 31 = .ok (.bipush 8, 2) := by decide +kernel
theorem dX7_unfix_33 : decode cX7_unfix 33 = .ok (.iload_n 1, 1) := by decide +kernel
theorem dX7_unfix_34 : decode cX7_unfix 34 = .ok (.iadd, 1) := by decide +kernel
theorem dX7_unfix_35 : decode cX7_unfix 35 = .ok (.iconst (-1), 1) := by decide +kernel
theorem dX7_unfix_36 : decode cX7_unfix 36 = .ok (.iastore, 1) := by decide +kernel
theorem dX7_unfix_37 : decode cX7_unfix 37 = .ok (.aload_n 0, 1) := by decide +kernel
theorem dX7_unfix_38 : decode cX7_unfix 38 = .ok (.iconst (-1), 1) := by decide +kernel
theorem dX7_unfix_39 : decode cX7_unfix 39 = .ok (.invokevirtual 87, 3) := by decide +kernel
theorem dX7_unfix_42 : decode cX7_unfix 42 = .ok (.iconst 1, 1) := by decide +kernel
theorem dX7_unfix_43 : decode cX7_unfix 43 = .ok (.ireturn, 1) := by decide +kernel
abbrev mX7_unfix : XM := (cX7_unfix, 2, RX7, (some .boolean), shw_M, 3)
noncomputable def rg_X7_unfix_0 : XK :=
 o_aload 0 <|
 o_get shw_M 7 0 <|
 o_iload 1 <|
 o_callV 2 1 [1] f_X3_isIsland <|
 o_if_ne (o_aload 0 <|
 o_get shw_M 7 2 <|
 o_aload 0 <|
 o_get shw_M 7 0 <|
 o_callVg 2 0 [3, 4, 5, 6, 7, 8, 9, 10, 11, 12, 13, 14, 15, 16, 1] g_X5_save v_X5_save <|
 o_aload 0 <|
 o_get shw_M 7 0 <|
 o_get shw_M 3 0 <|
 o_iconst 8 <|
 o_iload 1 <|
 o_iadd <|
 o_iconst (-1) <|
 o_iast shw_M <|
 o_aload 0 <|
 o_iconst (-1) <|
 o_callV 2 0 [0, 1, 2, 3, 4, 5, 6, 7, 8, 9, 10, 11, 12, 13, 14, 15, 16, 17, 18, 19, 20, 21, 22, 23, 24] f_X7_finish <|
 o_iconst 1 <|
 o_zreturn)
 (o_iconst 0 <|
 o_zreturn)
def en_X7_unfix_0 (p1 : Int) (h0 : Ob) (h2 : Ob) (h17 : Ob) (h18 : Ob) (h19 : Ob) (h20 : Ob) (h21 : Ob) (h22 : Ob) (h23 : Ob) (h24 : Ob) (a : Ob × Ob × Ob × Ob × Ob × Ob × Ob × Ob × Ob × Ob × Ob × Ob × Ob × Ob × Ob) : XSt := ([some (.inr (.inl (0, 0))), some (.inl p1)], [], [h0, a.1, h2, a.2.1, a.2.2.1, a.2.2.2.1, a.2.2.2.2.1, a.2.2.2.2.2.1, a.2.2.2.2.2.2.1, a.2.2.2.2.2.2.2.1, a.2.2.2.2.2.2.2.2.1, a.2.2.2.2.2.2.2.2.2.1, a.2.2.2.2.2.2.2.2.2.2.1, a.2.2.2.2.2.2.2.2.2.2.2.1, a.2.2.2.2.2.2.2.2.2.2.2.2.1, a.2.2.2.2.2.2.2.2.2.2.2.2.2.1, a.2.2.2.2.2.2.2.2.2.2.2.2.2.2, h17, h18, h19, h20, h21, h22, h23, h24])
noncomputable def mg_X7_unfix_0 (p1 : Int) (h0 : Ob) (h2 : Ob) (h17 : Ob) (h18 : Ob) (h19 : Ob) (h20 : Ob) (h21 : Ob) (h22 : Ob) (h23 : Ob) (h24 : Ob) (a : Ob × Ob × Ob × Ob × Ob × Ob × Ob × Ob × Ob × Ob × Ob × Ob × Ob × Ob × Ob) : Option Rt :=
 if xw (bz (isl a.1 p1)) = 0 then (RI 0 [h0, a.1, h2, a.2.1, a.2.2.1, a.2.2.2.1, a.2.2.2.2.1, a.2.2.2.2.2.1, a.2.2.2.2.2.2.1, a.2.2.2.2.2.2.2.1, a.2.2.2.2.2.2.2.2.1, a.2.2.2.2.2.2.2.2.2.1, a.2.2.2.2.2.2.2.2.2.2.1, a.2.2.2.2.2.2.2.2.2.2.2.1, a.2.2.2.2.2.2.2.2.2.2.2.2.1, a.2.2.2.2.2.2.2.2.2.2.2.2.2.1, a.2.2.2.2.2.2.2.2.2.2.2.2.2.2, h17, h18, h19, h20, h21, h22, h23, h24])
 else (if pd (PG a.2.1) then (
 if xin (8 + p1) 11 then (
 RI 1 [h0, (finO (xset a.1 1 (xw (8 + p1)).toNat (-1)) ((-1) : Int)), h2, (keeO a.2.1), (svK a.2.1 0 a.2.2.1 a.1), (svK a.2.1 1 a.2.2.2.1 a.1), (svK a.2.1 2 a.2.2.2.2.1 a.1), (svK a.2.1 3 a.2.2.2.2.2.1 a.1), (svK a.2.1 4 a.2.2.2.2.2.2.1 a.1), (svK a.2.1 5 a.2.2.2.2.2.2.2.1 a.1), (svK a.2.1 6 a.2.2.2.2.2.2.2.2.1 a.1), (svK a.2.1 7 a.2.2.2.2.2.2.2.2.2.1 a.1), (svK a.2.1 8 a.2.2.2.2.2.2.2.2.2.2.1 a.1), (svK a.2.1 9 a.2.2.2.2.2.2.2.2.2.2.2.1 a.1), (svK a.2.1 10 a.2.2.2.2.2.2.2.2.2.2.2.2.1 a.1), (svK a.2.1 11 a.2.2.2.2.2.2.2.2.2.2.2.2.2.1 a.1), (svK a.2.1 12 a.2.2.2.2.2.2.2.2.2.2.2.2.2.2 a.1), h17, h18, h19, h20, h21, h22, h23, h24]) else none) else none)
set_option maxRecDepth 100000 in
set_option maxHeartbeats 4000000 in
theorem rq_X7_unfix_0 (p1 : Int) (h0 : Ob) (h2 : Ob) (h17 : Ob) (h18 : Ob) (h19 : Ob) (h20 : Ob) (h21 : Ob) (h22 : Ob) (h23 : Ob) (h24 : Ob) (a : Ob × Ob × Ob × Ob × Ob × Ob × Ob × Ob × Ob × Ob × Ob × Ob × Ob × Ob × Ob) : rg_X7_unfix_0 (en_X7_unfix_0 p1 h0 h2 h17 h18 h19 h20 h21 h22 h23 h24 a) = mg_X7_unfix_0 p1 h0 h2 h17 h18 h19 h20 h21 h22 h23 h24 a := rfl
set_option maxRecDepth 100000 in
set_option maxHeartbeats 4000000 in
theorem sg_X7_unfix_0 {X : XDyn} {r0 : Rt} (C : XO X mX7_unfix) : XS X mX7_unfix r0 0 (rg_X7_unfix_0) := by
 unfold rg_X7_unfix_0
 exact s_aload_n (pc := 0) C dX7_unfix_0 rfl <|
    s_get (pc := 1) C (ci := 7) (kf := 0) rfl inX7 (by decide) wd_312 dX7_unfix_1 <|
    s_iload_n (pc := 4) C dX7_unfix_4 rfl <|
    s_callV (pc := 5) C ct_X3_isIsland (n := 2) (rk := 1) (mp := [1]) ⟨rfl, by decide, rfl⟩ (ci := 3) rfl rfl (by decide) (by decide) yi_X3_isIsland (by decide) wd_580 wd_581 wd_582 wd_74 wd_583 dX7_unfix_5 <|
    s_if_ne (pc := 8) C dX7_unfix_8 (by decide) (s_aload_n (pc := 13) C dX7_unfix_13 rfl <|
    s_get (pc := 14) C (ci := 7) (kf := 2) rfl inX7 (by decide) wd_314 dX7_unfix_14 <|
    s_aload_n (pc := 17) C dX7_unfix_17 rfl <|
    s_get (pc := 18) C (ci := 7) (kf := 0) rfl inX7 (by decide) wd_312 dX7_unfix_18 <|
    s_callVg (pc := 21) C ct_X5_save (n := 2) (rk := 0) (mp := [3, 4, 5, 6, 7, 8, 9, 10, 11, 12, 13, 14, 15, 16, 1]) ⟨rfl, by decide, rfl⟩ (ci := 5) rfl rfl (by decide) (by decide) yi_X5_save (by decide) wd_360 wd_361 wd_362 wd_75 wd_363 dX7_unfix_21 <|
    s_aload_n (pc := 24) C dX7_unfix_24 rfl <|
    s_get (pc := 25) C (ci := 7) (kf := 0) rfl inX7 (by decide) wd_312 dX7_unfix_25 <|
    s_get (pc := 28) C (ci := 3) (kf := 0) rfl inX3 (by decide) wd_104 dX7_unfix_28 <|
    s_bipush (pc := 31) C dX7_unfix_31 (by decide) <|
    s_iload_n (pc := 33) C dX7_unfix_33 rfl <|
    s_iadd (pc := 34) C dX7_unfix_34 <|
    s_iconst (pc := 35) C dX7_unfix_35 <|
    s_iast (pc := 36) C dX7_unfix_36 <|
    s_aload_n (pc := 37) C dX7_unfix_37 rfl <|
    s_iconst (pc := 38) C dX7_unfix_38 <|
    s_callV (pc := 39) C ct_X7_finish (n := 2) (rk := 0) (mp := [0, 1, 2, 3, 4, 5, 6, 7, 8, 9, 10, 11, 12, 13, 14, 15, 16, 17, 18, 19, 20, 21, 22, 23, 24]) ⟨rfl, by decide, rfl⟩ (ci := 7) rfl rfl (by decide) (by decide) yi_X7_finish (by decide) wd_542 wd_544 wd_10 wd_73 wd_545 dX7_unfix_39 <|
    s_iconst (pc := 42) C dX7_unfix_42 <|
    s_zreturn (pc := 43) C rfl dX7_unfix_43)
    (s_iconst (pc := 11) C dX7_unfix_11 <|
    s_zreturn (pc := 12) C rfl dX7_unfix_12)
noncomputable def rw_X7_unfix_0 : XK := rg_X7_unfix_0
noncomputable def md_X7_unfix_0 (p1 : Int) (h0 : Ob) (h2 : Ob) (h17 : Ob) (h18 : Ob) (h19 : Ob) (h20 : Ob) (h21 : Ob) (h22 : Ob) (h23 : Ob) (h24 : Ob) : Ob × Ob × Ob × Ob × Ob × Ob × Ob × Ob × Ob × Ob × Ob × Ob × Ob × Ob × Ob → Option Rt := mg_X7_unfix_0 p1 h0 h2 h17 h18 h19 h20 h21 h22 h23 h24
theorem eq_X7_unfix_0 (p1 : Int) (h0 : Ob) (h2 : Ob) (h17 : Ob) (h18 : Ob) (h19 : Ob) (h20 : Ob) (h21 : Ob) (h22 : Ob) (h23 : Ob) (h24 : Ob) (a : Ob × Ob × Ob × Ob × Ob × Ob × Ob × Ob × Ob × Ob × Ob × Ob × Ob × Ob × Ob) : rw_X7_unfix_0 (en_X7_unfix_0 p1 h0 h2 h17 h18 h19 h20 h21 h22 h23 h24 a) = md_X7_unfix_0 p1 h0 h2 h17 h18 h19 h20 h21 h22 h23 h24 a :=
 rq_X7_unfix_0 p1 h0 h2 h17 h18 h19 h20 h21 h22 h23 h24 a
theorem sd_X7_unfix_0 {X : XDyn} {r0 : Rt} (C : XO X mX7_unfix) : XS X mX7_unfix r0 0 (rw_X7_unfix_0) := sg_X7_unfix_0 C
theorem ctr_X7_unfix : XCt yX7_unfix mX7_unfix (xF mX7_unfix (rw_X7_unfix_0)) := xMet (by decide +kernel) rfl (fun _ _ C => sd_X7_unfix_0 C)
theorem eqf_X7_unfix (p1 : Int) (h0 : Ob) (h1 : Ob) (h2 : Ob) (h3 : Ob) (h4 : Ob) (h5 : Ob) (h6 : Ob) (h7 : Ob) (h8 : Ob) (h9 : Ob) (h10 : Ob) (h11 : Ob) (h12 : Ob) (h13 : Ob) (h14 : Ob) (h15 : Ob) (h16 : Ob) (h17 : Ob) (h18 : Ob) (h19 : Ob) (h20 : Ob) (h21 : Ob) (h22 : Ob) (h23 : Ob) (h24 : Ob) : xF mX7_unfix (rw_X7_unfix_0) [.inr (.inl (0, 0)), .inl p1] [h0, h1, h2, h3, h4, h5, h6, h7, h8, h9, h10, h11, h12, h13, h14, h15, h16, h17, h18, h19, h20, h21, h22, h23, h24] = md_X7_unfix_0 p1 h0 h2 h17 h18 h19 h20 h21 h22 h23 h24 (h1, h3, h4, h5, h6, h7, h8, h9, h10, h11, h12, h13, h14, h15, h16) := eq_X7_unfix_0 p1 h0 h2 h17 h18 h19 h20 h21 h22 h23 h24 (h1, h3, h4, h5, h6, h7, h8, h9, h10, h11, h12, h13, h14, h15, h16)
theorem yi_X7_unfix : yX7_unfix.cls = RX7 ∧ yX7_unfix.cls ≠ "java/lang/invoke/MethodHandle" ∧ yX7_unfix.cls ≠ "java/lang/invoke/VarHandle" ∧ (parseMethodDescriptor yX7_unfix.desc).map (fun d => d.parameters.length) = some 1 := ⟨rfl, by decide +kernel, by decide +kernel, by decide +kernel⟩
theorem dX7_policy_0 : decode cX7_policy 0 = .ok (.iload_n 1, 1) := by decide +kernel
theorem dX7_policy_1 : decode cX7_policy 1 = .ok (.ifCond .lt 19, 3) := by decide +kernel
theorem dX7_policy_4 : decode cX7_policy 4 = .ok (.iload_n 1, 1) := by decide +kernel
theorem dX7_policy_5 : decode cX7_policy 5 = .ok (.iconst 4, 1) := by decide +kernel
theorem dX7_policy_6 : decode cX7_policy 6 = .ok (.if_icmp .gt 14, 3) := by decide +kernel
theorem dX7_policy_9 : decode cX7_policy 9 = .ok (.iload_n 1, 1) := by decide +kernel
theorem dX7_policy_10 : decode cX7_policy 10 = .ok (.aload_n 0, 1) := by decide +kernel
theorem dX7_policy_11 : decode cX7_policy 11 = .ok (.getfield 12, 3) := by decide +kernel
theorem dX7_policy_14 : decode cX7_policy 14 = .ok (.getfield 177, 3) := by decide +kernel
theorem dX7_policy_17 : decode cX7_policy 17 = .ok (.if_icmp .ne 5, 3) := by decide +kernel
theorem dX7_policy_20 : decode cX7_policy 20 = .ok (.iconst (-1), 1) := by decide +kernel
theorem dX7_policy_21 : decode cX7_policy 21 = .ok (.ireturn, 1) := by decide +kernel
theorem dX7_policy_22 : decode cX7_policy 22 = .ok (.aload_n 0, 1) := by decide +kernel
theorem dX7_policy_23 : decode cX7_policy 23 = .ok (.getfield 22, 3) := by decide +kernel
theorem dX7_policy_26 : decode cX7_policy 26 = .ok (.aload_n 0, 1) := by decide +kernel
theorem dX7_policy_27 : decode cX7_policy 27 = .ok (.getfield 12, 3) := by decide +kernel
theorem dX7_policy_30 : decode cX7_policy 30 = .ok (.invokevirtual 69, 3) := by decide +kernel
theorem dX7_policy_33 : decode cX7_policy 33 = .ok (.aload_n 0, 1) := by decide +kernel
theorem dX7_policy_34 : decode cX7_policy 34 = .ok (.getfield 12, 3) := by decide +kernel
theorem dX7_policy_37 : decode cX7_policy 37 = .ok (.getfield 177, 3) := by decide +kernel
theorem dX7_policy_40 : decode cX7_policy 40 = .ok (.istore_n 2, 1) := by decide +kernel
theorem dX7_policy_41 : decode cX7_policy 41 = .ok (.aload_n 0, 1) := by decide +kernel
theorem dX7_policy_42 : decode cX7_policy 42 = .ok (.getfield 12, 3) := by decide +kernel
theorem dX7_policy_45 : decode cX7_policy 45 = .ok (.iload_n 1, 1) := by decide +kernel
theorem dX7_policy_46 : decode cX7_policy 46 = .ok (.putfield 177, 3) := by decide +kernel
theorem dX7_policy_49 : decode cX7_policy 49 = .ok (.aload_n 0, 1) := by decide +kernel
theorem dX7_policy_50 : decode cX7_policy 50 = .ok (.iconst (-1), 1) := by decide +kernel
theorem dX7_policy_51 : decode cX7_policy 51 = .ok (.invokevirtual 87, 3) := by decide +kernel
theorem dX7_policy_54 : decode cX7_policy 54 = .ok (.iload_n 2, 1) := by decide +kernel
theorem dX7_policy_55 : decode cX7_policy 55 = .ok (.ireturn, 1) := by decide +kernel
abbrev mX7_policy : XM := (cX7_policy, 3, RX7, (some .int), shw_M, 3)
noncomputable def rg_X7_policy_0 : XK :=
 o_iload 1 <|
 o_if_lt (o_iconst (-1) <|
 o_ireturn)
 (o_iload 1 <|
 o_iconst 4 <|
 o_icmp_gt (o_iconst (-1) <|
 o_ireturn)
 (o_iload 1 <|
 o_aload 0 <|
 o_get shw_M 7 0 <|
 o_get shw_M 3 12 <|
 o_icmp_ne (o_aload 0 <|
 o_get shw_M 7 2 <|
 o_aload 0 <|
 o_get shw_M 7 0 <|
 o_callVg 2 0 [3, 4, 5, 6, 7, 8, 9, 10, 11, 12, 13, 14, 15, 16, 1] g_X5_save v_X5_save <|
 o_aload 0 <|
 o_get shw_M 7 0 <|
 o_get shw_M 3 12 <|
 o_istore 2 <|
 o_aload 0 <|
 o_get shw_M 7 0 <|
 o_iload 1 <|
 o_put shw_M 3 12 false <|
 o_aload 0 <|
 o_iconst (-1) <|
 o_callV 2 0 [0, 1, 2, 3, 4, 5, 6, 7, 8, 9, 10, 11, 12, 13, 14, 15, 16, 17, 18, 19, 20, 21, 22, 23, 24] f_X7_finish <|
 o_iload 2 <|
 o_ireturn)
 (o_iconst (-1) <|
 o_ireturn)))
def en_X7_policy_0 (p1 : Int) (h0 : Ob) (h2 : Ob) (h17 : Ob) (h18 : Ob) (h19 : Ob) (h20 : Ob) (h21 : Ob) (h22 : Ob) (h23 : Ob) (h24 : Ob) (a : Ob × Ob × Ob × Ob × Ob × Ob × Ob × Ob × Ob × Ob × Ob × Ob × Ob × Ob × Ob) : XSt := ([some (.inr (.inl (0, 0))), some (.inl p1), none], [], [h0, a.1, h2, a.2.1, a.2.2.1, a.2.2.2.1, a.2.2.2.2.1, a.2.2.2.2.2.1, a.2.2.2.2.2.2.1, a.2.2.2.2.2.2.2.1, a.2.2.2.2.2.2.2.2.1, a.2.2.2.2.2.2.2.2.2.1, a.2.2.2.2.2.2.2.2.2.2.1, a.2.2.2.2.2.2.2.2.2.2.2.1, a.2.2.2.2.2.2.2.2.2.2.2.2.1, a.2.2.2.2.2.2.2.2.2.2.2.2.2.1, a.2.2.2.2.2.2.2.2.2.2.2.2.2.2, h17, h18, h19, h20, h21, h22, h23, h24])
noncomputable def mg_X7_policy_0 (p1 : Int) (h0 : Ob) (h2 : Ob) (h17 : Ob) (h18 : Ob) (h19 : Ob) (h20 : Ob) (h21 : Ob) (h22 : Ob) (h23 : Ob) (h24 : Ob) (a : Ob × Ob × Ob × Ob × Ob × Ob × Ob × Ob × Ob × Ob × Ob × Ob × Ob × Ob × Ob) : Option Rt :=
 if xw p1 < 0 then (RI (-1) [h0, a.1, h2, a.2.1, a.2.2.1, a.2.2.2.1, a.2.2.2.2.1, a.2.2.2.2.2.1, a.2.2.2.2.2.2.1, a.2.2.2.2.2.2.2.1, a.2.2.2.2.2.2.2.2.1, a.2.2.2.2.2.2.2.2.2.1, a.2.2.2.2.2.2.2.2.2.2.1, a.2.2.2.2.2.2.2.2.2.2.2.1, a.2.2.2.2.2.2.2.2.2.2.2.2.1, a.2.2.2.2.2.2.2.2.2.2.2.2.2.1, a.2.2.2.2.2.2.2.2.2.2.2.2.2.2, h17, h18, h19, h20, h21, h22, h23, h24])
 else (if xw p1 > 4 then (RI (-1) [h0, a.1, h2, a.2.1, a.2.2.1, a.2.2.2.1, a.2.2.2.2.1, a.2.2.2.2.2.1, a.2.2.2.2.2.2.1, a.2.2.2.2.2.2.2.1, a.2.2.2.2.2.2.2.2.1, a.2.2.2.2.2.2.2.2.2.1, a.2.2.2.2.2.2.2.2.2.2.1, a.2.2.2.2.2.2.2.2.2.2.2.1, a.2.2.2.2.2.2.2.2.2.2.2.2.1, a.2.2.2.2.2.2.2.2.2.2.2.2.2.1, a.2.2.2.2.2.2.2.2.2.2.2.2.2.2, h17, h18, h19, h20, h21, h22, h23, h24])
 else (if xw p1 = xw (a.1 0 12) then (RI (-1) [h0, a.1, h2, a.2.1, a.2.2.1, a.2.2.2.1, a.2.2.2.2.1, a.2.2.2.2.2.1, a.2.2.2.2.2.2.1, a.2.2.2.2.2.2.2.1, a.2.2.2.2.2.2.2.2.1, a.2.2.2.2.2.2.2.2.2.1, a.2.2.2.2.2.2.2.2.2.2.1, a.2.2.2.2.2.2.2.2.2.2.2.1, a.2.2.2.2.2.2.2.2.2.2.2.2.1, a.2.2.2.2.2.2.2.2.2.2.2.2.2.1, a.2.2.2.2.2.2.2.2.2.2.2.2.2.2, h17, h18, h19, h20, h21, h22, h23, h24])
 else (if pd (PG a.2.1) then (
 RI (a.1 0 12) [h0, (finO (xset a.1 0 12 p1) ((-1) : Int)), h2, (keeO a.2.1), (svK a.2.1 0 a.2.2.1 a.1), (svK a.2.1 1 a.2.2.2.1 a.1), (svK a.2.1 2 a.2.2.2.2.1 a.1), (svK a.2.1 3 a.2.2.2.2.2.1 a.1), (svK a.2.1 4 a.2.2.2.2.2.2.1 a.1), (svK a.2.1 5 a.2.2.2.2.2.2.2.1 a.1), (svK a.2.1 6 a.2.2.2.2.2.2.2.2.1 a.1), (svK a.2.1 7 a.2.2.2.2.2.2.2.2.2.1 a.1), (svK a.2.1 8 a.2.2.2.2.2.2.2.2.2.2.1 a.1), (svK a.2.1 9 a.2.2.2.2.2.2.2.2.2.2.2.1 a.1), (svK a.2.1 10 a.2.2.2.2.2.2.2.2.2.2.2.2.1 a.1), (svK a.2.1 11 a.2.2.2.2.2.2.2.2.2.2.2.2.2.1 a.1), (svK a.2.1 12 a.2.2.2.2.2.2.2.2.2.2.2.2.2.2 a.1), h17, h18, h19, h20, h21, h22, h23, h24]) else none)))
set_option maxRecDepth 100000 in
set_option maxHeartbeats 4000000 in
theorem rq_X7_policy_0 (p1 : Int) (h0 : Ob) (h2 : Ob) (h17 : Ob) (h18 : Ob) (h19 : Ob) (h20 : Ob) (h21 : Ob) (h22 : Ob) (h23 : Ob) (h24 : Ob) (a : Ob × Ob × Ob × Ob × Ob × Ob × Ob × Ob × Ob × Ob × Ob × Ob × Ob × Ob × Ob) : rg_X7_policy_0 (en_X7_policy_0 p1 h0 h2 h17 h18 h19 h20 h21 h22 h23 h24 a) = mg_X7_policy_0 p1 h0 h2 h17 h18 h19 h20 h21 h22 h23 h24 a := rfl
set_option maxRecDepth 100000 in
set_option maxHeartbeats 4000000 in
theorem sg_X7_policy_0 {X : XDyn} {r0 : Rt} (C : XO X mX7_policy) : XS X mX7_policy r0 0 (rg_X7_policy_0) := by
 unfold rg_X7_policy_0
 exact s_iload_n (pc := 0) C dX7_policy_0 rfl <|
    s_if_lt (pc := 1) C dX7_policy_1 (by decide) (s_iconst (pc := 20) C dX7_policy_20 <|
    s_ireturn (pc := 21) C rfl dX7_policy_21)
    (s_iload_n (pc := 4) C dX7_policy_4 rfl <|
    s_iconst (pc := 5) C dX7_policy_5 <|
    s_icmp_gt (pc := 6) C dX7_policy_6 (by decide) (s_iconst (pc := 20) C dX7_policy_20 <|
    s_ireturn (pc := 21) C rfl dX7_policy_21)
    (s_iload_n (pc := 9) C dX7_policy_9 rfl <|
    s_aload_n (pc := 10) C dX7_policy_10 rfl <|
    s_get (pc := 11) C (ci := 7) (kf := 0) rfl inX7 (by decide) wd_312 dX7_policy_11 <|
    s_get (pc := 14) C (ci := 3) (kf := 12) rfl inX3 (by decide) wd_134 dX7_policy_14 <|
    s_icmp_ne (pc := 17) C dX7_policy_17 (by decide) (s_aload_n (pc := 22) C dX7_policy_22 rfl <|
    s_get (pc := 23) C (ci := 7) (kf := 2) rfl inX7 (by decide) wd_314 dX7_policy_23 <|
    s_aload_n (pc := 26) C dX7_policy_26 rfl <|
    s_get (pc := 27) C (ci := 7) (kf := 0) rfl inX7 (by decide) wd_312 dX7_policy_27 <|
    s_callVg (pc := 30) C ct_X5_save (n := 2) (rk := 0) (mp := [3, 4, 5, 6, 7, 8, 9, 10, 11, 12, 13, 14, 15, 16, 1]) ⟨rfl, by decide, rfl⟩ (ci := 5) rfl rfl (by decide) (by decide) yi_X5_save (by decide) wd_360 wd_361 wd_362 wd_75 wd_363 dX7_policy_30 <|
    s_aload_n (pc := 33) C dX7_policy_33 rfl <|
    s_get (pc := 34) C (ci := 7) (kf := 0) rfl inX7 (by decide) wd_312 dX7_policy_34 <|
    s_get (pc := 37) C (ci := 3) (kf := 12) rfl inX3 (by decide) wd_134 dX7_policy_37 <|
    s_istore_n (pc := 40) C dX7_policy_40 rfl <|
    s_aload_n (pc := 41) C dX7_policy_41 rfl <|
    s_get (pc := 42) C (ci := 7) (kf := 0) rfl inX7 (by decide) wd_312 dX7_policy_42 <|
    s_iload_n (pc := 45) C dX7_policy_45 rfl <|
    s_put (pc := 46) (z := false) C (ci := 3) (kf := 12) rfl inX3 tyX3_ok nmX3 (by decide) wd_134 rfl rfl dX7_policy_46 <|
    s_aload_n (pc := 49) C dX7_policy_49 rfl <|
    s_iconst (pc := 50) C dX7_policy_50 <|
    s_callV (pc := 51) C ct_X7_finish (n := 2) (rk := 0) (mp := [0, 1, 2, 3, 4, 5, 6, 7, 8, 9, 10, 11, 12, 13, 14, 15, 16, 17, 18, 19, 20, 21, 22, 23, 24]) ⟨rfl, by decide, rfl⟩ (ci := 7) rfl rfl (by decide) (by decide) yi_X7_finish (by decide) wd_542 wd_544 wd_10 wd_73 wd_545 dX7_policy_51 <|
    s_iload_n (pc := 54) C dX7_policy_54 rfl <|
    s_ireturn (pc := 55) C rfl dX7_policy_55)
    (s_iconst (pc := 20) C dX7_policy_20 <|
    s_ireturn (pc := 21) C rfl dX7_policy_21)))
noncomputable def rw_X7_policy_0 : XK := rg_X7_policy_0
noncomputable def md_X7_policy_0 (p1 : Int) (h0 : Ob) (h2 : Ob) (h17 : Ob) (h18 : Ob) (h19 : Ob) (h20 : Ob) (h21 : Ob) (h22 : Ob) (h23 : Ob) (h24 : Ob) : Ob × Ob × Ob × Ob × Ob × Ob × Ob × Ob × Ob × Ob × Ob × Ob × Ob × Ob × Ob → Option Rt := mg_X7_policy_0 p1 h0 h2 h17 h18 h19 h20 h21 h22 h23 h24
theorem eq_X7_policy_0 (p1 : Int) (h0 : Ob) (h2 : Ob) (h17 : Ob) (h18 : Ob) (h19 : Ob) (h20 : Ob) (h21 : Ob) (h22 : Ob) (h23 : Ob) (h24 : Ob) (a : Ob × Ob × Ob × Ob × Ob × Ob × Ob × Ob × Ob × Ob × Ob × Ob × Ob × Ob × Ob) : rw_X7_policy_0 (en_X7_policy_0 p1 h0 h2 h17 h18 h19 h20 h21 h22 h23 h24 a) = md_X7_policy_0 p1 h0 h2 h17 h18 h19 h20 h21 h22 h23 h24 a :=
 rq_X7_policy_0 p1 h0 h2 h17 h18 h19 h20 h21 h22 h23 h24 a
theorem sd_X7_policy_0 {X : XDyn} {r0 : Rt} (C : XO X mX7_policy) : XS X mX7_policy r0 0 (rw_X7_policy_0) := sg_X7_policy_0 C
theorem ctr_X7_policy : XCt yX7_policy mX7_policy (xF mX7_policy (rw_X7_policy_0)) := xMet (by decide +kernel) rfl (fun _ _ C => sd_X7_policy_0 C)
theorem eqf_X7_policy (p1 : Int) (h0 : Ob) (h1 : Ob) (h2 : Ob) (h3 : Ob) (h4 : Ob) (h5 : Ob) (h6 : Ob) (h7 : Ob) (h8 : Ob) (h9 : Ob) (h10 : Ob) (h11 : Ob) (h12 : Ob) (h13 : Ob) (h14 : Ob) (h15 : Ob) (h16 : Ob) (h17 : Ob) (h18 : Ob) (h19 : Ob) (h20 : Ob) (h21 : Ob) (h22 : Ob) (h23 : Ob) (h24 : Ob) : xF mX7_policy (rw_X7_policy_0) [.inr (.inl (0, 0)), .inl p1] [h0, h1, h2, h3, h4, h5, h6, h7, h8, h9, h10, h11, h12, h13, h14, h15, h16, h17, h18, h19, h20, h21, h22, h23, h24] = md_X7_policy_0 p1 h0 h2 h17 h18 h19 h20 h21 h22 h23 h24 (h1, h3, h4, h5, h6, h7, h8, h9, h10, h11, h12, h13, h14, h15, h16) := eq_X7_policy_0 p1 h0 h2 h17 h18 h19 h20 h21 h22 h23 h24 (h1, h3, h4, h5, h6, h7, h8, h9, h10, h11, h12, h13, h14, h15, h16)
theorem yi_X7_policy : yX7_policy.cls = RX7 ∧ yX7_policy.cls ≠ "java/lang/invoke/MethodHandle" ∧ yX7_policy.cls ≠ "java/lang/invoke/VarHandle" ∧ (parseMethodDescriptor yX7_policy.desc).map (fun d => d.parameters.length) = some 1 := ⟨rfl, by decide +kernel, by decide +kernel, by decide +kernel⟩
theorem dX7_undo_0 : decode cX7_undo 0 = .ok (.aload_n 0, 1) := by decide +kernel
theorem dX7_undo_1 : decode cX7_undo 1 = .ok (.getfield 22, 3) := by decide +kernel
theorem dX7_undo_4 : decode cX7_undo 4 = .ok (.aload_n 0, 1) := by decide +kernel
theorem dX7_undo_5 : decode cX7_undo 5 = .ok (.getfield 12, 3) := by decide +kernel
theorem dX7_undo_8 : decode cX7_undo 8 = .ok (.invokevirtual 180, 3) := by decide +kernel
theorem dX7_undo_11 : decode cX7_undo 11 = .ok (.ireturn, 1) := by decide +kernel
abbrev mX7_undo : XM := (cX7_undo, 1, RX7, (some .int), shw_M, 4)
noncomputable def rg_X7_undo_0 : XK :=
 o_aload 0 <|
 o_get shw_M 7 2 <|
 o_aload 0 <|
 o_get shw_M 7 0 <|
 o_callVg 2 1 [3, 4, 5, 6, 7, 8, 9, 10, 11, 12, 13, 14, 15, 16, 1] g_X5_takeBack v_X5_takeBack <|
 o_ireturn
def en_X7_undo_0 (h0 : Ob) (h2 : Ob) (h4 : Ob) (h5 : Ob) (h6 : Ob) (h7 : Ob) (h8 : Ob) (h9 : Ob) (h10 : Ob) (h11 : Ob) (h12 : Ob) (h13 : Ob) (h14 : Ob) (h15 : Ob) (h16 : Ob) (h17 : Ob) (h18 : Ob) (h19 : Ob) (h20 : Ob) (h21 : Ob) (h22 : Ob) (h23 : Ob) (h24 : Ob) (a : Ob × Ob) : XSt := ([some (.inr (.inl (0, 0)))], [], [h0, a.1, h2, a.2, h4, h5, h6, h7, h8, h9, h10, h11, h12, h13, h14, h15, h16, h17, h18, h19, h20, h21, h22, h23, h24])
noncomputable def mg_X7_undo_0 (h0 : Ob) (h2 : Ob) (h4 : Ob) (h5 : Ob) (h6 : Ob) (h7 : Ob) (h8 : Ob) (h9 : Ob) (h10 : Ob) (h11 : Ob) (h12 : Ob) (h13 : Ob) (h14 : Ob) (h15 : Ob) (h16 : Ob) (h17 : Ob) (h18 : Ob) (h19 : Ob) (h20 : Ob) (h21 : Ob) (h22 : Ob) (h23 : Ob) (h24 : Ob) (a : Ob × Ob) : Option Rt :=
 if pd (PG a.2) then (
 RI (tkR a.2) [h0, (tkH a.2 a.1 [h4, h5, h6, h7, h8, h9, h10, h11, h12, h13, h14, h15, h16]), h2, (tkP a.2), h4, h5, h6, h7, h8, h9, h10, h11, h12, h13, h14, h15, h16, h17, h18, h19, h20, h21, h22, h23, h24]) else none
set_option maxRecDepth 100000 in
set_option maxHeartbeats 4000000 in
theorem rq_X7_undo_0 (h0 : Ob) (h2 : Ob) (h4 : Ob) (h5 : Ob) (h6 : Ob) (h7 : Ob) (h8 : Ob) (h9 : Ob) (h10 : Ob) (h11 : Ob) (h12 : Ob) (h13 : Ob) (h14 : Ob) (h15 : Ob) (h16 : Ob) (h17 : Ob) (h18 : Ob) (h19 : Ob) (h20 : Ob) (h21 : Ob) (h22 : Ob) (h23 : Ob) (h24 : Ob) (a : Ob × Ob) : rg_X7_undo_0 (en_X7_undo_0 h0 h2 h4 h5 h6 h7 h8 h9 h10 h11 h12 h13 h14 h15 h16 h17 h18 h19 h20 h21 h22 h23 h24 a) = mg_X7_undo_0 h0 h2 h4 h5 h6 h7 h8 h9 h10 h11 h12 h13 h14 h15 h16 h17 h18 h19 h20 h21 h22 h23 h24 a := rfl
set_option maxRecDepth 100000 in
set_option maxHeartbeats 4000000 in
theorem sg_X7_undo_0 {X : XDyn} {r0 : Rt} (C : XO X mX7_undo) : XS X mX7_undo r0 0 (rg_X7_undo_0) := by
 unfold rg_X7_undo_0
 exact s_aload_n (pc := 0) C dX7_undo_0 rfl <|
    s_get (pc := 1) C (ci := 7) (kf := 2) rfl inX7 (by decide) wd_314 dX7_undo_1 <|
    s_aload_n (pc := 4) C dX7_undo_4 rfl <|
    s_get (pc := 5) C (ci := 7) (kf := 0) rfl inX7 (by decide) wd_312 dX7_undo_5 <|
    s_callVg (pc := 8) C ct_X5_takeBack (n := 2) (rk := 1) (mp := [3, 4, 5, 6, 7, 8, 9, 10, 11, 12, 13, 14, 15, 16, 1]) ⟨rfl, by decide, rfl⟩ (ci := 5) rfl rfl (by decide) (by decide) yi_X5_takeBack (by decide) wd_714 wd_715 wd_716 wd_75 wd_717 dX7_undo_8 <|
    s_ireturn (pc := 11) C rfl dX7_undo_11
noncomputable def rw_X7_undo_0 : XK := rg_X7_undo_0
noncomputable def md_X7_undo_0 (h0 : Ob) (h2 : Ob) (h4 : Ob) (h5 : Ob) (h6 : Ob) (h7 : Ob) (h8 : Ob) (h9 : Ob) (h10 : Ob) (h11 : Ob) (h12 : Ob) (h13 : Ob) (h14 : Ob) (h15 : Ob) (h16 : Ob) (h17 : Ob) (h18 : Ob) (h19 : Ob) (h20 : Ob) (h21 : Ob) (h22 : Ob) (h23 : Ob) (h24 : Ob) : Ob × Ob → Option Rt := mg_X7_undo_0 h0 h2 h4 h5 h6 h7 h8 h9 h10 h11 h12 h13 h14 h15 h16 h17 h18 h19 h20 h21 h22 h23 h24
theorem eq_X7_undo_0 (h0 : Ob) (h2 : Ob) (h4 : Ob) (h5 : Ob) (h6 : Ob) (h7 : Ob) (h8 : Ob) (h9 : Ob) (h10 : Ob) (h11 : Ob) (h12 : Ob) (h13 : Ob) (h14 : Ob) (h15 : Ob) (h16 : Ob) (h17 : Ob) (h18 : Ob) (h19 : Ob) (h20 : Ob) (h21 : Ob) (h22 : Ob) (h23 : Ob) (h24 : Ob) (a : Ob × Ob) : rw_X7_undo_0 (en_X7_undo_0 h0 h2 h4 h5 h6 h7 h8 h9 h10 h11 h12 h13 h14 h15 h16 h17 h18 h19 h20 h21 h22 h23 h24 a) = md_X7_undo_0 h0 h2 h4 h5 h6 h7 h8 h9 h10 h11 h12 h13 h14 h15 h16 h17 h18 h19 h20 h21 h22 h23 h24 a :=
 rq_X7_undo_0 h0 h2 h4 h5 h6 h7 h8 h9 h10 h11 h12 h13 h14 h15 h16 h17 h18 h19 h20 h21 h22 h23 h24 a
theorem sd_X7_undo_0 {X : XDyn} {r0 : Rt} (C : XO X mX7_undo) : XS X mX7_undo r0 0 (rw_X7_undo_0) := sg_X7_undo_0 C
theorem ctr_X7_undo : XCt yX7_undo mX7_undo (xF mX7_undo (rw_X7_undo_0)) := xMet (by decide +kernel) rfl (fun _ _ C => sd_X7_undo_0 C)
theorem eqf_X7_undo (h0 : Ob) (h1 : Ob) (h2 : Ob) (h3 : Ob) (h4 : Ob) (h5 : Ob) (h6 : Ob) (h7 : Ob) (h8 : Ob) (h9 : Ob) (h10 : Ob) (h11 : Ob) (h12 : Ob) (h13 : Ob) (h14 : Ob) (h15 : Ob) (h16 : Ob) (h17 : Ob) (h18 : Ob) (h19 : Ob) (h20 : Ob) (h21 : Ob) (h22 : Ob) (h23 : Ob) (h24 : Ob) : xF mX7_undo (rw_X7_undo_0) [.inr (.inl (0, 0))] [h0, h1, h2, h3, h4, h5, h6, h7, h8, h9, h10, h11, h12, h13, h14, h15, h16, h17, h18, h19, h20, h21, h22, h23, h24] = md_X7_undo_0 h0 h2 h4 h5 h6 h7 h8 h9 h10 h11 h12 h13 h14 h15 h16 h17 h18 h19 h20 h21 h22 h23 h24 (h1, h3) := eq_X7_undo_0 h0 h2 h4 h5 h6 h7 h8 h9 h10 h11 h12 h13 h14 h15 h16 h17 h18 h19 h20 h21 h22 h23 h24 (h1, h3)
theorem yi_X7_undo : yX7_undo.cls = RX7 ∧ yX7_undo.cls ≠ "java/lang/invoke/MethodHandle" ∧ yX7_undo.cls ≠ "java/lang/invoke/VarHandle" ∧ (parseMethodDescriptor yX7_undo.desc).map (fun d => d.parameters.length) = some 0 := ⟨rfl, by decide +kernel, by decide +kernel, by decide +kernel⟩
