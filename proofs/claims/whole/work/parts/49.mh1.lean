noncomputable def finO (h : Ob) (a : Int) : Ob := if hdl a then xset (xset h 0 11 (h 0 11 + 1)) 7 (xw a).toNat (h 0 11 + 1) else xset h 0 11 (h 0 11 + 1)
noncomputable def prF (F A g q h : Ob) (a z : Int) : Int × Ob × Ob × Ob × Ob × Ob :=
  if xw (z - h 2 (xw a).toNat) > xw (frb h a) then (if mov h a then fsF F A g q h (z + 1) a else (-1, F, A, g, q, h)) else (h 1 (xw a).toNat, F, A, g, q, h)
noncomputable def abO (p : Ob) (z : Int) : Ob := if xw z ≤ 0 then p else pkA p (z + 1)
theorem dX7_finish_0 : decode cX7_finish 0 = .ok (.aload_n 0, 1) := by decide +kernel
theorem dX7_finish_1 : decode cX7_finish 1 = .ok (.getfield 12, 3) := by decide +kernel
theorem dX7_finish_4 : decode cX7_finish 4 = .ok (.dup, 1) := by decide +kernel
theorem dX7_finish_5 : decode cX7_finish 5 = .ok (.getfield 259, 3) := by decide +kernel
theorem dX7_finish_8 : decode cX7_finish 8 = .ok (.iconst 1, 1) := by decide +kernel
theorem dX7_finish_9 : decode cX7_finish 9 = .ok (.iadd, 1) := by decide +kernel
theorem dX7_finish_10 : decode cX7_finish 10 = .ok (.putfield 259, 3) := by decide +kernel
theorem dX7_finish_13 : decode cX7_finish 13 = .ok (.iload_n 1, 1) := by decide +kernel
theorem dX7_finish_14 : decode cX7_finish 14 = .ok (.invokestatic 183, 3) := by decide +kernel
theorem dX7_finish_17 : decode cX7_finish 17 = .ok (.ifCond .eq 19, 3) := by decide +kernel
theorem dX7_finish_20 : decode cX7_finish 20 = .ok (.aload_n 0, 1) := by decide +kernel
theorem dX7_finish_21 : decode cX7_finish 21 = .ok (.getfield 12, 3) := by decide +kernel
theorem dX7_finish_24 : decode cX7_finish 24 = .ok (.getfield 186, 3) := by decide +kernel
theorem dX7_finish_27 : decode cX7_finish 27 = .ok (.iload_n 1, 1) := by decide +kernel
theorem dX7_finish_28 : decode cX7_finish 28 = .ok (.aload_n 0, 1) := by decide +kernel
theorem dX7_finish_29 : decode cX7_finish 29 = .ok (.getfield 12, 3) := by decide +kernel
theorem dX7_finish_32 : decode cX7_finish 32 = .ok (.getfield 259, 3) := by decide +kernel
theorem dX7_finish_35 : decode cX7_finish 35 = .ok (.iastore, 1) := by decide +kernel
theorem dX7_finish_36 : decode cX7_finish 36 = .ok (.aload_n 0, 1) := by decide +kernel
theorem dX7_finish_37 : decode cX7_finish 37 = .ok (.getfield 22, 3) := by decide +kernel
theorem dX7_finish_40 : decode cX7_finish 40 = .ok (.invokevirtual 313, 3) := by decide +kernel
theorem dX7_finish_43 : decode cX7_finish 43 = .ok (.return_, 1) := by decide +kernel
abbrev mX7_finish : XM := (cX7_finish, 2, RX7, none, shw_M, 1)
noncomputable def rg_X7_finish_0 (k36 : XK) : XK :=
 o_aload 0 <|
 o_get shw_M 7 0 <|
 o_dup <|
 o_get shw_M 3 11 <|
 o_iconst 1 <|
 o_iadd <|
 o_put shw_M 3 11 false <|
 o_iload 1 <|
 o_callS 1 1 [] f_X7_isHandle <|
 o_if_eq (o_cut [] k36)
 (o_aload 0 <|
 o_get shw_M 7 0 <|
 o_get shw_M 3 6 <|
 o_iload 1 <|
 o_aload 0 <|
 o_get shw_M 7 0 <|
 o_get shw_M 3 11 <|
 o_iast shw_M <|
 o_cut [] k36)
def en_X7_finish_0 (p1 : Int) (h0 : Ob) (h2 : Ob) (h4 : Ob) (h5 : Ob) (h6 : Ob) (h7 : Ob) (h8 : Ob) (h9 : Ob) (h10 : Ob) (h11 : Ob) (h12 : Ob) (h13 : Ob) (h14 : Ob) (h15 : Ob) (h16 : Ob) (h17 : Ob) (h18 : Ob) (h19 : Ob) (h20 : Ob) (h21 : Ob) (h22 : Ob) (h23 : Ob) (h24 : Ob) (a : Ob × Ob) : XSt := ([some (.inr (.inl (0, 0))), some (.inl p1)], [], [h0, a.1, h2, a.2, h4, h5, h6, h7, h8, h9, h10, h11, h12, h13, h14, h15, h16, h17, h18, h19, h20, h21, h22, h23, h24])
noncomputable def rg_X7_finish_36 : XK :=
 o_aload 0 <|
 o_get shw_M 7 2 <|
 o_callV 1 0 [3, 4, 5, 6, 7, 8, 9, 10, 11, 12, 13, 14, 15, 16] f_X5_keep <|
 o_return
def en_X7_finish_36 (p1 : Int) (h0 : Ob) (h2 : Ob) (h4 : Ob) (h5 : Ob) (h6 : Ob) (h7 : Ob) (h8 : Ob) (h9 : Ob) (h10 : Ob) (h11 : Ob) (h12 : Ob) (h13 : Ob) (h14 : Ob) (h15 : Ob) (h16 : Ob) (h17 : Ob) (h18 : Ob) (h19 : Ob) (h20 : Ob) (h21 : Ob) (h22 : Ob) (h23 : Ob) (h24 : Ob) (a : Ob × Ob) : XSt := ([some (.inr (.inl (0, 0))), some (.inl p1)], [], [h0, a.1, h2, a.2, h4, h5, h6, h7, h8, h9, h10, h11, h12, h13, h14, h15, h16, h17, h18, h19, h20, h21, h22, h23, h24])
noncomputable def mg_X7_finish_0 (p1 : Int) (h0 : Ob) (h2 : Ob) (h4 : Ob) (h5 : Ob) (h6 : Ob) (h7 : Ob) (h8 : Ob) (h9 : Ob) (h10 : Ob) (h11 : Ob) (h12 : Ob) (h13 : Ob) (h14 : Ob) (h15 : Ob) (h16 : Ob) (h17 : Ob) (h18 : Ob) (h19 : Ob) (h20 : Ob) (h21 : Ob) (h22 : Ob) (h23 : Ob) (h24 : Ob) (k36 : (Ob × Ob) → Option Rt) (a : Ob × Ob) : Option Rt :=
 if xw (bz (hdl p1)) = 0 then (k36 ((xset a.1 0 11 ((a.1 0 11) + 1)), a.2))
 else (if xin p1 8 then (
 k36 ((xset (xset a.1 0 11 ((a.1 0 11) + 1)) 7 (xw p1).toNat ((xset a.1 0 11 ((a.1 0 11) + 1)) 0 11)), a.2)) else none)
set_option maxRecDepth 100000 in
set_option maxHeartbeats 4000000 in
theorem rq_X7_finish_0 (p1 : Int) (h0 : Ob) (h2 : Ob) (h4 : Ob) (h5 : Ob) (h6 : Ob) (h7 : Ob) (h8 : Ob) (h9 : Ob) (h10 : Ob) (h11 : Ob) (h12 : Ob) (h13 : Ob) (h14 : Ob) (h15 : Ob) (h16 : Ob) (h17 : Ob) (h18 : Ob) (h19 : Ob) (h20 : Ob) (h21 : Ob) (h22 : Ob) (h23 : Ob) (h24 : Ob) (k36 : XK) (a : Ob × Ob) : rg_X7_finish_0 k36 (en_X7_finish_0 p1 h0 h2 h4 h5 h6 h7 h8 h9 h10 h11 h12 h13 h14 h15 h16 h17 h18 h19 h20 h21 h22 h23 h24 a) = mg_X7_finish_0 p1 h0 h2 h4 h5 h6 h7 h8 h9 h10 h11 h12 h13 h14 h15 h16 h17 h18 h19 h20 h21 h22 h23 h24 (fun b => k36 (en_X7_finish_36 p1 h0 h2 h4 h5 h6 h7 h8 h9 h10 h11 h12 h13 h14 h15 h16 h17 h18 h19 h20 h21 h22 h23 h24 b)) a := rfl
set_option maxRecDepth 100000 in
set_option maxHeartbeats 4000000 in
theorem sg_X7_finish_0 {X : XDyn} {r0 : Rt} (C : XO X mX7_finish) {k36 : XK} (q36 : XS X mX7_finish r0 36 k36) : XS X mX7_finish r0 0 (rg_X7_finish_0 k36) := by
 unfold rg_X7_finish_0
 exact s_aload_n (pc := 0) C dX7_finish_0 rfl <|
    s_get (pc := 1) C (ci := 7) (kf := 0) rfl inX7 (by decide) wd_312 dX7_finish_1 <|
    s_dup (pc := 4) C dX7_finish_4 <|
    s_get (pc := 5) C (ci := 3) (kf := 11) rfl inX3 (by decide) wd_132 dX7_finish_5 <|
    s_iconst (pc := 8) C dX7_finish_8 <|
    s_iadd (pc := 9) C dX7_finish_9 <|
    s_put (pc := 10) (z := false) C (ci := 3) (kf := 11) rfl inX3 tyX3_ok nmX3 (by decide) wd_132 rfl rfl dX7_finish_10 <|
    s_iload_n (pc := 13) C dX7_finish_13 rfl <|
    s_callS (pc := 14) C ct_X7_isHandle (n := 1) (rk := 1) (mp := []) ⟨rfl, by decide, rfl⟩ (by decide) (by decide) ⟨rfl, yi_X7_isHandle⟩ wd_546 wd_383 wd_73 wd_384 dX7_finish_14 <|
    s_if_eq (pc := 17) C dX7_finish_17 (by decide) (s_cut q36)
    (s_aload_n (pc := 20) C dX7_finish_20 rfl <|
    s_get (pc := 21) C (ci := 7) (kf := 0) rfl inX7 (by decide) wd_312 dX7_finish_21 <|
    s_get (pc := 24) C (ci := 3) (kf := 6) rfl inX3 (by decide) wd_120 dX7_finish_24 <|
    s_iload_n (pc := 27) C dX7_finish_27 rfl <|
    s_aload_n (pc := 28) C dX7_finish_28 rfl <|
    s_get (pc := 29) C (ci := 7) (kf := 0) rfl inX7 (by decide) wd_312 dX7_finish_29 <|
    s_get (pc := 32) C (ci := 3) (kf := 11) rfl inX3 (by decide) wd_132 dX7_finish_32 <|
    s_iast (pc := 35) C dX7_finish_35 <|
    s_cut q36)
noncomputable def mg_X7_finish_36 (p1 : Int) (h0 : Ob) (h2 : Ob) (h4 : Ob) (h5 : Ob) (h6 : Ob) (h7 : Ob) (h8 : Ob) (h9 : Ob) (h10 : Ob) (h11 : Ob) (h12 : Ob) (h13 : Ob) (h14 : Ob) (h15 : Ob) (h16 : Ob) (h17 : Ob) (h18 : Ob) (h19 : Ob) (h20 : Ob) (h21 : Ob) (h22 : Ob) (h23 : Ob) (h24 : Ob) (a : Ob × Ob) : Option Rt :=
 RV [h0, a.1, h2, (keeO a.2), h4, h5, h6, h7, h8, h9, h10, h11, h12, h13, h14, h15, h16, h17, h18, h19, h20, h21, h22, h23, h24]
set_option maxRecDepth 100000 in
set_option maxHeartbeats 4000000 in
theorem rq_X7_finish_36 (p1 : Int) (h0 : Ob) (h2 : Ob) (h4 : Ob) (h5 : Ob) (h6 : Ob) (h7 : Ob) (h8 : Ob) (h9 : Ob) (h10 : Ob) (h11 : Ob) (h12 : Ob) (h13 : Ob) (h14 : Ob) (h15 : Ob) (h16 : Ob) (h17 : Ob) (h18 : Ob) (h19 : Ob) (h20 : Ob) (h21 : Ob) (h22 : Ob) (h23 : Ob) (h24 : Ob) (a : Ob × Ob) : rg_X7_finish_36 (en_X7_finish_36 p1 h0 h2 h4 h5 h6 h7 h8 h9 h10 h11 h12 h13 h14 h15 h16 h17 h18 h19 h20 h21 h22 h23 h24 a) = mg_X7_finish_36 p1 h0 h2 h4 h5 h6 h7 h8 h9 h10 h11 h12 h13 h14 h15 h16 h17 h18 h19 h20 h21 h22 h23 h24 a := rfl
set_option maxRecDepth 100000 in
set_option maxHeartbeats 4000000 in
theorem sg_X7_finish_36 {X : XDyn} {r0 : Rt} (C : XO X mX7_finish) : XS X mX7_finish r0 36 (rg_X7_finish_36) := by
 unfold rg_X7_finish_36
 exact s_aload_n (pc := 36) C dX7_finish_36 rfl <|
    s_get (pc := 37) C (ci := 7) (kf := 2) rfl inX7 (by decide) wd_314 dX7_finish_37 <|
    s_callV (pc := 40) C ct_X5_keep (n := 1) (rk := 0) (mp := [3, 4, 5, 6, 7, 8, 9, 10, 11, 12, 13, 14, 15, 16]) ⟨rfl, by decide, rfl⟩ (ci := 5) rfl rfl (by decide) (by decide) yi_X5_keep (by decide) wd_547 wd_548 wd_549 wd_75 wd_550 dX7_finish_40 <|
    s_return (pc := 43) C rfl dX7_finish_43
noncomputable def rw_X7_finish_36 : XK := rg_X7_finish_36
noncomputable def md_X7_finish_36 (p1 : Int) (h0 : Ob) (h2 : Ob) (h4 : Ob) (h5 : Ob) (h6 : Ob) (h7 : Ob) (h8 : Ob) (h9 : Ob) (h10 : Ob) (h11 : Ob) (h12 : Ob) (h13 : Ob) (h14 : Ob) (h15 : Ob) (h16 : Ob) (h17 : Ob) (h18 : Ob) (h19 : Ob) (h20 : Ob) (h21 : Ob) (h22 : Ob) (h23 : Ob) (h24 : Ob) : Ob × Ob → Option Rt := mg_X7_finish_36 p1 h0 h2 h4 h5 h6 h7 h8 h9 h10 h11 h12 h13 h14 h15 h16 h17 h18 h19 h20 h21 h22 h23 h24
theorem eq_X7_finish_36 (p1 : Int) (h0 : Ob) (h2 : Ob) (h4 : Ob) (h5 : Ob) (h6 : Ob) (h7 : Ob) (h8 : Ob) (h9 : Ob) (h10 : Ob) (h11 : Ob) (h12 : Ob) (h13 : Ob) (h14 : Ob) (h15 : Ob) (h16 : Ob) (h17 : Ob) (h18 : Ob) (h19 : Ob) (h20 : Ob) (h21 : Ob) (h22 : Ob) (h23 : Ob) (h24 : Ob) (a : Ob × Ob) : rw_X7_finish_36 (en_X7_finish_36 p1 h0 h2 h4 h5 h6 h7 h8 h9 h10 h11 h12 h13 h14 h15 h16 h17 h18 h19 h20 h21 h22 h23 h24 a) = md_X7_finish_36 p1 h0 h2 h4 h5 h6 h7 h8 h9 h10 h11 h12 h13 h14 h15 h16 h17 h18 h19 h20 h21 h22 h23 h24 a :=
 rq_X7_finish_36 p1 h0 h2 h4 h5 h6 h7 h8 h9 h10 h11 h12 h13 h14 h15 h16 h17 h18 h19 h20 h21 h22 h23 h24 a
theorem sd_X7_finish_36 {X : XDyn} {r0 : Rt} (C : XO X mX7_finish) : XS X mX7_finish r0 36 (rw_X7_finish_36) := sg_X7_finish_36 C
noncomputable def rw_X7_finish_0 : XK := rg_X7_finish_0 (rw_X7_finish_36)
noncomputable def md_X7_finish_0 (p1 : Int) (h0 : Ob) (h2 : Ob) (h4 : Ob) (h5 : Ob) (h6 : Ob) (h7 : Ob) (h8 : Ob) (h9 : Ob) (h10 : Ob) (h11 : Ob) (h12 : Ob) (h13 : Ob) (h14 : Ob) (h15 : Ob) (h16 : Ob) (h17 : Ob) (h18 : Ob) (h19 : Ob) (h20 : Ob) (h21 : Ob) (h22 : Ob) (h23 : Ob) (h24 : Ob) : Ob × Ob → Option Rt := mg_X7_finish_0 p1 h0 h2 h4 h5 h6 h7 h8 h9 h10 h11 h12 h13 h14 h15 h16 h17 h18 h19 h20 h21 h22 h23 h24 (md_X7_finish_36 p1 h0 h2 h4 h5 h6 h7 h8 h9 h10 h11 h12 h13 h14 h15 h16 h17 h18 h19 h20 h21 h22 h23 h24)
theorem eq_X7_finish_0 (p1 : Int) (h0 : Ob) (h2 : Ob) (h4 : Ob) (h5 : Ob) (h6 : Ob) (h7 : Ob) (h8 : Ob) (h9 : Ob) (h10 : Ob) (h11 : Ob) (h12 : Ob) (h13 : Ob) (h14 : Ob) (h15 : Ob) (h16 : Ob) (h17 : Ob) (h18 : Ob) (h19 : Ob) (h20 : Ob) (h21 : Ob) (h22 : Ob) (h23 : Ob) (h24 : Ob) (a : Ob × Ob) : rw_X7_finish_0 (en_X7_finish_0 p1 h0 h2 h4 h5 h6 h7 h8 h9 h10 h11 h12 h13 h14 h15 h16 h17 h18 h19 h20 h21 h22 h23 h24 a) = md_X7_finish_0 p1 h0 h2 h4 h5 h6 h7 h8 h9 h10 h11 h12 h13 h14 h15 h16 h17 h18 h19 h20 h21 h22 h23 h24 a :=
 (rq_X7_finish_0 p1 h0 h2 h4 h5 h6 h7 h8 h9 h10 h11 h12 h13 h14 h15 h16 h17 h18 h19 h20 h21 h22 h23 h24 (rw_X7_finish_36) a).trans (congrFun (congr (rfl : mg_X7_finish_0 p1 h0 h2 h4 h5 h6 h7 h8 h9 h10 h11 h12 h13 h14 h15 h16 h17 h18 h19 h20 h21 h22 h23 h24 = mg_X7_finish_0 p1 h0 h2 h4 h5 h6 h7 h8 h9 h10 h11 h12 h13 h14 h15 h16 h17 h18 h19 h20 h21 h22 h23 h24) (funext (eq_X7_finish_36 p1 h0 h2 h4 h5 h6 h7 h8 h9 h10 h11 h12 h13 h14 h15 h16 h17 h18 h19 h20 h21 h22 h23 h24))) a)
theorem sd_X7_finish_0 {X : XDyn} {r0 : Rt} (C : XO X mX7_finish) : XS X mX7_finish r0 0 (rw_X7_finish_0) := sg_X7_finish_0 C (sd_X7_finish_36 C)
theorem ctr_X7_finish : XCt yX7_finish mX7_finish (xF mX7_finish (rw_X7_finish_0)) := xMet (by decide +kernel) rfl (fun _ _ C => sd_X7_finish_0 C)
theorem eqf_X7_finish (p1 : Int) (h0 : Ob) (h1 : Ob) (h2 : Ob) (h3 : Ob) (h4 : Ob) (h5 : Ob) (h6 : Ob) (h7 : Ob) (h8 : Ob) (h9 : Ob) (h10 : Ob) (h11 : Ob) (h12 : Ob) (h13 : Ob) (h14 : Ob) (h15 : Ob) (h16 : Ob) (h17 : Ob) (h18 : Ob) (h19 : Ob) (h20 : Ob) (h21 : Ob) (h22 : Ob) (h23 : Ob) (h24 : Ob) : xF mX7_finish (rw_X7_finish_0) [.inr (.inl (0, 0)), .inl p1] [h0, h1, h2, h3, h4, h5, h6, h7, h8, h9, h10, h11, h12, h13, h14, h15, h16, h17, h18, h19, h20, h21, h22, h23, h24] = md_X7_finish_0 p1 h0 h2 h4 h5 h6 h7 h8 h9 h10 h11 h12 h13 h14 h15 h16 h17 h18 h19 h20 h21 h22 h23 h24 (h1, h3) := eq_X7_finish_0 p1 h0 h2 h4 h5 h6 h7 h8 h9 h10 h11 h12 h13 h14 h15 h16 h17 h18 h19 h20 h21 h22 h23 h24 (h1, h3)
theorem yi_X7_finish : yX7_finish.cls = RX7 ∧ yX7_finish.cls ≠ "java/lang/invoke/MethodHandle" ∧ yX7_finish.cls ≠ "java/lang/invoke/VarHandle" ∧ (parseMethodDescriptor yX7_finish.desc).map (fun d => d.parameters.length) = some 1 := ⟨rfl, by decide +kernel, by decide +kernel, by decide +kernel⟩
theorem sp_X7_finish (p1 : Int) (h0 h1 h2 h3 h4 h5 h6 h7 h8 h9 h10 h11 h12 h13 h14 h15 h16 h17 h18 h19 h20 h21 h22 h23 h24 : Ob) : md_X7_finish_0 p1 h0 h2 h4 h5 h6 h7 h8 h9 h10 h11 h12 h13 h14 h15 h16 h17 h18 h19 h20 h21 h22 h23 h24 (h1, h3) = RV [h0, (finO h1 p1), h2, (keeO h3), h4, h5, h6, h7, h8, h9, h10, h11, h12, h13, h14, h15, h16, h17, h18, h19, h20, h21, h22, h23, h24] := by
  simp only [md_X7_finish_0, mg_X7_finish_0, md_X7_finish_36, mg_X7_finish_36, bz_0]
  unfold finO
  cases hh : hdl p1
  · rfl
  · obtain ⟨q1, q2⟩ := hdl_iff.mp hh
    rw [if_neg (by simp), xin_of (n := 8) q1 q2]
    rfl
noncomputable def f_X7_finish : List AV → List Ob → Option Rt
  | [.inr (.inl (0, 0)), .inl p1], [h0, h1, h2, h3, h4, h5, h6, h7, h8, h9, h10, h11, h12, h13, h14, h15, h16, h17, h18, h19, h20, h21, h22, h23, h24] => some (none, [h0, (finO h1 p1), h2, (keeO h3), h4, h5, h6, h7, h8, h9, h10, h11, h12, h13, h14, h15, h16, h17, h18, h19, h20, h21, h22, h23, h24])
  | _, _ => none
theorem ct_X7_finish : XCt yX7_finish mX7_finish f_X7_finish := (ctr_X7_finish ).of (fun as μ r h => by
  unfold f_X7_finish at h
  split at h
  · rw [← h]
    exact (eqf_X7_finish _ _ _ _ _ _ _ _ _ _ _ _ _ _ _ _ _ _ _ _ _ _ _ _ _ _).trans (sp_X7_finish _ _ _ _ _ _ _ _ _ _ _ _ _ _ _ _ _ _ _ _ _ _ _ _ _ _)
  · cases h)
theorem dX7_tell_0 : decode cX7_tell 0 = .ok (.aload_n 0, 1) := by decide +kernel
theorem dX7_tell_1 : decode cX7_tell 1 = .ok (.getfield 22, 3) := by decide +kernel
theorem dX7_tell_4 : decode cX7_tell 4 = .ok (.aload_n 0, 1) := by decide +kernel
theorem dX7_tell_5 : decode cX7_tell 5 = .ok (.getfield 12, 3) := by decide +kernel
theorem dX7_tell_8 : decode cX7_tell 8 = .ok (.invokevirtual 69, 3) := by decide +kernel
theorem dX7_tell_11 : decode cX7_tell 11 = .ok (.aload_n 0, 1) := by decide +kernel
theorem dX7_tell_12 : decode cX7_tell 12 = .ok (.getfield 12, 3) := by decide +kernel
theorem dX7_tell_15 : decode cX7_tell 15 = .ok (.iload_n 1, 1) := by decide +kernel
theorem dX7_tell_16 : decode cX7_tell 16 = .ok (.iload_n 2, 1) := by decide +kernel
theorem dX7_tell_17 : decode cX7_tell 17 = .ok (.invokevirtual 192, 3) := by decide +kernel
theorem dX7_tell_20 : decode cX7_tell 20 = .ok (.istore 4, 2) := by decide +kernel
theorem dX7_tell_22 : decode cX7_tell 22 = .ok (.aload_n 0, 1) := by decide +kernel
theorem dX7_tell_23 : decode cX7_tell 23 = .ok (.getfield 12, 3) := by decide +kernel
theorem dX7_tell_26 : decode cX7_tell 26 = .ok (.iload_n 1, 1) := by decide +kernel
theorem dX7_tell_27 : decode cX7_tell 27 = .ok (.iload_n 2, 1) := by decide +kernel
theorem dX7_tell_28 : decode cX7_tell 28 = .ok (.iload_n 3, 1) := by decide +kernel
theorem dX7_tell_29 : decode cX7_tell 29 = .ok (.invokevirtual 316, 3) := by decide +kernel
theorem dX7_tell_32 : decode cX7_tell 32 = .ok (.iload 4, 2) := by decide +kernel
theorem dX7_tell_34 : decode cX7_tell 34 = .ok (.ireturn, 1) := by decide +kernel
abbrev mX7_tell : XM := (cX7_tell, 5, RX7, (some .int), shw_M, 3)
noncomputable def rg_X7_tell_0 : XK :=
 o_aload 0 <|
 o_get shw_M 7 2 <|
 o_aload 0 <|
 o_get shw_M 7 0 <|
 o_callVg 2 0 [3, 4, 5, 6, 7, 8, 9, 10, 11, 12, 13, 14, 15, 16, 1] g_X5_save v_X5_save <|
 o_aload 0 <|
 o_get shw_M 7 0 <|
 o_iload 1 <|
 o_iload 2 <|
 o_callV 3 1 [1] f_X3_contentOf <|
 o_istore 4 <|
 o_aload 0 <|
 o_get shw_M 7 0 <|
 o_iload 1 <|
 o_iload 2 <|
 o_iload 3 <|
 o_callV 4 0 [1] f_X3_setContent <|
 o_iload 4 <|
 o_ireturn
def en_X7_tell_0 (p1 : Int) (p2 : Int) (p3 : Int) (h0 : Ob) (h2 : Ob) (h3 : Ob) (h17 : Ob) (h18 : Ob) (h19 : Ob) (h20 : Ob) (h21 : Ob) (h22 : Ob) (h23 : Ob) (h24 : Ob) (a : Ob × Ob × Ob × Ob × Ob × Ob × Ob × Ob × Ob × Ob × Ob × Ob × Ob × Ob) : XSt := ([some (.inr (.inl (0, 0))), some (.inl p1), some (.inl p2), some (.inl p3), none], [], [h0, a.1, h2, h3, a.2.1, a.2.2.1, a.2.2.2.1, a.2.2.2.2.1, a.2.2.2.2.2.1, a.2.2.2.2.2.2.1, a.2.2.2.2.2.2.2.1, a.2.2.2.2.2.2.2.2.1, a.2.2.2.2.2.2.2.2.2.1, a.2.2.2.2.2.2.2.2.2.2.1, a.2.2.2.2.2.2.2.2.2.2.2.1, a.2.2.2.2.2.2.2.2.2.2.2.2.1, a.2.2.2.2.2.2.2.2.2.2.2.2.2, h17, h18, h19, h20, h21, h22, h23, h24])
noncomputable def mg_X7_tell_0 (p1 : Int) (p2 : Int) (p3 : Int) (h0 : Ob) (h2 : Ob) (h3 : Ob) (h17 : Ob) (h18 : Ob) (h19 : Ob) (h20 : Ob) (h21 : Ob) (h22 : Ob) (h23 : Ob) (h24 : Ob) (a : Ob × Ob × Ob × Ob × Ob × Ob × Ob × Ob × Ob × Ob × Ob × Ob × Ob × Ob) : Option Rt :=
 if pd (PG h3) then (
 RI (conF a.1 p1 p2) [h0, (scoO a.1 p1 p2 p3), h2, h3, (svK h3 0 a.2.1 a.1), (svK h3 1 a.2.2.1 a.1), (svK h3 2 a.2.2.2.1 a.1), (svK h3 3 a.2.2.2.2.1 a.1), (svK h3 4 a.2.2.2.2.2.1 a.1), (svK h3 5 a.2.2.2.2.2.2.1 a.1), (svK h3 6 a.2.2.2.2.2.2.2.1 a.1), (svK h3 7 a.2.2.2.2.2.2.2.2.1 a.1), (svK h3 8 a.2.2.2.2.2.2.2.2.2.1 a.1), (svK h3 9 a.2.2.2.2.2.2.2.2.2.2.1 a.1), (svK h3 10 a.2.2.2.2.2.2.2.2.2.2.2.1 a.1), (svK h3 11 a.2.2.2.2.2.2.2.2.2.2.2.2.1 a.1), (svK h3 12 a.2.2.2.2.2.2.2.2.2.2.2.2.2 a.1), h17, h18, h19, h20, h21, h22, h23, h24]) else none
set_option maxRecDepth 100000 in
set_option maxHeartbeats 4000000 in
theorem rq_X7_tell_0 (p1 : Int) (p2 : Int) (p3 : Int) (h0 : Ob) (h2 : Ob) (h3 : Ob) (h17 : Ob) (h18 : Ob) (h19 : Ob) (h20 : Ob) (h21 : Ob) (h22 : Ob) (h23 : Ob) (h24 : Ob) (a : Ob × Ob × Ob × Ob × Ob × Ob × Ob × Ob × Ob × Ob × Ob × Ob × Ob × Ob) : rg_X7_tell_0 (en_X7_tell_0 p1 p2 p3 h0 h2 h3 h17 h18 h19 h20 h21 h22 h23 h24 a) = mg_X7_tell_0 p1 p2 p3 h0 h2 h3 h17 h18 h19 h20 h21 h22 h23 h24 a := rfl
set_option maxRecDepth 100000 in
set_option maxHeartbeats 4000000 in
theorem sg_X7_tell_0 {X : XDyn} {r0 : Rt} (C : XO X mX7_tell) : XS X mX7_tell r0 0 (rg_X7_tell_0) := by
 unfold rg_X7_tell_0
 exact s_aload_n (pc := 0) C dX7_tell_0 rfl <|
    s_get (pc := 1) C (ci := 7) (kf := 2) rfl inX7 (by decide) wd_314 dX7_tell_1 <|
    s_aload_n (pc := 4) C dX7_tell_4 rfl <|
    s_get (pc := 5) C (ci := 7) (kf := 0) rfl inX7 (by decide) wd_312 dX7_tell_5 <|
    s_callVg (pc := 8) C ct_X5_save (n := 2) (rk := 0) (mp := [3, 4, 5, 6, 7, 8, 9, 10, 11, 12, 13, 14, 15, 16, 1]) ⟨rfl, by decide, rfl⟩ (ci := 5) rfl rfl (by decide) (by decide) yi_X5_save (by decide) wd_360 wd_361 wd_362 wd_75 wd_363 dX7_tell_8 <|
    s_aload_n (pc := 11) C dX7_tell_11 rfl <|
    s_get (pc := 12) C (ci := 7) (kf := 0) rfl inX7 (by decide) wd_312 dX7_tell_12 <|
    s_iload_n (pc := 15) C dX7_tell_15 rfl <|
    s_iload_n (pc := 16) C dX7_tell_16 rfl <|
    s_callV (pc := 17) C ct_X3_contentOf (n := 3) (rk := 1) (mp := [1]) ⟨rfl, by decide, rfl⟩ (ci := 3) rfl rfl (by decide) (by decide) yi_X3_contentOf (by decide) wd_567 wd_568 wd_569 wd_74 wd_570 dX7_tell_17 <|
    s_istore (pc := 20) C dX7_tell_20 <|
    s_aload_n (pc := 22) C dX7_tell_22 rfl <|
    s_get (pc := 23) C (ci := 7) (kf := 0) rfl inX7 (by decide) wd_312 dX7_tell_23 <|
    s_iload_n (pc := 26) C dX7_tell_26 rfl <|
    s_iload_n (pc := 27) C dX7_tell_27 rfl <|
    s_iload_n (pc := 28) C dX7_tell_28 rfl <|
    s_callV (pc := 29) C ct_X3_setContent (n := 4) (rk := 0) (mp := [1]) ⟨rfl, by decide, rfl⟩ (ci := 3) rfl rfl (by decide) (by decide) yi_X3_setContent (by decide) wd_572 wd_573 wd_574 wd_74 wd_575 dX7_tell_29 <|
    s_iload (pc := 32) C dX7_tell_32 <|
    s_ireturn (pc := 34) C rfl dX7_tell_34
noncomputable def rw_X7_tell_0 : XK := rg_X7_tell_0
noncomputable def md_X7_tell_0 (p1 : Int) (p2 : Int) (p3 : Int) (h0 : Ob) (h2 : Ob) (h3 : Ob) (h17 : Ob) (h18 : Ob) (h19 : Ob) (h20 : Ob) (h21 : Ob) (h22 : Ob) (h23 : Ob) (h24 : Ob) : Ob × Ob × Ob × Ob × Ob × Ob × Ob × Ob × Ob × Ob × Ob × Ob × Ob × Ob → Option Rt := mg_X7_tell_0 p1 p2 p3 h0 h2 h3 h17 h18 h19 h20 h21 h22 h23 h24
theorem eq_X7_tell_0 (p1 : Int) (p2 : Int) (p3 : Int) (h0 : Ob) (h2 : Ob) (h3 : Ob) (h17 : Ob) (h18 : Ob) (h19 : Ob) (h20 : Ob) (h21 : Ob) (h22 : Ob) (h23 : Ob) (h24 : Ob) (a : Ob × Ob × Ob × Ob × Ob × Ob × Ob × Ob × Ob × Ob × Ob × Ob × Ob × Ob) : rw_X7_tell_0 (en_X7_tell_0 p1 p2 p3 h0 h2 h3 h17 h18 h19 h20 h21 h22 h23 h24 a) = md_X7_tell_0 p1 p2 p3 h0 h2 h3 h17 h18 h19 h20 h21 h22 h23 h24 a :=
 rq_X7_tell_0 p1 p2 p3 h0 h2 h3 h17 h18 h19 h20 h21 h22 h23 h24 a
theorem sd_X7_tell_0 {X : XDyn} {r0 : Rt} (C : XO X mX7_tell) : XS X mX7_tell r0 0 (rw_X7_tell_0) := sg_X7_tell_0 C
theorem ctr_X7_tell : XCt yX7_tell mX7_tell (xF mX7_tell (rw_X7_tell_0)) := xMet (by decide +kernel) rfl (fun _ _ C => sd_X7_tell_0 C)
theorem eqf_X7_tell (p1 : Int) (p2 : Int) (p3 : Int) (h0 : Ob) (h1 : Ob) (h2 : Ob) (h3 : Ob) (h4 : Ob) (h5 : Ob) (h6 : Ob) (h7 : Ob) (h8 : Ob) (h9 : Ob) (h10 : Ob) (h11 : Ob) (h12 : Ob) (h13 : Ob) (h14 : Ob) (h15 : Ob) (h16 : Ob) (h17 : Ob) (h18 : Ob) (h19 : Ob) (h20 : Ob) (h21 : Ob) (h22 : Ob) (h23 : Ob) (h24 : Ob) : xF mX7_tell (rw_X7_tell_0) [.inr (.inl (0, 0)), .inl p1, .inl p2, .inl p3] [h0, h1, h2, h3, h4, h5, h6, h7, h8, h9, h10, h11, h12, h13, h14, h15, h16, h17, h18, h19, h20, h21, h22, h23, h24] = md_X7_tell_0 p1 p2 p3 h0 h2 h3 h17 h18 h19 h20 h21 h22 h23 h24 (h1, h4, h5, h6, h7, h8, h9, h10, h11, h12, h13, h14, h15, h16) := eq_X7_tell_0 p1 p2 p3 h0 h2 h3 h17 h18 h19 h20 h21 h22 h23 h24 (h1, h4, h5, h6, h7, h8, h9, h10, h11, h12, h13, h14, h15, h16)
theorem yi_X7_tell : yX7_tell.cls = RX7 ∧ yX7_tell.cls ≠ "java/lang/invoke/MethodHandle" ∧ yX7_tell.cls ≠ "java/lang/invoke/VarHandle" ∧ (parseMethodDescriptor yX7_tell.desc).map (fun d => d.parameters.length) = some 3 := ⟨rfl, by decide +kernel, by decide +kernel, by decide +kernel⟩
theorem sp_X7_tell (p1 p2 p3 : Int) (h0 h1 h2 h3 h4 h5 h6 h7 h8 h9 h10 h11 h12 h13 h14 h15 h16 h17 h18 h19 h20 h21 h22 h23 h24 : Ob) (hg : (pd (PG h3)) = true) : md_X7_tell_0 p1 p2 p3 h0 h2 h3 h17 h18 h19 h20 h21 h22 h23 h24 (h1, h4, h5, h6, h7, h8, h9, h10, h11, h12, h13, h14, h15, h16) = RI (conF h1 p1 p2) [h0, (scoO h1 p1 p2 p3), h2, h3, (svK h3 0 h4 h1), (svK h3 1 h5 h1), (svK h3 2 h6 h1), (svK h3 3 h7 h1), (svK h3 4 h8 h1), (svK h3 5 h9 h1), (svK h3 6 h10 h1), (svK h3 7 h11 h1), (svK h3 8 h12 h1), (svK h3 9 h13 h1), (svK h3 10 h14 h1), (svK h3 11 h15 h1), (svK h3 12 h16 h1), h17, h18, h19, h20, h21, h22, h23, h24] := by
  simp only [md_X7_tell_0, mg_X7_tell_0]
  rw [if_pos hg]
noncomputable def g_X7_tell : List AV → List Ob → Bool
  | [.inr (.inl (0, 0)), .inl p1, .inl p2, .inl p3], [h0, h1, h2, h3, h4, h5, h6, h7, h8, h9, h10, h11, h12, h13, h14, h15, h16, h17, h18, h19, h20, h21, h22, h23, h24] => pd (PG h3)
  | _, _ => false
noncomputable def v_X7_tell : List AV → List Ob → Rt
  | [.inr (.inl (0, 0)), .inl p1, .inl p2, .inl p3], [h0, h1, h2, h3, h4, h5, h6, h7, h8, h9, h10, h11, h12, h13, h14, h15, h16, h17, h18, h19, h20, h21, h22, h23, h24] => (some (.inl (conF h1 p1 p2)), [h0, (scoO h1 p1 p2 p3), h2, h3, (svK h3 0 h4 h1), (svK h3 1 h5 h1), (svK h3 2 h6 h1), (svK h3 3 h7 h1), (svK h3 4 h8 h1), (svK h3 5 h9 h1), (svK h3 6 h10 h1), (svK h3 7 h11 h1), (svK h3 8 h12 h1), (svK h3 9 h13 h1), (svK h3 10 h14 h1), (svK h3 11 h15 h1), (svK h3 12 h16 h1), h17, h18, h19, h20, h21, h22, h23, h24])
  | _, _ => (none, [])
theorem ct_X7_tell : XCt yX7_tell mX7_tell (fun as μ => if g_X7_tell as μ then some (v_X7_tell as μ) else none) := (ctr_X7_tell ).of (fun as μ r h => by
  split at h
  · rename_i hg
    unfold g_X7_tell at hg
    split at hg
    · rw [← h]
      exact (eqf_X7_tell _ _ _ _ _ _ _ _ _ _ _ _ _ _ _ _ _ _ _ _ _ _ _ _ _ _ _ _).trans (sp_X7_tell _ _ _ _ _ _ _ _ _ _ _ _ _ _ _ _ _ _ _ _ _ _ _ _ _ _ _ _ hg)
    · cases hg
  · cases h)
theorem dX7_placeToResize_0 : decode cX7_placeToResize 0 = .ok (.iload_n 2, 1) := by decide +kernel
theorem dX7_placeToResize_1 : decode cX7_placeToResize 1 = .ok (.aload_n 0, 1) := by decide +kernel
theorem dX7_placeToResize_2 : decode cX7_placeToResize 2 = .ok (.getfield 12, 3) := by decide +kernel
theorem dX7_placeToResize_5 : decode cX7_placeToResize 5 = .ok (.getfield 132, 3) := by decide +kernel
theorem dX7_placeToResize_8 : decode cX7_placeToResize 8 = .ok (.iload_n 1, 1) := by decide +kernel
theorem dX7_placeToResize_9 : decode cX7_placeToResize 9 = .ok (.iaload, 1) := by decide +kernel
theorem dX7_placeToResize_10 : decode cX7_placeToResize 10 = .ok (.isub, 1) := by decide +kernel
theorem dX7_placeToResize_11 : decode cX7_placeToResize 11 = .ok (.aload_n 0, 1) := by decide +kernel
theorem dX7_placeToResize_12 : decode cX7_placeToResize 12 = .ok (.getfield 12, 3) := by decide +kernel
theorem dX7_placeToResize_15 : decode cX7_placeToResize 15 = .ok (.iload_n 1, 1) := by decide +kernel
theorem dX7_placeToResize_16 : decode cX7_placeToResize 16 = .ok (.invokevirtual 319, 3) := by decide +kernel
theorem dX7_placeToResize_19 : decode cX7_placeToResize 19 = .ok (.if_icmp .gt 13, 3) := by decide +kernel
theorem dX7_placeToResize_22 : decode cX7_placeToResize 22 = .ok (.aload_n 0, 1) := by decide +kernel
theorem dX7_placeToResize_23 : decode cX7_placeToResize 23 = .ok (.getfield 12, 3) := by decide +kernel
theorem dX7_placeToResize_26 : decode cX7_placeToResize 26 = .ok (.getfield 119, 3) := by decide +kernel
theorem dX7_placeToResize_29 : decode cX7_placeToResize 29 = .ok (.iload_n 1, 1) := by decide +kernel
theorem dX7_placeToResize_30 : decode cX7_placeToResize 30 = .ok (.iaload, 1) := by decide +kernel
theorem dX7_placeToResize_31 : decode cX7_placeToResize 31 = .ok (.ireturn, 1) := by decide +kernel
theorem dX7_placeToResize_32 : decode cX7_placeToResize 32 = .ok (.aload_n 0, 1) := by decide +kernel
theorem dX7_placeToResize_33 : decode cX7_placeToResize 33 = .ok (.getfield 12, 3) := by decide +kernel
theorem dX7_placeToResize_36 : decode cX7_placeToResize 36 = .ok (.iload_n 1, 1) := by decide +kernel
theorem dX7_placeToResize_37 : decode cX7_placeToResize 37 = .ok (.invokevirtual 112, 3) := by decide +kernel
theorem dX7_placeToResize_40 : decode cX7_placeToResize 40 = .ok (.ifCond .ne 5, 3) := by decide +kernel
theorem dX7_placeToResize_43 : decode cX7_placeToResize 43 = .ok (.iconst (-1), 1) := by decide +kernel
theorem dX7_placeToResize_44 : decode cX7_placeToResize 44 = .ok (.ireturn, 1) := by decide +kernel
theorem dX7_placeToResize_45 : decode cX7_placeToResize 45 = .ok (.aload_n 0, 1) := by decide +kernel
theorem dX7_placeToResize_46 : decode cX7_placeToResize 46 = .ok (.getfield 43, 3) := by decide +kernel
theorem dX7_placeToResize_49 : decode cX7_placeToResize 49 = .ok (.aload_n 0, 1) := by decide +kernel
theorem dX7_placeToResize_50 : decode cX7_placeToResize 50 = .ok (.getfield 12, 3) := by decide +kernel
theorem dX7_placeToResize_53 : decode cX7_placeToResize 53 = .ok (.iload_n 2, 1) := by decide +kernel
theorem dX7_placeToResize_54 : decode cX7_placeToResize 54 = .ok (.iconst 1, 1) := by decide +kernel
theorem dX7_placeToResize_55 : decode cX7_placeToResize 55 = .ok (.iadd, 1) := by decide +kernel
theorem dX7_placeToResize_56 : decode cX7_placeToResize 56 = .ok (.iload_n 1, 1) := by decide +kernel
theorem dX7_placeToResize_57 : decode cX7_placeToResize 57 = .ok (.invokevirtual 73, 3) := by decide +kernel
theorem dX7_placeToResize_60 : decode cX7_placeToResize 60 = .ok (.ireturn, 1) := by decide +kernel
abbrev mX7_placeToResize : XM := (cX7_placeToResize, 3, RX7, (some .int), shw_M, 14)
noncomputable def rg_X7_placeToResize_0 : XK :=
 o_iload 2 <|
 o_aload 0 <|
 o_get shw_M 7 0 <|
 o_get shw_M 3 1 <|
 o_iload 1 <|
 o_iald shw_M <|
 o_isub <|
 o_aload 0 <|
 o_get shw_M 7 0 <|
 o_iload 1 <|
 o_callV 2 1 [1] f_X3_freeBehind <|
 o_icmp_gt (o_aload 0 <|
 o_get shw_M 7 0 <|
 o_iload 1 <|
 o_callV 2 1 [1] f_X3_isMovable <|
 o_if_ne (o_aload 0 <|
 o_get shw_M 7 5 <|
 o_aload 0 <|
 o_get shw_M 7 0 <|
 o_iload 2 <|
 o_iconst 1 <|
 o_iadd <|
 o_iload 1 <|
 o_callVg 4 1 [19, 20, 21, 22, 1] g_X2_seek v_X2_seek <|
 o_ireturn)
 (o_iconst (-1) <|
 o_ireturn))
 (o_aload 0 <|
 o_get shw_M 7 0 <|
 o_get shw_M 3 0 <|
 o_iload 1 <|
 o_iald shw_M <|
 o_ireturn)
def en_X7_placeToResize_0 (p1 : Int) (p2 : Int) (h0 : Ob) (h2 : Ob) (h3 : Ob) (h4 : Ob) (h5 : Ob) (h6 : Ob) (h7 : Ob) (h8 : Ob) (h9 : Ob) (h10 : Ob) (h11 : Ob) (h12 : Ob) (h13 : Ob) (h14 : Ob) (h15 : Ob) (h16 : Ob) (h17 : Ob) (h18 : Ob) (h23 : Ob) (h24 : Ob) (a : Ob × Ob × Ob × Ob × Ob) : XSt := ([some (.inr (.inl (0, 0))), some (.inl p1), some (.inl p2)], [], [h0, a.1, h2, h3, h4, h5, h6, h7, h8, h9, h10, h11, h12, h13, h14, h15, h16, h17, h18, a.2.1, a.2.2.1, a.2.2.2.1, a.2.2.2.2, h23, h24])
noncomputable def mg_X7_placeToResize_0 (p1 : Int) (p2 : Int) (h0 : Ob) (h2 : Ob) (h3 : Ob) (h4 : Ob) (h5 : Ob) (h6 : Ob) (h7 : Ob) (h8 : Ob) (h9 : Ob) (h10 : Ob) (h11 : Ob) (h12 : Ob) (h13 : Ob) (h14 : Ob) (h15 : Ob) (h16 : Ob) (h17 : Ob) (h18 : Ob) (h23 : Ob) (h24 : Ob) (a : Ob × Ob × Ob × Ob × Ob) : Option Rt :=
 if xin p1 11 then (
 if xw (p2 - (a.1 2 (xw p1).toNat)) > xw (frb a.1 p1) then (if xw (bz (mov a.1 p1)) = 0 then (RI (-1) [h0, a.1, h2, h3, h4, h5, h6, h7, h8, h9, h10, h11, h12, h13, h14, h15, h16, h17, h18, a.2.1, a.2.2.1, a.2.2.2.1, a.2.2.2.2, h23, h24])
 else (if pd (LW a.1 ∧ Lst a.1 ∧ 1 ≤ (p2 + 1) ∧ (p2 + 1) ≤ 200) then (
 RI ((fsF a.2.1 a.2.2.1 a.2.2.2.1 a.2.2.2.2 a.1 (p2 + 1) p1).1) [h0, ((fsF a.2.1 a.2.2.1 a.2.2.2.1 a.2.2.2.2 a.1 (p2 + 1) p1).2.2.2.2.2), h2, h3, h4, h5, h6, h7, h8, h9, h10, h11, h12, h13, h14, h15, h16, h17, h18, ((fsF a.2.1 a.2.2.1 a.2.2.2.1 a.2.2.2.2 a.1 (p2 + 1) p1).2.1), ((fsF a.2.1 a.2.2.1 a.2.2.2.1 a.2.2.2.2 a.1 (p2 + 1) p1).2.2.1), ((fsF a.2.1 a.2.2.1 a.2.2.2.1 a.2.2.2.2 a.1 (p2 + 1) p1).2.2.2.1), ((fsF a.2.1 a.2.2.1 a.2.2.2.1 a.2.2.2.2 a.1 (p2 + 1) p1).2.2.2.2.1), h23, h24]) else none))
 else (if xin p1 11 then (
 RI (a.1 1 (xw p1).toNat) [h0, a.1, h2, h3, h4, h5, h6, h7, h8, h9, h10, h11, h12, h13, h14, h15, h16, h17, h18, a.2.1, a.2.2.1, a.2.2.2.1, a.2.2.2.2, h23, h24]) else none)) else none
set_option maxRecDepth 100000 in
set_option maxHeartbeats 4000000 in
theorem rq_X7_placeToResize_0 (p1 : Int) (p2 : Int) (h0 : Ob) (h2 : Ob) (h3 : Ob) (h4 : Ob) (h5 : Ob) (h6 : Ob) (h7 : Ob) (h8 : Ob) (h9 : Ob) (h10 : Ob) (h11 : Ob) (h12 : Ob) (h13 : Ob) (h14 : Ob) (h15 : Ob) (h16 : Ob) (h17 : Ob) (h18 : Ob) (h23 : Ob) (h24 : Ob) (a : Ob × Ob × Ob × Ob × Ob) : rg_X7_placeToResize_0 (en_X7_placeToResize_0 p1 p2 h0 h2 h3 h4 h5 h6 h7 h8 h9 h10 h11 h12 h13 h14 h15 h16 h17 h18 h23 h24 a) = mg_X7_placeToResize_0 p1 p2 h0 h2 h3 h4 h5 h6 h7 h8 h9 h10 h11 h12 h13 h14 h15 h16 h17 h18 h23 h24 a := rfl
set_option maxRecDepth 100000 in
set_option maxHeartbeats 4000000 in
theorem sg_X7_placeToResize_0 {X : XDyn} {r0 : Rt} (C : XO X mX7_placeToResize) : XS X mX7_placeToResize r0 0 (rg_X7_placeToResize_0) := by
 unfold rg_X7_placeToResize_0
 exact s_iload_n (pc := 0) C dX7_placeToResize_0 rfl <|
    s_aload_n (pc := 1) C dX7_placeToResize_1 rfl <|
    s_get (pc := 2) C (ci := 7) (kf := 0) rfl inX7 (by decide) wd_312 dX7_placeToResize_2 <|
    s_get (pc := 5) C (ci := 3) (kf := 1) rfl inX3 (by decide) wd_110 dX7_placeToResize_5 <|
    s_iload_n (pc := 8) C dX7_placeToResize_8 rfl <|
    s_iald (pc := 9) C dX7_placeToResize_9 <|
    s_isub (pc := 10) C dX7_placeToResize_10 <|
    s_aload_n (pc := 11) C dX7_placeToResize_11 rfl <|
    s_get (pc := 12) C (ci := 7) (kf := 0) rfl inX7 (by decide) wd_312 dX7_placeToResize_12 <|
    s_iload_n (pc := 15) C dX7_placeToResize_15 rfl <|
    s_callV (pc := 16) C ct_X3_freeBehind (n := 2) (rk := 1) (mp := [1]) ⟨rfl, by decide, rfl⟩ (ci := 3) rfl rfl (by decide) (by decide) yi_X3_freeBehind (by decide) wd_647 wd_648 wd_649 wd_74 wd_650 dX7_placeToResize_16 <|
    s_icmp_gt (pc := 19) C dX7_placeToResize_19 (by decide) (s_aload_n (pc := 32) C dX7_placeToResize_32 rfl <|
    s_get (pc := 33) C (ci := 7) (kf := 0) rfl inX7 (by decide) wd_312 dX7_placeToResize_33 <|
    s_iload_n (pc := 36) C dX7_placeToResize_36 rfl <|
    s_callV (pc := 37) C ct_X3_isMovable (n := 2) (rk := 1) (mp := [1]) ⟨rfl, by decide, rfl⟩ (ci := 3) rfl rfl (by decide) (by decide) yi_X3_isMovable (by decide) wd_601 wd_413 wd_414 wd_74 wd_415 dX7_placeToResize_37 <|
    s_if_ne (pc := 40) C dX7_placeToResize_40 (by decide) (s_aload_n (pc := 45) C dX7_placeToResize_45 rfl <|
    s_get (pc := 46) C (ci := 7) (kf := 5) rfl inX7 (by decide) wd_317 dX7_placeToResize_46 <|
    s_aload_n (pc := 49) C dX7_placeToResize_49 rfl <|
    s_get (pc := 50) C (ci := 7) (kf := 0) rfl inX7 (by decide) wd_312 dX7_placeToResize_50 <|
    s_iload_n (pc := 53) C dX7_placeToResize_53 rfl <|
    s_iconst (pc := 54) C dX7_placeToResize_54 <|
    s_iadd (pc := 55) C dX7_placeToResize_55 <|
    s_iload_n (pc := 56) C dX7_placeToResize_56 rfl <|
    s_callVg (pc := 57) C ct_X2_seek (n := 4) (rk := 1) (mp := [19, 20, 21, 22, 1]) ⟨rfl, by decide, rfl⟩ (ci := 2) rfl rfl (by decide) (by decide) yi_X2_seek (by decide) wd_378 wd_379 wd_380 wd_78 wd_381 dX7_placeToResize_57 <|
    s_ireturn (pc := 60) C rfl dX7_placeToResize_60)
    (s_iconst (pc := 43) C dX7_placeToResize_43 <|
    s_ireturn (pc := 44) C rfl dX7_placeToResize_44))
    (s_aload_n (pc := 22) C dX7_placeToResize_22 rfl <|
    s_get (pc := 23) C (ci := 7) (kf := 0) rfl inX7 (by decide) wd_312 dX7_placeToResize_23 <|
    s_get (pc := 26) C (ci := 3) (kf := 0) rfl inX3 (by decide) wd_104 dX7_placeToResize_26 <|
    s_iload_n (pc := 29) C dX7_placeToResize_29 rfl <|
    s_iald (pc := 30) C dX7_placeToResize_30 <|
    s_ireturn (pc := 31) C rfl dX7_placeToResize_31)
noncomputable def rw_X7_placeToResize_0 : XK := rg_X7_placeToResize_0
noncomputable def md_X7_placeToResize_0 (p1 : Int) (p2 : Int) (h0 : Ob) (h2 : Ob) (h3 : Ob) (h4 : Ob) (h5 : Ob) (h6 : Ob) (h7 : Ob) (h8 : Ob) (h9 : Ob) (h10 : Ob) (h11 : Ob) (h12 : Ob) (h13 : Ob) (h14 : Ob) (h15 : Ob) (h16 : Ob) (h17 : Ob) (h18 : Ob) (h23 : Ob) (h24 : Ob) : Ob × Ob × Ob × Ob × Ob → Option Rt := mg_X7_placeToResize_0 p1 p2 h0 h2 h3 h4 h5 h6 h7 h8 h9 h10 h11 h12 h13 h14 h15 h16 h17 h18 h23 h24
theorem eq_X7_placeToResize_0 (p1 : Int) (p2 : Int) (h0 : Ob) (h2 : Ob) (h3 : Ob) (h4 : Ob) (h5 : Ob) (h6 : Ob) (h7 : Ob) (h8 : Ob) (h9 : Ob) (h10 : Ob) (h11 : Ob) (h12 : Ob) (h13 : Ob) (h14 : Ob) (h15 : Ob) (h16 : Ob) (h17 : Ob) (h18 : Ob) (h23 : Ob) (h24 : Ob) (a : Ob × Ob × Ob × Ob × Ob) : rw_X7_placeToResize_0 (en_X7_placeToResize_0 p1 p2 h0 h2 h3 h4 h5 h6 h7 h8 h9 h10 h11 h12 h13 h14 h15 h16 h17 h18 h23 h24 a) = md_X7_placeToResize_0 p1 p2 h0 h2 h3 h4 h5 h6 h7 h8 h9 h10 h11 h12 h13 h14 h15 h16 h17 h18 h23 h24 a :=
 rq_X7_placeToResize_0 p1 p2 h0 h2 h3 h4 h5 h6 h7 h8 h9 h10 h11 h12 h13 h14 h15 h16 h17 h18 h23 h24 a
theorem sd_X7_placeToResize_0 {X : XDyn} {r0 : Rt} (C : XO X mX7_placeToResize) : XS X mX7_placeToResize r0 0 (rw_X7_placeToResize_0) := sg_X7_placeToResize_0 C
theorem ctr_X7_placeToResize : XCt yX7_placeToResize mX7_placeToResize (xF mX7_placeToResize (rw_X7_placeToResize_0)) := xMet (by decide +kernel) rfl (fun _ _ C => sd_X7_placeToResize_0 C)
theorem eqf_X7_placeToResize (p1 : Int) (p2 : Int) (h0 : Ob) (h1 : Ob) (h2 : Ob) (h3 : Ob) (h4 : Ob) (h5 : Ob) (h6 : Ob) (h7 : Ob) (h8 : Ob) (h9 : Ob) (h10 : Ob) (h11 : Ob) (h12 : Ob) (h13 : Ob) (h14 : Ob) (h15 : Ob) (h16 : Ob) (h17 : Ob) (h18 : Ob) (h19 : Ob) (h20 : Ob) (h21 : Ob) (h22 : Ob) (h23 : Ob) (h24 : Ob) : xF mX7_placeToResize (rw_X7_placeToResize_0) [.inr (.inl (0, 0)), .inl p1, .inl p2] [h0, h1, h2, h3, h4, h5, h6, h7, h8, h9, h10, h11, h12, h13, h14, h15, h16, h17, h18, h19, h20, h21, h22, h23, h24] = md_X7_placeToResize_0 p1 p2 h0 h2 h3 h4 h5 h6 h7 h8 h9 h10 h11 h12 h13 h14 h15 h16 h17 h18 h23 h24 (h1, h19, h20, h21, h22) := eq_X7_placeToResize_0 p1 p2 h0 h2 h3 h4 h5 h6 h7 h8 h9 h10 h11 h12 h13 h14 h15 h16 h17 h18 h23 h24 (h1, h19, h20, h21, h22)
theorem yi_X7_placeToResize : yX7_placeToResize.cls = RX7 ∧ yX7_placeToResize.cls ≠ "java/lang/invoke/MethodHandle" ∧ yX7_placeToResize.cls ≠ "java/lang/invoke/VarHandle" ∧ (parseMethodDescriptor yX7_placeToResize.desc).map (fun d => d.parameters.length) = some 2 := ⟨rfl, by decide +kernel, by decide +kernel, by decide +kernel⟩
theorem sp_X7_placeToResize (p1 p2 : Int) (h0 h1 h2 h3 h4 h5 h6 h7 h8 h9 h10 h11 h12 h13 h14 h15 h16 h17 h18 h19 h20 h21 h22 h23 h24 : Ob) (hg : (pd (LW h1 ∧ Lst h1 ∧ 0 ≤ p1 ∧ p1 < 8 ∧ 1 ≤ p2 ∧ p2 ≤ 60)) = true) : md_X7_placeToResize_0 p1 p2 h0 h2 h3 h4 h5 h6 h7 h8 h9 h10 h11 h12 h13 h14 h15 h16 h17 h18 h23 h24 (h1, h19, h20, h21, h22) = RI ((prF h19 h20 h21 h22 h1 p1 p2).1) [h0, ((prF h19 h20 h21 h22 h1 p1 p2).2.2.2.2.2), h2, h3, h4, h5, h6, h7, h8, h9, h10, h11, h12, h13, h14, h15, h16, h17, h18, ((prF h19 h20 h21 h22 h1 p1 p2).2.1), ((prF h19 h20 h21 h22 h1 p1 p2).2.2.1), ((prF h19 h20 h21 h22 h1 p1 p2).2.2.2.1), ((prF h19 h20 h21 h22 h1 p1 p2).2.2.2.2.1), h23, h24] := by
  obtain ⟨g1, g2, g3, g4, g5, g6⟩ := pd_of hg
  have e1 := xw_id (x := p1) (by omega) (by omega)
  simp only [md_X7_placeToResize_0, mg_X7_placeToResize_0, bz_0, xin_of (i := p1) (n := 11) (by omega) (by omega), if_true]
  unfold prF
  by_cases hc : xw (p2 - h1 2 (xw p1).toNat) > xw (frb h1 p1)
  · rw [if_pos hc, if_pos hc]
    cases hm : mov h1 p1
    · rfl
    · rw [if_neg (by simp), if_pos rfl, if_pos (pd_t ⟨g1, g2, by omega, by omega⟩)]
  · rw [if_neg hc, if_neg hc]
noncomputable def g_X7_placeToResize : List AV → List Ob → Bool
  | [.inr (.inl (0, 0)), .inl p1, .inl p2], [h0, h1, h2, h3, h4, h5, h6, h7, h8, h9, h10, h11, h12, h13, h14, h15, h16, h17, h18, h19, h20, h21, h22, h23, h24] => pd (LW h1 ∧ Lst h1 ∧ 0 ≤ p1 ∧ p1 < 8 ∧ 1 ≤ p2 ∧ p2 ≤ 60)
  | _, _ => false
noncomputable def v_X7_placeToResize : List AV → List Ob → Rt
  | [.inr (.inl (0, 0)), .inl p1, .inl p2], [h0, h1, h2, h3, h4, h5, h6, h7, h8, h9, h10, h11, h12, h13, h14, h15, h16, h17, h18, h19, h20, h21, h22, h23, h24] => (some (.inl ((prF h19 h20 h21 h22 h1 p1 p2).1)), [h0, ((prF h19 h20 h21 h22 h1 p1 p2).2.2.2.2.2), h2, h3, h4, h5, h6, h7, h8, h9, h10, h11, h12, h13, h14, h15, h16, h17, h18, ((prF h19 h20 h21 h22 h1 p1 p2).2.1), ((prF h19 h20 h21 h22 h1 p1 p2).2.2.1), ((prF h19 h20 h21 h22 h1 p1 p2).2.2.2.1), ((prF h19 h20 h21 h22 h1 p1 p2).2.2.2.2.1), h23, h24])
  | _, _ => (none, [])
theorem ct_X7_placeToResize : XCt yX7_placeToResize mX7_placeToResize (fun as μ => if g_X7_placeToResize as μ then some (v_X7_placeToResize as μ) else none) := (ctr_X7_placeToResize ).of (fun as μ r h => by
  split at h
  · rename_i hg
    unfold g_X7_placeToResize at hg
    split at hg
    · rw [← h]
      exact (eqf_X7_placeToResize _ _ _ _ _ _ _ _ _ _ _ _ _ _ _ _ _ _ _ _ _ _ _ _ _ _ _).trans (sp_X7_placeToResize _ _ _ _ _ _ _ _ _ _ _ _ _ _ _ _ _ _ _ _ _ _ _ _ _ _ _ hg)
    · cases hg
  · cases h)
theorem dX7_findPlaces_0 : decode cX7_findPlaces 0 = .ok (.aload_n 0, 1) := by decide +kernel
theorem dX7_findPlaces_1 : decode cX7_findPlaces 1 = .ok (.getfield 29, 3) := by decide +kernel
theorem dX7_findPlaces_4 : decode cX7_findPlaces 4 = .ok (.aload_n 0, 1) := by decide +kernel
theorem dX7_findPlaces_5 : decode cX7_findPlaces 5 = .ok (.getfield 12, 3) := by decide +kernel
theorem dX7_findPlaces_8 : decode cX7_findPlaces 8 = .ok (.iload_n 1, 1) := by decide +kernel
theorem dX7_findPlaces_9 : decode cX7_findPlaces 9 = .ok (.aload_n 0, 1) := by decide +kernel
theorem dX7_findPlaces_10 : decode cX7_findPlaces 10 = .ok (.getfield 12, 3) := by decide +kernel
theorem dX7_findPlaces_13 : decode cX7_findPlaces 13 = .ok (.getfield 256, 3) := by decide +kernel
theorem dX7_findPlaces_16 : decode cX7_findPlaces 16 = .ok (.invokevirtual 216, 3) := by decide +kernel
theorem dX7_findPlaces_19 : decode cX7_findPlaces 19 = .ok (.aload_n 0, 1) := by decide +kernel
theorem dX7_findPlaces_20 : decode cX7_findPlaces 20 = .ok (.getfield 36, 3) := by decide +kernel
theorem dX7_findPlaces_23 : decode cX7_findPlaces 23 = .ok (.aload_n 0, 1) := by decide +kernel
theorem dX7_findPlaces_24 : decode cX7_findPlaces 24 = .ok (.getfield 29, 3) := by decide +kernel
theorem dX7_findPlaces_27 : decode cX7_findPlaces 27 = .ok (.aload_n 0, 1) := by decide +kernel
theorem dX7_findPlaces_28 : decode cX7_findPlaces 28 = .ok (.getfield 12, 3) := by decide +kernel
theorem dX7_findPlaces_31 : decode cX7_findPlaces 31 = .ok (.iload_n 1, 1) := by decide +kernel
theorem dX7_findPlaces_32 : decode cX7_findPlaces 32 = .ok (.iload_n 2, 1) := by decide +kernel
theorem dX7_findPlaces_33 : decode cX7_findPlaces 33 = .ok (.invokevirtual 284, 3) := by decide +kernel
theorem dX7_findPlaces_36 : decode cX7_findPlaces 36 = .ok (.ireturn, 1) := by decide +kernel
abbrev mX7_findPlaces : XM := (cX7_findPlaces, 3, RX7, (some .boolean), shw_M, 4)
noncomputable def rg_X7_findPlaces_0 : XK :=
 o_aload 0 <|
 o_get shw_M 7 3 <|
 o_aload 0 <|
 o_get shw_M 7 0 <|
 o_iload 1 <|
 o_aload 0 <|
 o_get shw_M 7 0 <|
 o_get shw_M 3 10 <|
 o_callVg 4 0 [17, 1] g_X6_read v_X6_read <|
 o_aload 0 <|
 o_get shw_M 7 4 <|
 o_aload 0 <|
 o_get shw_M 7 3 <|
 o_aload 0 <|
 o_get shw_M 7 0 <|
 o_iload 1 <|
 o_iload 2 <|
 o_callVg 5 1 [18, 17, 1] g_X4_holds v_X4_holds <|
 o_zreturn
def en_X7_findPlaces_0 (p1 : Int) (p2 : Int) (h0 : Ob) (h1 : Ob) (h2 : Ob) (h3 : Ob) (h4 : Ob) (h5 : Ob) (h6 : Ob) (h7 : Ob) (h8 : Ob) (h9 : Ob) (h10 : Ob) (h11 : Ob) (h12 : Ob) (h13 : Ob) (h14 : Ob) (h15 : Ob) (h16 : Ob) (h19 : Ob) (h20 : Ob) (h21 : Ob) (h22 : Ob) (h23 : Ob) (h24 : Ob) (a : Ob × Ob) : XSt := ([some (.inr (.inl (0, 0))), some (.inl p1), some (.inl p2)], [], [h0, h1, h2, h3, h4, h5, h6, h7, h8, h9, h10, h11, h12, h13, h14, h15, h16, a.1, a.2, h19, h20, h21, h22, h23, h24])
noncomputable def mg_X7_findPlaces_0 (p1 : Int) (p2 : Int) (h0 : Ob) (h1 : Ob) (h2 : Ob) (h3 : Ob) (h4 : Ob) (h5 : Ob) (h6 : Ob) (h7 : Ob) (h8 : Ob) (h9 : Ob) (h10 : Ob) (h11 : Ob) (h12 : Ob) (h13 : Ob) (h14 : Ob) (h15 : Ob) (h16 : Ob) (h19 : Ob) (h20 : Ob) (h21 : Ob) (h22 : Ob) (h23 : Ob) (h24 : Ob) (a : Ob × Ob) : Option Rt :=
 if pd (RdG h1 (h1 0 10)) then (
 if pd (GiG (pkA (pkF a.2 h1 p1) p2) (rdO a.1 (rnl h1 p1 (h1 0 10)))) then (
 if xb (bz (gi (pkA (pkF a.2 h1 p1) p2) (rdO a.1 (rnl h1 p1 (h1 0 10))))) then RI (bz (gi (pkA (pkF a.2 h1 p1) p2) (rdO a.1 (rnl h1 p1 (h1 0 10))))) [h0, h1, h2, h3, h4, h5, h6, h7, h8, h9, h10, h11, h12, h13, h14, h15, h16, (rdO a.1 (rnl h1 p1 (h1 0 10))), (giO xfu (pkA (pkF a.2 h1 p1) p2) (rdO a.1 (rnl h1 p1 (h1 0 10)))), h19, h20, h21, h22, h23, h24] else none) else none) else none
set_option maxRecDepth 100000 in
set_option maxHeartbeats 4000000 in
theorem rq_X7_findPlaces_0 (p1 : Int) (p2 : Int) (h0 : Ob) (h1 : Ob) (h2 : Ob) (h3 : Ob) (h4 : Ob) (h5 : Ob) (h6 : Ob) (h7 : Ob) (h8 : Ob) (h9 : Ob) (h10 : Ob) (h11 : Ob) (h12 : Ob) (h13 : Ob) (h14 : Ob) (h15 : Ob) (h16 : Ob) (h19 : Ob) (h20 : Ob) (h21 : Ob) (h22 : Ob) (h23 : Ob) (h24 : Ob) (a : Ob × Ob) : rg_X7_findPlaces_0 (en_X7_findPlaces_0 p1 p2 h0 h1 h2 h3 h4 h5 h6 h7 h8 h9 h10 h11 h12 h13 h14 h15 h16 h19 h20 h21 h22 h23 h24 a) = mg_X7_findPlaces_0 p1 p2 h0 h1 h2 h3 h4 h5 h6 h7 h8 h9 h10 h11 h12 h13 h14 h15 h16 h19 h20 h21 h22 h23 h24 a := rfl
set_option maxRecDepth 100000 in
set_option maxHeartbeats 4000000 in
theorem sg_X7_findPlaces_0 {X : XDyn} {r0 : Rt} (C : XO X mX7_findPlaces) : XS X mX7_findPlaces r0 0 (rg_X7_findPlaces_0) := by
 unfold rg_X7_findPlaces_0
 exact s_aload_n (pc := 0) C dX7_findPlaces_0 rfl <|
    s_get (pc := 1) C (ci := 7) (kf := 3) rfl inX7 (by decide) wd_315 dX7_findPlaces_1 <|
    s_aload_n (pc := 4) C dX7_findPlaces_4 rfl <|
    s_get (pc := 5) C (ci := 7) (kf := 0) rfl inX7 (by decide) wd_312 dX7_findPlaces_5 <|
    s_iload_n (pc := 8) C dX7_findPlaces_8 rfl <|
    s_aload_n (pc := 9) C dX7_findPlaces_9 rfl <|
    s_get (pc := 10) C (ci := 7) (kf := 0) rfl inX7 (by decide) wd_312 dX7_findPlaces_10 <|
    s_get (pc := 13) C (ci := 3) (kf := 10) rfl inX3 (by decide) wd_130 dX7_findPlaces_13 <|
    s_callVg (pc := 16) C ct_X6_read (n := 4) (rk := 0) (mp := [17, 1]) ⟨rfl, by decide, rfl⟩ (ci := 6) rfl rfl (by decide) (by decide) yi_X6_read (by decide) wd_764 wd_432 wd_433 wd_76 wd_434 dX7_findPlaces_16 <|
    s_aload_n (pc := 19) C dX7_findPlaces_19 rfl <|
    s_get (pc := 20) C (ci := 7) (kf := 4) rfl inX7 (by decide) wd_316 dX7_findPlaces_20 <|
    s_aload_n (pc := 23) C dX7_findPlaces_23 rfl <|
    s_get (pc := 24) C (ci := 7) (kf := 3) rfl inX7 (by decide) wd_315 dX7_findPlaces_24 <|
    s_aload_n (pc := 27) C dX7_findPlaces_27 rfl <|
    s_get (pc := 28) C (ci := 7) (kf := 0) rfl inX7 (by decide) wd_312 dX7_findPlaces_28 <|
    s_iload_n (pc := 31) C dX7_findPlaces_31 rfl <|
    s_iload_n (pc := 32) C dX7_findPlaces_32 rfl <|
    s_callVg (pc := 33) C ct_X4_holds (n := 5) (rk := 1) (mp := [18, 17, 1]) ⟨rfl, by decide, rfl⟩ (ci := 4) rfl rfl (by decide) (by decide) yi_X4_holds (by decide) wd_819 wd_820 wd_821 wd_77 wd_822 dX7_findPlaces_33 <|
    s_zreturn (pc := 36) C rfl dX7_findPlaces_36
noncomputable def rw_X7_findPlaces_0 : XK := rg_X7_findPlaces_0
noncomputable def md_X7_findPlaces_0 (p1 : Int) (p2 : Int) (h0 : Ob) (h1 : Ob) (h2 : Ob) (h3 : Ob) (h4 : Ob) (h5 : Ob) (h6 : Ob) (h7 : Ob) (h8 : Ob) (h9 : Ob) (h10 : Ob) (h11 : Ob) (h12 : Ob) (h13 : Ob) (h14 : Ob) (h15 : Ob) (h16 : Ob) (h19 : Ob) (h20 : Ob) (h21 : Ob) (h22 : Ob) (h23 : Ob) (h24 : Ob) : Ob × Ob → Option Rt := mg_X7_findPlaces_0 p1 p2 h0 h1 h2 h3 h4 h5 h6 h7 h8 h9 h10 h11 h12 h13 h14 h15 h16 h19 h20 h21 h22 h23 h24
theorem eq_X7_findPlaces_0 (p1 : Int) (p2 : Int) (h0 : Ob) (h1 : Ob) (h2 : Ob) (h3 : Ob) (h4 : Ob) (h5 : Ob) (h6 : Ob) (h7 : Ob) (h8 : Ob) (h9 : Ob) (h10 : Ob) (h11 : Ob) (h12 : Ob) (h13 : Ob) (h14 : Ob) (h15 : Ob) (h16 : Ob) (h19 : Ob) (h20 : Ob) (h21 : Ob) (h22 : Ob) (h23 : Ob) (h24 : Ob) (a : Ob × Ob) : rw_X7_findPlaces_0 (en_X7_findPlaces_0 p1 p2 h0 h1 h2 h3 h4 h5 h6 h7 h8 h9 h10 h11 h12 h13 h14 h15 h16 h19 h20 h21 h22 h23 h24 a) = md_X7_findPlaces_0 p1 p2 h0 h1 h2 h3 h4 h5 h6 h7 h8 h9 h10 h11 h12 h13 h14 h15 h16 h19 h20 h21 h22 h23 h24 a :=
 rq_X7_findPlaces_0 p1 p2 h0 h1 h2 h3 h4 h5 h6 h7 h8 h9 h10 h11 h12 h13 h14 h15 h16 h19 h20 h21 h22 h23 h24 a
theorem sd_X7_findPlaces_0 {X : XDyn} {r0 : Rt} (C : XO X mX7_findPlaces) : XS X mX7_findPlaces r0 0 (rw_X7_findPlaces_0) := sg_X7_findPlaces_0 C
theorem ctr_X7_findPlaces : XCt yX7_findPlaces mX7_findPlaces (xF mX7_findPlaces (rw_X7_findPlaces_0)) := xMet (by decide +kernel) rfl (fun _ _ C => sd_X7_findPlaces_0 C)
theorem eqf_X7_findPlaces (p1 : Int) (p2 : Int) (h0 : Ob) (h1 : Ob) (h2 : Ob) (h3 : Ob) (h4 : Ob) (h5 : Ob) (h6 : Ob) (h7 : Ob) (h8 : Ob) (h9 : Ob) (h10 : Ob) (h11 : Ob) (h12 : Ob) (h13 : Ob) (h14 : Ob) (h15 : Ob) (h16 : Ob) (h17 : Ob) (h18 : Ob) (h19 : Ob) (h20 : Ob) (h21 : Ob) (h22 : Ob) (h23 : Ob) (h24 : Ob) : xF mX7_findPlaces (rw_X7_findPlaces_0) [.inr (.inl (0, 0)), .inl p1, .inl p2] [h0, h1, h2, h3, h4, h5, h6, h7, h8, h9, h10, h11, h12, h13, h14, h15, h16, h17, h18, h19, h20, h21, h22, h23, h24] = md_X7_findPlaces_0 p1 p2 h0 h1 h2 h3 h4 h5 h6 h7 h8 h9 h10 h11 h12 h13 h14 h15 h16 h19 h20 h21 h22 h23 h24 (h17, h18) := eq_X7_findPlaces_0 p1 p2 h0 h1 h2 h3 h4 h5 h6 h7 h8 h9 h10 h11 h12 h13 h14 h15 h16 h19 h20 h21 h22 h23 h24 (h17, h18)
theorem yi_X7_findPlaces : yX7_findPlaces.cls = RX7 ∧ yX7_findPlaces.cls ≠ "java/lang/invoke/MethodHandle" ∧ yX7_findPlaces.cls ≠ "java/lang/invoke/VarHandle" ∧ (parseMethodDescriptor yX7_findPlaces.desc).map (fun d => d.parameters.length) = some 2 := ⟨rfl, by decide +kernel, by decide +kernel, by decide +kernel⟩
theorem sp_X7_findPlaces (p1 p2 : Int) (h0 h1 h2 h3 h4 h5 h6 h7 h8 h9 h10 h11 h12 h13 h14 h15 h16 h17 h18 h19 h20 h21 h22 h23 h24 : Ob) (hg : (pd (RdG h1 (h1 0 10)) && pd (GiG (pkA (pkF h18 h1 p1) p2) (rdO h17 (rnl h1 p1 (h1 0 10))))) = true) : md_X7_findPlaces_0 p1 p2 h0 h1 h2 h3 h4 h5 h6 h7 h8 h9 h10 h11 h12 h13 h14 h15 h16 h19 h20 h21 h22 h23 h24 (h17, h18) = RI (bz (gi (pkA (pkF h18 h1 p1) p2) (rdO h17 (rnl h1 p1 (h1 0 10))))) [h0, h1, h2, h3, h4, h5, h6, h7, h8, h9, h10, h11, h12, h13, h14, h15, h16, (rdO h17 (rnl h1 p1 (h1 0 10))), (giO xfu (pkA (pkF h18 h1 p1) p2) (rdO h17 (rnl h1 p1 (h1 0 10)))), h19, h20, h21, h22, h23, h24] := by
  rw [Bool.and_eq_true] at hg
  simp only [md_X7_findPlaces_0, mg_X7_findPlaces_0, xb_bz, hg.1, hg.2, if_true]
noncomputable def g_X7_findPlaces : List AV → List Ob → Bool
  | [.inr (.inl (0, 0)), .inl p1, .inl p2], [h0, h1, h2, h3, h4, h5, h6, h7, h8, h9, h10, h11, h12, h13, h14, h15, h16, h17, h18, h19, h20, h21, h22, h23, h24] => pd (RdG h1 (h1 0 10)) && pd (GiG (pkA (pkF h18 h1 p1) p2) (rdO h17 (rnl h1 p1 (h1 0 10))))
  | _, _ => false
noncomputable def v_X7_findPlaces : List AV → List Ob → Rt
  | [.inr (.inl (0, 0)), .inl p1, .inl p2], [h0, h1, h2, h3, h4, h5, h6, h7, h8, h9, h10, h11, h12, h13, h14, h15, h16, h17, h18, h19, h20, h21, h22, h23, h24] => (some (.inl (bz (gi (pkA (pkF h18 h1 p1) p2) (rdO h17 (rnl h1 p1 (h1 0 10)))))), [h0, h1, h2, h3, h4, h5, h6, h7, h8, h9, h10, h11, h12, h13, h14, h15, h16, (rdO h17 (rnl h1 p1 (h1 0 10))), (giO xfu (pkA (pkF h18 h1 p1) p2) (rdO h17 (rnl h1 p1 (h1 0 10)))), h19, h20, h21, h22, h23, h24])
  | _, _ => (none, [])
theorem ct_X7_findPlaces : XCt yX7_findPlaces mX7_findPlaces (fun as μ => if g_X7_findPlaces as μ then some (v_X7_findPlaces as μ) else none) := (ctr_X7_findPlaces ).of (fun as μ r h => by
  split at h
  · rename_i hg
    unfold g_X7_findPlaces at hg
    split at hg
    · rw [← h]
      exact (eqf_X7_findPlaces _ _ _ _ _ _ _ _ _ _ _ _ _ _ _ _ _ _ _ _ _ _ _ _ _ _ _).trans (sp_X7_findPlaces _ _ _ _ _ _ _ _ _ _ _ _ _ _ _ _ _ _ _ _ _ _ _ _ _ _ _ hg)
    · cases hg
  · cases h)
theorem dX7_addBlockOf_0 : decode cX7_addBlockOf 0 = .ok (.iload_n 1, 1) := by decide +kernel
theorem dX7_addBlockOf_1 : decode cX7_addBlockOf 1 = .ok (.ifCond .le 13, 3) := by decide +kernel
theorem dX7_addBlockOf_4 : decode cX7_addBlockOf 4 = .ok (.aload_n 0, 1) := by decide +kernel
theorem dX7_addBlockOf_5 : decode cX7_addBlockOf 5 = .ok (.getfield 36, 3) := by decide +kernel
theorem dX7_addBlockOf_8 : decode cX7_addBlockOf 8 = .ok (.iload_n 1, 1) := by decide +kernel
theorem dX7_addBlockOf_9 : decode cX7_addBlockOf 9 = .ok (.iconst 1, 1) := by decide +kernel
theorem dX7_addBlockOf_10 : decode cX7_addBlockOf 10 = .ok (.iadd, 1) := by decide +kernel
theorem dX7_addBlockOf_11 : decode cX7_addBlockOf 11 = .ok (.invokevirtual 322, 3) := by decide +kernel
theorem dX7_addBlockOf_14 : decode cX7_addBlockOf 14 = .ok (.return_, 1) := by decide +kernel
abbrev mX7_addBlockOf : XM := (cX7_addBlockOf, 2, RX7, none, shw_M, 1)
noncomputable def rg_X7_addBlockOf_0 : XK :=
 o_iload 1 <|
 o_if_le (o_return)
 (o_aload 0 <|
 o_get shw_M 7 4 <|
 o_iload 1 <|
 o_iconst 1 <|
 o_iadd <|
 o_callVg 2 0 [18] g_X4_add v_X4_add <|
 o_return)
def en_X7_addBlockOf_0 (p1 : Int) (h0 : Ob) (h1 : Ob) (h2 : Ob) (h3 : Ob) (h4 : Ob) (h5 : Ob) (h6 : Ob) (h7 : Ob) (h8 : Ob) (h9 : Ob) (h10 : Ob) (h11 : Ob) (h12 : Ob) (h13 : Ob) (h14 : Ob) (h15 : Ob) (h16 : Ob) (h17 : Ob) (h19 : Ob) (h20 : Ob) (h21 : Ob) (h22 : Ob) (h23 : Ob) (h24 : Ob) (a : Ob) : XSt := ([some (.inr (.inl (0, 0))), some (.inl p1)], [], [h0, h1, h2, h3, h4, h5, h6, h7, h8, h9, h10, h11, h12, h13, h14, h15, h16, h17, a, h19, h20, h21, h22, h23, h24])
noncomputable def mg_X7_addBlockOf_0 (p1 : Int) (h0 : Ob) (h1 : Ob) (h2 : Ob) (h3 : Ob) (h4 : Ob) (h5 : Ob) (h6 : Ob) (h7 : Ob) (h8 : Ob) (h9 : Ob) (h10 : Ob) (h11 : Ob) (h12 : Ob) (h13 : Ob) (h14 : Ob) (h15 : Ob) (h16 : Ob) (h17 : Ob) (h19 : Ob) (h20 : Ob) (h21 : Ob) (h22 : Ob) (h23 : Ob) (h24 : Ob) (a : Ob) : Option Rt :=
 if xw p1 ≤ 0 then (RV [h0, h1, h2, h3, h4, h5, h6, h7, h8, h9, h10, h11, h12, h13, h14, h15, h16, h17, a, h19, h20, h21, h22, h23, h24])
 else (if decide (0 ≤ xw (a 0 2)) then (
 RV [h0, h1, h2, h3, h4, h5, h6, h7, h8, h9, h10, h11, h12, h13, h14, h15, h16, h17, (pkA a (p1 + 1)), h19, h20, h21, h22, h23, h24]) else none)
set_option maxRecDepth 100000 in
set_option maxHeartbeats 4000000 in
theorem rq_X7_addBlockOf_0 (p1 : Int) (h0 : Ob) (h1 : Ob) (h2 : Ob) (h3 : Ob) (h4 : Ob) (h5 : Ob) (h6 : Ob) (h7 : Ob) (h8 : Ob) (h9 : Ob) (h10 : Ob) (h11 : Ob) (h12 : Ob) (h13 : Ob) (h14 : Ob) (h15 : Ob) (h16 : Ob) (h17 : Ob) (h19 : Ob) (h20 : Ob) (h21 : Ob) (h22 : Ob) (h23 : Ob) (h24 : Ob) (a : Ob) : rg_X7_addBlockOf_0 (en_X7_addBlockOf_0 p1 h0 h1 h2 h3 h4 h5 h6 h7 h8 h9 h10 h11 h12 h13 h14 h15 h16 h17 h19 h20 h21 h22 h23 h24 a) = mg_X7_addBlockOf_0 p1 h0 h1 h2 h3 h4 h5 h6 h7 h8 h9 h10 h11 h12 h13 h14 h15 h16 h17 h19 h20 h21 h22 h23 h24 a := rfl
set_option maxRecDepth 100000 in
set_option maxHeartbeats 4000000 in
theorem sg_X7_addBlockOf_0 {X : XDyn} {r0 : Rt} (C : XO X mX7_addBlockOf) : XS X mX7_addBlockOf r0 0 (rg_X7_addBlockOf_0) := by
 unfold rg_X7_addBlockOf_0
 exact s_iload_n (pc := 0) C dX7_addBlockOf_0 rfl <|
    s_if_le (pc := 1) C dX7_addBlockOf_1 (by decide) (s_return (pc := 14) C rfl dX7_addBlockOf_14)
    (s_aload_n (pc := 4) C dX7_addBlockOf_4 rfl <|
    s_get (pc := 5) C (ci := 7) (kf := 4) rfl inX7 (by decide) wd_316 dX7_addBlockOf_5 <|
    s_iload_n (pc := 8) C dX7_addBlockOf_8 rfl <|
    s_iconst (pc := 9) C dX7_addBlockOf_9 <|
    s_iadd (pc := 10) C dX7_addBlockOf_10 <|
    s_callVg (pc := 11) C ct_X4_add (n := 2) (rk := 0) (mp := [18]) ⟨rfl, by decide, rfl⟩ (ci := 4) rfl rfl (by decide) (by decide) yi_X4_add (by decide) wd_847 wd_453 wd_454 wd_77 wd_455 dX7_addBlockOf_11 <|
    s_return (pc := 14) C rfl dX7_addBlockOf_14)
noncomputable def rw_X7_addBlockOf_0 : XK := rg_X7_addBlockOf_0
noncomputable def md_X7_addBlockOf_0 (p1 : Int) (h0 : Ob) (h1 : Ob) (h2 : Ob) (h3 : Ob) (h4 : Ob) (h5 : Ob) (h6 : Ob) (h7 : Ob) (h8 : Ob) (h9 : Ob) (h10 : Ob) (h11 : Ob) (h12 : Ob) (h13 : Ob) (h14 : Ob) (h15 : Ob) (h16 : Ob) (h17 : Ob) (h19 : Ob) (h20 : Ob) (h21 : Ob) (h22 : Ob) (h23 : Ob) (h24 : Ob) : Ob → Option Rt := mg_X7_addBlockOf_0 p1 h0 h1 h2 h3 h4 h5 h6 h7 h8 h9 h10 h11 h12 h13 h14 h15 h16 h17 h19 h20 h21 h22 h23 h24
theorem eq_X7_addBlockOf_0 (p1 : Int) (h0 : Ob) (h1 : Ob) (h2 : Ob) (h3 : Ob) (h4 : Ob) (h5 : Ob) (h6 : Ob) (h7 : Ob) (h8 : Ob) (h9 : Ob) (h10 : Ob) (h11 : Ob) (h12 : Ob) (h13 : Ob) (h14 : Ob) (h15 : Ob) (h16 : Ob) (h17 : Ob) (h19 : Ob) (h20 : Ob) (h21 : Ob) (h22 : Ob) (h23 : Ob) (h24 : Ob) (a : Ob) : rw_X7_addBlockOf_0 (en_X7_addBlockOf_0 p1 h0 h1 h2 h3 h4 h5 h6 h7 h8 h9 h10 h11 h12 h13 h14 h15 h16 h17 h19 h20 h21 h22 h23 h24 a) = md_X7_addBlockOf_0 p1 h0 h1 h2 h3 h4 h5 h6 h7 h8 h9 h10 h11 h12 h13 h14 h15 h16 h17 h19 h20 h21 h22 h23 h24 a :=
 rq_X7_addBlockOf_0 p1 h0 h1 h2 h3 h4 h5 h6 h7 h8 h9 h10 h11 h12 h13 h14 h15 h16 h17 h19 h20 h21 h22 h23 h24 a
theorem sd_X7_addBlockOf_0 {X : XDyn} {r0 : Rt} (C : XO X mX7_addBlockOf) : XS X mX7_addBlockOf r0 0 (rw_X7_addBlockOf_0) := sg_X7_addBlockOf_0 C
theorem ctr_X7_addBlockOf : XCt yX7_addBlockOf mX7_addBlockOf (xF mX7_addBlockOf (rw_X7_addBlockOf_0)) := xMet (by decide +kernel) rfl (fun _ _ C => sd_X7_addBlockOf_0 C)
theorem eqf_X7_addBlockOf (p1 : Int) (h0 : Ob) (h1 : Ob) (h2 : Ob) (h3 : Ob) (h4 : Ob) (h5 : Ob) (h6 : Ob) (h7 : Ob) (h8 : Ob) (h9 : Ob) (h10 : Ob) (h11 : Ob) (h12 : Ob) (h13 : Ob) (h14 : Ob) (h15 : Ob) (h16 : Ob) (h17 : Ob) (h18 : Ob) (h19 : Ob) (h20 : Ob) (h21 : Ob) (h22 : Ob) (h23 : Ob) (h24 : Ob) : xF mX7_addBlockOf (rw_X7_addBlockOf_0) [.inr (.inl (0, 0)), .inl p1] [h0, h1, h2, h3, h4, h5, h6, h7, h8, h9, h10, h11, h12, h13, h14, h15, h16, h17, h18, h19, h20, h21, h22, h23, h24] = md_X7_addBlockOf_0 p1 h0 h1 h2 h3 h4 h5 h6 h7 h8 h9 h10 h11 h12 h13 h14 h15 h16 h17 h19 h20 h21 h22 h23 h24 h18 := eq_X7_addBlockOf_0 p1 h0 h1 h2 h3 h4 h5 h6 h7 h8 h9 h10 h11 h12 h13 h14 h15 h16 h17 h19 h20 h21 h22 h23 h24 h18
theorem yi_X7_addBlockOf : yX7_addBlockOf.cls = RX7 ∧ yX7_addBlockOf.cls ≠ "java/lang/invoke/MethodHandle" ∧ yX7_addBlockOf.cls ≠ "java/lang/invoke/VarHandle" ∧ (parseMethodDescriptor yX7_addBlockOf.desc).map (fun d => d.parameters.length) = some 1 := ⟨rfl, by decide +kernel, by decide +kernel, by decide +kernel⟩
theorem sp_X7_addBlockOf (p1 : Int) (h0 h1 h2 h3 h4 h5 h6 h7 h8 h9 h10 h11 h12 h13 h14 h15 h16 h17 h18 h19 h20 h21 h22 h23 h24 : Ob) (hg : (decide (0 ≤ xw (h18 0 2))) = true) : md_X7_addBlockOf_0 p1 h0 h1 h2 h3 h4 h5 h6 h7 h8 h9 h10 h11 h12 h13 h14 h15 h16 h17 h19 h20 h21 h22 h23 h24 h18 = RV [h0, h1, h2, h3, h4, h5, h6, h7, h8, h9, h10, h11, h12, h13, h14, h15, h16, h17, (abO h18 p1), h19, h20, h21, h22, h23, h24] := by
  simp only [md_X7_addBlockOf_0, mg_X7_addBlockOf_0]
  unfold abO
  by_cases hc : xw p1 ≤ 0
  · rw [if_pos hc, if_pos hc]
  · rw [if_neg hc, if_neg hc, if_pos hg]
noncomputable def g_X7_addBlockOf : List AV → List Ob → Bool
  | [.inr (.inl (0, 0)), .inl p1], [h0, h1, h2, h3, h4, h5, h6, h7, h8, h9, h10, h11, h12, h13, h14, h15, h16, h17, h18, h19, h20, h21, h22, h23, h24] => decide (0 ≤ xw (h18 0 2))
  | _, _ => false
noncomputable def v_X7_addBlockOf : List AV → List Ob → Rt
  | [.inr (.inl (0, 0)), .inl p1], [h0, h1, h2, h3, h4, h5, h6, h7, h8, h9, h10, h11, h12, h13, h14, h15, h16, h17, h18, h19, h20, h21, h22, h23, h24] => (none, [h0, h1, h2, h3, h4, h5, h6, h7, h8, h9, h10, h11, h12, h13, h14, h15, h16, h17, (abO h18 p1), h19, h20, h21, h22, h23, h24])
  | _, _ => (none, [])
theorem ct_X7_addBlockOf : XCt yX7_addBlockOf mX7_addBlockOf (fun as μ => if g_X7_addBlockOf as μ then some (v_X7_addBlockOf as μ) else none) := (ctr_X7_addBlockOf ).of (fun as μ r h => by
  split at h
  · rename_i hg
    unfold g_X7_addBlockOf at hg
    split at hg
    · rw [← h]
      exact (eqf_X7_addBlockOf _ _ _ _ _ _ _ _ _ _ _ _ _ _ _ _ _ _ _ _ _ _ _ _ _ _).trans (sp_X7_addBlockOf _ _ _ _ _ _ _ _ _ _ _ _ _ _ _ _ _ _ _ _ _ _ _ _ _ _ hg)
    · cases hg
  · cases h)
