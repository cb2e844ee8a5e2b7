theorem dX3_slide_0 : decode cX3_slide 0 = .ok (.iconst 0, 1) := by decide +kernel
theorem dX3_slide_1 : decode cX3_slide 1 = .ok (.istore_n 2, 1) := by decide +kernel
theorem dX3_slide_2 : decode cX3_slide 2 = .ok (.iload_n 2, 1) := by decide +kernel
theorem dX3_slide_3 : decode cX3_slide 3 = .ok (.sipush 1000, 3) := by decide +kernel
theorem dX3_slide_6 : decode cX3_slide 6 = .ok (.if_icmp .ge 86, 3) := by decide +kernel
theorem dX3_slide_9 : decode cX3_slide 9 = .ok (.aload_n 0, 1) := by decide +kernel
theorem dX3_slide_10 : decode cX3_slide 10 = .ok (.invokevirtual 123, 3) := by decide +kernel
theorem dX3_slide_13 : decode cX3_slide 13 = .ok (.istore_n 3, 1) := by decide +kernel
theorem dX3_slide_14 : decode cX3_slide 14 = .ok (.iload_n 3, 1) := by decide +kernel
theorem dX3_slide_15 : decode cX3_slide 15 = .ok (.iconst (-1), 1) := by decide +kernel
theorem dX3_slide_16 : decode cX3_slide 16 = .ok (.if_icmp .ne 5, 3) := by decide +kernel
theorem dX3_slide_19 : decode cX3_slide 19 = .ok (.iconst (-1), 1) := by decide +kernel
theorem dX3_slide_20 : decode cX3_slide 20 = .ok (.ireturn, 1) := by decide +kernel
theorem dX3_slide_21 : decode cX3_slide 21 = .ok (.aload_n 0, 1) := by decide +kernel
theorem dX3_slide_22 : decode cX3_slide 22 = .ok (.aload_n 0, 1) := by decide +kernel
theorem dX3_slide_23 : decode cX3_slide 23 = .ok (.iload_n 3, 1) := by decide +kernel
theorem dX3_slide_24 : decode cX3_slide 24 = .ok (.aload_n 0, 1) := by decide +kernel
theorem dX3_slide_25 : decode cX3_slide 25 = .ok (.getfield 40, 3) := by decide +kernel
theorem dX3_slide_28 : decode cX3_slide 28 = .ok (.invokevirtual 114, 3) := by decide +kernel
theorem dX3_slide_31 : decode cX3_slide 31 = .ok (.invokevirtual 117, 3) := by decide +kernel
theorem dX3_slide_34 : decode cX3_slide 34 = .ok (.istore 4, 2) := by decide +kernel
theorem dX3_slide_36 : decode cX3_slide 36 = .ok (.aload_n 0, 1) := by decide +kernel
theorem dX3_slide_37 : decode cX3_slide 37 = .ok (.iload 4, 2) := by decide +kernel
theorem dX3_slide_39 : decode cX3_slide 39 = .ok (.invokevirtual 75, 3) := by decide +kernel
theorem dX3_slide_42 : decode cX3_slide 42 = .ok (.ifCond .ne 5, 3) := by decide +kernel
theorem dX3_slide_45 : decode cX3_slide 45 = .ok (.iconst (-1), 1) := by decide +kernel
theorem dX3_slide_46 : decode cX3_slide 46 = .ok (.ireturn, 1) := by decide +kernel
theorem dX3_slide_47 : decode cX3_slide 47 = .ok (.aload_n 0, 1) := by decide +kernel
theorem dX3_slide_48 : decode cX3_slide 48 = .ok (.getfield 9, 3) := by decide +kernel
theorem dX3_slide_51 : decode cX3_slide 51 = .ok (.iload 4, 2) := by decide +kernel
theorem dX3_slide_53 : decode cX3_slide 53 = .ok (.iload_n 3, 1) := by decide +kernel
theorem dX3_slide_54 : decode cX3_slide 54 = .ok (.iastore, 1) := by decide +kernel
theorem dX3_slide_55 : decode cX3_slide 55 = .ok (.aload_n 0, 1) := by decide +kernel
theorem dX3_slide_56 : decode cX3_slide 56 = .ok (.iload_n 3, 1) := by decide +kernel
theorem dX3_slide_57 : decode cX3_slide 57 = .ok (.aload_n 0, 1) := by decide +kernel
theorem dX3_slide_58 : decode cX3_slide 58 = .ok (.getfield 40, 3) := by decide +kernel
theorem dX3_slide_61 : decode cX3_slide 61 = .ok (.invokevirtual 114, 3) := by decide +kernel
theorem dX3_slide_64 : decode cX3_slide 64 = .ok (.istore 5, 2) := by decide +kernel
theorem dX3_slide_66 : decode cX3_slide 66 = .ok (.aload_n 0, 1) := by decide +kernel
theorem dX3_slide_67 : decode cX3_slide 67 = .ok (.iload 5, 2) := by decide +kernel
theorem dX3_slide_69 : decode cX3_slide 69 = .ok (.aload_n 0, 1) := by decide +kernel
theorem dX3_slide_70 : decode cX3_slide 70 = .ok (.getfield 40, 3) := by decide +kernel
theorem dX3_slide_73 : decode cX3_slide 73 = .ok (.invokevirtual 114, 3) := by decide +kernel
theorem dX3_slide_76 : decode cX3_slide 76 = .ok (.iload 5, 2) := by decide +kernel
theorem dX3_slide_78 : decode cX3_slide 78 = .ok (.isub, 1) := by decide +kernel
theorem dX3_slide_79 : decode cX3_slide 79 = .ok (.iload_n 1, 1) := by decide +kernel
theorem dX3_slide_80 : decode cX3_slide 80 = .ok (.if_icmp .lt 6, 3) := by decide +kernel
theorem dX3_slide_83 : decode cX3_slide 83 = .ok (.iload 5, 2) := by decide +kernel
theorem dX3_slide_85 : decode cX3_slide 85 = .ok (.ireturn, 1) := by decide +kernel
theorem dX3_slide_86 : decode cX3_slide 86 = .ok (.iinc 2 1, 3) := by decide +kernel
theorem dX3_slide_89 : decode cX3_slide 89 = .ok (.goto (-87), 3) := by decide +kernel
theorem dX3_slide_92 : decode cX3_slide 92 = .ok (.iconst (-1), 1) := by decide +kernel
theorem dX3_slide_93 : decode cX3_slide 93 = .ok (.ireturn, 1) := by decide +kernel
abbrev mX3_slide : XM := (cX3_slide, 6, RX3, (some .int), shw_3, 2)
noncomputable def rg_X3_slide_0 (k2 : XK) : XK :=
 o_iconst 0 <|
 o_istore 2 <|
 o_cut [] k2
def en_X3_slide_0 (p1 : Int) (a : Ob) : XSt := ([some (.inr (.inl (0, 0))), some (.inl p1), none, none, none, none], [], [a])
noncomputable def rg_X3_slide_2 (k2 : XK) : XK :=
 o_iload 2 <|
 o_iconst 1000 <|
 o_icmp_ge (o_iconst (-1) <|
 o_ireturn)
 (o_aload 0 <|
 o_callVg 1 1 [0] g_X3_firstFreeAheadOfMovable v_X3_firstFreeAheadOfMovable <|
 o_istore 3 <|
 o_iload 3 <|
 o_iconst (-1) <|
 o_icmp_ne (o_aload 0 <|
 o_aload 0 <|
 o_iload 3 <|
 o_aload 0 <|
 o_get shw_3 3 9 <|
 o_callV 3 1 [0] f_X3_endAt <|
 o_callV 2 1 [0] f_X3_holderAt <|
 o_istore 4 <|
 o_aload 0 <|
 o_iload 4 <|
 o_callV 2 1 [0] f_X3_isMovable <|
 o_if_ne (o_aload 0 <|
 o_get shw_3 3 0 <|
 o_iload 4 <|
 o_iload 3 <|
 o_iast shw_3 <|
 o_aload 0 <|
 o_iload 3 <|
 o_aload 0 <|
 o_get shw_3 3 9 <|
 o_callV 3 1 [0] f_X3_endAt <|
 o_istore 5 <|
 o_aload 0 <|
 o_iload 5 <|
 o_aload 0 <|
 o_get shw_3 3 9 <|
 o_callV 3 1 [0] f_X3_endAt <|
 o_iload 5 <|
 o_isub <|
 o_iload 1 <|
 o_icmp_lt (o_iinc 2 1 <|
 o_cut [3, 4, 5] k2)
 (o_iload 5 <|
 o_ireturn))
 (o_iconst (-1) <|
 o_ireturn))
 (o_iconst (-1) <|
 o_ireturn))
def en_X3_slide_2 (p1 : Int) (a : Int × Ob) : XSt := ([some (.inr (.inl (0, 0))), some (.inl p1), some (.inl a.1), none, none, none], [], [a.2])
noncomputable def mg_X3_slide_0 (p1 : Int) (k2 : (Int × Ob) → Option Rt) (a : Ob) : Option Rt :=
 k2 (0, a)
set_option maxRecDepth 100000 in
set_option maxHeartbeats 4000000 in
theorem rq_X3_slide_0 (p1 : Int) (k2 : XK) (a : Ob) : rg_X3_slide_0 k2 (en_X3_slide_0 p1 a) = mg_X3_slide_0 p1 (fun b => k2 (en_X3_slide_2 p1 b)) a := rfl
set_option maxRecDepth 100000 in
set_option maxHeartbeats 4000000 in
theorem sg_X3_slide_0 {X : XDyn} {r0 : Rt} (C : XO X mX3_slide) {k2 : XK} (q2 : XS X mX3_slide r0 2 k2) : XS X mX3_slide r0 0 (rg_X3_slide_0 k2) := by
 unfold rg_X3_slide_0
 exact s_iconst (pc := 0) C dX3_slide_0 <|
    s_istore_n (pc := 1) C dX3_slide_1 rfl <|
    s_cut q2
noncomputable def mg_X3_slide_2 (p1 : Int) (k2 : (Int × Ob) → Option Rt) (a : Int × Ob) : Option Rt :=
 if xw a.1 ≥ 1000 then (RI (-1) [a.2])
 else (if pd (LW a.2) then (
 if xw (ffm a.2) = (-1) then (RI (-1) [a.2])
 else (if xw (bz (mov a.2 (hol a.2 (nxt a.2 (ffm a.2) (a.2 0 9))))) = 0 then (RI (-1) [a.2])
 else (if xin (hol a.2 (nxt a.2 (ffm a.2) (a.2 0 9))) 11 then (
 if xw ((nxt (xset a.2 1 (xw (hol a.2 (nxt a.2 (ffm a.2) (a.2 0 9)))).toNat (ffm a.2)) (nxt (xset a.2 1 (xw (hol a.2 (nxt a.2 (ffm a.2) (a.2 0 9)))).toNat (ffm a.2)) (ffm a.2) ((xset a.2 1 (xw (hol a.2 (nxt a.2 (ffm a.2) (a.2 0 9)))).toNat (ffm a.2)) 0 9)) ((xset a.2 1 (xw (hol a.2 (nxt a.2 (ffm a.2) (a.2 0 9)))).toNat (ffm a.2)) 0 9)) - (nxt (xset a.2 1 (xw (hol a.2 (nxt a.2 (ffm a.2) (a.2 0 9)))).toNat (ffm a.2)) (ffm a.2) ((xset a.2 1 (xw (hol a.2 (nxt a.2 (ffm a.2) (a.2 0 9)))).toNat (ffm a.2)) 0 9))) < xw p1 then (k2 ((a.1 + 1), (xset a.2 1 (xw (hol a.2 (nxt a.2 (ffm a.2) (a.2 0 9)))).toNat (ffm a.2))))
 else (RI (nxt (xset a.2 1 (xw (hol a.2 (nxt a.2 (ffm a.2) (a.2 0 9)))).toNat (ffm a.2)) (ffm a.2) ((xset a.2 1 (xw (hol a.2 (nxt a.2 (ffm a.2) (a.2 0 9)))).toNat (ffm a.2)) 0 9)) [(xset a.2 1 (xw (hol a.2 (nxt a.2 (ffm a.2) (a.2 0 9)))).toNat (ffm a.2))])) else none))) else none)
set_option maxRecDepth 100000 in
set_option maxHeartbeats 4000000 in
theorem rq_X3_slide_2 (p1 : Int) (k2 : XK) (a : Int × Ob) : rg_X3_slide_2 k2 (en_X3_slide_2 p1 a) = mg_X3_slide_2 p1 (fun b => k2 (en_X3_slide_2 p1 b)) a := rfl
set_option maxRecDepth 100000 in
set_option maxHeartbeats 4000000 in
theorem sg_X3_slide_2 {X : XDyn} {r0 : Rt} (C : XO X mX3_slide) {k2 : XK} (q2 : XS X mX3_slide r0 2 k2) : XS X mX3_slide r0 2 (rg_X3_slide_2 k2) := by
 unfold rg_X3_slide_2
 exact s_iload_n (pc := 2) C dX3_slide_2 rfl <|
    s_sipush (pc := 3) C dX3_slide_3 (by decide) <|
    s_icmp_ge (pc := 6) C dX3_slide_6 (by decide) (s_iconst (pc := 92) C dX3_slide_92 <|
    s_ireturn (pc := 93) C rfl dX3_slide_93)
    (s_aload_n (pc := 9) C dX3_slide_9 rfl <|
    s_callVg (pc := 10) C ct_X3_firstFreeAheadOfMovable (n := 1) (rk := 1) (mp := [0]) ⟨rfl, by decide, rfl⟩ (ci := 3) rfl rfl (by decide) (by decide) yi_X3_firstFreeAheadOfMovable (by decide) wd_408 wd_410 wd_2 wd_74 wd_411 dX3_slide_10 <|
    s_istore_n (pc := 13) C dX3_slide_13 rfl <|
    s_iload_n (pc := 14) C dX3_slide_14 rfl <|
    s_iconst (pc := 15) C dX3_slide_15 <|
    s_icmp_ne (pc := 16) C dX3_slide_16 (by decide) (s_aload_n (pc := 21) C dX3_slide_21 rfl <|
    s_aload_n (pc := 22) C dX3_slide_22 rfl <|
    s_iload_n (pc := 23) C dX3_slide_23 rfl <|
    s_aload_n (pc := 24) C dX3_slide_24 rfl <|
    s_get (pc := 25) C (ci := 3) (kf := 9) rfl inX3 (by decide) wd_127 dX3_slide_25 <|
    s_callV (pc := 28) C ct_X3_endAt (n := 3) (rk := 1) (mp := [0]) ⟨rfl, by decide, rfl⟩ (ci := 3) rfl rfl (by decide) (by decide) yi_X3_endAt (by decide) wd_397 wd_398 wd_399 wd_74 wd_400 dX3_slide_28 <|
    s_callV (pc := 31) C ct_X3_holderAt (n := 2) (rk := 1) (mp := [0]) ⟨rfl, by decide, rfl⟩ (ci := 3) rfl rfl (by decide) (by decide) yi_X3_holderAt (by decide) wd_393 wd_394 wd_395 wd_74 wd_396 dX3_slide_31 <|
    s_istore (pc := 34) C dX3_slide_34 <|
    s_aload_n (pc := 36) C dX3_slide_36 rfl <|
    s_iload (pc := 37) C dX3_slide_37 <|
    s_callV (pc := 39) C ct_X3_isMovable (n := 2) (rk := 1) (mp := [0]) ⟨rfl, by decide, rfl⟩ (ci := 3) rfl rfl (by decide) (by decide) yi_X3_isMovable (by decide) wd_412 wd_413 wd_414 wd_74 wd_415 dX3_slide_39 <|
    s_if_ne (pc := 42) C dX3_slide_42 (by decide) (s_aload_n (pc := 47) C dX3_slide_47 rfl <|
    s_get (pc := 48) C (ci := 3) (kf := 0) rfl inX3 (by decide) wd_99 dX3_slide_48 <|
    s_iload (pc := 51) C dX3_slide_51 <|
    s_iload_n (pc := 53) C dX3_slide_53 rfl <|
    s_iast (pc := 54) C dX3_slide_54 <|
    s_aload_n (pc := 55) C dX3_slide_55 rfl <|
    s_iload_n (pc := 56) C dX3_slide_56 rfl <|
    s_aload_n (pc := 57) C dX3_slide_57 rfl <|
    s_get (pc := 58) C (ci := 3) (kf := 9) rfl inX3 (by decide) wd_127 dX3_slide_58 <|
    s_callV (pc := 61) C ct_X3_endAt (n := 3) (rk := 1) (mp := [0]) ⟨rfl, by decide, rfl⟩ (ci := 3) rfl rfl (by decide) (by decide) yi_X3_endAt (by decide) wd_397 wd_398 wd_399 wd_74 wd_400 dX3_slide_61 <|
    s_istore (pc := 64) C dX3_slide_64 <|
    s_aload_n (pc := 66) C dX3_slide_66 rfl <|
    s_iload (pc := 67) C dX3_slide_67 <|
    s_aload_n (pc := 69) C dX3_slide_69 rfl <|
    s_get (pc := 70) C (ci := 3) (kf := 9) rfl inX3 (by decide) wd_127 dX3_slide_70 <|
    s_callV (pc := 73) C ct_X3_endAt (n := 3) (rk := 1) (mp := [0]) ⟨rfl, by decide, rfl⟩ (ci := 3) rfl rfl (by decide) (by decide) yi_X3_endAt (by decide) wd_397 wd_398 wd_399 wd_74 wd_400 dX3_slide_73 <|
    s_iload (pc := 76) C dX3_slide_76 <|
    s_isub (pc := 78) C dX3_slide_78 <|
    s_iload_n (pc := 79) C dX3_slide_79 rfl <|
    s_icmp_lt (pc := 80) C dX3_slide_80 (by decide) (s_iinc (pc := 86) C dX3_slide_86 <|
    s_goto (pc := 89) C dX3_slide_89 (by decide) <|
    s_cut q2)
    (s_iload (pc := 83) C dX3_slide_83 <|
    s_ireturn (pc := 85) C rfl dX3_slide_85))
    (s_iconst (pc := 45) C dX3_slide_45 <|
    s_ireturn (pc := 46) C rfl dX3_slide_46))
    (s_iconst (pc := 19) C dX3_slide_19 <|
    s_ireturn (pc := 20) C rfl dX3_slide_20))
noncomputable def rw_X3_slide_2 (f : Nat) : XK := tlp (fun k2 => rg_X3_slide_2 k2) f
noncomputable def lb_X3_slide_2 (p1 : Int) (f : Nat) : ((Int × Ob) → Option Rt) → Int × Ob → Option Rt := fun k2 => mg_X3_slide_2 p1 k2
noncomputable def md_X3_slide_2 (p1 : Int) (f : Nat) : Int × Ob → Option Rt := tlp (lb_X3_slide_2 p1 f) f
theorem eq_X3_slide_2 (p1 : Int) (f : Nat) (a : Int × Ob) : rw_X3_slide_2 f (en_X3_slide_2 p1 a) = md_X3_slide_2 p1 f a :=
 tlp_enc (en_X3_slide_2 p1) (fun k2 a => (rq_X3_slide_2 p1 k2 a).trans (congrFun (congr (rfl : mg_X3_slide_2 p1 = mg_X3_slide_2 p1) rfl) a)) f a
theorem sd_X3_slide_2 (f : Nat) {X : XDyn} {r0 : Rt} (C : XO X mX3_slide) : XS X mX3_slide r0 2 (rw_X3_slide_2 f) := s_lp (fun k2 q2 => sg_X3_slide_2 C q2) f
noncomputable def rw_X3_slide_0 (f : Nat) : XK := rg_X3_slide_0 (rw_X3_slide_2 f)
noncomputable def md_X3_slide_0 (p1 : Int) (f : Nat) : Ob → Option Rt := mg_X3_slide_0 p1 (md_X3_slide_2 p1 f)
theorem eq_X3_slide_0 (p1 : Int) (f : Nat) (a : Ob) : rw_X3_slide_0 f (en_X3_slide_0 p1 a) = md_X3_slide_0 p1 f a :=
 (rq_X3_slide_0 p1 (rw_X3_slide_2 f) a).trans (congrFun (congr (rfl : mg_X3_slide_0 p1 = mg_X3_slide_0 p1) (funext (eq_X3_slide_2 p1 f))) a)
theorem sd_X3_slide_0 (f : Nat) {X : XDyn} {r0 : Rt} (C : XO X mX3_slide) : XS X mX3_slide r0 0 (rw_X3_slide_0 f) := sg_X3_slide_0 C (sd_X3_slide_2 f C)
theorem ctr_X3_slide (f : Nat) : XCt yX3_slide mX3_slide (xF mX3_slide (rw_X3_slide_0 f)) := xMet (by decide +kernel) rfl (fun _ _ C => sd_X3_slide_0 f C)
theorem eqf_X3_slide (f : Nat) (p1 : Int) (h0 : Ob) : xF mX3_slide (rw_X3_slide_0 f) [.inr (.inl (0, 0)), .inl p1] [h0] = md_X3_slide_0 p1 f h0 := eq_X3_slide_0 p1 f h0
theorem yi_X3_slide : yX3_slide.cls = RX3 ∧ yX3_slide.cls ≠ "java/lang/invoke/MethodHandle" ∧ yX3_slide.cls ≠ "java/lang/invoke/VarHandle" ∧ (parseMethodDescriptor yX3_slide.desc).map (fun d => d.parameters.length) = some 1 := ⟨rfl, by decide +kernel, by decide +kernel, by decide +kernel⟩
theorem sld_step (n : Int) (t : Nat) {h : Ob} (hL : LW h) : LW (sldI n t h).2 := by
  induction t generalizing h with
  | zero => exact hL
  | succ t ih =>
    unfold sldI
    split
    · exact hL
    · rename_i hf
      obtain ⟨a1, a2, a3, a4, i, b1, b2, b3, b4, b5, b6⟩ := hL.ffmc hf
      have hl2 := hL.slide1 hf (show i < 11 by omega) b3
      rw [b2, toNat_nat]
      split
      · exact hl2
      · exact ih hl2
theorem sp_X3_slide (f : Nat) (hf : 2000 ≤ f) (p1 : Int) (h0 : Ob) (hg : pd (LW h0) = true) : md_X3_slide_0 p1 f h0 = RI (sld h0 p1).1 [(sld h0 p1).2] := by
  have hL := pd_of hg
  rw [sld_e]
  show md_X3_slide_2 p1 f (0, h0) = _
  unfold md_X3_slide_2
  generalize hf0 : f = f0
  rw [hf0] at hf
  have key : ∀ (d s f : Nat) (h : Ob), s + d = 1000 → d < f → LW h → tlp (lb_X3_slide_2 p1 f0) f ((s : Int), h) = RI (sldI p1 d h).1 [(sldI p1 d h).2] := by
    intro d
    induction d with
    | zero =>
      intro s f h hs hf hL
      cases f with
      | zero => omega
      | succ f =>
        have : s = 1000 := by omega
        subst this
        rfl
    | succ d ih =>
      intro s f h hs hf hL
      cases f with
      | zero => omega
      | succ f =>
        obtain ⟨z1, z2, z3, -⟩ := id hL
        rw [tlp_succ]
        simp only [lb_X3_slide_2, mg_X3_slide_2, xw_nat (show s < 2147483648 by omega), pd_t hL, if_true, bz_0]
        rw [if_neg (by omega)]
        unfold sldI
        by_cases hff : ffm h = -1
        · rw [if_pos hff, if_pos (by rw [hff]; decide)]
        · obtain ⟨a1, a2, a3, a4, i, b1, b2, b3, b4, b5, b6⟩ := hL.ffmc hff
          have hl2 := hL.slide1 hff (show i < 11 by omega) b3
          have e9 : xset h 1 i (ffm h) 0 9 = h 0 9 := xset_part _ _ _ _ (by omega) _
          have e2 : xset h 1 i (ffm h) 2 i = h 2 i := xset_part _ _ _ _ (by omega) _
          have e1 : xset h 1 i (ffm h) 1 i = ffm h := xset_same _ _ _ _
          rw [if_neg (by rw [xw_id (by omega) (by omega)]; exact hff), if_neg hff]
          rw [b2, b6]
          rw [if_neg (by simp), xw_nat (show i < 2147483648 by omega), toNat_nat, xin_nat (show i < 11 by omega) (by omega)]
          simp only [if_true, e9]
          have n1 : nxt (xset h 1 i (ffm h)) (ffm h) (h 0 9) = ffm h + h 2 i + 1 := by
            have := hl2.nxt_at (i := i) (by omega) (by rw [e1]; omega) (h 0 9)
            rw [e1, e2] at this
            exact this
          have hi4 := hL.2.2.2.1 i (by omega)
          have n2 : nxt (xset h 1 i (ffm h)) (ffm h + h 2 i + 1) (h 0 9) ≤ h 0 9 ∧ ffm h + h 2 i + 1 < nxt (xset h 1 i (ffm h)) (ffm h + h 2 i + 1) (h 0 9) := by
            have := hl2.nxc (k := ffm h + h 2 i + 1) (e := h 0 9) (by omega) (by omega) (by rw [e9]; omega) (by omega)
            omega
          rw [n1, xw_id (x := nxt (xset h 1 i (ffm h)) (ffm h + h 2 i + 1) (h 0 9) - (ffm h + h 2 i + 1)) (by omega) (by omega)]
          by_cases hc : xw p1 ≤ nxt (xset h 1 i (ffm h)) (ffm h + h 2 i + 1) (h 0 9) - (ffm h + h 2 i + 1)
          · rw [if_neg (by omega), if_pos hc]
          · rw [if_pos (by omega), if_neg hc]
            exact ih (s + 1) f _ (by omega) (by omega) hl2
  exact key 1000 0 f0 h0 (by omega) (by omega) hL
noncomputable def g_X3_slide : List AV → List Ob → Bool
  | [.inr (.inl (0, 0)), .inl p1], [h0] => pd (LW h0)
  | _, _ => false
noncomputable def v_X3_slide : List AV → List Ob → Rt
  | [.inr (.inl (0, 0)), .inl p1], [h0] => (some (.inl ((sld h0 p1).1)), [((sld h0 p1).2)])
  | _, _ => (none, [])
theorem ct_X3_slide : XCt yX3_slide mX3_slide (fun as μ => if g_X3_slide as μ then some (v_X3_slide as μ) else none) := (ctr_X3_slide xfu).of (fun as μ r h => by
  split at h
  · rename_i hg
    unfold g_X3_slide at hg
    split at hg
    · rw [← h]
      exact (eqf_X3_slide xfu _ _).trans (sp_X3_slide xfu (xfu_ge (by decide)) _ _ hg)
    · cases hg
  · cases h)
