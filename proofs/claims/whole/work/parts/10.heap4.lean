theorem dX3_begin_0 : decode cX3_begin 0 = .ok (.iconst 0, 1) := by decide +kernel
theorem dX3_begin_1 : decode cX3_begin 1 = .ok (.istore_n 3, 1) := by decide +kernel
theorem dX3_begin_2 : decode cX3_begin 2 = .ok (.iload_n 3, 1) := by decide +kernel
theorem dX3_begin_3 : decode cX3_begin 3 = .ok (.bipush 11, 2) := by decide +kernel
theorem dX3_begin_5 : decode cX3_begin 5 = .ok (.if_icmp .ge 16, 3) := by decide +kernel
theorem dX3_begin_8 : decode cX3_begin 8 = .ok (.aload_n 0, 1) := by decide +kernel
theorem dX3_begin_9 : decode cX3_begin 9 = .ok (.getfield 9, 3) := by decide +kernel
theorem dX3_begin_12 : decode cX3_begin 12 = .ok (.iload_n 3, 1) := by decide +kernel
theorem dX3_begin_13 : decode cX3_begin 13 = .ok (.iconst (-1), 1) := by decide +kernel
theorem dX3_begin_14 : decode cX3_begin 14 = .ok (.iastore, 1) := by decide +kernel
theorem dX3_begin_15 : decode cX3_begin 15 = .ok (.iinc 3 1, 3) := by decide +kernel
theorem dX3_begin_18 : decode cX3_begin 18 = .ok (.goto (-16), 3) := by decide +kernel
theorem dX3_begin_21 : decode cX3_begin 21 = .ok (.iconst 0, 1) := by decide +kernel
theorem dX3_begin_22 : decode cX3_begin 22 = .ok (.istore_n 3, 1) := by decide +kernel
theorem dX3_begin_23 : decode cX3_begin 23 = .ok (.iload_n 3, 1) := by decide +kernel
theorem dX3_begin_24 : decode cX3_begin 24 = .ok (.bipush 8, 2) := by decide +kernel
theorem dX3_begin_26 : decode cX3_begin 26 = .ok (.if_icmp .ge 16, 3) := by decide +kernel
theorem dX3_begin_29 : decode cX3_begin 29 = .ok (.aload_n 0, 1) := by decide +kernel
theorem dX3_begin_30 : decode cX3_begin 30 = .ok (.getfield 21, 3) := by decide +kernel
theorem dX3_begin_33 : decode cX3_begin 33 = .ok (.iload_n 3, 1) := by decide +kernel
theorem dX3_begin_34 : decode cX3_begin 34 = .ok (.iconst 0, 1) := by decide +kernel
theorem dX3_begin_35 : decode cX3_begin 35 = .ok (.iastore, 1) := by decide +kernel
theorem dX3_begin_36 : decode cX3_begin 36 = .ok (.iinc 3 1, 3) := by decide +kernel
theorem dX3_begin_39 : decode cX3_begin 39 = .ok (.goto (-16), 3) := by decide +kernel
theorem dX3_begin_42 : decode cX3_begin 42 = .ok (.aload_n 0, 1) := by decide +kernel
theorem dX3_begin_43 : decode cX3_begin 43 = .ok (.iconst 0, 1) := by decide +kernel
theorem dX3_begin_44 : decode cX3_begin 44 = .ok (.putfield 33, 3) := by decide +kernel
theorem dX3_begin_47 : decode cX3_begin 47 = .ok (.aload_n 0, 1) := by decide +kernel
theorem dX3_begin_48 : decode cX3_begin 48 = .ok (.iconst 0, 1) := by decide +kernel
theorem dX3_begin_49 : decode cX3_begin 49 = .ok (.putfield 37, 3) := by decide +kernel
theorem dX3_begin_52 : decode cX3_begin 52 = .ok (.aload_n 0, 1) := by decide +kernel
theorem dX3_begin_53 : decode cX3_begin 53 = .ok (.iload_n 1, 1) := by decide +kernel
theorem dX3_begin_54 : decode cX3_begin 54 = .ok (.putfield 40, 3) := by decide +kernel
theorem dX3_begin_57 : decode cX3_begin 57 = .ok (.aload_n 0, 1) := by decide +kernel
theorem dX3_begin_58 : decode cX3_begin 58 = .ok (.iload_n 2, 1) := by decide +kernel
theorem dX3_begin_59 : decode cX3_begin 59 = .ok (.putfield 43, 3) := by decide +kernel
theorem dX3_begin_62 : decode cX3_begin 62 = .ok (.aload_n 0, 1) := by decide +kernel
theorem dX3_begin_63 : decode cX3_begin 63 = .ok (.iconst 0, 1) := by decide +kernel
theorem dX3_begin_64 : decode cX3_begin 64 = .ok (.putfield 46, 3) := by decide +kernel
theorem dX3_begin_67 : decode cX3_begin 67 = .ok (.aload_n 0, 1) := by decide +kernel
theorem dX3_begin_68 : decode cX3_begin 68 = .ok (.iconst 0, 1) := by decide +kernel
theorem dX3_begin_69 : decode cX3_begin 69 = .ok (.putfield 49, 3) := by decide +kernel
theorem dX3_begin_72 : decode cX3_begin 72 = .ok (.aload_n 0, 1) := by decide +kernel
theorem dX3_begin_73 : decode cX3_begin 73 = .ok (.iconst 0, 1) := by decide +kernel
theorem dX3_begin_74 : decode cX3_begin 74 = .ok (.putfield 52, 3) := by decide +kernel
theorem dX3_begin_77 : decode cX3_begin 77 = .ok (.return_, 1) := by decide +kernel
abbrev mX3_begin : XM := (cX3_begin, 4, RX3, none, shw_3, 0)
noncomputable def rg_X3_begin_0 (k2 : XK) : XK :=
 o_iconst 0 <|
 o_istore 3 <|
 o_cut [] k2
def en_X3_begin_0 (p1 : Int) (p2 : Int) (a : Ob) : XSt := ([some (.inr (.inl (0, 0))), some (.inl p1), some (.inl p2), none], [], [a])
noncomputable def rg_X3_begin_2 (k23 : XK) (k2 : XK) : XK :=
 o_iload 3 <|
 o_iconst 11 <|
 o_icmp_ge (o_iconst 0 <|
 o_istore 3 <|
 o_cut [] k23)
 (o_aload 0 <|
 o_get shw_3 3 0 <|
 o_iload 3 <|
 o_iconst (-1) <|
 o_iast shw_3 <|
 o_iinc 3 1 <|
 o_cut [] k2)
def en_X3_begin_2 (p1 : Int) (p2 : Int) (a : Int × Ob) : XSt := ([some (.inr (.inl (0, 0))), some (.inl p1), some (.inl p2), some (.inl a.1)], [], [a.2])
noncomputable def rg_X3_begin_23 (k23 : XK) : XK :=
 o_iload 3 <|
 o_iconst 8 <|
 o_icmp_ge (o_aload 0 <|
 o_iconst 0 <|
 o_put shw_3 3 7 false <|
 o_aload 0 <|
 o_iconst 0 <|
 o_put shw_3 3 8 false <|
 o_aload 0 <|
 o_iload 1 <|
 o_put shw_3 3 9 false <|
 o_aload 0 <|
 o_iload 2 <|
 o_put shw_3 3 10 false <|
 o_aload 0 <|
 o_iconst 0 <|
 o_put shw_3 3 11 false <|
 o_aload 0 <|
 o_iconst 0 <|
 o_put shw_3 3 12 false <|
 o_aload 0 <|
 o_iconst 0 <|
 o_put shw_3 3 13 false <|
 o_return)
 (o_aload 0 <|
 o_get shw_3 3 3 <|
 o_iload 3 <|
 o_iconst 0 <|
 o_iast shw_3 <|
 o_iinc 3 1 <|
 o_cut [] k23)
def en_X3_begin_23 (p1 : Int) (p2 : Int) (a : Int × Ob) : XSt := ([some (.inr (.inl (0, 0))), some (.inl p1), some (.inl p2), some (.inl a.1)], [], [a.2])
noncomputable def mg_X3_begin_0 (p1 : Int) (p2 : Int) (k2 : (Int × Ob) → Option Rt) (a : Ob) : Option Rt :=
 k2 (0, a)
set_option maxRecDepth 100000 in
set_option maxHeartbeats 4000000 in
theorem rq_X3_begin_0 (p1 : Int) (p2 : Int) (k2 : XK) (a : Ob) : rg_X3_begin_0 k2 (en_X3_begin_0 p1 p2 a) = mg_X3_begin_0 p1 p2 (fun b => k2 (en_X3_begin_2 p1 p2 b)) a := rfl
set_option maxRecDepth 100000 in
set_option maxHeartbeats 4000000 in
theorem sg_X3_begin_0 {X : XDyn} {r0 : Rt} (C : XO X mX3_begin) {k2 : XK} (q2 : XS X mX3_begin r0 2 k2) : XS X mX3_begin r0 0 (rg_X3_begin_0 k2) := by
 unfold rg_X3_begin_0
 exact s_iconst (pc := 0) C dX3_begin_0 <|
    s_istore_n (pc := 1) C dX3_begin_1 rfl <|
    s_cut q2
noncomputable def mg_X3_begin_2 (p1 : Int) (p2 : Int) (k23 : (Int × Ob) → Option Rt) (k2 : (Int × Ob) → Option Rt) (a : Int × Ob) : Option Rt :=
 if xw a.1 ≥ 11 then (k23 (0, a.2))
 else (if xin a.1 11 then (
 k2 ((a.1 + 1), (xset a.2 1 (xw a.1).toNat (-1)))) else none)
set_option maxRecDepth 100000 in
set_option maxHeartbeats 4000000 in
theorem rq_X3_begin_2 (p1 : Int) (p2 : Int) (k23 : XK) (k2 : XK) (a : Int × Ob) : rg_X3_begin_2 k23 k2 (en_X3_begin_2 p1 p2 a) = mg_X3_begin_2 p1 p2 (fun b => k23 (en_X3_begin_23 p1 p2 b)) (fun b => k2 (en_X3_begin_2 p1 p2 b)) a := rfl
set_option maxRecDepth 100000 in
set_option maxHeartbeats 4000000 in
theorem sg_X3_begin_2 {X : XDyn} {r0 : Rt} (C : XO X mX3_begin) {k23 : XK} (q23 : XS X mX3_begin r0 23 k23) {k2 : XK} (q2 : XS X mX3_begin r0 2 k2) : XS X mX3_begin r0 2 (rg_X3_begin_2 k23 k2) := by
 unfold rg_X3_begin_2
 exact s_iload_n (pc := 2) C dX3_begin_2 rfl <|
    s_bipush (pc := 3) C dX3_begin_3 (by decide) <|
    s_icmp_ge (pc := 5) C dX3_begin_5 (by decide) (s_iconst (pc := 21) C dX3_begin_21 <|
    s_istore_n (pc := 22) C dX3_begin_22 rfl <|
    s_cut q23)
    (s_aload_n (pc := 8) C dX3_begin_8 rfl <|
    s_get (pc := 9) C (ci := 3) (kf := 0) rfl inX3 (by decide) wd_99 dX3_begin_9 <|
    s_iload_n (pc := 12) C dX3_begin_12 rfl <|
    s_iconst (pc := 13) C dX3_begin_13 <|
    s_iast (pc := 14) C dX3_begin_14 <|
    s_iinc (pc := 15) C dX3_begin_15 <|
    s_goto (pc := 18) C dX3_begin_18 (by decide) <|
    s_cut q2)
noncomputable def mg_X3_begin_23 (p1 : Int) (p2 : Int) (k23 : (Int × Ob) → Option Rt) (a : Int × Ob) : Option Rt :=
 if xw a.1 ≥ 8 then (RV [(xset (xset (xset (xset (xset (xset (xset a.2 0 7 0) 0 8 0) 0 9 p1) 0 10 p2) 0 11 0) 0 12 0) 0 13 0)])
 else (if xin a.1 8 then (
 k23 ((a.1 + 1), (xset a.2 4 (xw a.1).toNat 0))) else none)
set_option maxRecDepth 100000 in
set_option maxHeartbeats 4000000 in
theorem rq_X3_begin_23 (p1 : Int) (p2 : Int) (k23 : XK) (a : Int × Ob) : rg_X3_begin_23 k23 (en_X3_begin_23 p1 p2 a) = mg_X3_begin_23 p1 p2 (fun b => k23 (en_X3_begin_23 p1 p2 b)) a := rfl
set_option maxRecDepth 100000 in
set_option maxHeartbeats 4000000 in
theorem sg_X3_begin_23 {X : XDyn} {r0 : Rt} (C : XO X mX3_begin) {k23 : XK} (q23 : XS X mX3_begin r0 23 k23) : XS X mX3_begin r0 23 (rg_X3_begin_23 k23) := by
 unfold rg_X3_begin_23
 exact s_iload_n (pc := 23) C dX3_begin_23 rfl <|
    s_bipush (pc := 24) C dX3_begin_24 (by decide) <|
    s_icmp_ge (pc := 26) C dX3_begin_26 (by decide) (s_aload_n (pc := 42) C dX3_begin_42 rfl <|
    s_iconst (pc := 43) C dX3_begin_43 <|
    s_put (pc := 44) (z := false) C (ci := 3) (kf := 7) rfl inX3 tyX3_ok nmX3 (by decide) wd_121 rfl rfl dX3_begin_44 <|
    s_aload_n (pc := 47) C dX3_begin_47 rfl <|
    s_iconst (pc := 48) C dX3_begin_48 <|
    s_put (pc := 49) (z := false) C (ci := 3) (kf := 8) rfl inX3 tyX3_ok nmX3 (by decide) wd_123 rfl rfl dX3_begin_49 <|
    s_aload_n (pc := 52) C dX3_begin_52 rfl <|
    s_iload_n (pc := 53) C dX3_begin_53 rfl <|
    s_put (pc := 54) (z := false) C (ci := 3) (kf := 9) rfl inX3 tyX3_ok nmX3 (by decide) wd_127 rfl rfl dX3_begin_54 <|
    s_aload_n (pc := 57) C dX3_begin_57 rfl <|
    s_iload_n (pc := 58) C dX3_begin_58 rfl <|
    s_put (pc := 59) (z := false) C (ci := 3) (kf := 10) rfl inX3 tyX3_ok nmX3 (by decide) wd_129 rfl rfl dX3_begin_59 <|
    s_aload_n (pc := 62) C dX3_begin_62 rfl <|
    s_iconst (pc := 63) C dX3_begin_63 <|
    s_put (pc := 64) (z := false) C (ci := 3) (kf := 11) rfl inX3 tyX3_ok nmX3 (by decide) wd_131 rfl rfl dX3_begin_64 <|
    s_aload_n (pc := 67) C dX3_begin_67 rfl <|
    s_iconst (pc := 68) C dX3_begin_68 <|
    s_put (pc := 69) (z := false) C (ci := 3) (kf := 12) rfl inX3 tyX3_ok nmX3 (by decide) wd_133 rfl rfl dX3_begin_69 <|
    s_aload_n (pc := 72) C dX3_begin_72 rfl <|
    s_iconst (pc := 73) C dX3_begin_73 <|
    s_put (pc := 74) (z := false) C (ci := 3) (kf := 13) rfl inX3 tyX3_ok nmX3 (by decide) wd_135 rfl rfl dX3_begin_74 <|
    s_return (pc := 77) C rfl dX3_begin_77)
    (s_aload_n (pc := 29) C dX3_begin_29 rfl <|
    s_get (pc := 30) C (ci := 3) (kf := 3) rfl inX3 (by decide) wd_112 dX3_begin_30 <|
    s_iload_n (pc := 33) C dX3_begin_33 rfl <|
    s_iconst (pc := 34) C dX3_begin_34 <|
    s_iast (pc := 35) C dX3_begin_35 <|
    s_iinc (pc := 36) C dX3_begin_36 <|
    s_goto (pc := 39) C dX3_begin_39 (by decide) <|
    s_cut q23)
noncomputable def rw_X3_begin_23 (f : Nat) : XK := tlp (fun k23 => rg_X3_begin_23 k23) f
noncomputable def lb_X3_begin_23 (p1 : Int) (p2 : Int) (f : Nat) : ((Int × Ob) → Option Rt) → Int × Ob → Option Rt := fun k23 => mg_X3_begin_23 p1 p2 k23
noncomputable def md_X3_begin_23 (p1 : Int) (p2 : Int) (f : Nat) : Int × Ob → Option Rt := tlp (lb_X3_begin_23 p1 p2 f) f
theorem eq_X3_begin_23 (p1 : Int) (p2 : Int) (f : Nat) (a : Int × Ob) : rw_X3_begin_23 f (en_X3_begin_23 p1 p2 a) = md_X3_begin_23 p1 p2 f a :=
 tlp_enc (en_X3_begin_23 p1 p2) (fun k23 a => (rq_X3_begin_23 p1 p2 k23 a).trans (congrFun (congr (rfl : mg_X3_begin_23 p1 p2 = mg_X3_begin_23 p1 p2) rfl) a)) f a
theorem sd_X3_begin_23 (f : Nat) {X : XDyn} {r0 : Rt} (C : XO X mX3_begin) : XS X mX3_begin r0 23 (rw_X3_begin_23 f) := s_lp (fun k23 q23 => sg_X3_begin_23 C q23) f
noncomputable def rw_X3_begin_2 (f : Nat) : XK := tlp (fun k2 => rg_X3_begin_2 (rw_X3_begin_23 f) k2) f
noncomputable def lb_X3_begin_2 (p1 : Int) (p2 : Int) (f : Nat) : ((Int × Ob) → Option Rt) → Int × Ob → Option Rt := fun k2 => mg_X3_begin_2 p1 p2 (md_X3_begin_23 p1 p2 f) k2
noncomputable def md_X3_begin_2 (p1 : Int) (p2 : Int) (f : Nat) : Int × Ob → Option Rt := tlp (lb_X3_begin_2 p1 p2 f) f
theorem eq_X3_begin_2 (p1 : Int) (p2 : Int) (f : Nat) (a : Int × Ob) : rw_X3_begin_2 f (en_X3_begin_2 p1 p2 a) = md_X3_begin_2 p1 p2 f a :=
 tlp_enc (en_X3_begin_2 p1 p2) (fun k2 a => (rq_X3_begin_2 p1 p2 (rw_X3_begin_23 f) k2 a).trans (congrFun (congr (congr (rfl : mg_X3_begin_2 p1 p2 = mg_X3_begin_2 p1 p2) (funext (eq_X3_begin_23 p1 p2 f))) rfl) a)) f a
theorem sd_X3_begin_2 (f : Nat) {X : XDyn} {r0 : Rt} (C : XO X mX3_begin) : XS X mX3_begin r0 2 (rw_X3_begin_2 f) := s_lp (fun k2 q2 => sg_X3_begin_2 C (sd_X3_begin_23 f C) q2) f
noncomputable def rw_X3_begin_0 (f : Nat) : XK := rg_X3_begin_0 (rw_X3_begin_2 f)
noncomputable def md_X3_begin_0 (p1 : Int) (p2 : Int) (f : Nat) : Ob → Option Rt := mg_X3_begin_0 p1 p2 (md_X3_begin_2 p1 p2 f)
theorem eq_X3_begin_0 (p1 : Int) (p2 : Int) (f : Nat) (a : Ob) : rw_X3_begin_0 f (en_X3_begin_0 p1 p2 a) = md_X3_begin_0 p1 p2 f a :=
 (rq_X3_begin_0 p1 p2 (rw_X3_begin_2 f) a).trans (congrFun (congr (rfl : mg_X3_begin_0 p1 p2 = mg_X3_begin_0 p1 p2) (funext (eq_X3_begin_2 p1 p2 f))) a)
theorem sd_X3_begin_0 (f : Nat) {X : XDyn} {r0 : Rt} (C : XO X mX3_begin) : XS X mX3_begin r0 0 (rw_X3_begin_0 f) := sg_X3_begin_0 C (sd_X3_begin_2 f C)
theorem ctr_X3_begin (f : Nat) : XCt yX3_begin mX3_begin (xF mX3_begin (rw_X3_begin_0 f)) := xMet (by decide +kernel) rfl (fun _ _ C => sd_X3_begin_0 f C)
theorem eqf_X3_begin (f : Nat) (p1 : Int) (p2 : Int) (h0 : Ob) : xF mX3_begin (rw_X3_begin_0 f) [.inr (.inl (0, 0)), .inl p1, .inl p2] [h0] = md_X3_begin_0 p1 p2 f h0 := eq_X3_begin_0 p1 p2 f h0
theorem yi_X3_begin : yX3_begin.cls = RX3 ∧ yX3_begin.cls ≠ "java/lang/invoke/MethodHandle" ∧ yX3_begin.cls ≠ "java/lang/invoke/VarHandle" ∧ (parseMethodDescriptor yX3_begin.desc).map (fun d => d.parameters.length) = some 2 := ⟨rfl, by decide +kernel, by decide +kernel, by decide +kernel⟩
theorem sp_X3_begin (f : Nat) (hf : 1000 ≤ f) (p1 p2 : Int) (h0 : Ob) : md_X3_begin_0 p1 p2 f h0 = RV [begO h0 p1 p2] := by
  show md_X3_begin_2 p1 p2 f (0, h0) = _
  have l2 : ∀ h : Ob, md_X3_begin_23 p1 p2 f (0, h) = RV [xset (xset (xset (xset (xset (xset (xset ((List.range 8).foldl (fun (g : Ob) (i : Nat) => xset g 4 i 0) h) 0 7 0) 0 8 0) 0 9 p1) 0 10 p2) 0 11 0) 0 12 0) 0 13 0] := by
    intro h
    refine (loop_fold 8 _ (fun s : Ob => RV [xset (xset (xset (xset (xset (xset (xset s 0 7 0) 0 8 0) 0 9 p1) 0 10 p2) 0 11 0) 0 12 0) 0 13 0]) (fun i s => ((i : Int), s)) (fun _ _ => True) (fun k i s hi _ => ⟨?_, trivial⟩) (fun k s _ => rfl) f h (by omega) trivial).1
    simp only [md_X3_begin_0, mg_X3_begin_0, lb_X3_begin_2, mg_X3_begin_2, lb_X3_begin_23, mg_X3_begin_23, xw_nat (show i < 2147483648 by omega), xin_nat hi (show 8 ≤ 2147483648 by omega), toNat_nat, if_true]
    rw [if_neg (by omega)]
    rfl
  refine ((loop_fold 11 (fun (g : Ob) (i : Nat) => xset g 1 i (-1)) (fun s : Ob => md_X3_begin_23 p1 p2 f (0, s)) (fun i s => ((i : Int), s)) (fun _ _ => True) (fun k i s hi _ => ⟨?_, trivial⟩) (fun k s _ => rfl) f h0 (by omega) trivial).1).trans ?_
  · simp only [md_X3_begin_0, mg_X3_begin_0, lb_X3_begin_2, mg_X3_begin_2, lb_X3_begin_23, mg_X3_begin_23, xw_nat (show i < 2147483648 by omega), xin_nat hi (show 11 ≤ 2147483648 by omega), toNat_nat, if_true]
    rw [if_neg (by omega)]
    rfl
  · rw [l2]
    have e1 : ∀ (n : Nat) (b : Nat) (x : Int) (g : Ob), (List.range n).foldl (fun (g : Ob) (i : Nat) => xset g b i x) g = fun j k => if j = b ∧ k < n then x else g j k := by
      intro n b x
      induction n with
      | zero => intro g; funext j k; simp
      | succ n ih =>
        intro g
        rw [List.range_succ, List.foldl_append, ih]
        funext j k
        simp only [List.foldl_cons, List.foldl_nil, xset]
        by_cases hj : j = b
        · by_cases hk : k = n
          · simp [hj, hk]
          · by_cases hk2 : k < n
            · rw [if_neg (fun z => hk z.2), if_pos ⟨hj, hk2⟩, if_pos ⟨hj, by omega⟩]
            · rw [if_neg (fun z => hk z.2), if_neg (fun z => hk2 z.2), if_neg (by omega)]
        · rw [if_neg (fun z => hj z.1), if_neg (fun z => hj z.1), if_neg (fun z => hj z.1)]
    rw [e1, e1]
    congr 3
    funext j k
    simp only [xset, begO]
    by_cases hj0 : j = 0
    · subst hj0
      simp only [true_and, show ¬ (0 : Nat) = 4 by omega, show ¬ (0 : Nat) = 1 by omega, false_and, if_false]
      by_cases q13 : k = 13
      · subst q13; rfl
      · by_cases q12 : k = 12
        · subst q12; rfl
        · by_cases q11 : k = 11
          · subst q11; rfl
          · by_cases q10 : k = 10
            · subst q10; rfl
            · by_cases q9 : k = 9
              · subst q9; rfl
              · by_cases q8 : k = 8
                · subst q8; rfl
                · by_cases q7 : k = 7
                  · subst q7; rfl
                  · rw [if_neg q13, if_neg q12, if_neg q11, if_neg q10, if_neg q9, if_neg q8, if_neg q7, if_neg q9, if_neg q10, if_neg (by omega)]
    · simp only [hj0, false_and, if_false]
      by_cases h4 : j = 4 ∧ k < 8
      · rw [if_pos h4, if_neg (by omega), if_pos h4]
      · rw [if_neg h4]
        by_cases h1 : j = 1 ∧ k < 11
        · rw [if_pos h1, if_pos h1]
        · rw [if_neg h1, if_neg h1, if_neg h4]
noncomputable def f_X3_begin : List AV → List Ob → Option Rt
  | [.inr (.inl (0, 0)), .inl p1, .inl p2], [h0] => some (none, [(begO h0 p1 p2)])
  | _, _ => none
theorem ct_X3_begin : XCt yX3_begin mX3_begin f_X3_begin := (ctr_X3_begin xfu).of (fun as μ r h => by
  unfold f_X3_begin at h
  split at h
  · rw [← h]
    exact (eqf_X3_begin xfu _ _ _).trans (sp_X3_begin xfu (xfu_ge (by decide)) _ _ _)
  · cases h)
theorem dX3_copyFrom_0 : decode cX3_copyFrom 0 = .ok (.aload_n 1, 1) := by decide +kernel
theorem dX3_copyFrom_1 : decode cX3_copyFrom 1 = .ok (.getfield 9, 3) := by decide +kernel
theorem dX3_copyFrom_4 : decode cX3_copyFrom 4 = .ok (.iconst 0, 1) := by decide +kernel
theorem dX3_copyFrom_5 : decode cX3_copyFrom 5 = .ok (.aload_n 0, 1) := by decide +kernel
theorem dX3_copyFrom_6 : decode cX3_copyFrom 6 = .ok (.getfield 9, 3) := by decide +kernel
theorem dX3_copyFrom_9 : decode cX3_copyFrom 9 = .ok (.iconst 0, 1) := by decide +kernel
theorem dX3_copyFrom_10 : decode cX3_copyFrom 10 = .ok (.bipush 11, 2) := by decide +kernel
theorem dX3_copyFrom_12 : decode cX3_copyFrom 12 = .ok (.invokestatic 55, 3) := by decide +kernel
theorem dX3_copyFrom_15 : decode cX3_copyFrom 15 = .ok (.aload_n 1, 1) := by decide +kernel
theorem dX3_copyFrom_16 : decode cX3_copyFrom 16 = .ok (.getfield 15, 3) := by decide +kernel
theorem dX3_copyFrom_19 : decode cX3_copyFrom 19 = .ok (.iconst 0, 1) := by decide +kernel
theorem dX3_copyFrom_20 : decode cX3_copyFrom 20 = .ok (.aload_n 0, 1) := by decide +kernel
theorem dX3_copyFrom_21 : decode cX3_copyFrom 21 = .ok (.getfield 15, 3) := by decide +kernel
theorem dX3_copyFrom_24 : decode cX3_copyFrom 24 = .ok (.iconst 0, 1) := by decide +kernel
theorem dX3_copyFrom_25 : decode cX3_copyFrom 25 = .ok (.bipush 11, 2) := by decide +kernel
theorem dX3_copyFrom_27 : decode cX3_copyFrom 27 = .ok (.invokestatic 55, 3) := by decide +kernel
theorem dX3_copyFrom_30 : decode cX3_copyFrom 30 = .ok (.aload_n 1, 1) := by decide +kernel
theorem dX3_copyFrom_31 : decode cX3_copyFrom 31 = .ok (.getfield 18, 3) := by decide +kernel
theorem dX3_copyFrom_34 : decode cX3_copyFrom 34 = .ok (.iconst 0, 1) := by decide +kernel
theorem dX3_copyFrom_35 : decode cX3_copyFrom 35 = .ok (.aload_n 0, 1) := by decide +kernel
theorem dX3_copyFrom_36 : decode cX3_copyFrom 36 = .ok (.getfield 18, 3) := by decide +kernel
theorem dX3_copyFrom_39 : decode cX3_copyFrom 39 = .ok (.iconst 0, 1) := by decide +kernel
theorem dX3_copyFrom_40 : decode cX3_copyFrom 40 = .ok (.sipush 660, 3) := by decide +kernel
theorem dX3_copyFrom_43 : decode cX3_copyFrom 43 = .ok (.invokestatic 55, 3) := by decide +kernel
theorem dX3_copyFrom_46 : decode cX3_copyFrom 46 = .ok (.aload_n 1, 1) := by decide +kernel
theorem dX3_copyFrom_47 : decode cX3_copyFrom 47 = .ok (.getfield 21, 3) := by decide +kernel
theorem dX3_copyFrom_50 : decode cX3_copyFrom 50 = .ok (.iconst 0, 1) := by decide +kernel
theorem dX3_copyFrom_51 : decode cX3_copyFrom 51 = .ok (.aload_n 0, 1) := by decide +kernel
theorem dX3_copyFrom_52 : decode cX3_copyFrom 52 = .ok (.getfield 21, 3) := by decide +kernel
theorem dX3_copyFrom_55 : decode cX3_copyFrom 55 = .ok (.iconst 0, 1) := by decide +kernel
theorem dX3_copyFrom_56 : decode cX3_copyFrom 56 = .ok (.bipush 8, 2) := by decide +kernel
theorem dX3_copyFrom_58 : decode cX3_copyFrom 58 = .ok (.invokestatic 55, 3) := by decide +kernel
theorem dX3_copyFrom_61 : decode cX3_copyFrom 61 = .ok (.aload_n 1, 1) := by decide +kernel
theorem dX3_copyFrom_62 : decode cX3_copyFrom 62 = .ok (.getfield 24, 3) := by decide +kernel
theorem dX3_copyFrom_65 : decode cX3_copyFrom 65 = .ok (.iconst 0, 1) := by decide +kernel
theorem dX3_copyFrom_66 : decode cX3_copyFrom 66 = .ok (.aload_n 0, 1) := by decide +kernel
theorem dX3_copyFrom_67 : decode cX3_copyFrom 67 = .ok (.getfield 24, 3) := by decide +kernel
theorem dX3_copyFrom_70 : decode cX3_copyFrom 70 = .ok (.iconst 0, 1) := by decide +kernel
theorem dX3_copyFrom_71 : decode cX3_copyFrom 71 = .ok (.bipush 8, 2) := by decide +kernel
theorem dX3_copyFrom_73 : decode cX3_copyFrom 73 = .ok (.invokestatic 55, 3) := by decide +kernel
theorem dX3_copyFrom_76 : decode cX3_copyFrom 76 = .ok (.aload_n 1, 1) := by decide +kernel
theorem dX3_copyFrom_77 : decode cX3_copyFrom 77 = .ok (.getfield 27, 3) := by decide +kernel
theorem dX3_copyFrom_80 : decode cX3_copyFrom 80 = .ok (.iconst 0, 1) := by decide +kernel
theorem dX3_copyFrom_81 : decode cX3_copyFrom 81 = .ok (.aload_n 0, 1) := by decide +kernel
theorem dX3_copyFrom_82 : decode cX3_copyFrom 82 = .ok (.getfield 27, 3) := by decide +kernel
theorem dX3_copyFrom_85 : decode cX3_copyFrom 85 = .ok (.iconst 0, 1) := by decide +kernel
theorem dX3_copyFrom_86 : decode cX3_copyFrom 86 = .ok (.bipush 8, 2) := by decide +kernel
theorem dX3_copyFrom_88 : decode cX3_copyFrom 88 = .ok (.invokestatic 55, 3) := by decide +kernel
theorem dX3_copyFrom_91 : decode cX3_copyFrom 91 = .ok (.aload_n 1, 1) := by decide +kernel
theorem dX3_copyFrom_92 : decode cX3_copyFrom 92 = .ok (.getfield 30, 3) := by decide +kernel
theorem dX3_copyFrom_95 : decode cX3_copyFrom 95 = .ok (.iconst 0, 1) := by decide +kernel
theorem dX3_copyFrom_96 : decode cX3_copyFrom 96 = .ok (.aload_n 0, 1) := by decide +kernel
theorem dX3_copyFrom_97 : decode cX3_copyFrom 97 = .ok (.getfield 30, 3) := by decide +kernel
theorem dX3_copyFrom_100 : decode cX3_copyFrom 100 = .ok (.iconst 0, 1) := by decide +kernel
theorem dX3_copyFrom_101 : decode cX3_copyFrom 101 = .ok (.bipush 8, 2) := by decide +kernel
theorem dX3_copyFrom_103 : decode cX3_copyFrom 103 = .ok (.invokestatic 55, 3) := by decide +kernel
theorem dX3_copyFrom_106 : decode cX3_copyFrom 106 = .ok (.aload_n 0, 1) := by decide +kernel
theorem dX3_copyFrom_107 : decode cX3_copyFrom 107 = .ok (.aload_n 1, 1) := by decide +kernel
theorem dX3_copyFrom_108 : decode cX3_copyFrom 108 = .ok (.getfield 33, 3) := by decide +kernel
theorem dX3_copyFrom_111 : decode cX3_copyFrom 111 = .ok (.putfield 33, 3) := by decide +kernel
theorem dX3_copyFrom_114 : decode cX3_copyFrom 114 = .ok (.aload_n 0, 1) := by decide +kernel
theorem dX3_copyFrom_115 : decode cX3_copyFrom 115 = .ok (.aload_n 1, 1) := by decide +kernel
theorem dX3_copyFrom_116 : decode cX3_copyFrom 116 = .ok (.getfield 37, 3) := by decide +kernel
theorem dX3_copyFrom_119 : decode cX3_copyFrom 119 = .ok (.putfield 37, 3) := by decide +kernel
theorem dX3_copyFrom_122 : decode cX3_copyFrom 122 = .ok (.aload_n 0, 1) := by decide +kernel
theorem dX3_copyFrom_123 : decode cX3_copyFrom 123 = .ok (.aload_n 1, 1) := by decide +kernel
theorem dX3_copyFrom_124 : decode cX3_copyFrom 124 = .ok (.getfield 40, 3) := by decide +kernel
theorem dX3_copyFrom_127 : decode cX3_copyFrom 127 = .ok (.putfield 40, 3) := by decide +kernel
theorem dX3_copyFrom_130 : decode cX3_copyFrom 130 = .ok (.aload_n 0, 1) := by decide +kernel
theorem dX3_copyFrom_131 : decode cX3_copyFrom 131 = .ok (.aload_n 1, 1) := by decide +kernel
theorem dX3_copyFrom_132 : decode cX3_copyFrom 132 = .ok (.getfield 43, 3) := by decide +kernel
theorem dX3_copyFrom_135 : decode cX3_copyFrom 135 = .ok (.putfield 43, 3) := by decide +kernel
theorem dX3_copyFrom_138 : decode cX3_copyFrom 138 = .ok (.aload_n 0, 1) := by decide +kernel
theorem dX3_copyFrom_139 : decode cX3_copyFrom 139 = .ok (.aload_n 1, 1) := by decide +kernel
theorem dX3_copyFrom_140 : decode cX3_copyFrom 140 = .ok (.getfield 46, 3) := by decide +kernel
theorem dX3_copyFrom_143 : decode cX3_copyFrom 143 = .ok (.putfield 46, 3) := by decide +kernel
theorem dX3_copyFrom_146 : decode cX3_copyFrom 146 = .ok (.aload_n 0, 1) := by decide +kernel
theorem dX3_copyFrom_147 : decode cX3_copyFrom 147 = .ok (.aload_n 1, 1) := by decide +kernel
theorem dX3_copyFrom_148 : decode cX3_copyFrom 148 = .ok (.getfield 49, 3) := by decide +kernel
theorem dX3_copyFrom_151 : decode cX3_copyFrom 151 = .ok (.putfield 49, 3) := by decide +kernel
theorem dX3_copyFrom_154 : decode cX3_copyFrom 154 = .ok (.aload_n 0, 1) := by decide +kernel
theorem dX3_copyFrom_155 : decode cX3_copyFrom 155 = .ok (.aload_n 1, 1) := by decide +kernel
theorem dX3_copyFrom_156 : decode cX3_copyFrom 156 = .ok (.getfield 52, 3) := by decide +kernel
theorem dX3_copyFrom_159 : decode cX3_copyFrom 159 = .ok (.putfield 52, 3) := by decide +kernel
theorem dX3_copyFrom_162 : decode cX3_copyFrom 162 = .ok (.return_, 1) := by decide +kernel
abbrev mX3_copyFrom : XM := (cX3_copyFrom, 2, RX3, none, shw_3_3, 1)
noncomputable def rg_X3_copyFrom_0 : XK :=
 o_aload 1 <|
 o_get shw_3_3 3 0 <|
 o_iconst 0 <|
 o_aload 0 <|
 o_get shw_3_3 3 0 <|
 o_iconst 0 <|
 o_iconst 11 <|
 o_acopy shw_3_3 <|
 o_aload 1 <|
 o_get shw_3_3 3 1 <|
 o_iconst 0 <|
 o_aload 0 <|
 o_get shw_3_3 3 1 <|
 o_iconst 0 <|
 o_iconst 11 <|
 o_acopy shw_3_3 <|
 o_aload 1 <|
 o_get shw_3_3 3 2 <|
 o_iconst 0 <|
 o_aload 0 <|
 o_get shw_3_3 3 2 <|
 o_iconst 0 <|
 o_iconst 660 <|
 o_acopy shw_3_3 <|
 o_aload 1 <|
 o_get shw_3_3 3 3 <|
 o_iconst 0 <|
 o_aload 0 <|
 o_get shw_3_3 3 3 <|
 o_iconst 0 <|
 o_iconst 8 <|
 o_acopy shw_3_3 <|
 o_aload 1 <|
 o_get shw_3_3 3 4 <|
 o_iconst 0 <|
 o_aload 0 <|
 o_get shw_3_3 3 4 <|
 o_iconst 0 <|
 o_iconst 8 <|
 o_acopy shw_3_3 <|
 o_aload 1 <|
 o_get shw_3_3 3 5 <|
 o_iconst 0 <|
 o_aload 0 <|
 o_get shw_3_3 3 5 <|
 o_iconst 0 <|
 o_iconst 8 <|
 o_acopy shw_3_3 <|
 o_aload 1 <|
 o_get shw_3_3 3 6 <|
 o_iconst 0 <|
 o_aload 0 <|
 o_get shw_3_3 3 6 <|
 o_iconst 0 <|
 o_iconst 8 <|
 o_acopy shw_3_3 <|
 o_aload 0 <|
 o_aload 1 <|
 o_get shw_3_3 3 7 <|
 o_put shw_3_3 3 7 false <|
 o_aload 0 <|
 o_aload 1 <|
 o_get shw_3_3 3 8 <|
 o_put shw_3_3 3 8 false <|
 o_aload 0 <|
 o_aload 1 <|
 o_get shw_3_3 3 9 <|
 o_put shw_3_3 3 9 false <|
 o_aload 0 <|
 o_aload 1 <|
 o_get shw_3_3 3 10 <|
 o_put shw_3_3 3 10 false <|
 o_aload 0 <|
 o_aload 1 <|
 o_get shw_3_3 3 11 <|
 o_put shw_3_3 3 11 false <|
 o_aload 0 <|
 o_aload 1 <|
 o_get shw_3_3 3 12 <|
 o_put shw_3_3 3 12 false <|
 o_aload 0 <|
 o_aload 1 <|
 o_get shw_3_3 3 13 <|
 o_put shw_3_3 3 13 false <|
 o_return
def en_X3_copyFrom_0 (h1 : Ob) (a : Ob) : XSt := ([some (.inr (.inl (0, 0))), some (.inr (.inl (1, 0)))], [], [a, h1])
noncomputable def mg_X3_copyFrom_0 (h1 : Ob) (a : Ob) : Option Rt :=
 RV [(xset (xset (xset (xset (xset (xset (xset (xcpy (xcpy (xcpy (xcpy (xcpy (xcpy (xcpy a 1 0 11 (fun i => h1 1 (0 + i))) 2 0 11 (fun i => h1 2 (0 + i))) 3 0 660 (fun i => h1 3 (0 + i))) 4 0 8 (fun i => h1 4 (0 + i))) 5 0 8 (fun i => h1 5 (0 + i))) 6 0 8 (fun i => h1 6 (0 + i))) 7 0 8 (fun i => h1 7 (0 + i))) 0 7 (h1 0 7)) 0 8 (h1 0 8)) 0 9 (h1 0 9)) 0 10 (h1 0 10)) 0 11 (h1 0 11)) 0 12 (h1 0 12)) 0 13 (h1 0 13)), h1]
set_option maxRecDepth 100000 in
set_option maxHeartbeats 4000000 in
theorem rq_X3_copyFrom_0 (h1 : Ob) (a : Ob) : rg_X3_copyFrom_0 (en_X3_copyFrom_0 h1 a) = mg_X3_copyFrom_0 h1 a := rfl
set_option maxRecDepth 100000 in
set_option maxHeartbeats 4000000 in
theorem sg_X3_copyFrom_0 {X : XDyn} {r0 : Rt} (C : XO X mX3_copyFrom) : XS X mX3_copyFrom r0 0 (rg_X3_copyFrom_0) := by
 unfold rg_X3_copyFrom_0
 exact s_aload_n (pc := 0) C dX3_copyFrom_0 rfl <|
    s_get (pc := 1) C (ci := 3) (kf := 0) rfl inX3 (by decide) wd_99 dX3_copyFrom_1 <|
    s_iconst (pc := 4) C dX3_copyFrom_4 <|
    s_aload_n (pc := 5) C dX3_copyFrom_5 rfl <|
    s_get (pc := 6) C (ci := 3) (kf := 0) rfl inX3 (by decide) wd_99 dX3_copyFrom_6 <|
    s_iconst (pc := 9) C dX3_copyFrom_9 <|
    s_bipush (pc := 10) C dX3_copyFrom_10 (by decide) <|
    s_acopy (pc := 12) C (by decide) wd_375 wd_377 wd_376 wd_83 dX3_copyFrom_12 <|
    s_aload_n (pc := 15) C dX3_copyFrom_15 rfl <|
    s_get (pc := 16) C (ci := 3) (kf := 1) rfl inX3 (by decide) wd_105 dX3_copyFrom_16 <|
    s_iconst (pc := 19) C dX3_copyFrom_19 <|
    s_aload_n (pc := 20) C dX3_copyFrom_20 rfl <|
    s_get (pc := 21) C (ci := 3) (kf := 1) rfl inX3 (by decide) wd_105 dX3_copyFrom_21 <|
    s_iconst (pc := 24) C dX3_copyFrom_24 <|
    s_bipush (pc := 25) C dX3_copyFrom_25 (by decide) <|
    s_acopy (pc := 27) C (by decide) wd_375 wd_377 wd_376 wd_83 dX3_copyFrom_27 <|
    s_aload_n (pc := 30) C dX3_copyFrom_30 rfl <|
    s_get (pc := 31) C (ci := 3) (kf := 2) rfl inX3 (by decide) wd_111 dX3_copyFrom_31 <|
    s_iconst (pc := 34) C dX3_copyFrom_34 <|
    s_aload_n (pc := 35) C dX3_copyFrom_35 rfl <|
    s_get (pc := 36) C (ci := 3) (kf := 2) rfl inX3 (by decide) wd_111 dX3_copyFrom_36 <|
    s_iconst (pc := 39) C dX3_copyFrom_39 <|
    s_sipush (pc := 40) C dX3_copyFrom_40 (by decide) <|
    s_acopy (pc := 43) C (by decide) wd_375 wd_377 wd_376 wd_83 dX3_copyFrom_43 <|
    s_aload_n (pc := 46) C dX3_copyFrom_46 rfl <|
    s_get (pc := 47) C (ci := 3) (kf := 3) rfl inX3 (by decide) wd_112 dX3_copyFrom_47 <|
    s_iconst (pc := 50) C dX3_copyFrom_50 <|
    s_aload_n (pc := 51) C dX3_copyFrom_51 rfl <|
    s_get (pc := 52) C (ci := 3) (kf := 3) rfl inX3 (by decide) wd_112 dX3_copyFrom_52 <|
    s_iconst (pc := 55) C dX3_copyFrom_55 <|
    s_bipush (pc := 56) C dX3_copyFrom_56 (by decide) <|
    s_acopy (pc := 58) C (by decide) wd_375 wd_377 wd_376 wd_83 dX3_copyFrom_58 <|
    s_aload_n (pc := 61) C dX3_copyFrom_61 rfl <|
    s_get (pc := 62) C (ci := 3) (kf := 4) rfl inX3 (by decide) wd_114 dX3_copyFrom_62 <|
    s_iconst (pc := 65) C dX3_copyFrom_65 <|
    s_aload_n (pc := 66) C dX3_copyFrom_66 rfl <|
    s_get (pc := 67) C (ci := 3) (kf := 4) rfl inX3 (by decide) wd_114 dX3_copyFrom_67 <|
    s_iconst (pc := 70) C dX3_copyFrom_70 <|
    s_bipush (pc := 71) C dX3_copyFrom_71 (by decide) <|
    s_acopy (pc := 73) C (by decide) wd_375 wd_377 wd_376 wd_83 dX3_copyFrom_73 <|
    s_aload_n (pc := 76) C dX3_copyFrom_76 rfl <|
    s_get (pc := 77) C (ci := 3) (kf := 5) rfl inX3 (by decide) wd_117 dX3_copyFrom_77 <|
    s_iconst (pc := 80) C dX3_copyFrom_80 <|
    s_aload_n (pc := 81) C dX3_copyFrom_81 rfl <|
    s_get (pc := 82) C (ci := 3) (kf := 5) rfl inX3 (by decide) wd_117 dX3_copyFrom_82 <|
    s_iconst (pc := 85) C dX3_copyFrom_85 <|
    s_bipush (pc := 86) C dX3_copyFrom_86 (by decide) <|
    s_acopy (pc := 88) C (by decide) wd_375 wd_377 wd_376 wd_83 dX3_copyFrom_88 <|
    s_aload_n (pc := 91) C dX3_copyFrom_91 rfl <|
    s_get (pc := 92) C (ci := 3) (kf := 6) rfl inX3 (by decide) wd_119 dX3_copyFrom_92 <|
    s_iconst (pc := 95) C dX3_copyFrom_95 <|
    s_aload_n (pc := 96) C dX3_copyFrom_96 rfl <|
    s_get (pc := 97) C (ci := 3) (kf := 6) rfl inX3 (by decide) wd_119 dX3_copyFrom_97 <|
    s_iconst (pc := 100) C dX3_copyFrom_100 <|
    s_bipush (pc := 101) C dX3_copyFrom_101 (by decide) <|
    s_acopy (pc := 103) C (by decide) wd_375 wd_377 wd_376 wd_83 dX3_copyFrom_103 <|
    s_aload_n (pc := 106) C dX3_copyFrom_106 rfl <|
    s_aload_n (pc := 107) C dX3_copyFrom_107 rfl <|
    s_get (pc := 108) C (ci := 3) (kf := 7) rfl inX3 (by decide) wd_121 dX3_copyFrom_108 <|
    s_put (pc := 111) (z := false) C (ci := 3) (kf := 7) rfl inX3 tyX3_ok nmX3 (by decide) wd_121 rfl rfl dX3_copyFrom_111 <|
    s_aload_n (pc := 114) C dX3_copyFrom_114 rfl <|
    s_aload_n (pc := 115) C dX3_copyFrom_115 rfl <|
    s_get (pc := 116) C (ci := 3) (kf := 8) rfl inX3 (by decide) wd_123 dX3_copyFrom_116 <|
    s_put (pc := 119) (z := false) C (ci := 3) (kf := 8) rfl inX3 tyX3_ok nmX3 (by decide) wd_123 rfl rfl dX3_copyFrom_119 <|
    s_aload_n (pc := 122) C dX3_copyFrom_122 rfl <|
    s_aload_n (pc := 123) C dX3_copyFrom_123 rfl <|
    s_get (pc := 124) C (ci := 3) (kf := 9) rfl inX3 (by decide) wd_127 dX3_copyFrom_124 <|
    s_put (pc := 127) (z := false) C (ci := 3) (kf := 9) rfl inX3 tyX3_ok nmX3 (by decide) wd_127 rfl rfl dX3_copyFrom_127 <|
    s_aload_n (pc := 130) C dX3_copyFrom_130 rfl <|
    s_aload_n (pc := 131) C dX3_copyFrom_131 rfl <|
    s_get (pc := 132) C (ci := 3) (kf := 10) rfl inX3 (by decide) wd_129 dX3_copyFrom_132 <|
    s_put (pc := 135) (z := false) C (ci := 3) (kf := 10) rfl inX3 tyX3_ok nmX3 (by decide) wd_129 rfl rfl dX3_copyFrom_135 <|
    s_aload_n (pc := 138) C dX3_copyFrom_138 rfl <|
    s_aload_n (pc := 139) C dX3_copyFrom_139 rfl <|
    s_get (pc := 140) C (ci := 3) (kf := 11) rfl inX3 (by decide) wd_131 dX3_copyFrom_140 <|
    s_put (pc := 143) (z := false) C (ci := 3) (kf := 11) rfl inX3 tyX3_ok nmX3 (by decide) wd_131 rfl rfl dX3_copyFrom_143 <|
    s_aload_n (pc := 146) C dX3_copyFrom_146 rfl <|
    s_aload_n (pc := 147) C dX3_copyFrom_147 rfl <|
    s_get (pc := 148) C (ci := 3) (kf := 12) rfl inX3 (by decide) wd_133 dX3_copyFrom_148 <|
    s_put (pc := 151) (z := false) C (ci := 3) (kf := 12) rfl inX3 tyX3_ok nmX3 (by decide) wd_133 rfl rfl dX3_copyFrom_151 <|
    s_aload_n (pc := 154) C dX3_copyFrom_154 rfl <|
    s_aload_n (pc := 155) C dX3_copyFrom_155 rfl <|
    s_get (pc := 156) C (ci := 3) (kf := 13) rfl inX3 (by decide) wd_135 dX3_copyFrom_156 <|
    s_put (pc := 159) (z := false) C (ci := 3) (kf := 13) rfl inX3 tyX3_ok nmX3 (by decide) wd_135 rfl rfl dX3_copyFrom_159 <|
    s_return (pc := 162) C rfl dX3_copyFrom_162
noncomputable def rw_X3_copyFrom_0 : XK := rg_X3_copyFrom_0
noncomputable def md_X3_copyFrom_0 (h1 : Ob) : Ob → Option Rt := mg_X3_copyFrom_0 h1
theorem eq_X3_copyFrom_0 (h1 : Ob) (a : Ob) : rw_X3_copyFrom_0 (en_X3_copyFrom_0 h1 a) = md_X3_copyFrom_0 h1 a :=
 rq_X3_copyFrom_0 h1 a
theorem sd_X3_copyFrom_0 {X : XDyn} {r0 : Rt} (C : XO X mX3_copyFrom) : XS X mX3_copyFrom r0 0 (rw_X3_copyFrom_0) := sg_X3_copyFrom_0 C
theorem ctr_X3_copyFrom : XCt yX3_copyFrom mX3_copyFrom (xF mX3_copyFrom (rw_X3_copyFrom_0)) := xMet (by decide +kernel) rfl (fun _ _ C => sd_X3_copyFrom_0 C)
theorem eqf_X3_copyFrom (h0 : Ob) (h1 : Ob) : xF mX3_copyFrom (rw_X3_copyFrom_0) [.inr (.inl (0, 0)), .inr (.inl (1, 0))] [h0, h1] = md_X3_copyFrom_0 h1 h0 := eq_X3_copyFrom_0 h1 h0
theorem yi_X3_copyFrom : yX3_copyFrom.cls = RX3 ∧ yX3_copyFrom.cls ≠ "java/lang/invoke/MethodHandle" ∧ yX3_copyFrom.cls ≠ "java/lang/invoke/VarHandle" ∧ (parseMethodDescriptor yX3_copyFrom.desc).map (fun d => d.parameters.length) = some 1 := ⟨rfl, by decide +kernel, by decide +kernel, by decide +kernel⟩
theorem sp_X3_copyFrom (h0 h1 : Ob) : md_X3_copyFrom_0 h1 h0 = RV [cpyO h0 h1, h1] := by
  simp only [md_X3_copyFrom_0, mg_X3_copyFrom_0]
  congr 3
  funext j k
  simp only [xset, xcpy, cpyO, Nat.zero_add, Nat.sub_zero, Nat.zero_le, true_and]
  match j with
  | 0 =>
    simp only [show ¬ (0 : Nat) = 1 by omega, show ¬ (0 : Nat) = 2 by omega, show ¬ (0 : Nat) = 3 by omega, show ¬ (0 : Nat) = 4 by omega, show ¬ (0 : Nat) = 5 by omega, show ¬ (0 : Nat) = 6 by omega, show ¬ (0 : Nat) = 7 by omega, false_and, if_false, true_and, false_or, show ¬ (4 ≤ 0) by omega]
    by_cases q13 : k = 13
    · subst q13; rfl
    · by_cases q12 : k = 12
      · subst q12; rfl
      · by_cases q11 : k = 11
        · subst q11; rfl
        · by_cases q10 : k = 10
          · subst q10; rfl
          · by_cases q9 : k = 9
            · subst q9; rfl
            · by_cases q8 : k = 8
              · subst q8; rfl
              · by_cases q7 : k = 7
                · subst q7; rfl
                · rw [if_neg q13, if_neg q12, if_neg q11, if_neg q10, if_neg q9, if_neg q8, if_neg q7, if_neg (by omega)]
  | 1 => simp
  | 2 => simp
  | 3 => simp
  | 4 => simp
  | 5 => simp
  | 6 => simp
  | 7 => simp
  | j + 8 => simp; omega
noncomputable def f_X3_copyFrom : List AV → List Ob → Option Rt
  | [.inr (.inl (0, 0)), .inr (.inl (1, 0))], [h0, h1] => some (none, [(cpyO h0 h1), h1])
  | _, _ => none
theorem ct_X3_copyFrom : XCt yX3_copyFrom mX3_copyFrom f_X3_copyFrom := (ctr_X3_copyFrom ).of (fun as μ r h => by
  unfold f_X3_copyFrom at h
  split at h
  · rw [← h]
    exact (eqf_X3_copyFrom _ _).trans (sp_X3_copyFrom _ _)
  · cases h)
theorem dX3_handleWithContent_0 : decode cX3_handleWithContent 0 = .ok (.iconst 0, 1) := by decide +kernel
theorem dX3_handleWithContent_1 : decode cX3_handleWithContent 1 = .ok (.istore_n 2, 1) := by decide +kernel
theorem dX3_handleWithContent_2 : decode cX3_handleWithContent 2 = .ok (.iload_n 2, 1) := by decide +kernel
theorem dX3_handleWithContent_3 : decode cX3_handleWithContent 3 = .ok (.bipush 8, 2) := by decide +kernel
theorem dX3_handleWithContent_5 : decode cX3_handleWithContent 5 = .ok (.if_icmp .ge 46, 3) := by decide +kernel
theorem dX3_handleWithContent_8 : decode cX3_handleWithContent 8 = .ok (.aload_n 0, 1) := by decide +kernel
theorem dX3_handleWithContent_9 : decode cX3_handleWithContent 9 = .ok (.iload_n 2, 1) := by decide +kernel
theorem dX3_handleWithContent_10 : decode cX3_handleWithContent 10 = .ok (.invokevirtual 69, 3) := by decide +kernel
theorem dX3_handleWithContent_13 : decode cX3_handleWithContent 13 = .ok (.ifCond .eq 32, 3) := by decide +kernel
theorem dX3_handleWithContent_16 : decode cX3_handleWithContent 16 = .ok (.iload_n 1, 1) := by decide +kernel
theorem dX3_handleWithContent_17 : decode cX3_handleWithContent 17 = .ok (.aload_n 0, 1) := by decide +kernel
theorem dX3_handleWithContent_18 : decode cX3_handleWithContent 18 = .ok (.getfield 9, 3) := by decide +kernel
theorem dX3_handleWithContent_21 : decode cX3_handleWithContent 21 = .ok (.iload_n 2, 1) := by decide +kernel
theorem dX3_handleWithContent_22 : decode cX3_handleWithContent 22 = .ok (.iaload, 1) := by decide +kernel
theorem dX3_handleWithContent_23 : decode cX3_handleWithContent 23 = .ok (.if_icmp .le 22, 3) := by decide +kernel
theorem dX3_handleWithContent_26 : decode cX3_handleWithContent 26 = .ok (.iload_n 1, 1) := by decide +kernel
theorem dX3_handleWithContent_27 : decode cX3_handleWithContent 27 = .ok (.aload_n 0, 1) := by decide +kernel
theorem dX3_handleWithContent_28 : decode cX3_handleWithContent 28 = .ok (.getfield 9, 3) := by decide +kernel
theorem dX3_handleWithContent_31 : decode cX3_handleWithContent 31 = .ok (.iload_n 2, 1) := by decide +kernel
theorem dX3_handleWithContent_32 : decode cX3_handleWithContent 32 = .ok (.iaload, 1) := by decide +kernel
theorem dX3_handleWithContent_33 : decode cX3_handleWithContent 33 = .ok (.aload_n 0, 1) := by decide +kernel
theorem dX3_handleWithContent_34 : decode cX3_handleWithContent 34 = .ok (.getfield 15, 3) := by decide +kernel
theorem dX3_handleWithContent_37 : decode cX3_handleWithContent 37 = .ok (.iload_n 2, 1) := by decide +kernel
theorem dX3_handleWithContent_38 : decode cX3_handleWithContent 38 = .ok (.iaload, 1) := by decide +kernel
theorem dX3_handleWithContent_39 : decode cX3_handleWithContent 39 = .ok (.iadd, 1) := by decide +kernel
theorem dX3_handleWithContent_40 : decode cX3_handleWithContent 40 = .ok (.if_icmp .gt 5, 3) := by decide +kernel
theorem dX3_handleWithContent_43 : decode cX3_handleWithContent 43 = .ok (.iload_n 2, 1) := by decide +kernel
theorem dX3_handleWithContent_44 : decode cX3_handleWithContent 44 = .ok (.ireturn, 1) := by decide +kernel
theorem dX3_handleWithContent_45 : decode cX3_handleWithContent 45 = .ok (.iinc 2 1, 3) := by decide +kernel
theorem dX3_handleWithContent_48 : decode cX3_handleWithContent 48 = .ok (.goto (-46), 3) := by decide +kernel
theorem dX3_handleWithContent_51 : decode cX3_handleWithContent 51 = .ok (.iconst (-1), 1) := by decide +kernel
theorem dX3_handleWithContent_52 : decode cX3_handleWithContent 52 = .ok (.ireturn, 1) := by decide +kernel
abbrev mX3_handleWithContent : XM := (cX3_handleWithContent, 3, RX3, (some .int), shw_3, 1)
noncomputable def rg_X3_handleWithContent_0 (k2 : XK) : XK :=
 o_iconst 0 <|
 o_istore 2 <|
 o_cut [] k2
def en_X3_handleWithContent_0 (p1 : Int) (h0 : Ob) (a : Unit) : XSt := ([some (.inr (.inl (0, 0))), some (.inl p1), none], [], [h0])
noncomputable def rg_X3_handleWithContent_2 (k45 : XK) : XK :=
 o_iload 2 <|
 o_iconst 8 <|
 o_icmp_ge (o_iconst (-1) <|
 o_ireturn)
 (o_aload 0 <|
 o_iload 2 <|
 o_callV 2 1 [0] f_X3_isFull <|
 o_if_eq (o_cut [] k45)
 (o_iload 1 <|
 o_aload 0 <|
 o_get shw_3 3 0 <|
 o_iload 2 <|
 o_iald shw_3 <|
 o_icmp_le (o_cut [] k45)
 (o_iload 1 <|
 o_aload 0 <|
 o_get shw_3 3 0 <|
 o_iload 2 <|
 o_iald shw_3 <|
 o_aload 0 <|
 o_get shw_3 3 1 <|
 o_iload 2 <|
 o_iald shw_3 <|
 o_iadd <|
 o_icmp_gt (o_cut [] k45)
 (o_iload 2 <|
 o_ireturn))))
def en_X3_handleWithContent_2 (p1 : Int) (h0 : Ob) (a : Int) : XSt := ([some (.inr (.inl (0, 0))), some (.inl p1), some (.inl a)], [], [h0])
noncomputable def rg_X3_handleWithContent_45 (k2 : XK) : XK :=
 o_iinc 2 1 <|
 o_cut [] k2
def en_X3_handleWithContent_45 (p1 : Int) (h0 : Ob) (a : Int) : XSt := ([some (.inr (.inl (0, 0))), some (.inl p1), some (.inl a)], [], [h0])
noncomputable def mg_X3_handleWithContent_0 (p1 : Int) (h0 : Ob) (k2 : Int → Option Rt) (a : Unit) : Option Rt :=
 k2 0
set_option maxRecDepth 100000 in
set_option maxHeartbeats 4000000 in
theorem rq_X3_handleWithContent_0 (p1 : Int) (h0 : Ob) (k2 : XK) (a : Unit) : rg_X3_handleWithContent_0 k2 (en_X3_handleWithContent_0 p1 h0 a) = mg_X3_handleWithContent_0 p1 h0 (fun b => k2 (en_X3_handleWithContent_2 p1 h0 b)) a := rfl
set_option maxRecDepth 100000 in
set_option maxHeartbeats 4000000 in
theorem sg_X3_handleWithContent_0 {X : XDyn} {r0 : Rt} (C : XO X mX3_handleWithContent) {k2 : XK} (q2 : XS X mX3_handleWithContent r0 2 k2) : XS X mX3_handleWithContent r0 0 (rg_X3_handleWithContent_0 k2) := by
 unfold rg_X3_handleWithContent_0
 exact s_iconst (pc := 0) C dX3_handleWithContent_0 <|
    s_istore_n (pc := 1) C dX3_handleWithContent_1 rfl <|
    s_cut q2
noncomputable def mg_X3_handleWithContent_2 (p1 : Int) (h0 : Ob) (k45 : Int → Option Rt) (a : Int) : Option Rt :=
 if xw a ≥ 8 then (RI (-1) [h0])
 else (if xw (bz (ful h0 a)) = 0 then (k45 a)
 else (if xin a 11 then (
 if xw p1 ≤ xw (h0 1 (xw a).toNat) then (k45 a)
 else (if xin a 11 then (
 if xin a 11 then (
 if xw p1 > xw ((h0 1 (xw a).toNat) + (h0 2 (xw a).toNat)) then (k45 a)
 else (RI a [h0])) else none) else none)) else none))
set_option maxRecDepth 100000 in
set_option maxHeartbeats 4000000 in
theorem rq_X3_handleWithContent_2 (p1 : Int) (h0 : Ob) (k45 : XK) (a : Int) : rg_X3_handleWithContent_2 k45 (en_X3_handleWithContent_2 p1 h0 a) = mg_X3_handleWithContent_2 p1 h0 (fun b => k45 (en_X3_handleWithContent_45 p1 h0 b)) a := rfl
set_option maxRecDepth 100000 in
set_option maxHeartbeats 4000000 in
theorem sg_X3_handleWithContent_2 {X : XDyn} {r0 : Rt} (C : XO X mX3_handleWithContent) {k45 : XK} (q45 : XS X mX3_handleWithContent r0 45 k45) : XS X mX3_handleWithContent r0 2 (rg_X3_handleWithContent_2 k45) := by
 unfold rg_X3_handleWithContent_2
 exact s_iload_n (pc := 2) C dX3_handleWithContent_2 rfl <|
    s_bipush (pc := 3) C dX3_handleWithContent_3 (by decide) <|
    s_icmp_ge (pc := 5) C dX3_handleWithContent_5 (by decide) (s_iconst (pc := 51) C dX3_handleWithContent_51 <|
    s_ireturn (pc := 52) C rfl dX3_handleWithContent_52)
    (s_aload_n (pc := 8) C dX3_handleWithContent_8 rfl <|
    s_iload_n (pc := 9) C dX3_handleWithContent_9 rfl <|
    s_callV (pc := 10) C ct_X3_isFull (n := 2) (rk := 1) (mp := [0]) ⟨rfl, by decide, rfl⟩ (ci := 3) rfl rfl (by decide) (by decide) yi_X3_isFull (by decide) wd_638 wd_556 wd_557 wd_74 wd_558 dX3_handleWithContent_10 <|
    s_if_eq (pc := 13) C dX3_handleWithContent_13 (by decide) (s_cut q45)
    (s_iload_n (pc := 16) C dX3_handleWithContent_16 rfl <|
    s_aload_n (pc := 17) C dX3_handleWithContent_17 rfl <|
    s_get (pc := 18) C (ci := 3) (kf := 0) rfl inX3 (by decide) wd_99 dX3_handleWithContent_18 <|
    s_iload_n (pc := 21) C dX3_handleWithContent_21 rfl <|
    s_iald (pc := 22) C dX3_handleWithContent_22 <|
    s_icmp_le (pc := 23) C dX3_handleWithContent_23 (by decide) (s_cut q45)
    (s_iload_n (pc := 26) C dX3_handleWithContent_26 rfl <|
    s_aload_n (pc := 27) C dX3_handleWithContent_27 rfl <|
    s_get (pc := 28) C (ci := 3) (kf := 0) rfl inX3 (by decide) wd_99 dX3_handleWithContent_28 <|
    s_iload_n (pc := 31) C dX3_handleWithContent_31 rfl <|
    s_iald (pc := 32) C dX3_handleWithContent_32 <|
    s_aload_n (pc := 33) C dX3_handleWithContent_33 rfl <|
    s_get (pc := 34) C (ci := 3) (kf := 1) rfl inX3 (by decide) wd_105 dX3_handleWithContent_34 <|
    s_iload_n (pc := 37) C dX3_handleWithContent_37 rfl <|
    s_iald (pc := 38) C dX3_handleWithContent_38 <|
    s_iadd (pc := 39) C dX3_handleWithContent_39 <|
    s_icmp_gt (pc := 40) C dX3_handleWithContent_40 (by decide) (s_cut q45)
    (s_iload_n (pc := 43) C dX3_handleWithContent_43 rfl <|
    s_ireturn (pc := 44) C rfl dX3_handleWithContent_44))))
noncomputable def mg_X3_handleWithContent_45 (p1 : Int) (h0 : Ob) (k2 : Int → Option Rt) (a : Int) : Option Rt :=
 k2 (a + 1)
set_option maxRecDepth 100000 in
set_option maxHeartbeats 4000000 in
theorem rq_X3_handleWithContent_45 (p1 : Int) (h0 : Ob) (k2 : XK) (a : Int) : rg_X3_handleWithContent_45 k2 (en_X3_handleWithContent_45 p1 h0 a) = mg_X3_handleWithContent_45 p1 h0 (fun b => k2 (en_X3_handleWithContent_2 p1 h0 b)) a := rfl
set_option maxRecDepth 100000 in
set_option maxHeartbeats 4000000 in
theorem sg_X3_handleWithContent_45 {X : XDyn} {r0 : Rt} (C : XO X mX3_handleWithContent) {k2 : XK} (q2 : XS X mX3_handleWithContent r0 2 k2) : XS X mX3_handleWithContent r0 45 (rg_X3_handleWithContent_45 k2) := by
 unfold rg_X3_handleWithContent_45
 exact s_iinc (pc := 45) C dX3_handleWithContent_45 <|
    s_goto (pc := 48) C dX3_handleWithContent_48 (by decide) <|
    s_cut q2
noncomputable def rw_X3_handleWithContent_45 (f : Nat) (k2 : XK) : XK := rg_X3_handleWithContent_45 k2
noncomputable def md_X3_handleWithContent_45 (p1 : Int) (h0 : Ob) (f : Nat) (k2 : Int → Option Rt) : Int → Option Rt := mg_X3_handleWithContent_45 p1 h0 k2
theorem eq_X3_handleWithContent_45 (p1 : Int) (h0 : Ob) (f : Nat) (k2 : XK) (a : Int) : rw_X3_handleWithContent_45 f k2 (en_X3_handleWithContent_45 p1 h0 a) = md_X3_handleWithContent_45 p1 h0 f (fun b => k2 (en_X3_handleWithContent_2 p1 h0 b)) a :=
 (rq_X3_handleWithContent_45 p1 h0 k2 a).trans (congrFun (congr (rfl : mg_X3_handleWithContent_45 p1 h0 = mg_X3_handleWithContent_45 p1 h0) rfl) a)
theorem sd_X3_handleWithContent_45 (f : Nat) {X : XDyn} {r0 : Rt} (C : XO X mX3_handleWithContent) {k2 : XK} (q2 : XS X mX3_handleWithContent r0 2 k2) : XS X mX3_handleWithContent r0 45 (rw_X3_handleWithContent_45 f k2) := sg_X3_handleWithContent_45 C q2
noncomputable def rw_X3_handleWithContent_2 (f : Nat) : XK := tlp (fun k2 => rg_X3_handleWithContent_2 (rw_X3_handleWithContent_45 f k2)) f
noncomputable def lb_X3_handleWithContent_2 (p1 : Int) (h0 : Ob) (f : Nat) : ((Int) → Option Rt) → Int → Option Rt := fun k2 => mg_X3_handleWithContent_2 p1 h0 (md_X3_handleWithContent_45 p1 h0 f k2)
noncomputable def md_X3_handleWithContent_2 (p1 : Int) (h0 : Ob) (f : Nat) : Int → Option Rt := tlp (lb_X3_handleWithContent_2 p1 h0 f) f
theorem eq_X3_handleWithContent_2 (p1 : Int) (h0 : Ob) (f : Nat) (a : Int) : rw_X3_handleWithContent_2 f (en_X3_handleWithContent_2 p1 h0 a) = md_X3_handleWithContent_2 p1 h0 f a :=
 tlp_enc (en_X3_handleWithContent_2 p1 h0) (fun k2 a => (rq_X3_handleWithContent_2 p1 h0 (rw_X3_handleWithContent_45 f k2) a).trans (congrFun (congr (rfl : mg_X3_handleWithContent_2 p1 h0 = mg_X3_handleWithContent_2 p1 h0) (funext (eq_X3_handleWithContent_45 p1 h0 f k2))) a)) f a
theorem sd_X3_handleWithContent_2 (f : Nat) {X : XDyn} {r0 : Rt} (C : XO X mX3_handleWithContent) : XS X mX3_handleWithContent r0 2 (rw_X3_handleWithContent_2 f) := s_lp (fun k2 q2 => sg_X3_handleWithContent_2 C (sd_X3_handleWithContent_45 f C q2)) f
noncomputable def rw_X3_handleWithContent_0 (f : Nat) : XK := rg_X3_handleWithContent_0 (rw_X3_handleWithContent_2 f)
noncomputable def md_X3_handleWithContent_0 (p1 : Int) (h0 : Ob) (f : Nat) : Unit → Option Rt := mg_X3_handleWithContent_0 p1 h0 (md_X3_handleWithContent_2 p1 h0 f)
theorem eq_X3_handleWithContent_0 (p1 : Int) (h0 : Ob) (f : Nat) (a : Unit) : rw_X3_handleWithContent_0 f (en_X3_handleWithContent_0 p1 h0 a) = md_X3_handleWithContent_0 p1 h0 f a :=
 (rq_X3_handleWithContent_0 p1 h0 (rw_X3_handleWithContent_2 f) a).trans (congrFun (congr (rfl : mg_X3_handleWithContent_0 p1 h0 = mg_X3_handleWithContent_0 p1 h0) (funext (eq_X3_handleWithContent_2 p1 h0 f))) a)
theorem sd_X3_handleWithContent_0 (f : Nat) {X : XDyn} {r0 : Rt} (C : XO X mX3_handleWithContent) : XS X mX3_handleWithContent r0 0 (rw_X3_handleWithContent_0 f) := sg_X3_handleWithContent_0 C (sd_X3_handleWithContent_2 f C)
theorem ctr_X3_handleWithContent (f : Nat) : XCt yX3_handleWithContent mX3_handleWithContent (xF mX3_handleWithContent (rw_X3_handleWithContent_0 f)) := xMet (by decide +kernel) rfl (fun _ _ C => sd_X3_handleWithContent_0 f C)
theorem eqf_X3_handleWithContent (f : Nat) (p1 : Int) (h0 : Ob) : xF mX3_handleWithContent (rw_X3_handleWithContent_0 f) [.inr (.inl (0, 0)), .inl p1] [h0] = md_X3_handleWithContent_0 p1 h0 f () := eq_X3_handleWithContent_0 p1 h0 f ()
theorem yi_X3_handleWithContent : yX3_handleWithContent.cls = RX3 ∧ yX3_handleWithContent.cls ≠ "java/lang/invoke/MethodHandle" ∧ yX3_handleWithContent.cls ≠ "java/lang/invoke/VarHandle" ∧ (parseMethodDescriptor yX3_handleWithContent.desc).map (fun d => d.parameters.length) = some 1 := ⟨rfl, by decide +kernel, by decide +kernel, by decide +kernel⟩
theorem sp_X3_handleWithContent (f : Nat) (hf : 1000 ≤ f) (p1 : Int) (h0 : Ob) : md_X3_handleWithContent_0 p1 h0 f () = RI (hwc h0 p1) [h0] := by
  show md_X3_handleWithContent_2 p1 h0 f 0 = _
  refine loop_find 8 _ (fun r => RI r [h0]) (fun i => (i : Int)) (fun k i hi => ?_) (fun k => rfl) f (by omega)
  simp only [md_X3_handleWithContent_0, mg_X3_handleWithContent_0, lb_X3_handleWithContent_2, mg_X3_handleWithContent_2, md_X3_handleWithContent_45, mg_X3_handleWithContent_45, xw_nat (show i < 2147483648 by omega), bz_0, xin_nat (show i < 11 by omega) (show 11 ≤ 2147483648 by omega), toNat_nat, if_true]
  rw [if_neg (by omega)]
  cases ful h0 (i : Int)
  · rfl
  · by_cases h1 : xw (h0 1 i) < xw p1
    · by_cases h2 : xw p1 ≤ xw (h0 1 i + h0 2 i)
      · rw [if_neg (by simp), if_neg (by omega), if_neg (by omega)]
        simp [h1, h2]
      · rw [if_neg (by simp), if_neg (by omega), if_pos (by omega)]
        simp [h1, h2]
    · rw [if_neg (by simp), if_pos (by omega)]
      simp [h1]
noncomputable def f_X3_handleWithContent : List AV → List Ob → Option Rt
  | [.inr (.inl (0, 0)), .inl p1], [h0] => some (some (.inl (hwc h0 p1)), [h0])
  | _, _ => none
theorem ct_X3_handleWithContent : XCt yX3_handleWithContent mX3_handleWithContent f_X3_handleWithContent := (ctr_X3_handleWithContent xfu).of (fun as μ r h => by
  unfold f_X3_handleWithContent at h
  split at h
  · rw [← h]
    exact (eqf_X3_handleWithContent xfu _ _).trans (sp_X3_handleWithContent xfu (xfu_ge (by decide)) _ _)
  · cases h)
theorem dX3_freeBehind_0 : decode cX3_freeBehind 0 = .ok (.aload_n 0, 1) := by decide +kernel
theorem dX3_freeBehind_1 : decode cX3_freeBehind 1 = .ok (.iload_n 1, 1) := by decide +kernel
theorem dX3_freeBehind_2 : decode cX3_freeBehind 2 = .ok (.invokevirtual 69, 3) := by decide +kernel
theorem dX3_freeBehind_5 : decode cX3_freeBehind 5 = .ok (.ifCond .ne 5, 3) := by decide +kernel
theorem dX3_freeBehind_8 : decode cX3_freeBehind 8 = .ok (.iconst 0, 1) := by decide +kernel
theorem dX3_freeBehind_9 : decode cX3_freeBehind 9 = .ok (.ireturn, 1) := by decide +kernel
theorem dX3_freeBehind_10 : decode cX3_freeBehind 10 = .ok (.aload_n 0, 1) := by decide +kernel
theorem dX3_freeBehind_11 : decode cX3_freeBehind 11 = .ok (.getfield 9, 3) := by decide +kernel
theorem dX3_freeBehind_14 : decode cX3_freeBehind 14 = .ok (.iload_n 1, 1) := by decide +kernel
theorem dX3_freeBehind_15 : decode cX3_freeBehind 15 = .ok (.iaload, 1) := by decide +kernel
theorem dX3_freeBehind_16 : decode cX3_freeBehind 16 = .ok (.aload_n 0, 1) := by decide +kernel
theorem dX3_freeBehind_17 : decode cX3_freeBehind 17 = .ok (.getfield 15, 3) := by decide +kernel
theorem dX3_freeBehind_20 : decode cX3_freeBehind 20 = .ok (.iload_n 1, 1) := by decide +kernel
theorem dX3_freeBehind_21 : decode cX3_freeBehind 21 = .ok (.iaload, 1) := by decide +kernel
theorem dX3_freeBehind_22 : decode cX3_freeBehind 22 = .ok (.iadd, 1) := by decide +kernel
theorem dX3_freeBehind_23 : decode cX3_freeBehind 23 = .ok (.iconst 1, 1) := by decide +kernel
theorem dX3_freeBehind_24 : decode cX3_freeBehind 24 = .ok (.iadd, 1) := by decide +kernel
theorem dX3_freeBehind_25 : decode cX3_freeBehind 25 = .ok (.istore_n 2, 1) := by decide +kernel
theorem dX3_freeBehind_26 : decode cX3_freeBehind 26 = .ok (.iload_n 2, 1) := by decide +kernel
theorem dX3_freeBehind_27 : decode cX3_freeBehind 27 = .ok (.aload_n 0, 1) := by decide +kernel
theorem dX3_freeBehind_28 : decode cX3_freeBehind 28 = .ok (.getfield 40, 3) := by decide +kernel
theorem dX3_freeBehind_31 : decode cX3_freeBehind 31 = .ok (.if_icmp .ge 26, 3) := by decide +kernel
theorem dX3_freeBehind_34 : decode cX3_freeBehind 34 = .ok (.aload_n 0, 1) := by decide +kernel
theorem dX3_freeBehind_35 : decode cX3_freeBehind 35 = .ok (.iload_n 2, 1) := by decide +kernel
theorem dX3_freeBehind_36 : decode cX3_freeBehind 36 = .ok (.invokevirtual 117, 3) := by decide +kernel
theorem dX3_freeBehind_39 : decode cX3_freeBehind 39 = .ok (.iconst (-1), 1) := by decide +kernel
theorem dX3_freeBehind_40 : decode cX3_freeBehind 40 = .ok (.if_icmp .ne 17, 3) := by decide +kernel
theorem dX3_freeBehind_43 : decode cX3_freeBehind 43 = .ok (.aload_n 0, 1) := by decide +kernel
theorem dX3_freeBehind_44 : decode cX3_freeBehind 44 = .ok (.iload_n 2, 1) := by decide +kernel
theorem dX3_freeBehind_45 : decode cX3_freeBehind 45 = .ok (.aload_n 0, 1) := by decide +kernel
theorem dX3_freeBehind_46 : decode cX3_freeBehind 46 = .ok (.getfield 40, 3) := by decide +kernel
theorem dX3_freeBehind_49 : decode cX3_freeBehind 49 = .ok (.invokevirtual 114, 3) := by decide +kernel
theorem dX3_freeBehind_52 : decode cX3_freeBehind 52 = .ok (.iload_n 2, 1) := by decide +kernel
theorem dX3_freeBehind_53 : decode cX3_freeBehind 53 = .ok (.isub, 1) := by decide +kernel
theorem dX3_freeBehind_54 : decode cX3_freeBehind 54 = .ok (.goto 4, 3) := by decide +kernel
theorem dX3_freeBehind_57 : decode cX3_freeBehind 57 = .ok (.iconst 0, 1) := by decide +kernel
theorem dX3_freeBehind_58 : decode cX3_freeBehind 58 = .ok (.ireturn, 1) := by decide +kernel
abbrev mX3_freeBehind : XM := (cX3_freeBehind, 3, RX3, (some .int), shw_3, 1)
noncomputable def rg_X3_freeBehind_0 : XK :=
 o_aload 0 <|
 o_iload 1 <|
 o_callV 2 1 [0] f_X3_isFull <|
 o_if_ne (o_aload 0 <|
 o_get shw_3 3 0 <|
 o_iload 1 <|
 o_iald shw_3 <|
 o_aload 0 <|
 o_get shw_3 3 1 <|
 o_iload 1 <|
 o_iald shw_3 <|
 o_iadd <|
 o_iconst 1 <|
 o_iadd <|
 o_istore 2 <|
 o_iload 2 <|
 o_aload 0 <|
 o_get shw_3 3 9 <|
 o_icmp_ge (o_iconst 0 <|
 o_ireturn)
 (o_aload 0 <|
 o_iload 2 <|
 o_callV 2 1 [0] f_X3_holderAt <|
 o_iconst (-1) <|
 o_icmp_ne (o_iconst 0 <|
 o_ireturn)
 (o_aload 0 <|
 o_iload 2 <|
 o_aload 0 <|
 o_get shw_3 3 9 <|
 o_callV 3 1 [0] f_X3_endAt <|
 o_iload 2 <|
 o_isub <|
 o_ireturn)))
 (o_iconst 0 <|
 o_ireturn)
def en_X3_freeBehind_0 (p1 : Int) (h0 : Ob) (a : Unit) : XSt := ([some (.inr (.inl (0, 0))), some (.inl p1), none], [], [h0])
noncomputable def mg_X3_freeBehind_0 (p1 : Int) (h0 : Ob) (a : Unit) : Option Rt :=
 if xw (bz (ful h0 p1)) = 0 then (RI 0 [h0])
 else (if xin p1 11 then (
 if xin p1 11 then (
 if xw (((h0 1 (xw p1).toNat) + (h0 2 (xw p1).toNat)) + 1) ≥ xw (h0 0 9) then (RI 0 [h0])
 else (if xw (hol h0 (((h0 1 (xw p1).toNat) + (h0 2 (xw p1).toNat)) + 1)) = (-1) then (RI ((nxt h0 (((h0 1 (xw p1).toNat) + (h0 2 (xw p1).toNat)) + 1) (h0 0 9)) - (((h0 1 (xw p1).toNat) + (h0 2 (xw p1).toNat)) + 1)) [h0])
 else (RI 0 [h0]))) else none) else none)
set_option maxRecDepth 100000 in
set_option maxHeartbeats 4000000 in
theorem rq_X3_freeBehind_0 (p1 : Int) (h0 : Ob) (a : Unit) : rg_X3_freeBehind_0 (en_X3_freeBehind_0 p1 h0 a) = mg_X3_freeBehind_0 p1 h0 a := rfl
set_option maxRecDepth 100000 in
set_option maxHeartbeats 4000000 in
theorem sg_X3_freeBehind_0 {X : XDyn} {r0 : Rt} (C : XO X mX3_freeBehind) : XS X mX3_freeBehind r0 0 (rg_X3_freeBehind_0) := by
 unfold rg_X3_freeBehind_0
 exact s_aload_n (pc := 0) C dX3_freeBehind_0 rfl <|
    s_iload_n (pc := 1) C dX3_freeBehind_1 rfl <|
    s_callV (pc := 2) C ct_X3_isFull (n := 2) (rk := 1) (mp := [0]) ⟨rfl, by decide, rfl⟩ (ci := 3) rfl rfl (by decide) (by decide) yi_X3_isFull (by decide) wd_638 wd_556 wd_557 wd_74 wd_558 dX3_freeBehind_2 <|
    s_if_ne (pc := 5) C dX3_freeBehind_5 (by decide) (s_aload_n (pc := 10) C dX3_freeBehind_10 rfl <|
    s_get (pc := 11) C (ci := 3) (kf := 0) rfl inX3 (by decide) wd_99 dX3_freeBehind_11 <|
    s_iload_n (pc := 14) C dX3_freeBehind_14 rfl <|
    s_iald (pc := 15) C dX3_freeBehind_15 <|
    s_aload_n (pc := 16) C dX3_freeBehind_16 rfl <|
    s_get (pc := 17) C (ci := 3) (kf := 1) rfl inX3 (by decide) wd_105 dX3_freeBehind_17 <|
    s_iload_n (pc := 20) C dX3_freeBehind_20 rfl <|
    s_iald (pc := 21) C dX3_freeBehind_21 <|
    s_iadd (pc := 22) C dX3_freeBehind_22 <|
    s_iconst (pc := 23) C dX3_freeBehind_23 <|
    s_iadd (pc := 24) C dX3_freeBehind_24 <|
    s_istore_n (pc := 25) C dX3_freeBehind_25 rfl <|
    s_iload_n (pc := 26) C dX3_freeBehind_26 rfl <|
    s_aload_n (pc := 27) C dX3_freeBehind_27 rfl <|
    s_get (pc := 28) C (ci := 3) (kf := 9) rfl inX3 (by decide) wd_127 dX3_freeBehind_28 <|
    s_icmp_ge (pc := 31) C dX3_freeBehind_31 (by decide) (s_iconst (pc := 57) C dX3_freeBehind_57 <|
    s_ireturn (pc := 58) C rfl dX3_freeBehind_58)
    (s_aload_n (pc := 34) C dX3_freeBehind_34 rfl <|
    s_iload_n (pc := 35) C dX3_freeBehind_35 rfl <|
    s_callV (pc := 36) C ct_X3_holderAt (n := 2) (rk := 1) (mp := [0]) ⟨rfl, by decide, rfl⟩ (ci := 3) rfl rfl (by decide) (by decide) yi_X3_holderAt (by decide) wd_393 wd_394 wd_395 wd_74 wd_396 dX3_freeBehind_36 <|
    s_iconst (pc := 39) C dX3_freeBehind_39 <|
    s_icmp_ne (pc := 40) C dX3_freeBehind_40 (by decide) (s_iconst (pc := 57) C dX3_freeBehind_57 <|
    s_ireturn (pc := 58) C rfl dX3_freeBehind_58)
    (s_aload_n (pc := 43) C dX3_freeBehind_43 rfl <|
    s_iload_n (pc := 44) C dX3_freeBehind_44 rfl <|
    s_aload_n (pc := 45) C dX3_freeBehind_45 rfl <|
    s_get (pc := 46) C (ci := 3) (kf := 9) rfl inX3 (by decide) wd_127 dX3_freeBehind_46 <|
    s_callV (pc := 49) C ct_X3_endAt (n := 3) (rk := 1) (mp := [0]) ⟨rfl, by decide, rfl⟩ (ci := 3) rfl rfl (by decide) (by decide) yi_X3_endAt (by decide) wd_397 wd_398 wd_399 wd_74 wd_400 dX3_freeBehind_49 <|
    s_iload_n (pc := 52) C dX3_freeBehind_52 rfl <|
    s_isub (pc := 53) C dX3_freeBehind_53 <|
    s_goto (pc := 54) C dX3_freeBehind_54 (by decide) <|
    s_ireturn (pc := 58) C rfl dX3_freeBehind_58)))
    (s_iconst (pc := 8) C dX3_freeBehind_8 <|
    s_ireturn (pc := 9) C rfl dX3_freeBehind_9)
noncomputable def rw_X3_freeBehind_0 : XK := rg_X3_freeBehind_0
noncomputable def md_X3_freeBehind_0 (p1 : Int) (h0 : Ob) : Unit → Option Rt := mg_X3_freeBehind_0 p1 h0
theorem eq_X3_freeBehind_0 (p1 : Int) (h0 : Ob) (a : Unit) : rw_X3_freeBehind_0 (en_X3_freeBehind_0 p1 h0 a) = md_X3_freeBehind_0 p1 h0 a :=
 rq_X3_freeBehind_0 p1 h0 a
theorem sd_X3_freeBehind_0 {X : XDyn} {r0 : Rt} (C : XO X mX3_freeBehind) : XS X mX3_freeBehind r0 0 (rw_X3_freeBehind_0) := sg_X3_freeBehind_0 C
theorem ctr_X3_freeBehind : XCt yX3_freeBehind mX3_freeBehind (xF mX3_freeBehind (rw_X3_freeBehind_0)) := xMet (by decide +kernel) rfl (fun _ _ C => sd_X3_freeBehind_0 C)
theorem eqf_X3_freeBehind (p1 : Int) (h0 : Ob) : xF mX3_freeBehind (rw_X3_freeBehind_0) [.inr (.inl (0, 0)), .inl p1] [h0] = md_X3_freeBehind_0 p1 h0 () := eq_X3_freeBehind_0 p1 h0 ()
theorem yi_X3_freeBehind : yX3_freeBehind.cls = RX3 ∧ yX3_freeBehind.cls ≠ "java/lang/invoke/MethodHandle" ∧ yX3_freeBehind.cls ≠ "java/lang/invoke/VarHandle" ∧ (parseMethodDescriptor yX3_freeBehind.desc).map (fun d => d.parameters.length) = some 1 := ⟨rfl, by decide +kernel, by decide +kernel, by decide +kernel⟩
theorem sp_X3_freeBehind (p1 : Int) (h0 : Ob) : md_X3_freeBehind_0 p1 h0 () = RI (frb h0 p1) [h0] := by
  simp only [md_X3_freeBehind_0, mg_X3_freeBehind_0, bz_0]
  unfold frb
  cases hh : ful h0 p1
  · rfl
  · have h1 : 0 ≤ xw p1 ∧ xw p1 < 8 := by
      unfold ful at hh
      simp only [Bool.and_eq_true] at hh
      exact hdl_iff.mp hh.1
    rw [if_neg (by simp), xin_of (n := 11) h1.1 (by omega)]
    simp only [if_true]
    by_cases h2 : xw (h0 1 (xw p1).toNat + h0 2 (xw p1).toNat + 1) ≥ xw (h0 0 9)
    · rw [if_pos h2, if_pos h2]
    · rw [if_neg h2, if_neg (show ¬ xw (h0 0 9) ≤ xw (h0 1 (xw p1).toNat + h0 2 (xw p1).toNat + 1) by omega)]
      split <;> rfl
noncomputable def f_X3_freeBehind : List AV → List Ob → Option Rt
  | [.inr (.inl (0, 0)), .inl p1], [h0] => some (some (.inl (frb h0 p1)), [h0])
  | _, _ => none
theorem ct_X3_freeBehind : XCt yX3_freeBehind mX3_freeBehind f_X3_freeBehind := (ctr_X3_freeBehind ).of (fun as μ r h => by
  unfold f_X3_freeBehind at h
  split at h
  · rw [← h]
    exact (eqf_X3_freeBehind _ _).trans (sp_X3_freeBehind _ _)
  · cases h)
theorem dX3_isTorn_0 : decode cX3_isTorn 0 = .ok (.iload_n 2, 1) := by decide +kernel
theorem dX3_isTorn_1 : decode cX3_isTorn 1 = .ok (.bipush 64, 2) := by decide +kernel
theorem dX3_isTorn_3 : decode cX3_isTorn 3 = .ok (.idiv, 1) := by decide +kernel
theorem dX3_isTorn_4 : decode cX3_isTorn 4 = .ok (.istore 4, 2) := by decide +kernel
theorem dX3_isTorn_6 : decode cX3_isTorn 6 = .ok (.iload_n 2, 1) := by decide +kernel
theorem dX3_isTorn_7 : decode cX3_isTorn 7 = .ok (.bipush 64, 2) := by decide +kernel
theorem dX3_isTorn_9 : decode cX3_isTorn 9 = .ok (.if_icmp .lt 14, 3) := by decide +kernel
theorem dX3_isTorn_12 : decode cX3_isTorn 12 = .ok (.iload_n 1, 1) := by decide +kernel
theorem dX3_isTorn_13 : decode cX3_isTorn 13 = .ok (.iload 4, 2) := by decide +kernel
theorem dX3_isTorn_15 : decode cX3_isTorn 15 = .ok (.iadd, 1) := by decide +kernel
theorem dX3_isTorn_16 : decode cX3_isTorn 16 = .ok (.aload_n 0, 1) := by decide +kernel
theorem dX3_isTorn_17 : decode cX3_isTorn 17 = .ok (.getfield 40, 3) := by decide +kernel
theorem dX3_isTorn_20 : decode cX3_isTorn 20 = .ok (.if_icmp .le 5, 3) := by decide +kernel
theorem dX3_isTorn_23 : decode cX3_isTorn 23 = .ok (.iconst 1, 1) := by decide +kernel
theorem dX3_isTorn_24 : decode cX3_isTorn 24 = .ok (.ireturn, 1) := by decide +kernel
theorem dX3_isTorn_25 : decode cX3_isTorn 25 = .ok (.iload_n 2, 1) := by decide +kernel
theorem dX3_isTorn_26 : decode cX3_isTorn 26 = .ok (.bipush 64, 2) := by decide +kernel
theorem dX3_isTorn_28 : decode cX3_isTorn 28 = .ok (.irem, 1) := by decide +kernel
theorem dX3_isTorn_29 : decode cX3_isTorn 29 = .ok (.istore 5, 2) := by decide +kernel
theorem dX3_isTorn_31 : decode cX3_isTorn 31 = .ok (.iload 5, 2) := by decide +kernel
theorem dX3_isTorn_33 : decode cX3_isTorn 33 = .ok (.ifCond .ne 5, 3) := by decide +kernel
theorem dX3_isTorn_36 : decode cX3_isTorn 36 = .ok (.iload_n 3, 1) := by decide +kernel
theorem dX3_isTorn_37 : decode cX3_isTorn 37 = .ok (.ireturn, 1) := by decide +kernel
theorem dX3_isTorn_38 : decode cX3_isTorn 38 = .ok (.iload 5, 2) := by decide +kernel
theorem dX3_isTorn_40 : decode cX3_isTorn 40 = .ok (.invokestatic 120, 3) := by decide +kernel
theorem dX3_isTorn_43 : decode cX3_isTorn 43 = .ok (.istore 6, 2) := by decide +kernel
theorem dX3_isTorn_45 : decode cX3_isTorn 45 = .ok (.iload 6, 2) := by decide +kernel
theorem dX3_isTorn_47 : decode cX3_isTorn 47 = .ok (.iconst (-1), 1) := by decide +kernel
theorem dX3_isTorn_48 : decode cX3_isTorn 48 = .ok (.if_icmp .eq 28, 3) := by decide +kernel
theorem dX3_isTorn_51 : decode cX3_isTorn 51 = .ok (.aload_n 0, 1) := by decide +kernel
theorem dX3_isTorn_52 : decode cX3_isTorn 52 = .ok (.getfield 9, 3) := by decide +kernel
theorem dX3_isTorn_55 : decode cX3_isTorn 55 = .ok (.iload 6, 2) := by decide +kernel
theorem dX3_isTorn_57 : decode cX3_isTorn 57 = .ok (.iaload, 1) := by decide +kernel
theorem dX3_isTorn_58 : decode cX3_isTorn 58 = .ok (.iload_n 1, 1) := by decide +kernel
theorem dX3_isTorn_59 : decode cX3_isTorn 59 = .ok (.if_icmp .ne 17, 3) := by decide +kernel
theorem dX3_isTorn_62 : decode cX3_isTorn 62 = .ok (.aload_n 0, 1) := by decide +kernel
theorem dX3_isTorn_63 : decode cX3_isTorn 63 = .ok (.getfield 15, 3) := by decide +kernel
theorem dX3_isTorn_66 : decode cX3_isTorn 66 = .ok (.iload 6, 2) := by decide +kernel
theorem dX3_isTorn_68 : decode cX3_isTorn 68 = .ok (.iaload, 1) := by decide +kernel
theorem dX3_isTorn_69 : decode cX3_isTorn 69 = .ok (.iconst 1, 1) := by decide +kernel
theorem dX3_isTorn_70 : decode cX3_isTorn 70 = .ok (.iadd, 1) := by decide +kernel
theorem dX3_isTorn_71 : decode cX3_isTorn 71 = .ok (.iload 4, 2) := by decide +kernel
theorem dX3_isTorn_73 : decode cX3_isTorn 73 = .ok (.if_icmp .eq 7, 3) := by decide +kernel
theorem dX3_isTorn_76 : decode cX3_isTorn 76 = .ok (.iconst 1, 1) := by decide +kernel
theorem dX3_isTorn_77 : decode cX3_isTorn 77 = .ok (.goto 4, 3) := by decide +kernel
theorem dX3_isTorn_80 : decode cX3_isTorn 80 = .ok (.iconst 0, 1) := by decide +kernel
theorem dX3_isTorn_81 : decode cX3_isTorn 81 = .ok (.ireturn, 1) := by decide +kernel
abbrev mX3_isTorn : XM := (cX3_isTorn, 7, RX3, (some .boolean), shw_3, 1)
noncomputable def rg_X3_isTorn_0 : XK :=
 o_iload 2 <|
 o_iconst 64 <|
 o_idiv <|
 o_istore 4 <|
 o_iload 2 <|
 o_iconst 64 <|
 o_icmp_lt (o_iconst 1 <|
 o_zreturn)
 (o_iload 1 <|
 o_iload 4 <|
 o_iadd <|
 o_aload 0 <|
 o_get shw_3 3 9 <|
 o_icmp_le (o_iload 2 <|
 o_iconst 64 <|
 o_irem <|
 o_istore 5 <|
 o_iload 5 <|
 o_if_ne (o_iload 5 <|
 o_callS 1 1 [] f_X7_holderOf <|
 o_istore 6 <|
 o_iload 6 <|
 o_iconst (-1) <|
 o_icmp_eq (o_iconst 1 <|
 o_zreturn)
 (o_aload 0 <|
 o_get shw_3 3 0 <|
 o_iload 6 <|
 o_iald shw_3 <|
 o_iload 1 <|
 o_icmp_ne (o_iconst 1 <|
 o_zreturn)
 (o_aload 0 <|
 o_get shw_3 3 1 <|
 o_iload 6 <|
 o_iald shw_3 <|
 o_iconst 1 <|
 o_iadd <|
 o_iload 4 <|
 o_icmp_eq (o_iconst 0 <|
 o_zreturn)
 (o_iconst 1 <|
 o_zreturn))))
 (o_iload 3 <|
 o_zreturn))
 (o_iconst 1 <|
 o_zreturn))
def en_X3_isTorn_0 (p1 : Int) (p2 : Int) (p3 : Int) (h0 : Ob) (a : Unit) : XSt := ([some (.inr (.inl (0, 0))), some (.inl p1), some (.inl p2), some (.inl p3), none, none, none], [], [h0])
noncomputable def mg_X3_isTorn_0 (p1 : Int) (p2 : Int) (p3 : Int) (h0 : Ob) (a : Unit) : Option Rt :=
 if xw p2 < 64 then (RI 1 [h0])
 else (if xw (p1 + (xdiv p2 64)) ≤ xw (h0 0 9) then (if xw (xrem p2 64) = 0 then (if xb p3 then RI p3 [h0] else none)
 else (if xw (holF (xrem p2 64)) = (-1) then (RI 1 [h0])
 else (if xin (holF (xrem p2 64)) 11 then (
 if xw (h0 1 (xw (holF (xrem p2 64))).toNat) = xw p1 then (if xin (holF (xrem p2 64)) 11 then (
 if xw ((h0 2 (xw (holF (xrem p2 64))).toNat) + 1) = xw (xdiv p2 64) then (RI 0 [h0])
 else (RI 1 [h0])) else none)
 else (RI 1 [h0])) else none)))
 else (RI 1 [h0]))
set_option maxRecDepth 100000 in
set_option maxHeartbeats 4000000 in
theorem rq_X3_isTorn_0 (p1 : Int) (p2 : Int) (p3 : Int) (h0 : Ob) (a : Unit) : rg_X3_isTorn_0 (en_X3_isTorn_0 p1 p2 p3 h0 a) = mg_X3_isTorn_0 p1 p2 p3 h0 a := rfl
set_option maxRecDepth 100000 in
set_option maxHeartbeats 4000000 in
theorem sg_X3_isTorn_0 {X : XDyn} {r0 : Rt} (C : XO X mX3_isTorn) : XS X mX3_isTorn r0 0 (rg_X3_isTorn_0) := by
 unfold rg_X3_isTorn_0
 exact s_iload_n (pc := 0) C dX3_isTorn_0 rfl <|
    s_bipush (pc := 1) C dX3_isTorn_1 (by decide) <|
    s_idiv (pc := 3) C dX3_isTorn_3 <|
    s_istore (pc := 4) C dX3_isTorn_4 <|
    s_iload_n (pc := 6) C dX3_isTorn_6 rfl <|
    s_bipush (pc := 7) C dX3_isTorn_7 (by decide) <|
    s_icmp_lt (pc := 9) C dX3_isTorn_9 (by decide) (s_iconst (pc := 23) C dX3_isTorn_23 <|
    s_zreturn (pc := 24) C rfl dX3_isTorn_24)
    (s_iload_n (pc := 12) C dX3_isTorn_12 rfl <|
    s_iload (pc := 13) C dX3_isTorn_13 <|
    s_iadd (pc := 15) C dX3_isTorn_15 <|
    s_aload_n (pc := 16) C dX3_isTorn_16 rfl <|
    s_get (pc := 17) C (ci := 3) (kf := 9) rfl inX3 (by decide) wd_127 dX3_isTorn_17 <|
    s_icmp_le (pc := 20) C dX3_isTorn_20 (by decide) (s_iload_n (pc := 25) C dX3_isTorn_25 rfl <|
    s_bipush (pc := 26) C dX3_isTorn_26 (by decide) <|
    s_irem (pc := 28) C dX3_isTorn_28 <|
    s_istore (pc := 29) C dX3_isTorn_29 <|
    s_iload (pc := 31) C dX3_isTorn_31 <|
    s_if_ne (pc := 33) C dX3_isTorn_33 (by decide) (s_iload (pc := 38) C dX3_isTorn_38 <|
    s_callN (pc := 40) C ct_X7_holderOf (n := 1) (rk := 1) (mp := []) ⟨rfl, by decide, rfl⟩ (by decide) (by decide) yi_X7_holderOf wd_791 wd_792 wd_73 wd_793 dX3_isTorn_40 <|
    s_istore (pc := 43) C dX3_isTorn_43 <|
    s_iload (pc := 45) C dX3_isTorn_45 <|
    s_iconst (pc := 47) C dX3_isTorn_47 <|
    s_icmp_eq (pc := 48) C dX3_isTorn_48 (by decide) (s_iconst (pc := 76) C dX3_isTorn_76 <|
    s_goto (pc := 77) C dX3_isTorn_77 (by decide) <|
    s_zreturn (pc := 81) C rfl dX3_isTorn_81)
    (s_aload_n (pc := 51) C dX3_isTorn_51 rfl <|
    s_get (pc := 52) C (ci := 3) (kf := 0) rfl inX3 (by decide) wd_99 dX3_isTorn_52 <|
    s_iload (pc := 55) C dX3_isTorn_55 <|
    s_iald (pc := 57) C dX3_isTorn_57 <|
    s_iload_n (pc := 58) C dX3_isTorn_58 rfl <|
    s_icmp_ne (pc := 59) C dX3_isTorn_59 (by decide) (s_iconst (pc := 76) C dX3_isTorn_76 <|
    s_goto (pc := 77) C dX3_isTorn_77 (by decide) <|
    s_zreturn (pc := 81) C rfl dX3_isTorn_81)
    (s_aload_n (pc := 62) C dX3_isTorn_62 rfl <|
    s_get (pc := 63) C (ci := 3) (kf := 1) rfl inX3 (by decide) wd_105 dX3_isTorn_63 <|
    s_iload (pc := 66) C dX3_isTorn_66 <|
    s_iald (pc := 68) C dX3_isTorn_68 <|
    s_iconst (pc := 69) C dX3_isTorn_69 <|
    s_iadd (pc := 70) C dX3_isTorn_70 <|
    s_iload (pc := 71) C dX3_isTorn_71 <|
    s_icmp_eq (pc := 73) C dX3_isTorn_73 (by decide) (s_iconst (pc := 80) C dX3_isTorn_80 <|
    s_zreturn (pc := 81) C rfl dX3_isTorn_81)
    (s_iconst (pc := 76) C dX3_isTorn_76 <|
    s_goto (pc := 77) C dX3_isTorn_77 (by decide) <|
    s_zreturn (pc := 81) C rfl dX3_isTorn_81))))
    (s_iload_n (pc := 36) C dX3_isTorn_36 rfl <|
    s_zreturn (pc := 37) C rfl dX3_isTorn_37))
    (s_iconst (pc := 23) C dX3_isTorn_23 <|
    s_zreturn (pc := 24) C rfl dX3_isTorn_24))
noncomputable def rw_X3_isTorn_0 : XK := rg_X3_isTorn_0
noncomputable def md_X3_isTorn_0 (p1 : Int) (p2 : Int) (p3 : Int) (h0 : Ob) : Unit → Option Rt := mg_X3_isTorn_0 p1 p2 p3 h0
theorem eq_X3_isTorn_0 (p1 : Int) (p2 : Int) (p3 : Int) (h0 : Ob) (a : Unit) : rw_X3_isTorn_0 (en_X3_isTorn_0 p1 p2 p3 h0 a) = md_X3_isTorn_0 p1 p2 p3 h0 a :=
 rq_X3_isTorn_0 p1 p2 p3 h0 a
theorem sd_X3_isTorn_0 {X : XDyn} {r0 : Rt} (C : XO X mX3_isTorn) : XS X mX3_isTorn r0 0 (rw_X3_isTorn_0) := sg_X3_isTorn_0 C
theorem ctr_X3_isTorn : XCt yX3_isTorn mX3_isTorn (xF mX3_isTorn (rw_X3_isTorn_0)) := xMet (by decide +kernel) rfl (fun _ _ C => sd_X3_isTorn_0 C)
theorem eqf_X3_isTorn (p1 : Int) (p2 : Int) (p3 : Int) (h0 : Ob) : xF mX3_isTorn (rw_X3_isTorn_0) [.inr (.inl (0, 0)), .inl p1, .inl p2, .inl p3] [h0] = md_X3_isTorn_0 p1 p2 p3 h0 () := eq_X3_isTorn_0 p1 p2 p3 h0 ()
theorem yi_X3_isTorn : yX3_isTorn.cls = RX3 ∧ yX3_isTorn.cls ≠ "java/lang/invoke/MethodHandle" ∧ yX3_isTorn.cls ≠ "java/lang/invoke/VarHandle" ∧ (parseMethodDescriptor yX3_isTorn.desc).map (fun d => d.parameters.length) = some 3 := ⟨rfl, by decide +kernel, by decide +kernel, by decide +kernel⟩
theorem sp_X3_isTorn (p1 p2 p3 : Int) (h0 : Ob) (hg : (pd (LW h0) && xb p3) = true) : md_X3_isTorn_0 p1 p2 p3 h0 () = RI (bz (torF h0 p1 p2 p3)) [h0] := by
  simp only [Bool.and_eq_true] at hg
  have hb := hg.2
  have hp3 : p3 = bz (decide (p3 = 1)) := by
    simp only [xb, Bool.or_eq_true, decide_eq_true_eq] at hb
    rcases hb with rfl | rfl <;> rfl
  simp only [md_X3_isTorn_0, mg_X3_isTorn_0, hb, if_true]
  unfold torF
  by_cases h1 : xw p2 < 64
  · simp [h1, bz]
  · by_cases h2 : xw (p1 + xdiv p2 64) ≤ xw (h0 0 9)
    · by_cases h3 : xw (xrem p2 64) = 0
      · simp only [h1, h2, h3, if_true, if_false, decide_true, decide_false, Bool.not_true, Bool.or_false, Bool.false_or]
        rw [← hp3]
      · by_cases h4 : xw (holF (xrem p2 64)) = -1
        · simp [h1, h2, h3, h4, bz]
        · have hr : 0 ≤ xw (holF (xrem p2 64)) ∧ xw (holF (xrem p2 64)) < 11 := by
            rcases holF_range (xrem p2 64) with h | h
            · exact absurd h h4
            · exact h
          rw [xin_of (n := 11) hr.1 (by omega)]
          by_cases h5 : xw (h0 1 (xw (holF (xrem p2 64))).toNat) = xw p1
          · by_cases h6 : xw (h0 2 (xw (holF (xrem p2 64))).toNat + 1) = xw (xdiv p2 64)
            · simp [h1, h2, h3, h4, h5, h6, bz]
            · simp [h1, h2, h3, h4, h5, h6, bz]
          · simp [h1, h2, h3, h4, h5, bz]
    · simp [h1, h2, bz]
noncomputable def g_X3_isTorn : List AV → List Ob → Bool
  | [.inr (.inl (0, 0)), .inl p1, .inl p2, .inl p3], [h0] => pd (LW h0) && xb p3
  | _, _ => false
noncomputable def v_X3_isTorn : List AV → List Ob → Rt
  | [.inr (.inl (0, 0)), .inl p1, .inl p2, .inl p3], [h0] => (some (.inl (bz (torF h0 p1 p2 p3))), [h0])
  | _, _ => (none, [])
theorem ct_X3_isTorn : XCt yX3_isTorn mX3_isTorn (fun as μ => if g_X3_isTorn as μ then some (v_X3_isTorn as μ) else none) := (ctr_X3_isTorn ).of (fun as μ r h => by
  split at h
  · rename_i hg
    unfold g_X3_isTorn at hg
    split at hg
    · rw [← h]
      exact (eqf_X3_isTorn _ _ _ _).trans (sp_X3_isTorn _ _ _ _ hg)
    · cases hg
  · cases h)
theorem dX3_grow_0 : decode cX3_grow 0 = .ok (.iconst 0, 1) := by decide +kernel
theorem dX3_grow_1 : decode cX3_grow 1 = .ok (.istore_n 2, 1) := by decide +kernel
theorem dX3_grow_2 : decode cX3_grow 2 = .ok (.iconst 0, 1) := by decide +kernel
theorem dX3_grow_3 : decode cX3_grow 3 = .ok (.istore_n 3, 1) := by decide +kernel
theorem dX3_grow_4 : decode cX3_grow 4 = .ok (.iload_n 3, 1) := by decide +kernel
theorem dX3_grow_5 : decode cX3_grow 5 = .ok (.bipush 11, 2) := by decide +kernel
theorem dX3_grow_7 : decode cX3_grow 7 = .ok (.if_icmp .ge 39, 3) := by decide +kernel
theorem dX3_grow_10 : decode cX3_grow 10 = .ok (.aload_n 0, 1) := by decide +kernel
theorem dX3_grow_11 : decode cX3_grow 11 = .ok (.getfield 9, 3) := by decide +kernel
theorem dX3_grow_14 : decode cX3_grow 14 = .ok (.iload_n 3, 1) := by decide +kernel
theorem dX3_grow_15 : decode cX3_grow 15 = .ok (.iaload, 1) := by decide +kernel
theorem dX3_grow_16 : decode cX3_grow 16 = .ok (.iconst (-1), 1) := by decide +kernel
theorem dX3_grow_17 : decode cX3_grow 17 = .ok (.if_icmp .eq 23, 3) := by decide +kernel
theorem dX3_grow_20 : decode cX3_grow 20 = .ok (.iload_n 2, 1) := by decide +kernel
theorem dX3_grow_21 : decode cX3_grow 21 = .ok (.aload_n 0, 1) := by decide +kernel
theorem dX3_grow_22 : decode cX3_grow 22 = .ok (.getfield 9, 3) := by decide +kernel
theorem dX3_grow_25 : decode cX3_grow 25 = .ok (.iload_n 3, 1) := by decide +kernel
theorem dX3_grow_26 : decode cX3_grow 26 = .ok (.iaload, 1) := by decide +kernel
theorem dX3_grow_27 : decode cX3_grow 27 = .ok (.aload_n 0, 1) := by decide +kernel
theorem dX3_grow_28 : decode cX3_grow 28 = .ok (.getfield 15, 3) := by decide +kernel
theorem dX3_grow_31 : decode cX3_grow 31 = .ok (.iload_n 3, 1) := by decide +kernel
theorem dX3_grow_32 : decode cX3_grow 32 = .ok (.iaload, 1) := by decide +kernel
theorem dX3_grow_33 : decode cX3_grow 33 = .ok (.iadd, 1) := by decide +kernel
theorem dX3_grow_34 : decode cX3_grow 34 = .ok (.iconst 1, 1) := by decide +kernel
theorem dX3_grow_35 : decode cX3_grow 35 = .ok (.iadd, 1) := by decide +kernel
theorem dX3_grow_36 : decode cX3_grow 36 = .ok (.invokestatic 85, 3) := by decide +kernel
theorem dX3_grow_39 : decode cX3_grow 39 = .ok (.istore_n 2, 1) := by decide +kernel
theorem dX3_grow_40 : decode cX3_grow 40 = .ok (.iinc 3 1, 3) := by decide +kernel
theorem dX3_grow_43 : decode cX3_grow 43 = .ok (.goto (-39), 3) := by decide +kernel
theorem dX3_grow_46 : decode cX3_grow 46 = .ok (.aload_n 0, 1) := by decide +kernel
theorem dX3_grow_47 : decode cX3_grow 47 = .ok (.aload_n 0, 1) := by decide +kernel
theorem dX3_grow_48 : decode cX3_grow 48 = .ok (.getfield 40, 3) := by decide +kernel
theorem dX3_grow_51 : decode cX3_grow 51 = .ok (.aload_n 0, 1) := by decide +kernel
theorem dX3_grow_52 : decode cX3_grow 52 = .ok (.getfield 43, 3) := by decide +kernel
theorem dX3_grow_55 : decode cX3_grow 55 = .ok (.iload_n 2, 1) := by decide +kernel
theorem dX3_grow_56 : decode cX3_grow 56 = .ok (.iload_n 1, 1) := by decide +kernel
theorem dX3_grow_57 : decode cX3_grow 57 = .ok (.iadd, 1) := by decide +kernel
theorem dX3_grow_58 : decode cX3_grow 58 = .ok (.invokestatic 95, 3) := by decide +kernel
theorem dX3_grow_61 : decode cX3_grow 61 = .ok (.invokestatic 85, 3) := by decide +kernel
theorem dX3_grow_64 : decode cX3_grow 64 = .ok (.putfield 40, 3) := by decide +kernel
theorem dX3_grow_67 : decode cX3_grow 67 = .ok (.iload_n 2, 1) := by decide +kernel
theorem dX3_grow_68 : decode cX3_grow 68 = .ok (.iload_n 1, 1) := by decide +kernel
theorem dX3_grow_69 : decode cX3_grow 69 = .ok (.iadd, 1) := by decide +kernel
theorem dX3_grow_70 : decode cX3_grow 70 = .ok (.aload_n 0, 1) := by decide +kernel
theorem dX3_grow_71 : decode cX3_grow 71 = .ok (.getfield 43, 3) := by decide +kernel
theorem dX3_grow_74 : decode cX3_grow 74 = .ok (.if_icmp .gt 7, 3) := by decide +kernel
theorem dX3_grow_77 : decode cX3_grow 77 = .ok (.iload_n 2, 1) := by decide +kernel
theorem dX3_grow_78 : decode cX3_grow 78 = .ok (.goto 4, 3) := by decide +kernel
theorem dX3_grow_81 : decode cX3_grow 81 = .ok (.iconst (-1), 1) := by decide +kernel
theorem dX3_grow_82 : decode cX3_grow 82 = .ok (.ireturn, 1) := by decide +kernel
abbrev mX3_grow : XM := (cX3_grow, 4, RX3, (some .int), shw_3, 1)
noncomputable def rg_X3_grow_0 (k4 : XK) : XK :=
 o_iconst 0 <|
 o_istore 2 <|
 o_iconst 0 <|
 o_istore 3 <|
 o_cut [] k4
def en_X3_grow_0 (p1 : Int) (a : Ob) : XSt := ([some (.inr (.inl (0, 0))), some (.inl p1), none, none], [], [a])
noncomputable def rg_X3_grow_4 (k40 : XK) : XK :=
 o_iload 3 <|
 o_iconst 11 <|
 o_icmp_ge (o_aload 0 <|
 o_aload 0 <|
 o_get shw_3 3 9 <|
 o_aload 0 <|
 o_get shw_3 3 10 <|
 o_iload 2 <|
 o_iload 1 <|
 o_iadd <|
 o_min <|
 o_max <|
 o_put shw_3 3 9 false <|
 o_iload 2 <|
 o_iload 1 <|
 o_iadd <|
 o_aload 0 <|
 o_get shw_3 3 10 <|
 o_icmp_gt (o_iconst (-1) <|
 o_ireturn)
 (o_iload 2 <|
 o_ireturn))
 (o_aload 0 <|
 o_get shw_3 3 0 <|
 o_iload 3 <|
 o_iald shw_3 <|
 o_iconst (-1) <|
 o_icmp_eq (o_cut [] k40)
 (o_iload 2 <|
 o_aload 0 <|
 o_get shw_3 3 0 <|
 o_iload 3 <|
 o_iald shw_3 <|
 o_aload 0 <|
 o_get shw_3 3 1 <|
 o_iload 3 <|
 o_iald shw_3 <|
 o_iadd <|
 o_iconst 1 <|
 o_iadd <|
 o_max <|
 o_istore 2 <|
 o_cut [] k40))
def en_X3_grow_4 (p1 : Int) (a : Int × Int × Ob) : XSt := ([some (.inr (.inl (0, 0))), some (.inl p1), some (.inl a.1), some (.inl a.2.1)], [], [a.2.2])
noncomputable def rg_X3_grow_40 (k4 : XK) : XK :=
 o_iinc 3 1 <|
 o_cut [] k4
def en_X3_grow_40 (p1 : Int) (a : Int × Int × Ob) : XSt := ([some (.inr (.inl (0, 0))), some (.inl p1), some (.inl a.1), some (.inl a.2.1)], [], [a.2.2])
noncomputable def mg_X3_grow_0 (p1 : Int) (k4 : (Int × Int × Ob) → Option Rt) (a : Ob) : Option Rt :=
 k4 (0, 0, a)
set_option maxRecDepth 100000 in
set_option maxHeartbeats 4000000 in
theorem rq_X3_grow_0 (p1 : Int) (k4 : XK) (a : Ob) : rg_X3_grow_0 k4 (en_X3_grow_0 p1 a) = mg_X3_grow_0 p1 (fun b => k4 (en_X3_grow_4 p1 b)) a := rfl
set_option maxRecDepth 100000 in
set_option maxHeartbeats 4000000 in
theorem sg_X3_grow_0 {X : XDyn} {r0 : Rt} (C : XO X mX3_grow) {k4 : XK} (q4 : XS X mX3_grow r0 4 k4) : XS X mX3_grow r0 0 (rg_X3_grow_0 k4) := by
 unfold rg_X3_grow_0
 exact s_iconst (pc := 0) C dX3_grow_0 <|
    s_istore_n (pc := 1) C dX3_grow_1 rfl <|
    s_iconst (pc := 2) C dX3_grow_2 <|
    s_istore_n (pc := 3) C dX3_grow_3 rfl <|
    s_cut q4
noncomputable def mg_X3_grow_4 (p1 : Int) (k40 : (Int × Int × Ob) → Option Rt) (a : Int × Int × Ob) : Option Rt :=
 if xw a.2.1 ≥ 11 then (if xw (a.1 + p1) > xw ((xset a.2.2 0 9 (xmax (a.2.2 0 9) (xmin (a.2.2 0 10) (a.1 + p1)))) 0 10) then (RI (-1) [(xset a.2.2 0 9 (xmax (a.2.2 0 9) (xmin (a.2.2 0 10) (a.1 + p1))))])
 else (RI a.1 [(xset a.2.2 0 9 (xmax (a.2.2 0 9) (xmin (a.2.2 0 10) (a.1 + p1))))]))
 else (if xin a.2.1 11 then (
 if xw (a.2.2 1 (xw a.2.1).toNat) = (-1) then (k40 (a.1, a.2.1, a.2.2))
 else (if xin a.2.1 11 then (
 if xin a.2.1 11 then (
 k40 ((xmax a.1 (((a.2.2 1 (xw a.2.1).toNat) + (a.2.2 2 (xw a.2.1).toNat)) + 1)), a.2.1, a.2.2)) else none) else none)) else none)
set_option maxRecDepth 100000 in
set_option maxHeartbeats 4000000 in
theorem rq_X3_grow_4 (p1 : Int) (k40 : XK) (a : Int × Int × Ob) : rg_X3_grow_4 k40 (en_X3_grow_4 p1 a) = mg_X3_grow_4 p1 (fun b => k40 (en_X3_grow_40 p1 b)) a := rfl
set_option maxRecDepth 100000 in
set_option maxHeartbeats 4000000 in
theorem sg_X3_grow_4 {X : XDyn} {r0 : Rt} (C : XO X mX3_grow) {k40 : XK} (q40 : XS X mX3_grow r0 40 k40) : XS X mX3_grow r0 4 (rg_X3_grow_4 k40) := by
 unfold rg_X3_grow_4
 exact s_iload_n (pc := 4) C dX3_grow_4 rfl <|
    s_bipush (pc := 5) C dX3_grow_5 (by decide) <|
    s_icmp_ge (pc := 7) C dX3_grow_7 (by decide) (s_aload_n (pc := 46) C dX3_grow_46 rfl <|
    s_aload_n (pc := 47) C dX3_grow_47 rfl <|
    s_get (pc := 48) C (ci := 3) (kf := 9) rfl inX3 (by decide) wd_127 dX3_grow_48 <|
    s_aload_n (pc := 51) C dX3_grow_51 rfl <|
    s_get (pc := 52) C (ci := 3) (kf := 10) rfl inX3 (by decide) wd_129 dX3_grow_52 <|
    s_iload_n (pc := 55) C dX3_grow_55 rfl <|
    s_iload_n (pc := 56) C dX3_grow_56 rfl <|
    s_iadd (pc := 57) C dX3_grow_57 <|
    s_min (pc := 58) C (by decide) wd_420 wd_421 wd_82 wd_422 dX3_grow_58 <|
    s_max (pc := 61) C (by decide) wd_401 wd_402 wd_82 wd_403 dX3_grow_61 <|
    s_put (pc := 64) (z := false) C (ci := 3) (kf := 9) rfl inX3 tyX3_ok nmX3 (by decide) wd_127 rfl rfl dX3_grow_64 <|
    s_iload_n (pc := 67) C dX3_grow_67 rfl <|
    s_iload_n (pc := 68) C dX3_grow_68 rfl <|
    s_iadd (pc := 69) C dX3_grow_69 <|
    s_aload_n (pc := 70) C dX3_grow_70 rfl <|
    s_get (pc := 71) C (ci := 3) (kf := 10) rfl inX3 (by decide) wd_129 dX3_grow_71 <|
    s_icmp_gt (pc := 74) C dX3_grow_74 (by decide) (s_iconst (pc := 81) C dX3_grow_81 <|
    s_ireturn (pc := 82) C rfl dX3_grow_82)
    (s_iload_n (pc := 77) C dX3_grow_77 rfl <|
    s_goto (pc := 78) C dX3_grow_78 (by decide) <|
    s_ireturn (pc := 82) C rfl dX3_grow_82))
    (s_aload_n (pc := 10) C dX3_grow_10 rfl <|
    s_get (pc := 11) C (ci := 3) (kf := 0) rfl inX3 (by decide) wd_99 dX3_grow_11 <|
    s_iload_n (pc := 14) C dX3_grow_14 rfl <|
    s_iald (pc := 15) C dX3_grow_15 <|
    s_iconst (pc := 16) C dX3_grow_16 <|
    s_icmp_eq (pc := 17) C dX3_grow_17 (by decide) (s_cut q40)
    (s_iload_n (pc := 20) C dX3_grow_20 rfl <|
    s_aload_n (pc := 21) C dX3_grow_21 rfl <|
    s_get (pc := 22) C (ci := 3) (kf := 0) rfl inX3 (by decide) wd_99 dX3_grow_22 <|
    s_iload_n (pc := 25) C dX3_grow_25 rfl <|
    s_iald (pc := 26) C dX3_grow_26 <|
    s_aload_n (pc := 27) C dX3_grow_27 rfl <|
    s_get (pc := 28) C (ci := 3) (kf := 1) rfl inX3 (by decide) wd_105 dX3_grow_28 <|
    s_iload_n (pc := 31) C dX3_grow_31 rfl <|
    s_iald (pc := 32) C dX3_grow_32 <|
    s_iadd (pc := 33) C dX3_grow_33 <|
    s_iconst (pc := 34) C dX3_grow_34 <|
    s_iadd (pc := 35) C dX3_grow_35 <|
    s_max (pc := 36) C (by decide) wd_401 wd_402 wd_82 wd_403 dX3_grow_36 <|
    s_istore_n (pc := 39) C dX3_grow_39 rfl <|
    s_cut q40))
noncomputable def mg_X3_grow_40 (p1 : Int) (k4 : (Int × Int × Ob) → Option Rt) (a : Int × Int × Ob) : Option Rt :=
 k4 (a.1, (a.2.1 + 1), a.2.2)
set_option maxRecDepth 100000 in
set_option maxHeartbeats 4000000 in
theorem rq_X3_grow_40 (p1 : Int) (k4 : XK) (a : Int × Int × Ob) : rg_X3_grow_40 k4 (en_X3_grow_40 p1 a) = mg_X3_grow_40 p1 (fun b => k4 (en_X3_grow_4 p1 b)) a := rfl
set_option maxRecDepth 100000 in
set_option maxHeartbeats 4000000 in
theorem sg_X3_grow_40 {X : XDyn} {r0 : Rt} (C : XO X mX3_grow) {k4 : XK} (q4 : XS X mX3_grow r0 4 k4) : XS X mX3_grow r0 40 (rg_X3_grow_40 k4) := by
 unfold rg_X3_grow_40
 exact s_iinc (pc := 40) C dX3_grow_40 <|
    s_goto (pc := 43) C dX3_grow_43 (by decide) <|
    s_cut q4
noncomputable def rw_X3_grow_40 (f : Nat) (k4 : XK) : XK := rg_X3_grow_40 k4
noncomputable def md_X3_grow_40 (p1 : Int) (f : Nat) (k4 : (Int × Int × Ob) → Option Rt) : Int × Int × Ob → Option Rt := mg_X3_grow_40 p1 k4
theorem eq_X3_grow_40 (p1 : Int) (f : Nat) (k4 : XK) (a : Int × Int × Ob) : rw_X3_grow_40 f k4 (en_X3_grow_40 p1 a) = md_X3_grow_40 p1 f (fun b => k4 (en_X3_grow_4 p1 b)) a :=
 (rq_X3_grow_40 p1 k4 a).trans (congrFun (congr (rfl : mg_X3_grow_40 p1 = mg_X3_grow_40 p1) rfl) a)
theorem sd_X3_grow_40 (f : Nat) {X : XDyn} {r0 : Rt} (C : XO X mX3_grow) {k4 : XK} (q4 : XS X mX3_grow r0 4 k4) : XS X mX3_grow r0 40 (rw_X3_grow_40 f k4) := sg_X3_grow_40 C q4
noncomputable def rw_X3_grow_4 (f : Nat) : XK := tlp (fun k4 => rg_X3_grow_4 (rw_X3_grow_40 f k4)) f
noncomputable def lb_X3_grow_4 (p1 : Int) (f : Nat) : ((Int × Int × Ob) → Option Rt) → Int × Int × Ob → Option Rt := fun k4 => mg_X3_grow_4 p1 (md_X3_grow_40 p1 f k4)
noncomputable def md_X3_grow_4 (p1 : Int) (f : Nat) : Int × Int × Ob → Option Rt := tlp (lb_X3_grow_4 p1 f) f
theorem eq_X3_grow_4 (p1 : Int) (f : Nat) (a : Int × Int × Ob) : rw_X3_grow_4 f (en_X3_grow_4 p1 a) = md_X3_grow_4 p1 f a :=
 tlp_enc (en_X3_grow_4 p1) (fun k4 a => (rq_X3_grow_4 p1 (rw_X3_grow_40 f k4) a).trans (congrFun (congr (rfl : mg_X3_grow_4 p1 = mg_X3_grow_4 p1) (funext (eq_X3_grow_40 p1 f k4))) a)) f a
theorem sd_X3_grow_4 (f : Nat) {X : XDyn} {r0 : Rt} (C : XO X mX3_grow) : XS X mX3_grow r0 4 (rw_X3_grow_4 f) := s_lp (fun k4 q4 => sg_X3_grow_4 C (sd_X3_grow_40 f C q4)) f
noncomputable def rw_X3_grow_0 (f : Nat) : XK := rg_X3_grow_0 (rw_X3_grow_4 f)
noncomputable def md_X3_grow_0 (p1 : Int) (f : Nat) : Ob → Option Rt := mg_X3_grow_0 p1 (md_X3_grow_4 p1 f)
theorem eq_X3_grow_0 (p1 : Int) (f : Nat) (a : Ob) : rw_X3_grow_0 f (en_X3_grow_0 p1 a) = md_X3_grow_0 p1 f a :=
 (rq_X3_grow_0 p1 (rw_X3_grow_4 f) a).trans (congrFun (congr (rfl : mg_X3_grow_0 p1 = mg_X3_grow_0 p1) (funext (eq_X3_grow_4 p1 f))) a)
theorem sd_X3_grow_0 (f : Nat) {X : XDyn} {r0 : Rt} (C : XO X mX3_grow) : XS X mX3_grow r0 0 (rw_X3_grow_0 f) := sg_X3_grow_0 C (sd_X3_grow_4 f C)
theorem ctr_X3_grow (f : Nat) : XCt yX3_grow mX3_grow (xF mX3_grow (rw_X3_grow_0 f)) := xMet (by decide +kernel) rfl (fun _ _ C => sd_X3_grow_0 f C)
theorem eqf_X3_grow (f : Nat) (p1 : Int) (h0 : Ob) : xF mX3_grow (rw_X3_grow_0 f) [.inr (.inl (0, 0)), .inl p1] [h0] = md_X3_grow_0 p1 f h0 := eq_X3_grow_0 p1 f h0
theorem yi_X3_grow : yX3_grow.cls = RX3 ∧ yX3_grow.cls ≠ "java/lang/invoke/MethodHandle" ∧ yX3_grow.cls ≠ "java/lang/invoke/VarHandle" ∧ (parseMethodDescriptor yX3_grow.desc).map (fun d => d.parameters.length) = some 1 := ⟨rfl, by decide +kernel, by decide +kernel, by decide +kernel⟩
theorem sp_X3_grow (f : Nat) (hf : 1000 ≤ f) (p1 : Int) (h0 : Ob) : md_X3_grow_0 p1 f h0 = RI (grR h0 p1) [grO h0 p1] := by
  show md_X3_grow_4 p1 f (0, 0, h0) = _
  refine ((loop_fold 11 (fun (b : Int) (i : Nat) => if xw (h0 1 i) = -1 then b else xmax b (h0 1 i + h0 2 i + 1)) (fun b => if xw (b + p1) > xw (h0 0 10) then RI (-1) [xset h0 0 9 (xmax (h0 0 9) (xmin (h0 0 10) (b + p1)))] else RI b [xset h0 0 9 (xmax (h0 0 9) (xmin (h0 0 10) (b + p1)))]) (fun i b => (b, (i : Int), h0)) (fun _ _ => True) (fun k i b hi _ => ⟨?_, trivial⟩) (fun k b _ => rfl) f 0 (by omega) trivial).1).trans ?_
  · simp only [md_X3_grow_0, mg_X3_grow_0, lb_X3_grow_4, mg_X3_grow_4, md_X3_grow_40, mg_X3_grow_40, xw_nat (show i < 2147483648 by omega), xin_nat hi (show 11 ≤ 2147483648 by omega), toNat_nat, if_true]
    rw [if_neg (by omega)]
    split <;> rfl
  · show (if xw (bgn h0 + p1) > xw (h0 0 10) then _ else _) = _
    unfold grR grO
    by_cases hc : xw (h0 0 10) < xw (bgn h0 + p1)
    · rw [if_pos hc, if_pos hc]
      rfl
    · rw [if_neg hc, if_neg hc]
      rfl
noncomputable def f_X3_grow : List AV → List Ob → Option Rt
  | [.inr (.inl (0, 0)), .inl p1], [h0] => some (some (.inl (grR h0 p1)), [(grO h0 p1)])
  | _, _ => none
theorem ct_X3_grow : XCt yX3_grow mX3_grow f_X3_grow := (ctr_X3_grow xfu).of (fun as μ r h => by
  unfold f_X3_grow at h
  split at h
  · rw [← h]
    exact (eqf_X3_grow xfu _ _).trans (sp_X3_grow xfu (xfu_ge (by decide)) _ _)
  · cases h)
