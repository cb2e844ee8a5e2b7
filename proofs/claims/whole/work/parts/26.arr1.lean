theorem lwo_cases (h : Ob) (s : Int) : lwo h s = -1 ∨ ∃ b : Nat, b < 8 ∧ lwo h s = (b : Int) ∧ inS s (b : Int) = true := by
  rw [lwo_e]
  unfold lwoI
  suffices key : ∀ (g : Int → Nat → Bool) (m : Nat), m ≤ 8 → (List.range m).foldl (fun (fd : Int) (i : Nat) => if inS s (i : Int) && g fd i then (i : Int) else fd) (-1) = -1 ∨ ∃ b : Nat, b < 8 ∧ (List.range m).foldl (fun (fd : Int) (i : Nat) => if inS s (i : Int) && g fd i then (i : Int) else fd) (-1) = (b : Int) ∧ inS s (b : Int) = true from key _ 8 (by omega)
  intro g m
  induction m with
  | zero => intro _; exact Or.inl rfl
  | succ m ih =>
    intro hm
    have := ih (by omega)
    rw [List.range_succ, List.foldl_append]
    generalize (List.range m).foldl (fun (fd : Int) (i : Nat) => if inS s (i : Int) && g fd i then (i : Int) else fd) (-1) = z at this
    simp only [List.foldl_cons, List.foldl_nil]
    by_cases hc : (inS s (m : Int) && g z m) = true
    · rw [if_pos hc]
      simp only [Bool.and_eq_true] at hc
      exact Or.inr ⟨m, by omega, rfl, hc.1⟩
    · rw [if_neg hc]
      exact this
/-- whom a squeeze takes; whom a purge takes -/
noncomputable def sqb (h : Ob) (m : Int) : Int := lwo h (xand (sqS h) m)
noncomputable def pub (h : Ob) (m : Int) : Int := lwo h (xand (goS h) m)
noncomputable def sqF (F h : Ob) (m : Int) : Ob := if sqb h m = -1 then F else xset F 0 2 (xor_ (F 0 2) (xshl 1 (sqb h m)))
noncomputable def sqH (h : Ob) (m : Int) : Ob := if sqb h m = -1 then h else xset h 2 (sqb h m).toNat (h 5 (sqb h m).toNat)
noncomputable def puF (F h : Ob) (m : Int) : Ob := if pub h m = -1 then F else xset F 0 3 (xor_ (F 0 3) (xshl 1 (pub h m)))
noncomputable def puH (h : Ob) (m : Int) : Ob := if pub h m = -1 then h else xset h 1 (pub h m).toNat (-1)
theorem dX2_squeezeOne_0 : decode cX2_squeezeOne 0 = .ok (.aload_n 1, 1) := by decide +kernel
theorem dX2_squeezeOne_1 : decode cX2_squeezeOne 1 = .ok (.aload_n 1, 1) := by decide +kernel
theorem dX2_squeezeOne_2 : decode cX2_squeezeOne 2 = .ok (.invokevirtual 58, 3) := by decide +kernel
theorem dX2_squeezeOne_5 : decode cX2_squeezeOne 5 = .ok (.iload_n 2, 1) := by decide +kernel
theorem dX2_squeezeOne_6 : decode cX2_squeezeOne 6 = .ok (.iand, 1) := by decide +kernel
theorem dX2_squeezeOne_7 : decode cX2_squeezeOne 7 = .ok (.invokevirtual 62, 3) := by decide +kernel
theorem dX2_squeezeOne_10 : decode cX2_squeezeOne 10 = .ok (.istore_n 3, 1) := by decide +kernel
theorem dX2_squeezeOne_11 : decode cX2_squeezeOne 11 = .ok (.iload_n 3, 1) := by decide +kernel
theorem dX2_squeezeOne_12 : decode cX2_squeezeOne 12 = .ok (.iconst (-1), 1) := by decide +kernel
theorem dX2_squeezeOne_13 : decode cX2_squeezeOne 13 = .ok (.if_icmp .ne 5, 3) := by decide +kernel
theorem dX2_squeezeOne_16 : decode cX2_squeezeOne 16 = .ok (.iconst 0, 1) := by decide +kernel
theorem dX2_squeezeOne_17 : decode cX2_squeezeOne 17 = .ok (.ireturn, 1) := by decide +kernel
theorem dX2_squeezeOne_18 : decode cX2_squeezeOne 18 = .ok (.aload_n 1, 1) := by decide +kernel
theorem dX2_squeezeOne_19 : decode cX2_squeezeOne 19 = .ok (.getfield 65, 3) := by decide +kernel
theorem dX2_squeezeOne_22 : decode cX2_squeezeOne 22 = .ok (.iload_n 3, 1) := by decide +kernel
theorem dX2_squeezeOne_23 : decode cX2_squeezeOne 23 = .ok (.aload_n 1, 1) := by decide +kernel
theorem dX2_squeezeOne_24 : decode cX2_squeezeOne 24 = .ok (.getfield 69, 3) := by decide +kernel
theorem dX2_squeezeOne_27 : decode cX2_squeezeOne 27 = .ok (.iload_n 3, 1) := by decide +kernel
theorem dX2_squeezeOne_28 : decode cX2_squeezeOne 28 = .ok (.iaload, 1) := by decide +kernel
theorem dX2_squeezeOne_29 : decode cX2_squeezeOne 29 = .ok (.iastore, 1) := by decide +kernel
theorem dX2_squeezeOne_30 : decode cX2_squeezeOne 30 = .ok (.aload_n 0, 1) := by decide +kernel
theorem dX2_squeezeOne_31 : decode cX2_squeezeOne 31 = .ok (.dup, 1) := by decide +kernel
theorem dX2_squeezeOne_32 : decode cX2_squeezeOne 32 = .ok (.getfield 22, 3) := by decide +kernel
theorem dX2_squeezeOne_35 : decode cX2_squeezeOne 35 = .ok (.iconst 1, 1) := by decide +kernel
theorem dX2_squeezeOne_36 : decode cX2_squeezeOne 36 = .ok (.iload_n 3, 1) := by decide +kernel
theorem dX2_squeezeOne_37 : decode cX2_squeezeOne 37 = .ok (.ishl, 1) := by decide +kernel
theorem dX2_squeezeOne_38 : decode cX2_squeezeOne 38 = .ok (.ior, 1) := by decide +kernel
theorem dX2_squeezeOne_39 : decode cX2_squeezeOne 39 = .ok (.putfield 22, 3) := by decide +kernel
theorem dX2_squeezeOne_42 : decode cX2_squeezeOne 42 = .ok (.iconst 1, 1) := by decide +kernel
theorem dX2_squeezeOne_43 : decode cX2_squeezeOne 43 = .ok (.ireturn, 1) := by decide +kernel
abbrev mX2_squeezeOne : XM := (cX2_squeezeOne, 4, RX2, (some .boolean), shw_2_0_6_4_3, 3)
noncomputable def rg_X2_squeezeOne_0 : XK :=
 o_aload 1 <|
 o_aload 1 <|
 o_callV 1 1 [4] f_X3_squeezable <|
 o_iload 2 <|
 o_iand <|
 o_callV 2 1 [4] f_X3_leastWorthy <|
 o_istore 3 <|
 o_iload 3 <|
 o_iconst (-1) <|
 o_icmp_ne (o_aload 1 <|
 o_get shw_2_0_6_4_3 3 1 <|
 o_iload 3 <|
 o_aload 1 <|
 o_get shw_2_0_6_4_3 3 4 <|
 o_iload 3 <|
 o_iald shw_2_0_6_4_3 <|
 o_iast shw_2_0_6_4_3 <|
 o_aload 0 <|
 o_dup <|
 o_get shw_2_0_6_4_3 2 2 <|
 o_iconst 1 <|
 o_iload 3 <|
 o_ishl <|
 o_ior <|
 o_put shw_2_0_6_4_3 2 2 false <|
 o_iconst 1 <|
 o_zreturn)
 (o_iconst 0 <|
 o_zreturn)
def en_X2_squeezeOne_0 (p2 : Int) (h1 : Ob) (h2 : Ob) (h3 : Ob) (a : Ob × Ob) : XSt := ([some (.inr (.inl (0, 0))), some (.inr (.inl (4, 0))), some (.inl p2), none], [], [a.1, h1, h2, h3, a.2])
noncomputable def mg_X2_squeezeOne_0 (p2 : Int) (h1 : Ob) (h2 : Ob) (h3 : Ob) (a : Ob × Ob) : Option Rt :=
 if xw (lwo a.2 (xand (sqS a.2) p2)) = (-1) then (RI 0 [a.1, h1, h2, h3, a.2])
 else (if xin (lwo a.2 (xand (sqS a.2) p2)) 8 then (
 if xin (lwo a.2 (xand (sqS a.2) p2)) 11 then (
 RI 1 [(xset a.1 0 2 (xor_ (a.1 0 2) (xshl 1 (lwo a.2 (xand (sqS a.2) p2))))), h1, h2, h3, (xset a.2 2 (xw (lwo a.2 (xand (sqS a.2) p2))).toNat (a.2 5 (xw (lwo a.2 (xand (sqS a.2) p2))).toNat))]) else none) else none)
set_option maxRecDepth 100000 in
set_option maxHeartbeats 4000000 in
theorem rq_X2_squeezeOne_0 (p2 : Int) (h1 : Ob) (h2 : Ob) (h3 : Ob) (a : Ob × Ob) : rg_X2_squeezeOne_0 (en_X2_squeezeOne_0 p2 h1 h2 h3 a) = mg_X2_squeezeOne_0 p2 h1 h2 h3 a := rfl
set_option maxRecDepth 100000 in
set_option maxHeartbeats 4000000 in
theorem sg_X2_squeezeOne_0 {X : XDyn} {r0 : Rt} (C : XO X mX2_squeezeOne) : XS X mX2_squeezeOne r0 0 (rg_X2_squeezeOne_0) := by
 unfold rg_X2_squeezeOne_0
 exact s_aload_n (pc := 0) C dX2_squeezeOne_0 rfl <|
    s_aload_n (pc := 1) C dX2_squeezeOne_1 rfl <|
    s_callV (pc := 2) C ct_X3_squeezable (n := 1) (rk := 1) (mp := [4]) ⟨rfl, by decide, rfl⟩ (ci := 3) rfl rfl (by decide) (by decide) yi_X3_squeezable (by decide) wd_504 wd_505 wd_506 wd_74 wd_507 dX2_squeezeOne_2 <|
    s_iload_n (pc := 5) C dX2_squeezeOne_5 rfl <|
    s_iand (pc := 6) C dX2_squeezeOne_6 <|
    s_callV (pc := 7) C ct_X3_leastWorthy (n := 2) (rk := 1) (mp := [4]) ⟨rfl, by decide, rfl⟩ (ci := 3) rfl rfl (by decide) (by decide) yi_X3_leastWorthy (by decide) wd_508 wd_509 wd_510 wd_74 wd_511 dX2_squeezeOne_7 <|
    s_istore_n (pc := 10) C dX2_squeezeOne_10 rfl <|
    s_iload_n (pc := 11) C dX2_squeezeOne_11 rfl <|
    s_iconst (pc := 12) C dX2_squeezeOne_12 <|
    s_icmp_ne (pc := 13) C dX2_squeezeOne_13 (by decide) (s_aload_n (pc := 18) C dX2_squeezeOne_18 rfl <|
    s_get (pc := 19) C (ci := 3) (kf := 1) rfl inX3 (by decide) wd_108 dX2_squeezeOne_19 <|
    s_iload_n (pc := 22) C dX2_squeezeOne_22 rfl <|
    s_aload_n (pc := 23) C dX2_squeezeOne_23 rfl <|
    s_get (pc := 24) C (ci := 3) (kf := 4) rfl inX3 (by decide) wd_115 dX2_squeezeOne_24 <|
    s_iload_n (pc := 27) C dX2_squeezeOne_27 rfl <|
    s_iald (pc := 28) C dX2_squeezeOne_28 <|
    s_iast (pc := 29) C dX2_squeezeOne_29 <|
    s_aload_n (pc := 30) C dX2_squeezeOne_30 rfl <|
    s_dup (pc := 31) C dX2_squeezeOne_31 <|
    s_get (pc := 32) C (ci := 2) (kf := 2) rfl inX2 (by decide) wd_280 dX2_squeezeOne_32 <|
    s_iconst (pc := 35) C dX2_squeezeOne_35 <|
    s_iload_n (pc := 36) C dX2_squeezeOne_36 rfl <|
    s_ishl (pc := 37) C dX2_squeezeOne_37 <|
    s_ior (pc := 38) C dX2_squeezeOne_38 <|
    s_put (pc := 39) (z := false) C (ci := 2) (kf := 2) rfl inX2 tyX2_ok nmX2 (by decide) wd_280 rfl rfl dX2_squeezeOne_39 <|
    s_iconst (pc := 42) C dX2_squeezeOne_42 <|
    s_zreturn (pc := 43) C rfl dX2_squeezeOne_43)
    (s_iconst (pc := 16) C dX2_squeezeOne_16 <|
    s_zreturn (pc := 17) C rfl dX2_squeezeOne_17)
noncomputable def rw_X2_squeezeOne_0 : XK := rg_X2_squeezeOne_0
noncomputable def md_X2_squeezeOne_0 (p2 : Int) (h1 : Ob) (h2 : Ob) (h3 : Ob) : Ob × Ob → Option Rt := mg_X2_squeezeOne_0 p2 h1 h2 h3
theorem eq_X2_squeezeOne_0 (p2 : Int) (h1 : Ob) (h2 : Ob) (h3 : Ob) (a : Ob × Ob) : rw_X2_squeezeOne_0 (en_X2_squeezeOne_0 p2 h1 h2 h3 a) = md_X2_squeezeOne_0 p2 h1 h2 h3 a :=
 rq_X2_squeezeOne_0 p2 h1 h2 h3 a
theorem sd_X2_squeezeOne_0 {X : XDyn} {r0 : Rt} (C : XO X mX2_squeezeOne) : XS X mX2_squeezeOne r0 0 (rw_X2_squeezeOne_0) := sg_X2_squeezeOne_0 C
theorem ctr_X2_squeezeOne : XCt yX2_squeezeOne mX2_squeezeOne (xF mX2_squeezeOne (rw_X2_squeezeOne_0)) := xMet (by decide +kernel) rfl (fun _ _ C => sd_X2_squeezeOne_0 C)
theorem eqf_X2_squeezeOne (p2 : Int) (h0 : Ob) (h1 : Ob) (h2 : Ob) (h3 : Ob) (h4 : Ob) : xF mX2_squeezeOne (rw_X2_squeezeOne_0) [.inr (.inl (0, 0)), .inr (.inl (4, 0)), .inl p2] [h0, h1, h2, h3, h4] = md_X2_squeezeOne_0 p2 h1 h2 h3 (h0, h4) := eq_X2_squeezeOne_0 p2 h1 h2 h3 (h0, h4)
theorem yi_X2_squeezeOne : yX2_squeezeOne.cls = RX2 ∧ yX2_squeezeOne.cls ≠ "java/lang/invoke/MethodHandle" ∧ yX2_squeezeOne.cls ≠ "java/lang/invoke/VarHandle" ∧ (parseMethodDescriptor yX2_squeezeOne.desc).map (fun d => d.parameters.length) = some 2 := ⟨rfl, by decide +kernel, by decide +kernel, by decide +kernel⟩
theorem sp_X2_squeezeOne (p2 : Int) (h0 h1 h2 h3 h4 : Ob) : md_X2_squeezeOne_0 p2 h1 h2 h3 (h0, h4) = RI (bz (!decide (sqb h4 p2 = -1))) [sqF h0 h4 p2, h1, h2, h3, sqH h4 p2] := by
  simp only [md_X2_squeezeOne_0, mg_X2_squeezeOne_0]
  unfold sqF sqH sqb
  rcases lwo_cases h4 (xand (sqS h4) p2) with e | ⟨b, b1, e, -⟩
  · rw [e, xwm1, if_pos rfl, if_pos rfl, if_pos rfl]
    rfl
  · have hx : ¬ ((b : Int) = -1) := by omega
    rw [e, xw_nat (by omega), xin_nat (show b < 8 by omega) (by omega), xin_nat (show b < 11 by omega) (by omega), decide_eq_false hx]
    simp only [if_neg hx, if_true]
    rfl
noncomputable def f_X2_squeezeOne : List AV → List Ob → Option Rt
  | [.inr (.inl (0, 0)), .inr (.inl (4, 0)), .inl p2], [h0, h1, h2, h3, h4] => some (some (.inl (bz (!decide (sqb h4 p2 = -1)))), [(sqF h0 h4 p2), h1, h2, h3, (sqH h4 p2)])
  | _, _ => none
theorem ct_X2_squeezeOne : XCt yX2_squeezeOne mX2_squeezeOne f_X2_squeezeOne := (ctr_X2_squeezeOne ).of (fun as μ r h => by
  unfold f_X2_squeezeOne at h
  split at h
  · rw [← h]
    exact (eqf_X2_squeezeOne _ _ _ _ _ _).trans (sp_X2_squeezeOne _ _ _ _ _ _)
  · cases h)
theorem dX2_purgeOne_0 : decode cX2_purgeOne 0 = .ok (.aload_n 1, 1) := by decide +kernel
theorem dX2_purgeOne_1 : decode cX2_purgeOne 1 = .ok (.aload_n 1, 1) := by decide +kernel
theorem dX2_purgeOne_2 : decode cX2_purgeOne 2 = .ok (.invokevirtual 72, 3) := by decide +kernel
theorem dX2_purgeOne_5 : decode cX2_purgeOne 5 = .ok (.iload_n 2, 1) := by decide +kernel
theorem dX2_purgeOne_6 : decode cX2_purgeOne 6 = .ok (.iand, 1) := by decide +kernel
theorem dX2_purgeOne_7 : decode cX2_purgeOne 7 = .ok (.invokevirtual 62, 3) := by decide +kernel
theorem dX2_purgeOne_10 : decode cX2_purgeOne 10 = .ok (.istore_n 3, 1) := by decide +kernel
theorem dX2_purgeOne_11 : decode cX2_purgeOne 11 = .ok (.iload_n 3, 1) := by decide +kernel
theorem dX2_purgeOne_12 : decode cX2_purgeOne 12 = .ok (.iconst (-1), 1) := by decide +kernel
theorem dX2_purgeOne_13 : decode cX2_purgeOne 13 = .ok (.if_icmp .ne 5, 3) := by decide +kernel
theorem dX2_purgeOne_16 : decode cX2_purgeOne 16 = .ok (.iconst 0, 1) := by decide +kernel
theorem dX2_purgeOne_17 : decode cX2_purgeOne 17 = .ok (.ireturn, 1) := by decide +kernel
theorem dX2_purgeOne_18 : decode cX2_purgeOne 18 = .ok (.aload_n 1, 1) := by decide +kernel
theorem dX2_purgeOne_19 : decode cX2_purgeOne 19 = .ok (.getfield 75, 3) := by decide +kernel
theorem dX2_purgeOne_22 : decode cX2_purgeOne 22 = .ok (.iload_n 3, 1) := by decide +kernel
theorem dX2_purgeOne_23 : decode cX2_purgeOne 23 = .ok (.iconst (-1), 1) := by decide +kernel
theorem dX2_purgeOne_24 : decode cX2_purgeOne 24 = .ok (.iastore, 1) := by decide +kernel
theorem dX2_purgeOne_25 : decode cX2_purgeOne 25 = .ok (.aload_n 0, 1) := by decide +kernel
theorem dX2_purgeOne_26 : decode cX2_purgeOne 26 = .ok (.dup, 1) := by decide +kernel
theorem dX2_purgeOne_27 : decode cX2_purgeOne 27 = .ok (.getfield 26, 3) := by decide +kernel
theorem dX2_purgeOne_30 : decode cX2_purgeOne 30 = .ok (.iconst 1, 1) := by decide +kernel
theorem dX2_purgeOne_31 : decode cX2_purgeOne 31 = .ok (.iload_n 3, 1) := by decide +kernel
theorem dX2_purgeOne_32 : decode cX2_purgeOne 32 = .ok (.ishl, 1) := by decide +kernel
theorem dX2_purgeOne_33 : decode cX2_purgeOne 33 = .ok (.ior, 1) := by decide +kernel
theorem dX2_purgeOne_34 : decode cX2_purgeOne 34 = .ok (.putfield 26, 3) := by decide +kernel
theorem dX2_purgeOne_37 : decode cX2_purgeOne 37 = .ok (.iconst 1, 1) := by decide +kernel
theorem dX2_purgeOne_38 : decode cX2_purgeOne 38 = .ok (.ireturn, 1) := by decide +kernel
abbrev mX2_purgeOne : XM := (cX2_purgeOne, 4, RX2, (some .boolean), shw_2_0_6_4_3, 3)
noncomputable def rg_X2_purgeOne_0 : XK :=
 o_aload 1 <|
 o_aload 1 <|
 o_callV 1 1 [4] f_X3_goers <|
 o_iload 2 <|
 o_iand <|
 o_callV 2 1 [4] f_X3_leastWorthy <|
 o_istore 3 <|
 o_iload 3 <|
 o_iconst (-1) <|
 o_icmp_ne (o_aload 1 <|
 o_get shw_2_0_6_4_3 3 0 <|
 o_iload 3 <|
 o_iconst (-1) <|
 o_iast shw_2_0_6_4_3 <|
 o_aload 0 <|
 o_dup <|
 o_get shw_2_0_6_4_3 2 3 <|
 o_iconst 1 <|
 o_iload 3 <|
 o_ishl <|
 o_ior <|
 o_put shw_2_0_6_4_3 2 3 false <|
 o_iconst 1 <|
 o_zreturn)
 (o_iconst 0 <|
 o_zreturn)
def en_X2_purgeOne_0 (p2 : Int) (h1 : Ob) (h2 : Ob) (h3 : Ob) (a : Ob × Ob) : XSt := ([some (.inr (.inl (0, 0))), some (.inr (.inl (4, 0))), some (.inl p2), none], [], [a.1, h1, h2, h3, a.2])
noncomputable def mg_X2_purgeOne_0 (p2 : Int) (h1 : Ob) (h2 : Ob) (h3 : Ob) (a : Ob × Ob) : Option Rt :=
 if xw (lwo a.2 (xand (goS a.2) p2)) = (-1) then (RI 0 [a.1, h1, h2, h3, a.2])
 else (if xin (lwo a.2 (xand (goS a.2) p2)) 11 then (
 RI 1 [(xset a.1 0 3 (xor_ (a.1 0 3) (xshl 1 (lwo a.2 (xand (goS a.2) p2))))), h1, h2, h3, (xset a.2 1 (xw (lwo a.2 (xand (goS a.2) p2))).toNat (-1))]) else none)
set_option maxRecDepth 100000 in
set_option maxHeartbeats 4000000 in
theorem rq_X2_purgeOne_0 (p2 : Int) (h1 : Ob) (h2 : Ob) (h3 : Ob) (a : Ob × Ob) : rg_X2_purgeOne_0 (en_X2_purgeOne_0 p2 h1 h2 h3 a) = mg_X2_purgeOne_0 p2 h1 h2 h3 a := rfl
set_option maxRecDepth 100000 in
set_option maxHeartbeats 4000000 in
theorem sg_X2_purgeOne_0 {X : XDyn} {r0 : Rt} (C : XO X mX2_purgeOne) : XS X mX2_purgeOne r0 0 (rg_X2_purgeOne_0) := by
 unfold rg_X2_purgeOne_0
 exact s_aload_n (pc := 0) C dX2_purgeOne_0 rfl <|
    s_aload_n (pc := 1) C dX2_purgeOne_1 rfl <|
    s_callV (pc := 2) C ct_X3_goers (n := 1) (rk := 1) (mp := [4]) ⟨rfl, by decide, rfl⟩ (ci := 3) rfl rfl (by decide) (by decide) yi_X3_goers (by decide) wd_521 wd_522 wd_523 wd_74 wd_524 dX2_purgeOne_2 <|
    s_iload_n (pc := 5) C dX2_purgeOne_5 rfl <|
    s_iand (pc := 6) C dX2_purgeOne_6 <|
    s_callV (pc := 7) C ct_X3_leastWorthy (n := 2) (rk := 1) (mp := [4]) ⟨rfl, by decide, rfl⟩ (ci := 3) rfl rfl (by decide) (by decide) yi_X3_leastWorthy (by decide) wd_508 wd_509 wd_510 wd_74 wd_511 dX2_purgeOne_7 <|
    s_istore_n (pc := 10) C dX2_purgeOne_10 rfl <|
    s_iload_n (pc := 11) C dX2_purgeOne_11 rfl <|
    s_iconst (pc := 12) C dX2_purgeOne_12 <|
    s_icmp_ne (pc := 13) C dX2_purgeOne_13 (by decide) (s_aload_n (pc := 18) C dX2_purgeOne_18 rfl <|
    s_get (pc := 19) C (ci := 3) (kf := 0) rfl inX3 (by decide) wd_101 dX2_purgeOne_19 <|
    s_iload_n (pc := 22) C dX2_purgeOne_22 rfl <|
    s_iconst (pc := 23) C dX2_purgeOne_23 <|
    s_iast (pc := 24) C dX2_purgeOne_24 <|
    s_aload_n (pc := 25) C dX2_purgeOne_25 rfl <|
    s_dup (pc := 26) C dX2_purgeOne_26 <|
    s_get (pc := 27) C (ci := 2) (kf := 3) rfl inX2 (by decide) wd_282 dX2_purgeOne_27 <|
    s_iconst (pc := 30) C dX2_purgeOne_30 <|
    s_iload_n (pc := 31) C dX2_purgeOne_31 rfl <|
    s_ishl (pc := 32) C dX2_purgeOne_32 <|
    s_ior (pc := 33) C dX2_purgeOne_33 <|
    s_put (pc := 34) (z := false) C (ci := 2) (kf := 3) rfl inX2 tyX2_ok nmX2 (by decide) wd_282 rfl rfl dX2_purgeOne_34 <|
    s_iconst (pc := 37) C dX2_purgeOne_37 <|
    s_zreturn (pc := 38) C rfl dX2_purgeOne_38)
    (s_iconst (pc := 16) C dX2_purgeOne_16 <|
    s_zreturn (pc := 17) C rfl dX2_purgeOne_17)
noncomputable def rw_X2_purgeOne_0 : XK := rg_X2_purgeOne_0
noncomputable def md_X2_purgeOne_0 (p2 : Int) (h1 : Ob) (h2 : Ob) (h3 : Ob) : Ob × Ob → Option Rt := mg_X2_purgeOne_0 p2 h1 h2 h3
theorem eq_X2_purgeOne_0 (p2 : Int) (h1 : Ob) (h2 : Ob) (h3 : Ob) (a : Ob × Ob) : rw_X2_purgeOne_0 (en_X2_purgeOne_0 p2 h1 h2 h3 a) = md_X2_purgeOne_0 p2 h1 h2 h3 a :=
 rq_X2_purgeOne_0 p2 h1 h2 h3 a
theorem sd_X2_purgeOne_0 {X : XDyn} {r0 : Rt} (C : XO X mX2_purgeOne) : XS X mX2_purgeOne r0 0 (rw_X2_purgeOne_0) := sg_X2_purgeOne_0 C
theorem ctr_X2_purgeOne : XCt yX2_purgeOne mX2_purgeOne (xF mX2_purgeOne (rw_X2_purgeOne_0)) := xMet (by decide +kernel) rfl (fun _ _ C => sd_X2_purgeOne_0 C)
theorem eqf_X2_purgeOne (p2 : Int) (h0 : Ob) (h1 : Ob) (h2 : Ob) (h3 : Ob) (h4 : Ob) : xF mX2_purgeOne (rw_X2_purgeOne_0) [.inr (.inl (0, 0)), .inr (.inl (4, 0)), .inl p2] [h0, h1, h2, h3, h4] = md_X2_purgeOne_0 p2 h1 h2 h3 (h0, h4) := eq_X2_purgeOne_0 p2 h1 h2 h3 (h0, h4)
theorem yi_X2_purgeOne : yX2_purgeOne.cls = RX2 ∧ yX2_purgeOne.cls ≠ "java/lang/invoke/MethodHandle" ∧ yX2_purgeOne.cls ≠ "java/lang/invoke/VarHandle" ∧ (parseMethodDescriptor yX2_purgeOne.desc).map (fun d => d.parameters.length) = some 2 := ⟨rfl, by decide +kernel, by decide +kernel, by decide +kernel⟩
theorem sp_X2_purgeOne (p2 : Int) (h0 h1 h2 h3 h4 : Ob) : md_X2_purgeOne_0 p2 h1 h2 h3 (h0, h4) = RI (bz (!decide (pub h4 p2 = -1))) [puF h0 h4 p2, h1, h2, h3, puH h4 p2] := by
  simp only [md_X2_purgeOne_0, mg_X2_purgeOne_0]
  unfold puF puH pub
  rcases lwo_cases h4 (xand (goS h4) p2) with e | ⟨b, b1, e, -⟩
  · rw [e, xwm1, if_pos rfl, if_pos rfl, if_pos rfl]
    rfl
  · have hx : ¬ ((b : Int) = -1) := by omega
    rw [e, xw_nat (by omega), xin_nat (show b < 11 by omega) (by omega), decide_eq_false hx]
    simp only [if_neg hx, if_true]
    rfl
noncomputable def f_X2_purgeOne : List AV → List Ob → Option Rt
  | [.inr (.inl (0, 0)), .inr (.inl (4, 0)), .inl p2], [h0, h1, h2, h3, h4] => some (some (.inl (bz (!decide (pub h4 p2 = -1)))), [(puF h0 h4 p2), h1, h2, h3, (puH h4 p2)])
  | _, _ => none
theorem ct_X2_purgeOne : XCt yX2_purgeOne mX2_purgeOne f_X2_purgeOne := (ctr_X2_purgeOne ).of (fun as μ r h => by
  unfold f_X2_purgeOne at h
  split at h
  · rw [← h]
    exact (eqf_X2_purgeOne _ _ _ _ _ _).trans (sp_X2_purgeOne _ _ _ _ _ _)
  · cases h)
