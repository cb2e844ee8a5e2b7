def fgtO (P : Ob) : Ob := xset (xset P 0 2 0) 0 3 0
def keeO (P : Ob) : Ob := if xw (P 0 2) ≥ 12 then xset (xset P 0 1 (xrem (P 0 1 + 1) 13)) 0 3 1 else xset (xset P 0 2 (P 0 2 + 1)) 0 3 1
theorem dX5_forget_0 : decode cX5_forget 0 = .ok (.aload_n 0, 1) := by decide +kernel
theorem dX5_forget_1 : decode cX5_forget 1 = .ok (.iconst 0, 1) := by decide +kernel
theorem dX5_forget_2 : decode cX5_forget 2 = .ok (.putfield 18, 3) := by decide +kernel
theorem dX5_forget_5 : decode cX5_forget 5 = .ok (.aload_n 0, 1) := by decide +kernel
theorem dX5_forget_6 : decode cX5_forget 6 = .ok (.iconst 0, 1) := by decide +kernel
theorem dX5_forget_7 : decode cX5_forget 7 = .ok (.putfield 22, 3) := by decide +kernel
theorem dX5_forget_10 : decode cX5_forget 10 = .ok (.return_, 1) := by decide +kernel
abbrev mX5_forget : XM := (cX5_forget, 1, RX5, none, shw_P, 0)
noncomputable def rg_X5_forget_0 : XK :=
 o_aload 0 <|
 o_iconst 0 <|
 o_put shw_P 5 2 false <|
 o_aload 0 <|
 o_iconst 0 <|
 o_put shw_P 5 3 true <|
 o_return
def en_X5_forget_0 (h1 : Ob) (h2 : Ob) (h3 : Ob) (h4 : Ob) (h5 : Ob) (h6 : Ob) (h7 : Ob) (h8 : Ob) (h9 : Ob) (h10 : Ob) (h11 : Ob) (h12 : Ob) (h13 : Ob) (a : Ob) : XSt := ([some (.inr (.inl (0, 0)))], [], [a, h1, h2, h3, h4, h5, h6, h7, h8, h9, h10, h11, h12, h13])
noncomputable def mg_X5_forget_0 (h1 : Ob) (h2 : Ob) (h3 : Ob) (h4 : Ob) (h5 : Ob) (h6 : Ob) (h7 : Ob) (h8 : Ob) (h9 : Ob) (h10 : Ob) (h11 : Ob) (h12 : Ob) (h13 : Ob) (a : Ob) : Option Rt :=
 RV [(xset (xset a 0 2 0) 0 3 0), h1, h2, h3, h4, h5, h6, h7, h8, h9, h10, h11, h12, h13]
set_option maxRecDepth 100000 in
set_option maxHeartbeats 4000000 in
theorem rq_X5_forget_0 (h1 : Ob) (h2 : Ob) (h3 : Ob) (h4 : Ob) (h5 : Ob) (h6 : Ob) (h7 : Ob) (h8 : Ob) (h9 : Ob) (h10 : Ob) (h11 : Ob) (h12 : Ob) (h13 : Ob) (a : Ob) : rg_X5_forget_0 (en_X5_forget_0 h1 h2 h3 h4 h5 h6 h7 h8 h9 h10 h11 h12 h13 a) = mg_X5_forget_0 h1 h2 h3 h4 h5 h6 h7 h8 h9 h10 h11 h12 h13 a := rfl
set_option maxRecDepth 100000 in
set_option maxHeartbeats 4000000 in
theorem sg_X5_forget_0 {X : XDyn} {r0 : Rt} (C : XO X mX5_forget) : XS X mX5_forget r0 0 (rg_X5_forget_0) := by
 unfold rg_X5_forget_0
 exact s_aload_n (pc := 0) C dX5_forget_0 rfl <|
    s_iconst (pc := 1) C dX5_forget_1 <|
    s_put (pc := 2) (z := false) C (ci := 5) (kf := 2) rfl inX5 tyX5_ok nmX5 (by decide) wd_178 rfl rfl dX5_forget_2 <|
    s_aload_n (pc := 5) C dX5_forget_5 rfl <|
    s_iconst (pc := 6) C dX5_forget_6 <|
    s_put (pc := 7) (z := true) C (ci := 5) (kf := 3) rfl inX5 tyX5_ok nmX5 (by decide) wd_180 rfl rfl dX5_forget_7 <|
    s_return (pc := 10) C rfl dX5_forget_10
noncomputable def rw_X5_forget_0 : XK := rg_X5_forget_0
noncomputable def md_X5_forget_0 (h1 : Ob) (h2 : Ob) (h3 : Ob) (h4 : Ob) (h5 : Ob) (h6 : Ob) (h7 : Ob) (h8 : Ob) (h9 : Ob) (h10 : Ob) (h11 : Ob) (h12 : Ob) (h13 : Ob) : Ob → Option Rt := mg_X5_forget_0 h1 h2 h3 h4 h5 h6 h7 h8 h9 h10 h11 h12 h13
theorem eq_X5_forget_0 (h1 : Ob) (h2 : Ob) (h3 : Ob) (h4 : Ob) (h5 : Ob) (h6 : Ob) (h7 : Ob) (h8 : Ob) (h9 : Ob) (h10 : Ob) (h11 : Ob) (h12 : Ob) (h13 : Ob) (a : Ob) : rw_X5_forget_0 (en_X5_forget_0 h1 h2 h3 h4 h5 h6 h7 h8 h9 h10 h11 h12 h13 a) = md_X5_forget_0 h1 h2 h3 h4 h5 h6 h7 h8 h9 h10 h11 h12 h13 a :=
 rq_X5_forget_0 h1 h2 h3 h4 h5 h6 h7 h8 h9 h10 h11 h12 h13 a
theorem sd_X5_forget_0 {X : XDyn} {r0 : Rt} (C : XO X mX5_forget) : XS X mX5_forget r0 0 (rw_X5_forget_0) := sg_X5_forget_0 C
theorem ctr_X5_forget : XCt yX5_forget mX5_forget (xF mX5_forget (rw_X5_forget_0)) := xMet (by decide +kernel) rfl (fun _ _ C => sd_X5_forget_0 C)
theorem eqf_X5_forget (h0 : Ob) (h1 : Ob) (h2 : Ob) (h3 : Ob) (h4 : Ob) (h5 : Ob) (h6 : Ob) (h7 : Ob) (h8 : Ob) (h9 : Ob) (h10 : Ob) (h11 : Ob) (h12 : Ob) (h13 : Ob) : xF mX5_forget (rw_X5_forget_0) [.inr (.inl (0, 0))] [h0, h1, h2, h3, h4, h5, h6, h7, h8, h9, h10, h11, h12, h13] = md_X5_forget_0 h1 h2 h3 h4 h5 h6 h7 h8 h9 h10 h11 h12 h13 h0 := eq_X5_forget_0 h1 h2 h3 h4 h5 h6 h7 h8 h9 h10 h11 h12 h13 h0
theorem yi_X5_forget : yX5_forget.cls = RX5 ∧ yX5_forget.cls ≠ "java/lang/invoke/MethodHandle" ∧ yX5_forget.cls ≠ "java/lang/invoke/VarHandle" ∧ (parseMethodDescriptor yX5_forget.desc).map (fun d => d.parameters.length) = some 0 := ⟨rfl, by decide +kernel, by decide +kernel, by decide +kernel⟩
theorem sp_X5_forget (h0 h1 h2 h3 h4 h5 h6 h7 h8 h9 h10 h11 h12 h13 : Ob) : md_X5_forget_0 h1 h2 h3 h4 h5 h6 h7 h8 h9 h10 h11 h12 h13 h0 = RV [fgtO h0, h1, h2, h3, h4, h5, h6, h7, h8, h9, h10, h11, h12, h13] := rfl
noncomputable def f_X5_forget : List AV → List Ob → Option Rt
  | [.inr (.inl (0, 0))], [h0, h1, h2, h3, h4, h5, h6, h7, h8, h9, h10, h11, h12, h13] => some (none, [(fgtO h0), h1, h2, h3, h4, h5, h6, h7, h8, h9, h10, h11, h12, h13])
  | _, _ => none
theorem ct_X5_forget : XCt yX5_forget mX5_forget f_X5_forget := (ctr_X5_forget ).of (fun as μ r h => by
  unfold f_X5_forget at h
  split at h
  · rw [← h]
    exact (eqf_X5_forget _ _ _ _ _ _ _ _ _ _ _ _ _ _).trans (sp_X5_forget _ _ _ _ _ _ _ _ _ _ _ _ _ _)
  · cases h)
theorem dX5_keep_0 : decode cX5_keep 0 = .ok (.aload_n 0, 1) := by decide +kernel
theorem dX5_keep_1 : decode cX5_keep 1 = .ok (.getfield 18, 3) := by decide +kernel
theorem dX5_keep_4 : decode cX5_keep 4 = .ok (.bipush 12, 2) := by decide +kernel
theorem dX5_keep_6 : decode cX5_keep 6 = .ok (.if_icmp .ge 16, 3) := by decide +kernel
theorem dX5_keep_9 : decode cX5_keep 9 = .ok (.aload_n 0, 1) := by decide +kernel
theorem dX5_keep_10 : decode cX5_keep 10 = .ok (.dup, 1) := by decide +kernel
theorem dX5_keep_11 : decode cX5_keep 11 = .ok (.getfield 18, 3) := by decide +kernel
theorem dX5_keep_14 : decode cX5_keep 14 = .ok (.iconst 1, 1) := by decide +kernel
theorem dX5_keep_15 : decode cX5_keep 15 = .ok (.iadd, 1) := by decide +kernel
theorem dX5_keep_16 : decode cX5_keep 16 = .ok (.putfield 18, 3) := by decide +kernel
theorem dX5_keep_19 : decode cX5_keep 19 = .ok (.goto 16, 3) := by decide +kernel
theorem dX5_keep_22 : decode cX5_keep 22 = .ok (.aload_n 0, 1) := by decide +kernel
theorem dX5_keep_23 : decode cX5_keep 23 = .ok (.aload_n 0, 1) := by decide +kernel
theorem dX5_keep_24 : decode cX5_keep 24 = .ok (.getfield 26, 3) := by decide +kernel
theorem dX5_keep_27 : decode cX5_keep 27 = .ok (.iconst 1, 1) := by decide +kernel
theorem dX5_keep_28 : decode cX5_keep 28 = .ok (.iadd, 1) := by decide +kernel
theorem dX5_keep_29 : decode cX5_keep 29 = .ok (.bipush 13, 2) := by decide +kernel
theorem dX5_keep_31 : decode cX5_keep 31 = .ok (.irem, 1) := by decide +kernel
theorem dX5_keep_32 : decode cX5_keep 32 = .ok (.putfield 26, 3) := by decide +kernel
theorem dX5_keep_35 : decode cX5_keep 35 = .ok (.aload_n 0, 1) := by decide +kernel
theorem dX5_keep_36 : decode cX5_keep 36 = .ok (.iconst 1, 1) := by decide +kernel
theorem dX5_keep_37 : decode cX5_keep 37 = .ok (.putfield 22, 3) := by decide +kernel
theorem dX5_keep_40 : decode cX5_keep 40 = .ok (.return_, 1) := by decide +kernel
abbrev mX5_keep : XM := (cX5_keep, 1, RX5, none, shw_P, 0)
noncomputable def rg_X5_keep_0 : XK :=
 o_aload 0 <|
 o_get shw_P 5 2 <|
 o_iconst 12 <|
 o_icmp_ge (o_aload 0 <|
 o_aload 0 <|
 o_get shw_P 5 1 <|
 o_iconst 1 <|
 o_iadd <|
 o_iconst 13 <|
 o_irem <|
 o_put shw_P 5 1 false <|
 o_aload 0 <|
 o_iconst 1 <|
 o_put shw_P 5 3 true <|
 o_return)
 (o_aload 0 <|
 o_dup <|
 o_get shw_P 5 2 <|
 o_iconst 1 <|
 o_iadd <|
 o_put shw_P 5 2 false <|
 o_aload 0 <|
 o_iconst 1 <|
 o_put shw_P 5 3 true <|
 o_return)
def en_X5_keep_0 (h1 : Ob) (h2 : Ob) (h3 : Ob) (h4 : Ob) (h5 : Ob) (h6 : Ob) (h7 : Ob) (h8 : Ob) (h9 : Ob) (h10 : Ob) (h11 : Ob) (h12 : Ob) (h13 : Ob) (a : Ob) : XSt := ([some (.inr (.inl (0, 0)))], [], [a, h1, h2, h3, h4, h5, h6, h7, h8, h9, h10, h11, h12, h13])
noncomputable def mg_X5_keep_0 (h1 : Ob) (h2 : Ob) (h3 : Ob) (h4 : Ob) (h5 : Ob) (h6 : Ob) (h7 : Ob) (h8 : Ob) (h9 : Ob) (h10 : Ob) (h11 : Ob) (h12 : Ob) (h13 : Ob) (a : Ob) : Option Rt :=
 if xw (a 0 2) ≥ 12 then (RV [(xset (xset a 0 1 (xrem ((a 0 1) + 1) 13)) 0 3 1), h1, h2, h3, h4, h5, h6, h7, h8, h9, h10, h11, h12, h13])
 else (RV [(xset (xset a 0 2 ((a 0 2) + 1)) 0 3 1), h1, h2, h3, h4, h5, h6, h7, h8, h9, h10, h11, h12, h13])
set_option maxRecDepth 100000 in
set_option maxHeartbeats 4000000 in
theorem rq_X5_keep_0 (h1 : Ob) (h2 : Ob) (h3 : Ob) (h4 : Ob) (h5 : Ob) (h6 : Ob) (h7 : Ob) (h8 : Ob) (h9 : Ob) (h10 : Ob) (h11 : Ob) (h12 : Ob) (h13 : Ob) (a : Ob) : rg_X5_keep_0 (en_X5_keep_0 h1 h2 h3 h4 h5 h6 h7 h8 h9 h10 h11 h12 h13 a) = mg_X5_keep_0 h1 h2 h3 h4 h5 h6 h7 h8 h9 h10 h11 h12 h13 a := rfl
set_option maxRecDepth 100000 in
set_option maxHeartbeats 4000000 in
theorem sg_X5_keep_0 {X : XDyn} {r0 : Rt} (C : XO X mX5_keep) : XS X mX5_keep r0 0 (rg_X5_keep_0) := by
 unfold rg_X5_keep_0
 exact s_aload_n (pc := 0) C dX5_keep_0 rfl <|
    s_get (pc := 1) C (ci := 5) (kf := 2) rfl inX5 (by decide) wd_178 dX5_keep_1 <|
    s_bipush (pc := 4) C dX5_keep_4 (by decide) <|
    s_icmp_ge (pc := 6) C dX5_keep_6 (by decide) (s_aload_n (pc := 22) C dX5_keep_22 rfl <|
    s_aload_n (pc := 23) C dX5_keep_23 rfl <|
    s_get (pc := 24) C (ci := 5) (kf := 1) rfl inX5 (by decide) wd_177 dX5_keep_24 <|
    s_iconst (pc := 27) C dX5_keep_27 <|
    s_iadd (pc := 28) C dX5_keep_28 <|
    s_bipush (pc := 29) C dX5_keep_29 (by decide) <|
    s_irem (pc := 31) C dX5_keep_31 <|
    s_put (pc := 32) (z := false) C (ci := 5) (kf := 1) rfl inX5 tyX5_ok nmX5 (by decide) wd_177 rfl rfl dX5_keep_32 <|
    s_aload_n (pc := 35) C dX5_keep_35 rfl <|
    s_iconst (pc := 36) C dX5_keep_36 <|
    s_put (pc := 37) (z := true) C (ci := 5) (kf := 3) rfl inX5 tyX5_ok nmX5 (by decide) wd_180 rfl rfl dX5_keep_37 <|
    s_return (pc := 40) C rfl dX5_keep_40)
    (s_aload_n (pc := 9) C dX5_keep_9 rfl <|
    s_dup (pc := 10) C dX5_keep_10 <|
    s_get (pc := 11) C (ci := 5) (kf := 2) rfl inX5 (by decide) wd_178 dX5_keep_11 <|
    s_iconst (pc := 14) C dX5_keep_14 <|
    s_iadd (pc := 15) C dX5_keep_15 <|
    s_put (pc := 16) (z := false) C (ci := 5) (kf := 2) rfl inX5 tyX5_ok nmX5 (by decide) wd_178 rfl rfl dX5_keep_16 <|
    s_goto (pc := 19) C dX5_keep_19 (by decide) <|
    s_aload_n (pc := 35) C dX5_keep_35 rfl <|
    s_iconst (pc := 36) C dX5_keep_36 <|
    s_put (pc := 37) (z := true) C (ci := 5) (kf := 3) rfl inX5 tyX5_ok nmX5 (by decide) wd_180 rfl rfl dX5_keep_37 <|
    s_return (pc := 40) C rfl dX5_keep_40)
noncomputable def rw_X5_keep_0 : XK := rg_X5_keep_0
noncomputable def md_X5_keep_0 (h1 : Ob) (h2 : Ob) (h3 : Ob) (h4 : Ob) (h5 : Ob) (h6 : Ob) (h7 : Ob) (h8 : Ob) (h9 : Ob) (h10 : Ob) (h11 : Ob) (h12 : Ob) (h13 : Ob) : Ob → Option Rt := mg_X5_keep_0 h1 h2 h3 h4 h5 h6 h7 h8 h9 h10 h11 h12 h13
theorem eq_X5_keep_0 (h1 : Ob) (h2 : Ob) (h3 : Ob) (h4 : Ob) (h5 : Ob) (h6 : Ob) (h7 : Ob) (h8 : Ob) (h9 : Ob) (h10 : Ob) (h11 : Ob) (h12 : Ob) (h13 : Ob) (a : Ob) : rw_X5_keep_0 (en_X5_keep_0 h1 h2 h3 h4 h5 h6 h7 h8 h9 h10 h11 h12 h13 a) = md_X5_keep_0 h1 h2 h3 h4 h5 h6 h7 h8 h9 h10 h11 h12 h13 a :=
 rq_X5_keep_0 h1 h2 h3 h4 h5 h6 h7 h8 h9 h10 h11 h12 h13 a
theorem sd_X5_keep_0 {X : XDyn} {r0 : Rt} (C : XO X mX5_keep) : XS X mX5_keep r0 0 (rw_X5_keep_0) := sg_X5_keep_0 C
theorem ctr_X5_keep : XCt yX5_keep mX5_keep (xF mX5_keep (rw_X5_keep_0)) := xMet (by decide +kernel) rfl (fun _ _ C => sd_X5_keep_0 C)
theorem eqf_X5_keep (h0 : Ob) (h1 : Ob) (h2 : Ob) (h3 : Ob) (h4 : Ob) (h5 : Ob) (h6 : Ob) (h7 : Ob) (h8 : Ob) (h9 : Ob) (h10 : Ob) (h11 : Ob) (h12 : Ob) (h13 : Ob) : xF mX5_keep (rw_X5_keep_0) [.inr (.inl (0, 0))] [h0, h1, h2, h3, h4, h5, h6, h7, h8, h9, h10, h11, h12, h13] = md_X5_keep_0 h1 h2 h3 h4 h5 h6 h7 h8 h9 h10 h11 h12 h13 h0 := eq_X5_keep_0 h1 h2 h3 h4 h5 h6 h7 h8 h9 h10 h11 h12 h13 h0
theorem yi_X5_keep : yX5_keep.cls = RX5 ∧ yX5_keep.cls ≠ "java/lang/invoke/MethodHandle" ∧ yX5_keep.cls ≠ "java/lang/invoke/VarHandle" ∧ (parseMethodDescriptor yX5_keep.desc).map (fun d => d.parameters.length) = some 0 := ⟨rfl, by decide +kernel, by decide +kernel, by decide +kernel⟩
theorem sp_X5_keep (h0 h1 h2 h3 h4 h5 h6 h7 h8 h9 h10 h11 h12 h13 : Ob) : md_X5_keep_0 h1 h2 h3 h4 h5 h6 h7 h8 h9 h10 h11 h12 h13 h0 = RV [keeO h0, h1, h2, h3, h4, h5, h6, h7, h8, h9, h10, h11, h12, h13] := by
  simp only [md_X5_keep_0, mg_X5_keep_0]
  unfold keeO
  by_cases c : xw (h0 0 2) ≥ 12
  · rw [if_pos c, if_pos c]
  · rw [if_neg c, if_neg c]
noncomputable def f_X5_keep : List AV → List Ob → Option Rt
  | [.inr (.inl (0, 0))], [h0, h1, h2, h3, h4, h5, h6, h7, h8, h9, h10, h11, h12, h13] => some (none, [(keeO h0), h1, h2, h3, h4, h5, h6, h7, h8, h9, h10, h11, h12, h13])
  | _, _ => none
theorem ct_X5_keep : XCt yX5_keep mX5_keep f_X5_keep := (ctr_X5_keep ).of (fun as μ r h => by
  unfold f_X5_keep at h
  split at h
  · rw [← h]
    exact (eqf_X5_keep _ _ _ _ _ _ _ _ _ _ _ _ _ _).trans (sp_X5_keep _ _ _ _ _ _ _ _ _ _ _ _ _ _)
  · cases h)
