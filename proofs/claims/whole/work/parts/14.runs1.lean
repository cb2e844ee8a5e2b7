theorem dX6_addRun_0 : decode cX6_addRun 0 = .ok (.aload_n 0, 1) := by decide +kernel
theorem dX6_addRun_1 : decode cX6_addRun 1 = .ok (.getfield 18, 3) := by decide +kernel
theorem dX6_addRun_4 : decode cX6_addRun 4 = .ok (.bipush 12, 2) := by decide +kernel
theorem dX6_addRun_6 : decode cX6_addRun 6 = .ok (.if_icmp .ge 33, 3) := by decide +kernel
theorem dX6_addRun_9 : decode cX6_addRun 9 = .ok (.aload_n 0, 1) := by decide +kernel
theorem dX6_addRun_10 : decode cX6_addRun 10 = .ok (.getfield 9, 3) := by decide +kernel
theorem dX6_addRun_13 : decode cX6_addRun 13 = .ok (.aload_n 0, 1) := by decide +kernel
theorem dX6_addRun_14 : decode cX6_addRun 14 = .ok (.getfield 18, 3) := by decide +kernel
theorem dX6_addRun_17 : decode cX6_addRun 17 = .ok (.iload_n 1, 1) := by decide +kernel
theorem dX6_addRun_18 : decode cX6_addRun 18 = .ok (.iastore, 1) := by decide +kernel
theorem dX6_addRun_19 : decode cX6_addRun 19 = .ok (.aload_n 0, 1) := by decide +kernel
theorem dX6_addRun_20 : decode cX6_addRun 20 = .ok (.getfield 15, 3) := by decide +kernel
theorem dX6_addRun_23 : decode cX6_addRun 23 = .ok (.aload_n 0, 1) := by decide +kernel
theorem dX6_addRun_24 : decode cX6_addRun 24 = .ok (.getfield 18, 3) := by decide +kernel
theorem dX6_addRun_27 : decode cX6_addRun 27 = .ok (.iload_n 2, 1) := by decide +kernel
theorem dX6_addRun_28 : decode cX6_addRun 28 = .ok (.iastore, 1) := by decide +kernel
theorem dX6_addRun_29 : decode cX6_addRun 29 = .ok (.aload_n 0, 1) := by decide +kernel
theorem dX6_addRun_30 : decode cX6_addRun 30 = .ok (.dup, 1) := by decide +kernel
theorem dX6_addRun_31 : decode cX6_addRun 31 = .ok (.getfield 18, 3) := by decide +kernel
theorem dX6_addRun_34 : decode cX6_addRun 34 = .ok (.iconst 1, 1) := by decide +kernel
theorem dX6_addRun_35 : decode cX6_addRun 35 = .ok (.iadd, 1) := by decide +kernel
theorem dX6_addRun_36 : decode cX6_addRun 36 = .ok (.putfield 18, 3) := by decide +kernel
theorem dX6_addRun_39 : decode cX6_addRun 39 = .ok (.return_, 1) := by decide +kernel
abbrev mX6_addRun : XM := (cX6_addRun, 3, RX6, none, shw_6, 0)
noncomputable def rg_X6_addRun_0 : XK :=
 o_aload 0 <|
 o_get shw_6 6 2 <|
 o_iconst 12 <|
 o_icmp_ge (o_return)
 (o_aload 0 <|
 o_get shw_6 6 0 <|
 o_aload 0 <|
 o_get shw_6 6 2 <|
 o_iload 1 <|
 o_iast shw_6 <|
 o_aload 0 <|
 o_get shw_6 6 1 <|
 o_aload 0 <|
 o_get shw_6 6 2 <|
 o_iload 2 <|
 o_iast shw_6 <|
 o_aload 0 <|
 o_dup <|
 o_get shw_6 6 2 <|
 o_iconst 1 <|
 o_iadd <|
 o_put shw_6 6 2 false <|
 o_return)
def en_X6_addRun_0 (p1 : Int) (p2 : Int) (a : Ob) : XSt := ([some (.inr (.inl (0, 0))), some (.inl p1), some (.inl p2)], [], [a])
noncomputable def mg_X6_addRun_0 (p1 : Int) (p2 : Int) (a : Ob) : Option Rt :=
 if xw (a 0 2) ≥ 12 then (RV [a])
 else (if xin (a 0 2) 12 then (
 if xin ((xset a 1 (xw (a 0 2)).toNat p1) 0 2) 12 then (
 RV [(xset (xset (xset a 1 (xw (a 0 2)).toNat p1) 2 (xw ((xset a 1 (xw (a 0 2)).toNat p1) 0 2)).toNat p2) 0 2 (((xset (xset a 1 (xw (a 0 2)).toNat p1) 2 (xw ((xset a 1 (xw (a 0 2)).toNat p1) 0 2)).toNat p2) 0 2) + 1))]) else none) else none)
set_option maxRecDepth 100000 in
set_option maxHeartbeats 4000000 in
theorem rq_X6_addRun_0 (p1 : Int) (p2 : Int) (a : Ob) : rg_X6_addRun_0 (en_X6_addRun_0 p1 p2 a) = mg_X6_addRun_0 p1 p2 a := rfl
set_option maxRecDepth 100000 in
set_option maxHeartbeats 4000000 in
theorem sg_X6_addRun_0 {X : XDyn} {r0 : Rt} (C : XO X mX6_addRun) : XS X mX6_addRun r0 0 (rg_X6_addRun_0) := by
 unfold rg_X6_addRun_0
 exact s_aload_n (pc := 0) C dX6_addRun_0 rfl <|
    s_get (pc := 1) C (ci := 6) (kf := 2) rfl inX6 (by decide) wd_203 dX6_addRun_1 <|
    s_bipush (pc := 4) C dX6_addRun_4 (by decide) <|
    s_icmp_ge (pc := 6) C dX6_addRun_6 (by decide) (s_return (pc := 39) C rfl dX6_addRun_39)
    (s_aload_n (pc := 9) C dX6_addRun_9 rfl <|
    s_get (pc := 10) C (ci := 6) (kf := 0) rfl inX6 (by decide) wd_197 dX6_addRun_10 <|
    s_aload_n (pc := 13) C dX6_addRun_13 rfl <|
    s_get (pc := 14) C (ci := 6) (kf := 2) rfl inX6 (by decide) wd_203 dX6_addRun_14 <|
    s_iload_n (pc := 17) C dX6_addRun_17 rfl <|
    s_iast (pc := 18) C dX6_addRun_18 <|
    s_aload_n (pc := 19) C dX6_addRun_19 rfl <|
    s_get (pc := 20) C (ci := 6) (kf := 1) rfl inX6 (by decide) wd_200 dX6_addRun_20 <|
    s_aload_n (pc := 23) C dX6_addRun_23 rfl <|
    s_get (pc := 24) C (ci := 6) (kf := 2) rfl inX6 (by decide) wd_203 dX6_addRun_24 <|
    s_iload_n (pc := 27) C dX6_addRun_27 rfl <|
    s_iast (pc := 28) C dX6_addRun_28 <|
    s_aload_n (pc := 29) C dX6_addRun_29 rfl <|
    s_dup (pc := 30) C dX6_addRun_30 <|
    s_get (pc := 31) C (ci := 6) (kf := 2) rfl inX6 (by decide) wd_203 dX6_addRun_31 <|
    s_iconst (pc := 34) C dX6_addRun_34 <|
    s_iadd (pc := 35) C dX6_addRun_35 <|
    s_put (pc := 36) (z := false) C (ci := 6) (kf := 2) rfl inX6 tyX6_ok nmX6 (by decide) wd_203 rfl rfl dX6_addRun_36 <|
    s_return (pc := 39) C rfl dX6_addRun_39)
noncomputable def rw_X6_addRun_0 : XK := rg_X6_addRun_0
noncomputable def md_X6_addRun_0 (p1 : Int) (p2 : Int) : Ob → Option Rt := mg_X6_addRun_0 p1 p2
theorem eq_X6_addRun_0 (p1 : Int) (p2 : Int) (a : Ob) : rw_X6_addRun_0 (en_X6_addRun_0 p1 p2 a) = md_X6_addRun_0 p1 p2 a :=
 rq_X6_addRun_0 p1 p2 a
theorem sd_X6_addRun_0 {X : XDyn} {r0 : Rt} (C : XO X mX6_addRun) : XS X mX6_addRun r0 0 (rw_X6_addRun_0) := sg_X6_addRun_0 C
theorem ctr_X6_addRun : XCt yX6_addRun mX6_addRun (xF mX6_addRun (rw_X6_addRun_0)) := xMet (by decide +kernel) rfl (fun _ _ C => sd_X6_addRun_0 C)
theorem eqf_X6_addRun (p1 : Int) (p2 : Int) (h0 : Ob) : xF mX6_addRun (rw_X6_addRun_0) [.inr (.inl (0, 0)), .inl p1, .inl p2] [h0] = md_X6_addRun_0 p1 p2 h0 := eq_X6_addRun_0 p1 p2 h0
theorem yi_X6_addRun : yX6_addRun.cls = RX6 ∧ yX6_addRun.cls ≠ "java/lang/invoke/MethodHandle" ∧ yX6_addRun.cls ≠ "java/lang/invoke/VarHandle" ∧ (parseMethodDescriptor yX6_addRun.desc).map (fun d => d.parameters.length) = some 2 := ⟨rfl, by decide +kernel, by decide +kernel, by decide +kernel⟩
theorem sp_X6_addRun (p1 p2 : Int) (h0 : Ob) (hg : decide (0 ≤ xw (h0 0 2)) = true) : md_X6_addRun_0 p1 p2 h0 = RV [addO h0 p1 p2] := by
  have hg := of_decide_eq_true hg
  simp only [md_X6_addRun_0, mg_X6_addRun_0]
  unfold addO
  have e1 : xset h0 1 (xw (h0 0 2)).toNat p1 0 2 = h0 0 2 := xset_part _ _ _ _ (by omega) _
  have e2 : xset (xset h0 1 (xw (h0 0 2)).toNat p1) 2 (xw (h0 0 2)).toNat p2 0 2 = h0 0 2 := by rw [xset_part _ _ _ _ (by omega), xset_part _ _ _ _ (by omega)]
  by_cases h1 : xw (h0 0 2) ≥ 12
  · rw [if_pos h1, if_neg (by omega)]
  · rw [if_neg h1, e1, xin_of (n := 12) hg (by omega), if_pos rfl, if_pos rfl, e2, if_pos (show xw (h0 0 2) < 12 by omega)]
noncomputable def g_X6_addRun : List AV → List Ob → Bool
  | [.inr (.inl (0, 0)), .inl p1, .inl p2], [h0] => decide (0 ≤ xw (h0 0 2))
  | _, _ => false
noncomputable def v_X6_addRun : List AV → List Ob → Rt
  | [.inr (.inl (0, 0)), .inl p1, .inl p2], [h0] => (none, [(addO h0 p1 p2)])
  | _, _ => (none, [])
theorem ct_X6_addRun : XCt yX6_addRun mX6_addRun (fun as μ => if g_X6_addRun as μ then some (v_X6_addRun as μ) else none) := (ctr_X6_addRun ).of (fun as μ r h => by
  split at h
  · rename_i hg
    unfold g_X6_addRun at hg
    split at hg
    · rw [← h]
      exact (eqf_X6_addRun _ _ _).trans (sp_X6_addRun _ _ _ hg)
    · cases hg
  · cases h)
theorem dX6_lengthenLast_0 : decode cX6_lengthenLast 0 = .ok (.aload_n 0, 1) := by decide +kernel
theorem dX6_lengthenLast_1 : decode cX6_lengthenLast 1 = .ok (.getfield 18, 3) := by decide +kernel
theorem dX6_lengthenLast_4 : decode cX6_lengthenLast 4 = .ok (.ifCond .le 18, 3) := by decide +kernel
theorem dX6_lengthenLast_7 : decode cX6_lengthenLast 7 = .ok (.aload_n 0, 1) := by decide +kernel
theorem dX6_lengthenLast_8 : decode cX6_lengthenLast 8 = .ok (.getfield 15, 3) := by decide +kernel
theorem dX6_lengthenLast_11 : decode cX6_lengthenLast 11 = .ok (.aload_n 0, 1) := by decide +kernel
theorem dX6_lengthenLast_12 : decode cX6_lengthenLast 12 = .ok (.getfield 18, 3) := by decide +kernel
theorem dX6_lengthenLast_15 : decode cX6_lengthenLast 15 = .ok (.iconst 1, 1) := by decide +kernel
theorem dX6_lengthenLast_16 : decode cX6_lengthenLast 16 = .ok (.isub, 1) := by decide +kernel
theorem dX6_lengthenLast_17 : decode cX6_lengthenLast 17 = .ok (.dup2, 1) := by decide +kernel
theorem dX6_lengthenLast_18 : decode cX6_lengthenLast 18 = .ok (.iaload, 1) := by decide +kernel
theorem dX6_lengthenLast_19 : decode cX6_lengthenLast 19 = .ok (.iload_n 1, 1) := by decide +kernel
theorem dX6_lengthenLast_20 : decode cX6_lengthenLast 20 = .ok (.iadd, 1) := by decide +kernel
theorem dX6_lengthenLast_21 : decode cX6_lengthenLast 21 = .ok (.iastore, 1) := by decide +kernel
theorem dX6_lengthenLast_22 : decode cX6_lengthenLast 22 = .ok (.return_, 1) := by decide +kernel
abbrev mX6_lengthenLast : XM := (cX6_lengthenLast, 2, RX6, none, shw_6, 0)
noncomputable def rg_X6_lengthenLast_0 : XK :=
 o_aload 0 <|
 o_get shw_6 6 2 <|
 o_if_le (o_return)
 (o_aload 0 <|
 o_get shw_6 6 1 <|
 o_aload 0 <|
 o_get shw_6 6 2 <|
 o_iconst 1 <|
 o_isub <|
 o_dup2 <|
 o_iald shw_6 <|
 o_iload 1 <|
 o_iadd <|
 o_iast shw_6 <|
 o_return)
def en_X6_lengthenLast_0 (p1 : Int) (a : Ob) : XSt := ([some (.inr (.inl (0, 0))), some (.inl p1)], [], [a])
noncomputable def mg_X6_lengthenLast_0 (p1 : Int) (a : Ob) : Option Rt :=
 if xw (a 0 2) ≤ 0 then (RV [a])
 else (if xin ((a 0 2) - 1) 12 then (
 if xin ((a 0 2) - 1) 12 then (
 RV [(xset a 2 (xw ((a 0 2) - 1)).toNat ((a 2 (xw ((a 0 2) - 1)).toNat) + p1))]) else none) else none)
set_option maxRecDepth 100000 in
set_option maxHeartbeats 4000000 in
theorem rq_X6_lengthenLast_0 (p1 : Int) (a : Ob) : rg_X6_lengthenLast_0 (en_X6_lengthenLast_0 p1 a) = mg_X6_lengthenLast_0 p1 a := rfl
set_option maxRecDepth 100000 in
set_option maxHeartbeats 4000000 in
theorem sg_X6_lengthenLast_0 {X : XDyn} {r0 : Rt} (C : XO X mX6_lengthenLast) : XS X mX6_lengthenLast r0 0 (rg_X6_lengthenLast_0) := by
 unfold rg_X6_lengthenLast_0
 exact s_aload_n (pc := 0) C dX6_lengthenLast_0 rfl <|
    s_get (pc := 1) C (ci := 6) (kf := 2) rfl inX6 (by decide) wd_203 dX6_lengthenLast_1 <|
    s_if_le (pc := 4) C dX6_lengthenLast_4 (by decide) (s_return (pc := 22) C rfl dX6_lengthenLast_22)
    (s_aload_n (pc := 7) C dX6_lengthenLast_7 rfl <|
    s_get (pc := 8) C (ci := 6) (kf := 1) rfl inX6 (by decide) wd_200 dX6_lengthenLast_8 <|
    s_aload_n (pc := 11) C dX6_lengthenLast_11 rfl <|
    s_get (pc := 12) C (ci := 6) (kf := 2) rfl inX6 (by decide) wd_203 dX6_lengthenLast_12 <|
    s_iconst (pc := 15) C dX6_lengthenLast_15 <|
    s_isub (pc := 16) C dX6_lengthenLast_16 <|
    s_dup2 (pc := 17) C dX6_lengthenLast_17 <|
    s_iald (pc := 18) C dX6_lengthenLast_18 <|
    s_iload_n (pc := 19) C dX6_lengthenLast_19 rfl <|
    s_iadd (pc := 20) C dX6_lengthenLast_20 <|
    s_iast (pc := 21) C dX6_lengthenLast_21 <|
    s_return (pc := 22) C rfl dX6_lengthenLast_22)
noncomputable def rw_X6_lengthenLast_0 : XK := rg_X6_lengthenLast_0
noncomputable def md_X6_lengthenLast_0 (p1 : Int) : Ob → Option Rt := mg_X6_lengthenLast_0 p1
theorem eq_X6_lengthenLast_0 (p1 : Int) (a : Ob) : rw_X6_lengthenLast_0 (en_X6_lengthenLast_0 p1 a) = md_X6_lengthenLast_0 p1 a :=
 rq_X6_lengthenLast_0 p1 a
theorem sd_X6_lengthenLast_0 {X : XDyn} {r0 : Rt} (C : XO X mX6_lengthenLast) : XS X mX6_lengthenLast r0 0 (rw_X6_lengthenLast_0) := sg_X6_lengthenLast_0 C
theorem ctr_X6_lengthenLast : XCt yX6_lengthenLast mX6_lengthenLast (xF mX6_lengthenLast (rw_X6_lengthenLast_0)) := xMet (by decide +kernel) rfl (fun _ _ C => sd_X6_lengthenLast_0 C)
theorem eqf_X6_lengthenLast (p1 : Int) (h0 : Ob) : xF mX6_lengthenLast (rw_X6_lengthenLast_0) [.inr (.inl (0, 0)), .inl p1] [h0] = md_X6_lengthenLast_0 p1 h0 := eq_X6_lengthenLast_0 p1 h0
theorem yi_X6_lengthenLast : yX6_lengthenLast.cls = RX6 ∧ yX6_lengthenLast.cls ≠ "java/lang/invoke/MethodHandle" ∧ yX6_lengthenLast.cls ≠ "java/lang/invoke/VarHandle" ∧ (parseMethodDescriptor yX6_lengthenLast.desc).map (fun d => d.parameters.length) = some 1 := ⟨rfl, by decide +kernel, by decide +kernel, by decide +kernel⟩
theorem sp_X6_lengthenLast (p1 : Int) (h0 : Ob) (hg : decide (xw (h0 0 2) ≤ 12) = true) : md_X6_lengthenLast_0 p1 h0 = RV [lenO h0 p1] := by
  have hg := of_decide_eq_true hg
  simp only [md_X6_lengthenLast_0, mg_X6_lengthenLast_0]
  unfold lenO
  by_cases h1 : xw (h0 0 2) ≤ 0
  · rw [if_pos h1, if_neg (by omega)]
  · have h2 : xw (h0 0 2 - 1) = xw (h0 0 2) - 1 := by simp only [xw_def] at *; omega
    rw [if_neg h1, xin_of (n := 12) (by omega) (by omega), if_pos rfl, if_pos rfl, if_pos (show 0 < xw (h0 0 2) by omega)]
noncomputable def g_X6_lengthenLast : List AV → List Ob → Bool
  | [.inr (.inl (0, 0)), .inl p1], [h0] => decide (xw (h0 0 2) ≤ 12)
  | _, _ => false
noncomputable def v_X6_lengthenLast : List AV → List Ob → Rt
  | [.inr (.inl (0, 0)), .inl p1], [h0] => (none, [(lenO h0 p1)])
  | _, _ => (none, [])
theorem ct_X6_lengthenLast : XCt yX6_lengthenLast mX6_lengthenLast (fun as μ => if g_X6_lengthenLast as μ then some (v_X6_lengthenLast as μ) else none) := (ctr_X6_lengthenLast ).of (fun as μ r h => by
  split at h
  · rename_i hg
    unfold g_X6_lengthenLast at hg
    split at hg
    · rw [← h]
      exact (eqf_X6_lengthenLast _ _).trans (sp_X6_lengthenLast _ _ hg)
    · cases hg
  · cases h)
theorem dX6_read_0 : decode cX6_read 0 = .ok (.aload_n 0, 1) := by decide +kernel
theorem dX6_read_1 : decode cX6_read 1 = .ok (.iconst 0, 1) := by decide +kernel
theorem dX6_read_2 : decode cX6_read 2 = .ok (.putfield 18, 3) := by decide +kernel
theorem dX6_read_5 : decode cX6_read 5 = .ok (.iconst 0, 1) := by decide +kernel
theorem dX6_read_6 : decode cX6_read 6 = .ok (.istore 4, 2) := by decide +kernel
theorem dX6_read_8 : decode cX6_read 8 = .ok (.iconst 0, 1) := by decide +kernel
theorem dX6_read_9 : decode cX6_read 9 = .ok (.istore 5, 2) := by decide +kernel
theorem dX6_read_11 : decode cX6_read 11 = .ok (.iload 5, 2) := by decide +kernel
theorem dX6_read_13 : decode cX6_read 13 = .ok (.iload_n 3, 1) := by decide +kernel
theorem dX6_read_14 : decode cX6_read 14 = .ok (.if_icmp .ge 98, 3) := by decide +kernel
theorem dX6_read_17 : decode cX6_read 17 = .ok (.iload 5, 2) := by decide +kernel
theorem dX6_read_19 : decode cX6_read 19 = .ok (.iconst 1, 1) := by decide +kernel
theorem dX6_read_20 : decode cX6_read 20 = .ok (.iadd, 1) := by decide +kernel
theorem dX6_read_21 : decode cX6_read 21 = .ok (.aload_n 1, 1) := by decide +kernel
theorem dX6_read_22 : decode cX6_read 22 = .ok (.iload 5, 2) := by decide +kernel
theorem dX6_read_24 : decode cX6_read 24 = .ok (.iload_n 3, 1) := by decide +kernel
theorem dX6_read_25 : decode cX6_read 25 = .ok (.invokevirtual 22, 3) := by decide +kernel
theorem dX6_read_28 : decode cX6_read 28 = .ok (.invokestatic 28, 3) := by decide +kernel
theorem dX6_read_31 : decode cX6_read 31 = .ok (.istore 6, 2) := by decide +kernel
theorem dX6_read_33 : decode cX6_read 33 = .ok (.aload_n 1, 1) := by decide +kernel
theorem dX6_read_34 : decode cX6_read 34 = .ok (.iload 5, 2) := by decide +kernel
theorem dX6_read_36 : decode cX6_read 36 = .ok (.invokevirtual 33, 3) := by decide +kernel
theorem dX6_read_39 : decode cX6_read 39 = .ok (.istore 7, 2) := by decide +kernel
theorem dX6_read_41 : decode cX6_read 41 = .ok (.iload 7, 2) := by decide +kernel
theorem dX6_read_43 : decode cX6_read 43 = .ok (.iconst (-1), 1) := by decide +kernel
theorem dX6_read_44 : decode cX6_read 44 = .ok (.if_icmp .eq 12, 3) := by decide +kernel
theorem dX6_read_47 : decode cX6_read 47 = .ok (.iload_n 2, 1) := by decide +kernel
theorem dX6_read_48 : decode cX6_read 48 = .ok (.iload 7, 2) := by decide +kernel
theorem dX6_read_50 : decode cX6_read 50 = .ok (.invokestatic 37, 3) := by decide +kernel
theorem dX6_read_53 : decode cX6_read 53 = .ok (.ifCond .eq 7, 3) := by decide +kernel
theorem dX6_read_56 : decode cX6_read 56 = .ok (.iconst 1, 1) := by decide +kernel
theorem dX6_read_57 : decode cX6_read 57 = .ok (.goto 4, 3) := by decide +kernel
theorem dX6_read_60 : decode cX6_read 60 = .ok (.iconst 0, 1) := by decide +kernel
theorem dX6_read_61 : decode cX6_read 61 = .ok (.istore 8, 2) := by decide +kernel
theorem dX6_read_63 : decode cX6_read 63 = .ok (.iload 8, 2) := by decide +kernel
theorem dX6_read_65 : decode cX6_read 65 = .ok (.ifCond .eq 20, 3) := by decide +kernel
theorem dX6_read_68 : decode cX6_read 68 = .ok (.iload 4, 2) := by decide +kernel
theorem dX6_read_70 : decode cX6_read 70 = .ok (.ifCond .eq 15, 3) := by decide +kernel
theorem dX6_read_73 : decode cX6_read 73 = .ok (.aload_n 0, 1) := by decide +kernel
theorem dX6_read_74 : decode cX6_read 74 = .ok (.iload 6, 2) := by decide +kernel
theorem dX6_read_76 : decode cX6_read 76 = .ok (.iload 5, 2) := by decide +kernel
theorem dX6_read_78 : decode cX6_read 78 = .ok (.isub, 1) := by decide +kernel
theorem dX6_read_79 : decode cX6_read 79 = .ok (.invokevirtual 41, 3) := by decide +kernel
theorem dX6_read_82 : decode cX6_read 82 = .ok (.goto 19, 3) := by decide +kernel
theorem dX6_read_85 : decode cX6_read 85 = .ok (.iload 8, 2) := by decide +kernel
theorem dX6_read_87 : decode cX6_read 87 = .ok (.ifCond .eq 14, 3) := by decide +kernel
theorem dX6_read_90 : decode cX6_read 90 = .ok (.aload_n 0, 1) := by decide +kernel
theorem dX6_read_91 : decode cX6_read 91 = .ok (.iload 5, 2) := by decide +kernel
theorem dX6_read_93 : decode cX6_read 93 = .ok (.iload 6, 2) := by decide +kernel
theorem dX6_read_95 : decode cX6_read 95 = .ok (.iload 5, 2) := by decide +kernel
theorem dX6_read_97 : decode cX6_read 97 = .ok (.isub, 1) := by decide +kernel
theorem dX6_read_98 : decode cX6_read 98 = .ok (.invokevirtual 45, 3) := by decide +kernel
theorem dX6_read_101 : decode cX6_read 101 = .ok (.iload 8, 2) := by decide +kernel
theorem dX6_read_103 : decode cX6_read 103 = .ok (.istore 4, 2) := by decide +kernel
theorem dX6_read_105 : decode cX6_read 105 = .ok (.iload 6, 2) := by decide +kernel
theorem dX6_read_107 : decode cX6_read 107 = .ok (.istore 5, 2) := by decide +kernel
theorem dX6_read_109 : decode cX6_read 109 = .ok (.goto (-98), 3) := by decide +kernel
theorem dX6_read_112 : decode cX6_read 112 = .ok (.return_, 1) := by decide +kernel
abbrev mX6_read : XM := (cX6_read, 9, RX6, none, shw_6_3, 1)
noncomputable def rg_X6_read_0 (k11 : XK) : XK :=
 o_aload 0 <|
 o_iconst 0 <|
 o_put shw_6_3 6 2 false <|
 o_iconst 0 <|
 o_istore 4 <|
 o_iconst 0 <|
 o_istore 5 <|
 o_cut [] k11
def en_X6_read_0 (p2 : Int) (p3 : Int) (h1 : Ob) (a : Ob) : XSt := ([some (.inr (.inl (0, 0))), some (.inr (.inl (1, 0))), some (.inl p2), some (.inl p3), none, none, none, none, none], [], [a, h1])
noncomputable def rg_X6_read_11 (k56 : XK) (k61 : XK) : XK :=
 o_iload 5 <|
 o_iload 3 <|
 o_icmp_ge (o_return)
 (o_iload 5 <|
 o_iconst 1 <|
 o_iadd <|
 o_aload 1 <|
 o_iload 5 <|
 o_iload 3 <|
 o_callV 3 1 [1] f_X3_endAt <|
 o_max <|
 o_istore 6 <|
 o_aload 1 <|
 o_iload 5 <|
 o_callV 2 1 [1] f_X3_holderAt <|
 o_istore 7 <|
 o_iload 7 <|
 o_iconst (-1) <|
 o_icmp_eq (o_cut [7] k56)
 (o_iload 2 <|
 o_iload 7 <|
 o_callS 2 1 [] f_X7_isIn <|
 o_if_eq (o_iconst 0 <|
 o_cut [7] k61)
 (o_cut [7] k56)))
def en_X6_read_11 (p2 : Int) (p3 : Int) (h1 : Ob) (a : Int × Int × Ob) : XSt := ([some (.inr (.inl (0, 0))), some (.inr (.inl (1, 0))), some (.inl p2), some (.inl p3), some (.inl a.1), some (.inl a.2.1), none, none, none], [], [a.2.2, h1])
noncomputable def rg_X6_read_56 (k61 : XK) : XK :=
 o_iconst 1 <|
 o_cut [] k61
def en_X6_read_56 (p2 : Int) (p3 : Int) (h1 : Ob) (a : Int × Int × Int × Ob) : XSt := ([some (.inr (.inl (0, 0))), some (.inr (.inl (1, 0))), some (.inl p2), some (.inl p3), some (.inl a.1), some (.inl a.2.1), some (.inl a.2.2.1), none, none], [], [a.2.2.2, h1])
noncomputable def rg_X6_read_61 (k85 : XK) (k101 : XK) : XK :=
 o_istore 8 <|
 o_iload 8 <|
 o_if_eq (o_cut [4] k85)
 (o_iload 4 <|
 o_if_eq (o_cut [4] k85)
 (o_aload 0 <|
 o_iload 6 <|
 o_iload 5 <|
 o_isub <|
 o_callVg 2 0 [0] g_X6_lengthenLast v_X6_lengthenLast <|
 o_cut [4, 5] k101))
def en_X6_read_61 (p2 : Int) (p3 : Int) (h1 : Ob) (a : Int × Int × Int × Int × Ob) : XSt := ([some (.inr (.inl (0, 0))), some (.inr (.inl (1, 0))), some (.inl p2), some (.inl p3), some (.inl a.1), some (.inl a.2.1), some (.inl a.2.2.1), none, none], [.inl a.2.2.2.1], [a.2.2.2.2, h1])
noncomputable def rg_X6_read_85 (k101 : XK) : XK :=
 o_iload 8 <|
 o_if_eq (o_cut [5] k101)
 (o_aload 0 <|
 o_iload 5 <|
 o_iload 6 <|
 o_iload 5 <|
 o_isub <|
 o_callVg 3 0 [0] g_X6_addRun v_X6_addRun <|
 o_cut [5] k101)
def en_X6_read_85 (p2 : Int) (p3 : Int) (h1 : Ob) (a : Int × Int × Int × Ob) : XSt := ([some (.inr (.inl (0, 0))), some (.inr (.inl (1, 0))), some (.inl p2), some (.inl p3), none, some (.inl a.1), some (.inl a.2.1), none, some (.inl a.2.2.1)], [], [a.2.2.2, h1])
noncomputable def rg_X6_read_101 (k11 : XK) : XK :=
 o_iload 8 <|
 o_istore 4 <|
 o_iload 6 <|
 o_istore 5 <|
 o_cut [6, 8] k11
def en_X6_read_101 (p2 : Int) (p3 : Int) (h1 : Ob) (a : Int × Int × Ob) : XSt := ([some (.inr (.inl (0, 0))), some (.inr (.inl (1, 0))), some (.inl p2), some (.inl p3), none, none, some (.inl a.1), none, some (.inl a.2.1)], [], [a.2.2, h1])
noncomputable def mg_X6_read_0 (p2 : Int) (p3 : Int) (h1 : Ob) (k11 : (Int × Int × Ob) → Option Rt) (a : Ob) : Option Rt :=
 k11 (0, 0, (xset a 0 2 0))
set_option maxRecDepth 100000 in
set_option maxHeartbeats 4000000 in
theorem rq_X6_read_0 (p2 : Int) (p3 : Int) (h1 : Ob) (k11 : XK) (a : Ob) : rg_X6_read_0 k11 (en_X6_read_0 p2 p3 h1 a) = mg_X6_read_0 p2 p3 h1 (fun b => k11 (en_X6_read_11 p2 p3 h1 b)) a := rfl
set_option maxRecDepth 100000 in
set_option maxHeartbeats 4000000 in
theorem sg_X6_read_0 {X : XDyn} {r0 : Rt} (C : XO X mX6_read) {k11 : XK} (q11 : XS X mX6_read r0 11 k11) : XS X mX6_read r0 0 (rg_X6_read_0 k11) := by
 unfold rg_X6_read_0
 exact s_aload_n (pc := 0) C dX6_read_0 rfl <|
    s_iconst (pc := 1) C dX6_read_1 <|
    s_put (pc := 2) (z := false) C (ci := 6) (kf := 2) rfl inX6 tyX6_ok nmX6 (by decide) wd_203 rfl rfl dX6_read_2 <|
    s_iconst (pc := 5) C dX6_read_5 <|
    s_istore (pc := 6) C dX6_read_6 <|
    s_iconst (pc := 8) C dX6_read_8 <|
    s_istore (pc := 9) C dX6_read_9 <|
    s_cut q11
noncomputable def mg_X6_read_11 (p2 : Int) (p3 : Int) (h1 : Ob) (k56 : (Int × Int × Int × Ob) → Option Rt) (k61 : (Int × Int × Int × Int × Ob) → Option Rt) (a : Int × Int × Ob) : Option Rt :=
 if xw a.2.1 ≥ xw p3 then (RV [a.2.2, h1])
 else (if xw (hol h1 a.2.1) = (-1) then (k56 (a.1, a.2.1, (xmax (a.2.1 + 1) (nxt h1 a.2.1 p3)), a.2.2))
 else (if xw (bz (inS p2 (hol h1 a.2.1))) = 0 then (k61 (a.1, a.2.1, (xmax (a.2.1 + 1) (nxt h1 a.2.1 p3)), 0, a.2.2))
 else (k56 (a.1, a.2.1, (xmax (a.2.1 + 1) (nxt h1 a.2.1 p3)), a.2.2))))
set_option maxRecDepth 100000 in
set_option maxHeartbeats 4000000 in
theorem rq_X6_read_11 (p2 : Int) (p3 : Int) (h1 : Ob) (k56 : XK) (k61 : XK) (a : Int × Int × Ob) : rg_X6_read_11 k56 k61 (en_X6_read_11 p2 p3 h1 a) = mg_X6_read_11 p2 p3 h1 (fun b => k56 (en_X6_read_56 p2 p3 h1 b)) (fun b => k61 (en_X6_read_61 p2 p3 h1 b)) a := rfl
set_option maxRecDepth 100000 in
set_option maxHeartbeats 4000000 in
theorem sg_X6_read_11 {X : XDyn} {r0 : Rt} (C : XO X mX6_read) {k56 : XK} (q56 : XS X mX6_read r0 56 k56) {k61 : XK} (q61 : XS X mX6_read r0 61 k61) : XS X mX6_read r0 11 (rg_X6_read_11 k56 k61) := by
 unfold rg_X6_read_11
 exact s_iload (pc := 11) C dX6_read_11 <|
    s_iload_n (pc := 13) C dX6_read_13 rfl <|
    s_icmp_ge (pc := 14) C dX6_read_14 (by decide) (s_return (pc := 112) C rfl dX6_read_112)
    (s_iload (pc := 17) C dX6_read_17 <|
    s_iconst (pc := 19) C dX6_read_19 <|
    s_iadd (pc := 20) C dX6_read_20 <|
    s_aload_n (pc := 21) C dX6_read_21 rfl <|
    s_iload (pc := 22) C dX6_read_22 <|
    s_iload_n (pc := 24) C dX6_read_24 rfl <|
    s_callV (pc := 25) C ct_X3_endAt (n := 3) (rk := 1) (mp := [1]) ⟨rfl, by decide, rfl⟩ (ci := 3) rfl rfl (by decide) (by decide) yi_X3_endAt (by decide) wd_435 wd_398 wd_399 wd_74 wd_400 dX6_read_25 <|
    s_max (pc := 28) C (by decide) wd_436 wd_402 wd_82 wd_403 dX6_read_28 <|
    s_istore (pc := 31) C dX6_read_31 <|
    s_aload_n (pc := 33) C dX6_read_33 rfl <|
    s_iload (pc := 34) C dX6_read_34 <|
    s_callV (pc := 36) C ct_X3_holderAt (n := 2) (rk := 1) (mp := [1]) ⟨rfl, by decide, rfl⟩ (ci := 3) rfl rfl (by decide) (by decide) yi_X3_holderAt (by decide) wd_437 wd_394 wd_395 wd_74 wd_396 dX6_read_36 <|
    s_istore (pc := 39) C dX6_read_39 <|
    s_iload (pc := 41) C dX6_read_41 <|
    s_iconst (pc := 43) C dX6_read_43 <|
    s_icmp_eq (pc := 44) C dX6_read_44 (by decide) (s_cut q56)
    (s_iload_n (pc := 47) C dX6_read_47 rfl <|
    s_iload (pc := 48) C dX6_read_48 <|
    s_callN (pc := 50) C ct_X7_isIn (n := 2) (rk := 1) (mp := []) ⟨rfl, by decide, rfl⟩ (by decide) (by decide) yi_X7_isIn wd_438 wd_355 wd_73 wd_356 dX6_read_50 <|
    s_if_eq (pc := 53) C dX6_read_53 (by decide) (s_iconst (pc := 60) C dX6_read_60 <|
    s_cut q61)
    (s_cut q56)))
noncomputable def mg_X6_read_56 (p2 : Int) (p3 : Int) (h1 : Ob) (k61 : (Int × Int × Int × Int × Ob) → Option Rt) (a : Int × Int × Int × Ob) : Option Rt :=
 k61 (a.1, a.2.1, a.2.2.1, 1, a.2.2.2)
set_option maxRecDepth 100000 in
set_option maxHeartbeats 4000000 in
theorem rq_X6_read_56 (p2 : Int) (p3 : Int) (h1 : Ob) (k61 : XK) (a : Int × Int × Int × Ob) : rg_X6_read_56 k61 (en_X6_read_56 p2 p3 h1 a) = mg_X6_read_56 p2 p3 h1 (fun b => k61 (en_X6_read_61 p2 p3 h1 b)) a := rfl
set_option maxRecDepth 100000 in
set_option maxHeartbeats 4000000 in
theorem sg_X6_read_56 {X : XDyn} {r0 : Rt} (C : XO X mX6_read) {k61 : XK} (q61 : XS X mX6_read r0 61 k61) : XS X mX6_read r0 56 (rg_X6_read_56 k61) := by
 unfold rg_X6_read_56
 exact s_iconst (pc := 56) C dX6_read_56 <|
    s_goto (pc := 57) C dX6_read_57 (by decide) <|
    s_cut q61
noncomputable def mg_X6_read_61 (p2 : Int) (p3 : Int) (h1 : Ob) (k85 : (Int × Int × Int × Ob) → Option Rt) (k101 : (Int × Int × Ob) → Option Rt) (a : Int × Int × Int × Int × Ob) : Option Rt :=
 if xw a.2.2.2.1 = 0 then (k85 (a.2.1, a.2.2.1, a.2.2.2.1, a.2.2.2.2))
 else (if xw a.1 = 0 then (k85 (a.2.1, a.2.2.1, a.2.2.2.1, a.2.2.2.2))
 else (if decide (xw (a.2.2.2.2 0 2) ≤ 12) then (
 k101 (a.2.2.1, a.2.2.2.1, (lenO a.2.2.2.2 (a.2.2.1 - a.2.1)))) else none))
set_option maxRecDepth 100000 in
set_option maxHeartbeats 4000000 in
theorem rq_X6_read_61 (p2 : Int) (p3 : Int) (h1 : Ob) (k85 : XK) (k101 : XK) (a : Int × Int × Int × Int × Ob) : rg_X6_read_61 k85 k101 (en_X6_read_61 p2 p3 h1 a) = mg_X6_read_61 p2 p3 h1 (fun b => k85 (en_X6_read_85 p2 p3 h1 b)) (fun b => k101 (en_X6_read_101 p2 p3 h1 b)) a := rfl
set_option maxRecDepth 100000 in
set_option maxHeartbeats 4000000 in
theorem sg_X6_read_61 {X : XDyn} {r0 : Rt} (C : XO X mX6_read) {k85 : XK} (q85 : XS X mX6_read r0 85 k85) {k101 : XK} (q101 : XS X mX6_read r0 101 k101) : XS X mX6_read r0 61 (rg_X6_read_61 k85 k101) := by
 unfold rg_X6_read_61
 exact s_istore (pc := 61) C dX6_read_61 <|
    s_iload (pc := 63) C dX6_read_63 <|
    s_if_eq (pc := 65) C dX6_read_65 (by decide) (s_cut q85)
    (s_iload (pc := 68) C dX6_read_68 <|
    s_if_eq (pc := 70) C dX6_read_70 (by decide) (s_cut q85)
    (s_aload_n (pc := 73) C dX6_read_73 rfl <|
    s_iload (pc := 74) C dX6_read_74 <|
    s_iload (pc := 76) C dX6_read_76 <|
    s_isub (pc := 78) C dX6_read_78 <|
    s_callVg (pc := 79) C ct_X6_lengthenLast (n := 2) (rk := 0) (mp := [0]) ⟨rfl, by decide, rfl⟩ (ci := 6) rfl rfl (by decide) (by decide) yi_X6_lengthenLast (by decide) wd_439 wd_441 wd_3 wd_76 wd_442 dX6_read_79 <|
    s_goto (pc := 82) C dX6_read_82 (by decide) <|
    s_cut q101))
noncomputable def mg_X6_read_85 (p2 : Int) (p3 : Int) (h1 : Ob) (k101 : (Int × Int × Ob) → Option Rt) (a : Int × Int × Int × Ob) : Option Rt :=
 if xw a.2.2.1 = 0 then (k101 (a.2.1, a.2.2.1, a.2.2.2))
 else (if decide (0 ≤ xw (a.2.2.2 0 2)) then (
 k101 (a.2.1, a.2.2.1, (addO a.2.2.2 a.1 (a.2.1 - a.1)))) else none)
set_option maxRecDepth 100000 in
set_option maxHeartbeats 4000000 in
theorem rq_X6_read_85 (p2 : Int) (p3 : Int) (h1 : Ob) (k101 : XK) (a : Int × Int × Int × Ob) : rg_X6_read_85 k101 (en_X6_read_85 p2 p3 h1 a) = mg_X6_read_85 p2 p3 h1 (fun b => k101 (en_X6_read_101 p2 p3 h1 b)) a := rfl
set_option maxRecDepth 100000 in
set_option maxHeartbeats 4000000 in
theorem sg_X6_read_85 {X : XDyn} {r0 : Rt} (C : XO X mX6_read) {k101 : XK} (q101 : XS X mX6_read r0 101 k101) : XS X mX6_read r0 85 (rg_X6_read_85 k101) := by
 unfold rg_X6_read_85
 exact s_iload (pc := 85) C dX6_read_85 <|
    s_if_eq (pc := 87) C dX6_read_87 (by decide) (s_cut q101)
    (s_aload_n (pc := 90) C dX6_read_90 rfl <|
    s_iload (pc := 91) C dX6_read_91 <|
    s_iload (pc := 93) C dX6_read_93 <|
    s_iload (pc := 95) C dX6_read_95 <|
    s_isub (pc := 97) C dX6_read_97 <|
    s_callVg (pc := 98) C ct_X6_addRun (n := 3) (rk := 0) (mp := [0]) ⟨rfl, by decide, rfl⟩ (ci := 6) rfl rfl (by decide) (by decide) yi_X6_addRun (by decide) wd_443 wd_445 wd_4 wd_76 wd_446 dX6_read_98 <|
    s_cut q101)
noncomputable def mg_X6_read_101 (p2 : Int) (p3 : Int) (h1 : Ob) (k11 : (Int × Int × Ob) → Option Rt) (a : Int × Int × Ob) : Option Rt :=
 k11 (a.2.1, a.1, a.2.2)
set_option maxRecDepth 100000 in
set_option maxHeartbeats 4000000 in
theorem rq_X6_read_101 (p2 : Int) (p3 : Int) (h1 : Ob) (k11 : XK) (a : Int × Int × Ob) : rg_X6_read_101 k11 (en_X6_read_101 p2 p3 h1 a) = mg_X6_read_101 p2 p3 h1 (fun b => k11 (en_X6_read_11 p2 p3 h1 b)) a := rfl
set_option maxRecDepth 100000 in
set_option maxHeartbeats 4000000 in
theorem sg_X6_read_101 {X : XDyn} {r0 : Rt} (C : XO X mX6_read) {k11 : XK} (q11 : XS X mX6_read r0 11 k11) : XS X mX6_read r0 101 (rg_X6_read_101 k11) := by
 unfold rg_X6_read_101
 exact s_iload (pc := 101) C dX6_read_101 <|
    s_istore (pc := 103) C dX6_read_103 <|
    s_iload (pc := 105) C dX6_read_105 <|
    s_istore (pc := 107) C dX6_read_107 <|
    s_goto (pc := 109) C dX6_read_109 (by decide) <|
    s_cut q11
noncomputable def rw_X6_read_101 (f : Nat) (k11 : XK) : XK := rg_X6_read_101 k11
noncomputable def md_X6_read_101 (p2 : Int) (p3 : Int) (h1 : Ob) (f : Nat) (k11 : (Int × Int × Ob) → Option Rt) : Int × Int × Ob → Option Rt := mg_X6_read_101 p2 p3 h1 k11
theorem eq_X6_read_101 (p2 : Int) (p3 : Int) (h1 : Ob) (f : Nat) (k11 : XK) (a : Int × Int × Ob) : rw_X6_read_101 f k11 (en_X6_read_101 p2 p3 h1 a) = md_X6_read_101 p2 p3 h1 f (fun b => k11 (en_X6_read_11 p2 p3 h1 b)) a :=
 (rq_X6_read_101 p2 p3 h1 k11 a).trans (congrFun (congr (rfl : mg_X6_read_101 p2 p3 h1 = mg_X6_read_101 p2 p3 h1) rfl) a)
theorem sd_X6_read_101 (f : Nat) {X : XDyn} {r0 : Rt} (C : XO X mX6_read) {k11 : XK} (q11 : XS X mX6_read r0 11 k11) : XS X mX6_read r0 101 (rw_X6_read_101 f k11) := sg_X6_read_101 C q11
noncomputable def rw_X6_read_85 (f : Nat) (k11 : XK) : XK := rg_X6_read_85 (rw_X6_read_101 f k11)
noncomputable def md_X6_read_85 (p2 : Int) (p3 : Int) (h1 : Ob) (f : Nat) (k11 : (Int × Int × Ob) → Option Rt) : Int × Int × Int × Ob → Option Rt := mg_X6_read_85 p2 p3 h1 (md_X6_read_101 p2 p3 h1 f k11)
theorem eq_X6_read_85 (p2 : Int) (p3 : Int) (h1 : Ob) (f : Nat) (k11 : XK) (a : Int × Int × Int × Ob) : rw_X6_read_85 f k11 (en_X6_read_85 p2 p3 h1 a) = md_X6_read_85 p2 p3 h1 f (fun b => k11 (en_X6_read_11 p2 p3 h1 b)) a :=
 (rq_X6_read_85 p2 p3 h1 (rw_X6_read_101 f k11) a).trans (congrFun (congr (rfl : mg_X6_read_85 p2 p3 h1 = mg_X6_read_85 p2 p3 h1) (funext (eq_X6_read_101 p2 p3 h1 f k11))) a)
theorem sd_X6_read_85 (f : Nat) {X : XDyn} {r0 : Rt} (C : XO X mX6_read) {k11 : XK} (q11 : XS X mX6_read r0 11 k11) : XS X mX6_read r0 85 (rw_X6_read_85 f k11) := sg_X6_read_85 C (sd_X6_read_101 f C q11)
noncomputable def rw_X6_read_61 (f : Nat) (k11 : XK) : XK := rg_X6_read_61 (rw_X6_read_85 f k11) (rw_X6_read_101 f k11)
noncomputable def md_X6_read_61 (p2 : Int) (p3 : Int) (h1 : Ob) (f : Nat) (k11 : (Int × Int × Ob) → Option Rt) : Int × Int × Int × Int × Ob → Option Rt := mg_X6_read_61 p2 p3 h1 (md_X6_read_85 p2 p3 h1 f k11) (md_X6_read_101 p2 p3 h1 f k11)
theorem eq_X6_read_61 (p2 : Int) (p3 : Int) (h1 : Ob) (f : Nat) (k11 : XK) (a : Int × Int × Int × Int × Ob) : rw_X6_read_61 f k11 (en_X6_read_61 p2 p3 h1 a) = md_X6_read_61 p2 p3 h1 f (fun b => k11 (en_X6_read_11 p2 p3 h1 b)) a :=
 (rq_X6_read_61 p2 p3 h1 (rw_X6_read_85 f k11) (rw_X6_read_101 f k11) a).trans (congrFun (congr (congr (rfl : mg_X6_read_61 p2 p3 h1 = mg_X6_read_61 p2 p3 h1) (funext (eq_X6_read_85 p2 p3 h1 f k11))) (funext (eq_X6_read_101 p2 p3 h1 f k11))) a)
theorem sd_X6_read_61 (f : Nat) {X : XDyn} {r0 : Rt} (C : XO X mX6_read) {k11 : XK} (q11 : XS X mX6_read r0 11 k11) : XS X mX6_read r0 61 (rw_X6_read_61 f k11) := sg_X6_read_61 C (sd_X6_read_85 f C q11) (sd_X6_read_101 f C q11)
noncomputable def rw_X6_read_56 (f : Nat) (k11 : XK) : XK := rg_X6_read_56 (rw_X6_read_61 f k11)
noncomputable def md_X6_read_56 (p2 : Int) (p3 : Int) (h1 : Ob) (f : Nat) (k11 : (Int × Int × Ob) → Option Rt) : Int × Int × Int × Ob → Option Rt := mg_X6_read_56 p2 p3 h1 (md_X6_read_61 p2 p3 h1 f k11)
theorem eq_X6_read_56 (p2 : Int) (p3 : Int) (h1 : Ob) (f : Nat) (k11 : XK) (a : Int × Int × Int × Ob) : rw_X6_read_56 f k11 (en_X6_read_56 p2 p3 h1 a) = md_X6_read_56 p2 p3 h1 f (fun b => k11 (en_X6_read_11 p2 p3 h1 b)) a :=
 (rq_X6_read_56 p2 p3 h1 (rw_X6_read_61 f k11) a).trans (congrFun (congr (rfl : mg_X6_read_56 p2 p3 h1 = mg_X6_read_56 p2 p3 h1) (funext (eq_X6_read_61 p2 p3 h1 f k11))) a)
theorem sd_X6_read_56 (f : Nat) {X : XDyn} {r0 : Rt} (C : XO X mX6_read) {k11 : XK} (q11 : XS X mX6_read r0 11 k11) : XS X mX6_read r0 56 (rw_X6_read_56 f k11) := sg_X6_read_56 C (sd_X6_read_61 f C q11)
noncomputable def rw_X6_read_11 (f : Nat) : XK := tlp (fun k11 => rg_X6_read_11 (rw_X6_read_56 f k11) (rw_X6_read_61 f k11)) f
noncomputable def lb_X6_read_11 (p2 : Int) (p3 : Int) (h1 : Ob) (f : Nat) : ((Int × Int × Ob) → Option Rt) → Int × Int × Ob → Option Rt := fun k11 => mg_X6_read_11 p2 p3 h1 (md_X6_read_56 p2 p3 h1 f k11) (md_X6_read_61 p2 p3 h1 f k11)
noncomputable def md_X6_read_11 (p2 : Int) (p3 : Int) (h1 : Ob) (f : Nat) : Int × Int × Ob → Option Rt := tlp (lb_X6_read_11 p2 p3 h1 f) f
theorem eq_X6_read_11 (p2 : Int) (p3 : Int) (h1 : Ob) (f : Nat) (a : Int × Int × Ob) : rw_X6_read_11 f (en_X6_read_11 p2 p3 h1 a) = md_X6_read_11 p2 p3 h1 f a :=
 tlp_enc (en_X6_read_11 p2 p3 h1) (fun k11 a => (rq_X6_read_11 p2 p3 h1 (rw_X6_read_56 f k11) (rw_X6_read_61 f k11) a).trans (congrFun (congr (congr (rfl : mg_X6_read_11 p2 p3 h1 = mg_X6_read_11 p2 p3 h1) (funext (eq_X6_read_56 p2 p3 h1 f k11))) (funext (eq_X6_read_61 p2 p3 h1 f k11))) a)) f a
theorem sd_X6_read_11 (f : Nat) {X : XDyn} {r0 : Rt} (C : XO X mX6_read) : XS X mX6_read r0 11 (rw_X6_read_11 f) := s_lp (fun k11 q11 => sg_X6_read_11 C (sd_X6_read_56 f C q11) (sd_X6_read_61 f C q11)) f
noncomputable def rw_X6_read_0 (f : Nat) : XK := rg_X6_read_0 (rw_X6_read_11 f)
noncomputable def md_X6_read_0 (p2 : Int) (p3 : Int) (h1 : Ob) (f : Nat) : Ob → Option Rt := mg_X6_read_0 p2 p3 h1 (md_X6_read_11 p2 p3 h1 f)
theorem eq_X6_read_0 (p2 : Int) (p3 : Int) (h1 : Ob) (f : Nat) (a : Ob) : rw_X6_read_0 f (en_X6_read_0 p2 p3 h1 a) = md_X6_read_0 p2 p3 h1 f a :=
 (rq_X6_read_0 p2 p3 h1 (rw_X6_read_11 f) a).trans (congrFun (congr (rfl : mg_X6_read_0 p2 p3 h1 = mg_X6_read_0 p2 p3 h1) (funext (eq_X6_read_11 p2 p3 h1 f))) a)
theorem sd_X6_read_0 (f : Nat) {X : XDyn} {r0 : Rt} (C : XO X mX6_read) : XS X mX6_read r0 0 (rw_X6_read_0 f) := sg_X6_read_0 C (sd_X6_read_11 f C)
theorem ctr_X6_read (f : Nat) : XCt yX6_read mX6_read (xF mX6_read (rw_X6_read_0 f)) := xMet (by decide +kernel) rfl (fun _ _ C => sd_X6_read_0 f C)
theorem eqf_X6_read (f : Nat) (p2 : Int) (p3 : Int) (h0 : Ob) (h1 : Ob) : xF mX6_read (rw_X6_read_0 f) [.inr (.inl (0, 0)), .inr (.inl (1, 0)), .inl p2, .inl p3] [h0, h1] = md_X6_read_0 p2 p3 h1 f h0 := eq_X6_read_0 p2 p3 h1 f h0
theorem yi_X6_read : yX6_read.cls = RX6 ∧ yX6_read.cls ≠ "java/lang/invoke/MethodHandle" ∧ yX6_read.cls ≠ "java/lang/invoke/VarHandle" ∧ (parseMethodDescriptor yX6_read.desc).map (fun d => d.parameters.length) = some 3 := ⟨rfl, by decide +kernel, by decide +kernel, by decide +kernel⟩
theorem sp_X6_read (f : Nat) (hf : 1000 ≤ f) (p2 p3 : Int) (h0 h1 : Ob) (hg : pd (RdG h1 p3) = true) : md_X6_read_0 p2 p3 h1 f h0 = RV [rdO h0 (rnl h1 p2 p3), h1] := by
  obtain ⟨hL, he1, he2⟩ := pd_of hg
  obtain ⟨z1, z2, z3, -⟩ := id hL
  have hp3 : xw p3 = p3 := xw_id (by omega) (by omega)
  have hst : md_X6_read_0 p2 p3 h1 f h0 = md_X6_read_11 p2 p3 h1 f (0, 0, rdO h0 []) := by rw [← rdO_nil]; rfl
  rw [hst]
  let cn : Int → Nat := fun k => (List.range 11).countP (fun i => !decide (h1 1 i = -1) && decide (h1 1 i < k))
  have hcn : ∀ k, cn k ≤ 11 := fun k => by
    have := List.countP_le_length (p := fun i => !decide (h1 1 i = -1) && decide (h1 1 i < k)) (l := List.range 11)
    simpa using this
  have hmono : ∀ k k', k ≤ k' → cn k ≤ cn k' := fun k k' hk => List.countP_mono_left (fun i _ hi => by
    simp only [Bool.and_eq_true, decide_eq_true_eq] at hi ⊢
    exact ⟨hi.1, by omega⟩)
  have := loop_walk (B := lb_X6_read_11 p2 p3 h1 f) (h := h1) (e := p3) (fun k (q : Bool × List (Int × Int)) => (bz q.1, k, rdO h0 q.2.reverse)) (fun q k => .inl (rst h1 p2 p3 q k)) (fun q => RV [rdO h0 q.2.reverse, h1]) (fun k q => (q.1 = true → q.2 ≠ []) ∧ q.2.length ≤ cn k + (if q.1 then 1 else 0)) (fun k a b => ⟨(hL.nxc a b (by omega) (by omega)).1, (hL.nxc a b (by omega) (by omega)).2.1⟩)
    (fun kk k q a b hI => by
      obtain ⟨go, Q⟩ := q
      obtain ⟨i1, i2⟩ := hI
      dsimp only at i1 i2
      obtain ⟨n1, n2, n3⟩ := hL.nxc a b he1 (by omega)
      have hr := hol_range hL (k := k) a (by omega)
      have n4 : xmax (k + 1) (nxt h1 k p3) = nxt h1 k p3 := n3
      have hc := hcn k
      have hlen : xw (rdO h0 Q.reverse 0 2) = (Q.length : Int) := by rw [rdO_cnt, List.length_reverse]; exact xw_nat (by split at i2 <;> omega)
      simp only [md_X6_read_0, mg_X6_read_0, lb_X6_read_11, mg_X6_read_11, md_X6_read_56, mg_X6_read_56, md_X6_read_61, mg_X6_read_61, md_X6_read_85, mg_X6_read_85, md_X6_read_101, mg_X6_read_101, xw_id (x := k) (by omega) (by omega), hp3, bz_0, hr.2.2, n4, hlen]
      rw [if_neg (by omega)]
      have key : ∀ op : Bool, (decide (hol h1 k = -1) || inS p2 (hol h1 k)) = op →
          ((if hol h1 k = -1 then (if xw 1 = 0 then (if xw 1 = 0 then kk (1, nxt h1 k p3, rdO h0 Q.reverse) else if decide (0 ≤ (Q.length : Int)) = true then kk (1, nxt h1 k p3, addO (rdO h0 Q.reverse) k (nxt h1 k p3 - k)) else none) else if go = false then (if xw 1 = 0 then kk (1, nxt h1 k p3, rdO h0 Q.reverse) else if decide (0 ≤ (Q.length : Int)) = true then kk (1, nxt h1 k p3, addO (rdO h0 Q.reverse) k (nxt h1 k p3 - k)) else none) else if decide ((Q.length : Int) ≤ 12) = true then kk (1, nxt h1 k p3, lenO (rdO h0 Q.reverse) (nxt h1 k p3 - k)) else none)
          else if inS p2 (hol h1 k) = false then (if xw 0 = 0 then (if xw 0 = 0 then kk (0, nxt h1 k p3, rdO h0 Q.reverse) else if decide (0 ≤ (Q.length : Int)) = true then kk (0, nxt h1 k p3, addO (rdO h0 Q.reverse) k (nxt h1 k p3 - k)) else none) else if go = false then (if xw 0 = 0 then kk (0, nxt h1 k p3, rdO h0 Q.reverse) else if decide (0 ≤ (Q.length : Int)) = true then kk (0, nxt h1 k p3, addO (rdO h0 Q.reverse) k (nxt h1 k p3 - k)) else none) else if decide ((Q.length : Int) ≤ 12) = true then kk (0, nxt h1 k p3, lenO (rdO h0 Q.reverse) (nxt h1 k p3 - k)) else none)
          else (if xw 1 = 0 then (if xw 1 = 0 then kk (1, nxt h1 k p3, rdO h0 Q.reverse) else if decide (0 ≤ (Q.length : Int)) = true then kk (1, nxt h1 k p3, addO (rdO h0 Q.reverse) k (nxt h1 k p3 - k)) else none) else if go = false then (if xw 1 = 0 then kk (1, nxt h1 k p3, rdO h0 Q.reverse) else if decide (0 ≤ (Q.length : Int)) = true then kk (1, nxt h1 k p3, addO (rdO h0 Q.reverse) k (nxt h1 k p3 - k)) else none) else if decide ((Q.length : Int) ≤ 12) = true then kk (1, nxt h1 k p3, lenO (rdO h0 Q.reverse) (nxt h1 k p3 - k)) else none))
          = if op then (if go then kk (1, nxt h1 k p3, lenO (rdO h0 Q.reverse) (nxt h1 k p3 - k)) else kk (1, nxt h1 k p3, addO (rdO h0 Q.reverse) k (nxt h1 k p3 - k))) else kk (0, nxt h1 k p3, rdO h0 Q.reverse)) := by
        intro op hop
        have q1 : ¬ xw 1 = 0 := by decide
        have t1 : decide (0 ≤ (Q.length : Int)) = true := decide_eq_true (by omega)
        have t2 : decide ((Q.length : Int) ≤ 12) = true := decide_eq_true (by split at i2 <;> omega)
        simp only [q1, xw0, t1, t2, if_true, if_false]
        by_cases hh : hol h1 k = -1
        · have : op = true := by rw [← hop, hh]; rfl
          subst this
          cases go <;> simp [hh]
        · have hop2 : inS p2 (hol h1 k) = op := by rw [← hop]; simp [hh]
          rw [if_neg hh, hop2]
          cases op <;> cases go <;> simp
      cases hop : (decide (hol h1 k = -1) || inS p2 (hol h1 k)) with
      | false =>
        refine ⟨(key false hop).trans ?_, fun q' hq' => ?_⟩
        · simp only [rst, hop]
          rw [n3]
          rfl
        · cases hq'
          simp only [rst, hop]
          refine ⟨fun z => by simp at z, ?_⟩
          simp only [Bool.or_eq_false_iff, decide_eq_false_iff_not] at hop
          have hcl : cn k + 1 ≤ cn (nx h1 p3 k) := by
            rcases hL.holc (k := k) a (by omega) with ⟨i, g1, g2, g3⟩ | ⟨g1, g3⟩
            · refine countP_lt _ _ (fun x hx => ?_) (List.range 11) i (List.mem_range.mpr g1) ?_ ?_
              · simp only [Bool.and_eq_true, decide_eq_true_eq] at hx ⊢
                exact ⟨hx.1, by omega⟩
              · simp only [Bool.and_eq_true, Bool.not_eq_true', decide_eq_false_iff_not, decide_eq_true_eq]; omega
              · simp only [Bool.and_eq_false_iff, decide_eq_false_iff_not]; omega
            · exact absurd g3 hop.1
          show Q.length ≤ _
          have : (if go = true then 1 else 0) ≤ 1 := by split <;> omega
          simp only [Bool.false_eq_true, if_false]
          omega
      | true =>
        cases go with
        | false =>
          refine ⟨(key true hop).trans ?_, fun q' hq' => ?_⟩
          · simp only [rst, hop, if_true, Bool.false_eq_true, if_false, List.reverse_cons]
            simp only [Bool.false_eq_true, if_false] at i2
            rw [addO_rdO _ _ _ _ (by rw [List.length_reverse]; omega), n3]
            rfl
          · cases hq'
            simp only [rst, hop, if_true, Bool.false_eq_true, if_false]
            refine ⟨fun _ => by simp, ?_⟩
            simp only [Bool.false_eq_true, if_false] at i2
            have := hmono k (nx h1 p3 k) (by omega)
            simp only [List.length_cons]
            omega
        | true =>
          match Q, i1 rfl with
          | (qb, ql) :: t, _ =>
            simp only [if_true, List.length_cons] at i2
            refine ⟨(key true hop).trans ?_, fun q' hq' => ?_⟩
            · simp only [rst, hop, if_true, List.reverse_cons]
              rw [lenO_rdO _ _ _ _ _ (by rw [List.length_reverse]; omega), n3]
              rfl
            · cases hq'
              simp only [rst, hop, if_true]
              refine ⟨fun _ => by simp, ?_⟩
              have := hmono k (nx h1 p3 k) (by omega)
              simp only [List.length_cons]
              omega)
    (fun kk q _ => by
      simp only [md_X6_read_0, mg_X6_read_0, lb_X6_read_11, mg_X6_read_11, md_X6_read_56, mg_X6_read_56, md_X6_read_61, mg_X6_read_61, md_X6_read_85, mg_X6_read_85, md_X6_read_101, mg_X6_read_101, hp3]
      rw [if_pos (by omega)]) wfu f 0 (false, []) (by omega) (by omega) (by rw [wfu_e]; omega) (by rw [wfu_e]; omega) ⟨fun z => by simp at z, by simp⟩
  refine this.trans ?_
  rw [wrun_fold, rnl_e]
  unfold rnlI
  rw [wls_e]
  rfl
noncomputable def g_X6_read : List AV → List Ob → Bool
  | [.inr (.inl (0, 0)), .inr (.inl (1, 0)), .inl p2, .inl p3], [h0, h1] => pd (RdG h1 p3)
  | _, _ => false
noncomputable def v_X6_read : List AV → List Ob → Rt
  | [.inr (.inl (0, 0)), .inr (.inl (1, 0)), .inl p2, .inl p3], [h0, h1] => (none, [(rdO h0 (rnl h1 p2 p3)), h1])
  | _, _ => (none, [])
theorem ct_X6_read : XCt yX6_read mX6_read (fun as μ => if g_X6_read as μ then some (v_X6_read as μ) else none) := (ctr_X6_read xfu).of (fun as μ r h => by
  split at h
  · rename_i hg
    unfold g_X6_read at hg
    split at hg
    · rw [← h]
      exact (eqf_X6_read xfu _ _ _ _).trans (sp_X6_read xfu (xfu_ge (by decide)) _ _ _ _ hg)
    · cases hg
  · cases h)
theorem dX6_cells_0 : decode cX6_cells 0 = .ok (.iconst 0, 1) := by decide +kernel
theorem dX6_cells_1 : decode cX6_cells 1 = .ok (.istore_n 1, 1) := by decide +kernel
theorem dX6_cells_2 : decode cX6_cells 2 = .ok (.iconst 0, 1) := by decide +kernel
theorem dX6_cells_3 : decode cX6_cells 3 = .ok (.istore_n 2, 1) := by decide +kernel
theorem dX6_cells_4 : decode cX6_cells 4 = .ok (.iload_n 2, 1) := by decide +kernel
theorem dX6_cells_5 : decode cX6_cells 5 = .ok (.aload_n 0, 1) := by decide +kernel
theorem dX6_cells_6 : decode cX6_cells 6 = .ok (.getfield 18, 3) := by decide +kernel
theorem dX6_cells_9 : decode cX6_cells 9 = .ok (.if_icmp .ge 18, 3) := by decide +kernel
theorem dX6_cells_12 : decode cX6_cells 12 = .ok (.iload_n 1, 1) := by decide +kernel
theorem dX6_cells_13 : decode cX6_cells 13 = .ok (.aload_n 0, 1) := by decide +kernel
theorem dX6_cells_14 : decode cX6_cells 14 = .ok (.getfield 15, 3) := by decide +kernel
theorem dX6_cells_17 : decode cX6_cells 17 = .ok (.iload_n 2, 1) := by decide +kernel
theorem dX6_cells_18 : decode cX6_cells 18 = .ok (.iaload, 1) := by decide +kernel
theorem dX6_cells_19 : decode cX6_cells 19 = .ok (.iadd, 1) := by decide +kernel
theorem dX6_cells_20 : decode cX6_cells 20 = .ok (.istore_n 1, 1) := by decide +kernel
theorem dX6_cells_21 : decode cX6_cells 21 = .ok (.iinc 2 1, 3) := by decide +kernel
theorem dX6_cells_24 : decode cX6_cells 24 = .ok (.goto (-20), 3) := by decide +kernel
theorem dX6_cells_27 : decode cX6_cells 27 = .ok (.iload_n 1, 1) := by decide +kernel
theorem dX6_cells_28 : decode cX6_cells 28 = .ok (.ireturn, 1) := by decide +kernel
abbrev mX6_cells : XM := (cX6_cells, 3, RX6, (some .int), shw_6, 0)
noncomputable def rg_X6_cells_0 (k4 : XK) : XK :=
 o_iconst 0 <|
 o_istore 1 <|
 o_iconst 0 <|
 o_istore 2 <|
 o_cut [] k4
def en_X6_cells_0 (h0 : Ob) (a : Unit) : XSt := ([some (.inr (.inl (0, 0))), none, none], [], [h0])
noncomputable def rg_X6_cells_4 (k4 : XK) : XK :=
 o_iload 2 <|
 o_aload 0 <|
 o_get shw_6 6 2 <|
 o_icmp_ge (o_iload 1 <|
 o_ireturn)
 (o_iload 1 <|
 o_aload 0 <|
 o_get shw_6 6 1 <|
 o_iload 2 <|
 o_iald shw_6 <|
 o_iadd <|
 o_istore 1 <|
 o_iinc 2 1 <|
 o_cut [] k4)
def en_X6_cells_4 (h0 : Ob) (a : Int × Int) : XSt := ([some (.inr (.inl (0, 0))), some (.inl a.1), some (.inl a.2)], [], [h0])
noncomputable def mg_X6_cells_0 (h0 : Ob) (k4 : (Int × Int) → Option Rt) (a : Unit) : Option Rt :=
 k4 (0, 0)
set_option maxRecDepth 100000 in
set_option maxHeartbeats 4000000 in
theorem rq_X6_cells_0 (h0 : Ob) (k4 : XK) (a : Unit) : rg_X6_cells_0 k4 (en_X6_cells_0 h0 a) = mg_X6_cells_0 h0 (fun b => k4 (en_X6_cells_4 h0 b)) a := rfl
set_option maxRecDepth 100000 in
set_option maxHeartbeats 4000000 in
theorem sg_X6_cells_0 {X : XDyn} {r0 : Rt} (C : XO X mX6_cells) {k4 : XK} (q4 : XS X mX6_cells r0 4 k4) : XS X mX6_cells r0 0 (rg_X6_cells_0 k4) := by
 unfold rg_X6_cells_0
 exact s_iconst (pc := 0) C dX6_cells_0 <|
    s_istore_n (pc := 1) C dX6_cells_1 rfl <|
    s_iconst (pc := 2) C dX6_cells_2 <|
    s_istore_n (pc := 3) C dX6_cells_3 rfl <|
    s_cut q4
noncomputable def mg_X6_cells_4 (h0 : Ob) (k4 : (Int × Int) → Option Rt) (a : Int × Int) : Option Rt :=
 if xw a.2 ≥ xw (h0 0 2) then (RI a.1 [h0])
 else (if xin a.2 12 then (
 k4 ((a.1 + (h0 2 (xw a.2).toNat)), (a.2 + 1))) else none)
set_option maxRecDepth 100000 in
set_option maxHeartbeats 4000000 in
theorem rq_X6_cells_4 (h0 : Ob) (k4 : XK) (a : Int × Int) : rg_X6_cells_4 k4 (en_X6_cells_4 h0 a) = mg_X6_cells_4 h0 (fun b => k4 (en_X6_cells_4 h0 b)) a := rfl
set_option maxRecDepth 100000 in
set_option maxHeartbeats 4000000 in
theorem sg_X6_cells_4 {X : XDyn} {r0 : Rt} (C : XO X mX6_cells) {k4 : XK} (q4 : XS X mX6_cells r0 4 k4) : XS X mX6_cells r0 4 (rg_X6_cells_4 k4) := by
 unfold rg_X6_cells_4
 exact s_iload_n (pc := 4) C dX6_cells_4 rfl <|
    s_aload_n (pc := 5) C dX6_cells_5 rfl <|
    s_get (pc := 6) C (ci := 6) (kf := 2) rfl inX6 (by decide) wd_203 dX6_cells_6 <|
    s_icmp_ge (pc := 9) C dX6_cells_9 (by decide) (s_iload_n (pc := 27) C dX6_cells_27 rfl <|
    s_ireturn (pc := 28) C rfl dX6_cells_28)
    (s_iload_n (pc := 12) C dX6_cells_12 rfl <|
    s_aload_n (pc := 13) C dX6_cells_13 rfl <|
    s_get (pc := 14) C (ci := 6) (kf := 1) rfl inX6 (by decide) wd_200 dX6_cells_14 <|
    s_iload_n (pc := 17) C dX6_cells_17 rfl <|
    s_iald (pc := 18) C dX6_cells_18 <|
    s_iadd (pc := 19) C dX6_cells_19 <|
    s_istore_n (pc := 20) C dX6_cells_20 rfl <|
    s_iinc (pc := 21) C dX6_cells_21 <|
    s_goto (pc := 24) C dX6_cells_24 (by decide) <|
    s_cut q4)
noncomputable def rw_X6_cells_4 (f : Nat) : XK := tlp (fun k4 => rg_X6_cells_4 k4) f
noncomputable def lb_X6_cells_4 (h0 : Ob) (f : Nat) : ((Int × Int) → Option Rt) → Int × Int → Option Rt := fun k4 => mg_X6_cells_4 h0 k4
noncomputable def md_X6_cells_4 (h0 : Ob) (f : Nat) : Int × Int → Option Rt := tlp (lb_X6_cells_4 h0 f) f
theorem eq_X6_cells_4 (h0 : Ob) (f : Nat) (a : Int × Int) : rw_X6_cells_4 f (en_X6_cells_4 h0 a) = md_X6_cells_4 h0 f a :=
 tlp_enc (en_X6_cells_4 h0) (fun k4 a => (rq_X6_cells_4 h0 k4 a).trans (congrFun (congr (rfl : mg_X6_cells_4 h0 = mg_X6_cells_4 h0) rfl) a)) f a
theorem sd_X6_cells_4 (f : Nat) {X : XDyn} {r0 : Rt} (C : XO X mX6_cells) : XS X mX6_cells r0 4 (rw_X6_cells_4 f) := s_lp (fun k4 q4 => sg_X6_cells_4 C q4) f
noncomputable def rw_X6_cells_0 (f : Nat) : XK := rg_X6_cells_0 (rw_X6_cells_4 f)
noncomputable def md_X6_cells_0 (h0 : Ob) (f : Nat) : Unit → Option Rt := mg_X6_cells_0 h0 (md_X6_cells_4 h0 f)
theorem eq_X6_cells_0 (h0 : Ob) (f : Nat) (a : Unit) : rw_X6_cells_0 f (en_X6_cells_0 h0 a) = md_X6_cells_0 h0 f a :=
 (rq_X6_cells_0 h0 (rw_X6_cells_4 f) a).trans (congrFun (congr (rfl : mg_X6_cells_0 h0 = mg_X6_cells_0 h0) (funext (eq_X6_cells_4 h0 f))) a)
theorem sd_X6_cells_0 (f : Nat) {X : XDyn} {r0 : Rt} (C : XO X mX6_cells) : XS X mX6_cells r0 0 (rw_X6_cells_0 f) := sg_X6_cells_0 C (sd_X6_cells_4 f C)
theorem ctr_X6_cells (f : Nat) : XCt yX6_cells mX6_cells (xF mX6_cells (rw_X6_cells_0 f)) := xMet (by decide +kernel) rfl (fun _ _ C => sd_X6_cells_0 f C)
theorem eqf_X6_cells (f : Nat) (h0 : Ob) : xF mX6_cells (rw_X6_cells_0 f) [.inr (.inl (0, 0))] [h0] = md_X6_cells_0 h0 f () := eq_X6_cells_0 h0 f ()
theorem yi_X6_cells : yX6_cells.cls = RX6 ∧ yX6_cells.cls ≠ "java/lang/invoke/MethodHandle" ∧ yX6_cells.cls ≠ "java/lang/invoke/VarHandle" ∧ (parseMethodDescriptor yX6_cells.desc).map (fun d => d.parameters.length) = some 0 := ⟨rfl, by decide +kernel, by decide +kernel, by decide +kernel⟩
theorem sp_X6_cells (f : Nat) (hf : 1000 ≤ f) (h0 : Ob) (hg : rk h0 = true) : md_X6_cells_0 h0 f () = RI (celR h0) [h0] := by
  obtain ⟨g1, g2⟩ := rk_iff.mp hg
  have hx : xw (h0 0 2) = h0 0 2 := xw_id (by omega) (by omega)
  show md_X6_cells_4 h0 f (0, 0) = _
  refine (loop_fold (h0 0 2).toNat _ (fun s => RI s [h0]) (fun i s => (s, (i : Int))) (fun _ _ => True) (fun k i s hi _ => ⟨?_, trivial⟩) (fun k s _ => ?_) f 0 (by omega) trivial).1
  · simp only [md_X6_cells_0, mg_X6_cells_0, lb_X6_cells_4, mg_X6_cells_4, xw_nat (show i < 2147483648 by omega), hx, xin_nat (show i < 12 by omega) (show 12 ≤ 2147483648 by omega), toNat_nat, if_true]
    rw [if_neg (by omega)]
    rfl
  · simp only [md_X6_cells_0, mg_X6_cells_0, lb_X6_cells_4, mg_X6_cells_4, hx, xw_nat (show (h0 0 2).toNat < 2147483648 by omega)]
    rw [if_pos (by omega)]
noncomputable def g_X6_cells : List AV → List Ob → Bool
  | [.inr (.inl (0, 0))], [h0] => rk h0
  | _, _ => false
noncomputable def v_X6_cells : List AV → List Ob → Rt
  | [.inr (.inl (0, 0))], [h0] => (some (.inl (celR h0)), [h0])
  | _, _ => (none, [])
theorem ct_X6_cells : XCt yX6_cells mX6_cells (fun as μ => if g_X6_cells as μ then some (v_X6_cells as μ) else none) := (ctr_X6_cells xfu).of (fun as μ r h => by
  split at h
  · rename_i hg
    unfold g_X6_cells at hg
    split at hg
    · rw [← h]
      exact (eqf_X6_cells xfu _).trans (sp_X6_cells xfu (xfu_ge (by decide)) _ hg)
    · cases hg
  · cases h)
theorem dX6_longest_0 : decode cX6_longest 0 = .ok (.iconst 0, 1) := by decide +kernel
theorem dX6_longest_1 : decode cX6_longest 1 = .ok (.istore_n 1, 1) := by decide +kernel
theorem dX6_longest_2 : decode cX6_longest 2 = .ok (.iconst 0, 1) := by decide +kernel
theorem dX6_longest_3 : decode cX6_longest 3 = .ok (.istore_n 2, 1) := by decide +kernel
theorem dX6_longest_4 : decode cX6_longest 4 = .ok (.iload_n 2, 1) := by decide +kernel
theorem dX6_longest_5 : decode cX6_longest 5 = .ok (.aload_n 0, 1) := by decide +kernel
theorem dX6_longest_6 : decode cX6_longest 6 = .ok (.getfield 18, 3) := by decide +kernel
theorem dX6_longest_9 : decode cX6_longest 9 = .ok (.if_icmp .ge 20, 3) := by decide +kernel
theorem dX6_longest_12 : decode cX6_longest 12 = .ok (.iload_n 1, 1) := by decide +kernel
theorem dX6_longest_13 : decode cX6_longest 13 = .ok (.aload_n 0, 1) := by decide +kernel
theorem dX6_longest_14 : decode cX6_longest 14 = .ok (.getfield 15, 3) := by decide +kernel
theorem dX6_longest_17 : decode cX6_longest 17 = .ok (.iload_n 2, 1) := by decide +kernel
theorem dX6_longest_18 : decode cX6_longest 18 = .ok (.iaload, 1) := by decide +kernel
theorem dX6_longest_19 : decode cX6_longest 19 = .ok (.invokestatic 28, 3) := by decide +kernel
theorem dX6_longest_22 : decode cX6_longest 22 = .ok (.istore_n 1, 1) := by decide +kernel
theorem dX6_longest_23 : decode cX6_longest 23 = .ok (.iinc 2 1, 3) := by decide +kernel
theorem dX6_longest_26 : decode cX6_longest 26 = .ok (.goto (-22), 3) := by decide +kernel
theorem dX6_longest_29 : decode cX6_longest 29 = .ok (.iload_n 1, 1) := by decide +kernel
theorem dX6_longest_30 : decode cX6_longest 30 = .ok (.ireturn, 1) := by decide +kernel
abbrev mX6_longest : XM := (cX6_longest, 3, RX6, (some .int), shw_6, 1)
noncomputable def rg_X6_longest_0 (k4 : XK) : XK :=
 o_iconst 0 <|
 o_istore 1 <|
 o_iconst 0 <|
 o_istore 2 <|
 o_cut [] k4
def en_X6_longest_0 (h0 : Ob) (a : Unit) : XSt := ([some (.inr (.inl (0, 0))), none, none], [], [h0])
noncomputable def rg_X6_longest_4 (k4 : XK) : XK :=
 o_iload 2 <|
 o_aload 0 <|
 o_get shw_6 6 2 <|
 o_icmp_ge (o_iload 1 <|
 o_ireturn)
 (o_iload 1 <|
 o_aload 0 <|
 o_get shw_6 6 1 <|
 o_iload 2 <|
 o_iald shw_6 <|
 o_max <|
 o_istore 1 <|
 o_iinc 2 1 <|
 o_cut [] k4)
def en_X6_longest_4 (h0 : Ob) (a : Int × Int) : XSt := ([some (.inr (.inl (0, 0))), some (.inl a.1), some (.inl a.2)], [], [h0])
noncomputable def mg_X6_longest_0 (h0 : Ob) (k4 : (Int × Int) → Option Rt) (a : Unit) : Option Rt :=
 k4 (0, 0)
set_option maxRecDepth 100000 in
set_option maxHeartbeats 4000000 in
theorem rq_X6_longest_0 (h0 : Ob) (k4 : XK) (a : Unit) : rg_X6_longest_0 k4 (en_X6_longest_0 h0 a) = mg_X6_longest_0 h0 (fun b => k4 (en_X6_longest_4 h0 b)) a := rfl
set_option maxRecDepth 100000 in
set_option maxHeartbeats 4000000 in
theorem sg_X6_longest_0 {X : XDyn} {r0 : Rt} (C : XO X mX6_longest) {k4 : XK} (q4 : XS X mX6_longest r0 4 k4) : XS X mX6_longest r0 0 (rg_X6_longest_0 k4) := by
 unfold rg_X6_longest_0
 exact s_iconst (pc := 0) C dX6_longest_0 <|
    s_istore_n (pc := 1) C dX6_longest_1 rfl <|
    s_iconst (pc := 2) C dX6_longest_2 <|
    s_istore_n (pc := 3) C dX6_longest_3 rfl <|
    s_cut q4
noncomputable def mg_X6_longest_4 (h0 : Ob) (k4 : (Int × Int) → Option Rt) (a : Int × Int) : Option Rt :=
 if xw a.2 ≥ xw (h0 0 2) then (RI a.1 [h0])
 else (if xin a.2 12 then (
 k4 ((xmax a.1 (h0 2 (xw a.2).toNat)), (a.2 + 1))) else none)
set_option maxRecDepth 100000 in
set_option maxHeartbeats 4000000 in
theorem rq_X6_longest_4 (h0 : Ob) (k4 : XK) (a : Int × Int) : rg_X6_longest_4 k4 (en_X6_longest_4 h0 a) = mg_X6_longest_4 h0 (fun b => k4 (en_X6_longest_4 h0 b)) a := rfl
set_option maxRecDepth 100000 in
set_option maxHeartbeats 4000000 in
theorem sg_X6_longest_4 {X : XDyn} {r0 : Rt} (C : XO X mX6_longest) {k4 : XK} (q4 : XS X mX6_longest r0 4 k4) : XS X mX6_longest r0 4 (rg_X6_longest_4 k4) := by
 unfold rg_X6_longest_4
 exact s_iload_n (pc := 4) C dX6_longest_4 rfl <|
    s_aload_n (pc := 5) C dX6_longest_5 rfl <|
    s_get (pc := 6) C (ci := 6) (kf := 2) rfl inX6 (by decide) wd_203 dX6_longest_6 <|
    s_icmp_ge (pc := 9) C dX6_longest_9 (by decide) (s_iload_n (pc := 29) C dX6_longest_29 rfl <|
    s_ireturn (pc := 30) C rfl dX6_longest_30)
    (s_iload_n (pc := 12) C dX6_longest_12 rfl <|
    s_aload_n (pc := 13) C dX6_longest_13 rfl <|
    s_get (pc := 14) C (ci := 6) (kf := 1) rfl inX6 (by decide) wd_200 dX6_longest_14 <|
    s_iload_n (pc := 17) C dX6_longest_17 rfl <|
    s_iald (pc := 18) C dX6_longest_18 <|
    s_max (pc := 19) C (by decide) wd_436 wd_402 wd_82 wd_403 dX6_longest_19 <|
    s_istore_n (pc := 22) C dX6_longest_22 rfl <|
    s_iinc (pc := 23) C dX6_longest_23 <|
    s_goto (pc := 26) C dX6_longest_26 (by decide) <|
    s_cut q4)
noncomputable def rw_X6_longest_4 (f : Nat) : XK := tlp (fun k4 => rg_X6_longest_4 k4) f
noncomputable def lb_X6_longest_4 (h0 : Ob) (f : Nat) : ((Int × Int) → Option Rt) → Int × Int → Option Rt := fun k4 => mg_X6_longest_4 h0 k4
noncomputable def md_X6_longest_4 (h0 : Ob) (f : Nat) : Int × Int → Option Rt := tlp (lb_X6_longest_4 h0 f) f
theorem eq_X6_longest_4 (h0 : Ob) (f : Nat) (a : Int × Int) : rw_X6_longest_4 f (en_X6_longest_4 h0 a) = md_X6_longest_4 h0 f a :=
 tlp_enc (en_X6_longest_4 h0) (fun k4 a => (rq_X6_longest_4 h0 k4 a).trans (congrFun (congr (rfl : mg_X6_longest_4 h0 = mg_X6_longest_4 h0) rfl) a)) f a
theorem sd_X6_longest_4 (f : Nat) {X : XDyn} {r0 : Rt} (C : XO X mX6_longest) : XS X mX6_longest r0 4 (rw_X6_longest_4 f) := s_lp (fun k4 q4 => sg_X6_longest_4 C q4) f
noncomputable def rw_X6_longest_0 (f : Nat) : XK := rg_X6_longest_0 (rw_X6_longest_4 f)
noncomputable def md_X6_longest_0 (h0 : Ob) (f : Nat) : Unit → Option Rt := mg_X6_longest_0 h0 (md_X6_longest_4 h0 f)
theorem eq_X6_longest_0 (h0 : Ob) (f : Nat) (a : Unit) : rw_X6_longest_0 f (en_X6_longest_0 h0 a) = md_X6_longest_0 h0 f a :=
 (rq_X6_longest_0 h0 (rw_X6_longest_4 f) a).trans (congrFun (congr (rfl : mg_X6_longest_0 h0 = mg_X6_longest_0 h0) (funext (eq_X6_longest_4 h0 f))) a)
theorem sd_X6_longest_0 (f : Nat) {X : XDyn} {r0 : Rt} (C : XO X mX6_longest) : XS X mX6_longest r0 0 (rw_X6_longest_0 f) := sg_X6_longest_0 C (sd_X6_longest_4 f C)
theorem ctr_X6_longest (f : Nat) : XCt yX6_longest mX6_longest (xF mX6_longest (rw_X6_longest_0 f)) := xMet (by decide +kernel) rfl (fun _ _ C => sd_X6_longest_0 f C)
theorem eqf_X6_longest (f : Nat) (h0 : Ob) : xF mX6_longest (rw_X6_longest_0 f) [.inr (.inl (0, 0))] [h0] = md_X6_longest_0 h0 f () := eq_X6_longest_0 h0 f ()
theorem yi_X6_longest : yX6_longest.cls = RX6 ∧ yX6_longest.cls ≠ "java/lang/invoke/MethodHandle" ∧ yX6_longest.cls ≠ "java/lang/invoke/VarHandle" ∧ (parseMethodDescriptor yX6_longest.desc).map (fun d => d.parameters.length) = some 0 := ⟨rfl, by decide +kernel, by decide +kernel, by decide +kernel⟩
theorem sp_X6_longest (f : Nat) (hf : 1000 ≤ f) (h0 : Ob) (hg : rk h0 = true) : md_X6_longest_0 h0 f () = RI (lonR h0) [h0] := by
  obtain ⟨g1, g2⟩ := rk_iff.mp hg
  have hx : xw (h0 0 2) = h0 0 2 := xw_id (by omega) (by omega)
  show md_X6_longest_4 h0 f (0, 0) = _
  refine (loop_fold (h0 0 2).toNat _ (fun s => RI s [h0]) (fun i s => (s, (i : Int))) (fun _ _ => True) (fun k i s hi _ => ⟨?_, trivial⟩) (fun k s _ => ?_) f 0 (by omega) trivial).1
  · simp only [md_X6_longest_0, mg_X6_longest_0, lb_X6_longest_4, mg_X6_longest_4, xw_nat (show i < 2147483648 by omega), hx, xin_nat (show i < 12 by omega) (show 12 ≤ 2147483648 by omega), toNat_nat, if_true]
    rw [if_neg (by omega)]
    rfl
  · simp only [md_X6_longest_0, mg_X6_longest_0, lb_X6_longest_4, mg_X6_longest_4, hx, xw_nat (show (h0 0 2).toNat < 2147483648 by omega)]
    rw [if_pos (by omega)]
noncomputable def g_X6_longest : List AV → List Ob → Bool
  | [.inr (.inl (0, 0))], [h0] => rk h0
  | _, _ => false
noncomputable def v_X6_longest : List AV → List Ob → Rt
  | [.inr (.inl (0, 0))], [h0] => (some (.inl (lonR h0)), [h0])
  | _, _ => (none, [])
theorem ct_X6_longest : XCt yX6_longest mX6_longest (fun as μ => if g_X6_longest as μ then some (v_X6_longest as μ) else none) := (ctr_X6_longest xfu).of (fun as μ r h => by
  split at h
  · rename_i hg
    unfold g_X6_longest at hg
    split at hg
    · rw [← h]
      exact (eqf_X6_longest xfu _).trans (sp_X6_longest xfu (xfu_ge (by decide)) _ hg)
    · cases hg
  · cases h)
theorem dX6_runWith_0 : decode cX6_runWith 0 = .ok (.iconst 0, 1) := by decide +kernel
theorem dX6_runWith_1 : decode cX6_runWith 1 = .ok (.istore_n 2, 1) := by decide +kernel
theorem dX6_runWith_2 : decode cX6_runWith 2 = .ok (.iload_n 2, 1) := by decide +kernel
theorem dX6_runWith_3 : decode cX6_runWith 3 = .ok (.aload_n 0, 1) := by decide +kernel
theorem dX6_runWith_4 : decode cX6_runWith 4 = .ok (.getfield 18, 3) := by decide +kernel
theorem dX6_runWith_7 : decode cX6_runWith 7 = .ok (.if_icmp .ge 38, 3) := by decide +kernel
theorem dX6_runWith_10 : decode cX6_runWith 10 = .ok (.iload_n 1, 1) := by decide +kernel
theorem dX6_runWith_11 : decode cX6_runWith 11 = .ok (.aload_n 0, 1) := by decide +kernel
theorem dX6_runWith_12 : decode cX6_runWith 12 = .ok (.getfield 9, 3) := by decide +kernel
theorem dX6_runWith_15 : decode cX6_runWith 15 = .ok (.iload_n 2, 1) := by decide +kernel
theorem dX6_runWith_16 : decode cX6_runWith 16 = .ok (.iaload, 1) := by decide +kernel
theorem dX6_runWith_17 : decode cX6_runWith 17 = .ok (.if_icmp .lt 22, 3) := by decide +kernel
theorem dX6_runWith_20 : decode cX6_runWith 20 = .ok (.iload_n 1, 1) := by decide +kernel
theorem dX6_runWith_21 : decode cX6_runWith 21 = .ok (.aload_n 0, 1) := by decide +kernel
theorem dX6_runWith_22 : decode cX6_runWith 22 = .ok (.getfield 9, 3) := by decide +kernel
theorem dX6_runWith_25 : decode cX6_runWith 25 = .ok (.iload_n 2, 1) := by decide +kernel
theorem dX6_runWith_26 : decode cX6_runWith 26 = .ok (.iaload, 1) := by decide +kernel
theorem dX6_runWith_27 : decode cX6_runWith 27 = .ok (.aload_n 0, 1) := by decide +kernel
theorem dX6_runWith_28 : decode cX6_runWith 28 = .ok (.getfield 15, 3) := by decide +kernel
theorem dX6_runWith_31 : decode cX6_runWith 31 = .ok (.iload_n 2, 1) := by decide +kernel
theorem dX6_runWith_32 : decode cX6_runWith 32 = .ok (.iaload, 1) := by decide +kernel
theorem dX6_runWith_33 : decode cX6_runWith 33 = .ok (.iadd, 1) := by decide +kernel
theorem dX6_runWith_34 : decode cX6_runWith 34 = .ok (.if_icmp .ge 5, 3) := by decide +kernel
theorem dX6_runWith_37 : decode cX6_runWith 37 = .ok (.iload_n 2, 1) := by decide +kernel
theorem dX6_runWith_38 : decode cX6_runWith 38 = .ok (.ireturn, 1) := by decide +kernel
theorem dX6_runWith_39 : decode cX6_runWith 39 = .ok (.iinc 2 1, 3) := by decide +kernel
theorem dX6_runWith_42 : decode cX6_runWith 42 = .ok (.goto (-40), 3) := by decide +kernel
theorem dX6_runWith_45 : decode cX6_runWith 45 = .ok (.iconst (-1), 1) := by decide +kernel
theorem dX6_runWith_46 : decode cX6_runWith 46 = .ok (.ireturn, 1) := by decide +kernel
abbrev mX6_runWith : XM := (cX6_runWith, 3, RX6, (some .int), shw_6, 0)
noncomputable def rg_X6_runWith_0 (k2 : XK) : XK :=
 o_iconst 0 <|
 o_istore 2 <|
 o_cut [] k2
def en_X6_runWith_0 (p1 : Int) (h0 : Ob) (a : Unit) : XSt := ([some (.inr (.inl (0, 0))), some (.inl p1), none], [], [h0])
noncomputable def rg_X6_runWith_2 (k39 : XK) : XK :=
 o_iload 2 <|
 o_aload 0 <|
 o_get shw_6 6 2 <|
 o_icmp_ge (o_iconst (-1) <|
 o_ireturn)
 (o_iload 1 <|
 o_aload 0 <|
 o_get shw_6 6 0 <|
 o_iload 2 <|
 o_iald shw_6 <|
 o_icmp_lt (o_cut [] k39)
 (o_iload 1 <|
 o_aload 0 <|
 o_get shw_6 6 0 <|
 o_iload 2 <|
 o_iald shw_6 <|
 o_aload 0 <|
 o_get shw_6 6 1 <|
 o_iload 2 <|
 o_iald shw_6 <|
 o_iadd <|
 o_icmp_ge (o_cut [] k39)
 (o_iload 2 <|
 o_ireturn)))
def en_X6_runWith_2 (p1 : Int) (h0 : Ob) (a : Int) : XSt := ([some (.inr (.inl (0, 0))), some (.inl p1), some (.inl a)], [], [h0])
noncomputable def rg_X6_runWith_39 (k2 : XK) : XK :=
 o_iinc 2 1 <|
 o_cut [] k2
def en_X6_runWith_39 (p1 : Int) (h0 : Ob) (a : Int) : XSt := ([some (.inr (.inl (0, 0))), some (.inl p1), some (.inl a)], [], [h0])
noncomputable def mg_X6_runWith_0 (p1 : Int) (h0 : Ob) (k2 : Int → Option Rt) (a : Unit) : Option Rt :=
 k2 0
set_option maxRecDepth 100000 in
set_option maxHeartbeats 4000000 in
theorem rq_X6_runWith_0 (p1 : Int) (h0 : Ob) (k2 : XK) (a : Unit) : rg_X6_runWith_0 k2 (en_X6_runWith_0 p1 h0 a) = mg_X6_runWith_0 p1 h0 (fun b => k2 (en_X6_runWith_2 p1 h0 b)) a := rfl
set_option maxRecDepth 100000 in
set_option maxHeartbeats 4000000 in
theorem sg_X6_runWith_0 {X : XDyn} {r0 : Rt} (C : XO X mX6_runWith) {k2 : XK} (q2 : XS X mX6_runWith r0 2 k2) : XS X mX6_runWith r0 0 (rg_X6_runWith_0 k2) := by
 unfold rg_X6_runWith_0
 exact s_iconst (pc := 0) C dX6_runWith_0 <|
    s_istore_n (pc := 1) C dX6_runWith_1 rfl <|
    s_cut q2
noncomputable def mg_X6_runWith_2 (p1 : Int) (h0 : Ob) (k39 : Int → Option Rt) (a : Int) : Option Rt :=
 if xw a ≥ xw (h0 0 2) then (RI (-1) [h0])
 else (if xin a 12 then (
 if xw p1 < xw (h0 1 (xw a).toNat) then (k39 a)
 else (if xin a 12 then (
 if xin a 12 then (
 if xw p1 ≥ xw ((h0 1 (xw a).toNat) + (h0 2 (xw a).toNat)) then (k39 a)
 else (RI a [h0])) else none) else none)) else none)
set_option maxRecDepth 100000 in
set_option maxHeartbeats 4000000 in
theorem rq_X6_runWith_2 (p1 : Int) (h0 : Ob) (k39 : XK) (a : Int) : rg_X6_runWith_2 k39 (en_X6_runWith_2 p1 h0 a) = mg_X6_runWith_2 p1 h0 (fun b => k39 (en_X6_runWith_39 p1 h0 b)) a := rfl
set_option maxRecDepth 100000 in
set_option maxHeartbeats 4000000 in
theorem sg_X6_runWith_2 {X : XDyn} {r0 : Rt} (C : XO X mX6_runWith) {k39 : XK} (q39 : XS X mX6_runWith r0 39 k39) : XS X mX6_runWith r0 2 (rg_X6_runWith_2 k39) := by
 unfold rg_X6_runWith_2
 exact s_iload_n (pc := 2) C dX6_runWith_2 rfl <|
    s_aload_n (pc := 3) C dX6_runWith_3 rfl <|
    s_get (pc := 4) C (ci := 6) (kf := 2) rfl inX6 (by decide) wd_203 dX6_runWith_4 <|
    s_icmp_ge (pc := 7) C dX6_runWith_7 (by decide) (s_iconst (pc := 45) C dX6_runWith_45 <|
    s_ireturn (pc := 46) C rfl dX6_runWith_46)
    (s_iload_n (pc := 10) C dX6_runWith_10 rfl <|
    s_aload_n (pc := 11) C dX6_runWith_11 rfl <|
    s_get (pc := 12) C (ci := 6) (kf := 0) rfl inX6 (by decide) wd_197 dX6_runWith_12 <|
    s_iload_n (pc := 15) C dX6_runWith_15 rfl <|
    s_iald (pc := 16) C dX6_runWith_16 <|
    s_icmp_lt (pc := 17) C dX6_runWith_17 (by decide) (s_cut q39)
    (s_iload_n (pc := 20) C dX6_runWith_20 rfl <|
    s_aload_n (pc := 21) C dX6_runWith_21 rfl <|
    s_get (pc := 22) C (ci := 6) (kf := 0) rfl inX6 (by decide) wd_197 dX6_runWith_22 <|
    s_iload_n (pc := 25) C dX6_runWith_25 rfl <|
    s_iald (pc := 26) C dX6_runWith_26 <|
    s_aload_n (pc := 27) C dX6_runWith_27 rfl <|
    s_get (pc := 28) C (ci := 6) (kf := 1) rfl inX6 (by decide) wd_200 dX6_runWith_28 <|
    s_iload_n (pc := 31) C dX6_runWith_31 rfl <|
    s_iald (pc := 32) C dX6_runWith_32 <|
    s_iadd (pc := 33) C dX6_runWith_33 <|
    s_icmp_ge (pc := 34) C dX6_runWith_34 (by decide) (s_cut q39)
    (s_iload_n (pc := 37) C dX6_runWith_37 rfl <|
    s_ireturn (pc := 38) C rfl dX6_runWith_38)))
noncomputable def mg_X6_runWith_39 (p1 : Int) (h0 : Ob) (k2 : Int → Option Rt) (a : Int) : Option Rt :=
 k2 (a + 1)
set_option maxRecDepth 100000 in
set_option maxHeartbeats 4000000 in
theorem rq_X6_runWith_39 (p1 : Int) (h0 : Ob) (k2 : XK) (a : Int) : rg_X6_runWith_39 k2 (en_X6_runWith_39 p1 h0 a) = mg_X6_runWith_39 p1 h0 (fun b => k2 (en_X6_runWith_2 p1 h0 b)) a := rfl
set_option maxRecDepth 100000 in
set_option maxHeartbeats 4000000 in
theorem sg_X6_runWith_39 {X : XDyn} {r0 : Rt} (C : XO X mX6_runWith) {k2 : XK} (q2 : XS X mX6_runWith r0 2 k2) : XS X mX6_runWith r0 39 (rg_X6_runWith_39 k2) := by
 unfold rg_X6_runWith_39
 exact s_iinc (pc := 39) C dX6_runWith_39 <|
    s_goto (pc := 42) C dX6_runWith_42 (by decide) <|
    s_cut q2
noncomputable def rw_X6_runWith_39 (f : Nat) (k2 : XK) : XK := rg_X6_runWith_39 k2
noncomputable def md_X6_runWith_39 (p1 : Int) (h0 : Ob) (f : Nat) (k2 : Int → Option Rt) : Int → Option Rt := mg_X6_runWith_39 p1 h0 k2
theorem eq_X6_runWith_39 (p1 : Int) (h0 : Ob) (f : Nat) (k2 : XK) (a : Int) : rw_X6_runWith_39 f k2 (en_X6_runWith_39 p1 h0 a) = md_X6_runWith_39 p1 h0 f (fun b => k2 (en_X6_runWith_2 p1 h0 b)) a :=
 (rq_X6_runWith_39 p1 h0 k2 a).trans (congrFun (congr (rfl : mg_X6_runWith_39 p1 h0 = mg_X6_runWith_39 p1 h0) rfl) a)
theorem sd_X6_runWith_39 (f : Nat) {X : XDyn} {r0 : Rt} (C : XO X mX6_runWith) {k2 : XK} (q2 : XS X mX6_runWith r0 2 k2) : XS X mX6_runWith r0 39 (rw_X6_runWith_39 f k2) := sg_X6_runWith_39 C q2
noncomputable def rw_X6_runWith_2 (f : Nat) : XK := tlp (fun k2 => rg_X6_runWith_2 (rw_X6_runWith_39 f k2)) f
noncomputable def lb_X6_runWith_2 (p1 : Int) (h0 : Ob) (f : Nat) : ((Int) → Option Rt) → Int → Option Rt := fun k2 => mg_X6_runWith_2 p1 h0 (md_X6_runWith_39 p1 h0 f k2)
noncomputable def md_X6_runWith_2 (p1 : Int) (h0 : Ob) (f : Nat) : Int → Option Rt := tlp (lb_X6_runWith_2 p1 h0 f) f
theorem eq_X6_runWith_2 (p1 : Int) (h0 : Ob) (f : Nat) (a : Int) : rw_X6_runWith_2 f (en_X6_runWith_2 p1 h0 a) = md_X6_runWith_2 p1 h0 f a :=
 tlp_enc (en_X6_runWith_2 p1 h0) (fun k2 a => (rq_X6_runWith_2 p1 h0 (rw_X6_runWith_39 f k2) a).trans (congrFun (congr (rfl : mg_X6_runWith_2 p1 h0 = mg_X6_runWith_2 p1 h0) (funext (eq_X6_runWith_39 p1 h0 f k2))) a)) f a
theorem sd_X6_runWith_2 (f : Nat) {X : XDyn} {r0 : Rt} (C : XO X mX6_runWith) : XS X mX6_runWith r0 2 (rw_X6_runWith_2 f) := s_lp (fun k2 q2 => sg_X6_runWith_2 C (sd_X6_runWith_39 f C q2)) f
noncomputable def rw_X6_runWith_0 (f : Nat) : XK := rg_X6_runWith_0 (rw_X6_runWith_2 f)
noncomputable def md_X6_runWith_0 (p1 : Int) (h0 : Ob) (f : Nat) : Unit → Option Rt := mg_X6_runWith_0 p1 h0 (md_X6_runWith_2 p1 h0 f)
theorem eq_X6_runWith_0 (p1 : Int) (h0 : Ob) (f : Nat) (a : Unit) : rw_X6_runWith_0 f (en_X6_runWith_0 p1 h0 a) = md_X6_runWith_0 p1 h0 f a :=
 (rq_X6_runWith_0 p1 h0 (rw_X6_runWith_2 f) a).trans (congrFun (congr (rfl : mg_X6_runWith_0 p1 h0 = mg_X6_runWith_0 p1 h0) (funext (eq_X6_runWith_2 p1 h0 f))) a)
theorem sd_X6_runWith_0 (f : Nat) {X : XDyn} {r0 : Rt} (C : XO X mX6_runWith) : XS X mX6_runWith r0 0 (rw_X6_runWith_0 f) := sg_X6_runWith_0 C (sd_X6_runWith_2 f C)
theorem ctr_X6_runWith (f : Nat) : XCt yX6_runWith mX6_runWith (xF mX6_runWith (rw_X6_runWith_0 f)) := xMet (by decide +kernel) rfl (fun _ _ C => sd_X6_runWith_0 f C)
theorem eqf_X6_runWith (f : Nat) (p1 : Int) (h0 : Ob) : xF mX6_runWith (rw_X6_runWith_0 f) [.inr (.inl (0, 0)), .inl p1] [h0] = md_X6_runWith_0 p1 h0 f () := eq_X6_runWith_0 p1 h0 f ()
theorem yi_X6_runWith : yX6_runWith.cls = RX6 ∧ yX6_runWith.cls ≠ "java/lang/invoke/MethodHandle" ∧ yX6_runWith.cls ≠ "java/lang/invoke/VarHandle" ∧ (parseMethodDescriptor yX6_runWith.desc).map (fun d => d.parameters.length) = some 1 := ⟨rfl, by decide +kernel, by decide +kernel, by decide +kernel⟩
theorem sp_X6_runWith (f : Nat) (hf : 1000 ≤ f) (p1 : Int) (h0 : Ob) (hg : rk h0 = true) : md_X6_runWith_0 p1 h0 f () = RI (rwF h0 p1) [h0] := by
  obtain ⟨g1, g2⟩ := rk_iff.mp hg
  have hx : xw (h0 0 2) = h0 0 2 := xw_id (by omega) (by omega)
  show md_X6_runWith_2 p1 h0 f 0 = _
  refine loop_find (h0 0 2).toNat _ (fun r => RI r [h0]) (fun i => (i : Int)) (fun k i hi => ?_) (fun k => ?_) f (by omega)
  · simp only [md_X6_runWith_0, mg_X6_runWith_0, lb_X6_runWith_2, mg_X6_runWith_2, md_X6_runWith_39, mg_X6_runWith_39, xw_nat (show i < 2147483648 by omega), hx, xin_nat (show i < 12 by omega) (show 12 ≤ 2147483648 by omega), toNat_nat, if_true]
    rw [if_neg (by omega)]
    by_cases h1 : xw (h0 1 i) ≤ xw p1
    · by_cases h2 : xw p1 < xw (h0 1 i + h0 2 i)
      · rw [if_neg (by omega), if_neg (by omega)]
        simp [h1, h2]
      · rw [if_neg (by omega), if_pos (by omega)]
        simp [h1, h2]
    · rw [if_pos (by omega)]
      simp [h1]
  · simp only [md_X6_runWith_0, mg_X6_runWith_0, lb_X6_runWith_2, mg_X6_runWith_2, md_X6_runWith_39, mg_X6_runWith_39, hx, xw_nat (show (h0 0 2).toNat < 2147483648 by omega)]
    rw [if_pos (by omega)]
noncomputable def g_X6_runWith : List AV → List Ob → Bool
  | [.inr (.inl (0, 0)), .inl p1], [h0] => rk h0
  | _, _ => false
noncomputable def v_X6_runWith : List AV → List Ob → Rt
  | [.inr (.inl (0, 0)), .inl p1], [h0] => (some (.inl (rwF h0 p1)), [h0])
  | _, _ => (none, [])
theorem ct_X6_runWith : XCt yX6_runWith mX6_runWith (fun as μ => if g_X6_runWith as μ then some (v_X6_runWith as μ) else none) := (ctr_X6_runWith xfu).of (fun as μ r h => by
  split at h
  · rename_i hg
    unfold g_X6_runWith at hg
    split at hg
    · rw [← h]
      exact (eqf_X6_runWith xfu _ _).trans (sp_X6_runWith xfu (xfu_ge (by decide)) _ _ hg)
    · cases hg
  · cases h)
