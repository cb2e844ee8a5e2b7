def hdl (a : Int) : Bool := decide (0 ≤ xw a) && decide (xw a < 8)
def siz (a : Int) : Bool := decide (1 ≤ xw a) && decide (xw a ≤ 60)
def ask (a : Int) : Bool := decide (1 ≤ xw a) && decide (xw a ≤ 199)
def ask0 (a : Int) : Bool := decide (xw a = 0) || ask a
def inS (s a : Int) : Bool := hdl a && decide (xw (xand (xshr s a) 1) = 1)
def ownF (x : Int) : Int := if xw x = -1 then 0 else if xw x < 8 then 1 + x else 33 + x - 8
def holF (x : Int) : Int := if 1 ≤ xw x ∧ xw x < 9 then x - 1 else if 33 ≤ xw x ∧ xw x < 36 then 8 + x - 33 else -1
def ful (h : Ob) (a : Int) : Bool := hdl a && !decide (xw (h 1 (xw a).toNat) = -1)
def mov (h : Ob) (a : Int) : Bool := ful h a && decide (xw (h 4 (xw a).toNat) = 0)
def isl (h : Ob) (a : Int) : Bool := decide (0 ≤ xw a) && decide (xw a < 3) && !decide (xw (h 1 (xw (8 + a)).toNat) = -1)
def knd (h : Ob) (a : Int) : Int := if inS (h 0 7) a then (if ful h a then 1 else 2) else 0
def isc (h : Ob) (a : Int) : Bool := decide (0 ≤ xw a) && decide (xw a < xw (h 0 9))
def holI (h : Ob) (a : Int) : Int := lfind (fun i => decide (xw (h 1 i) = xw a)) 11
noncomputable def hol : Ob → Int → Int := xop holI
theorem hol_e (h : Ob) (a : Int) : hol h a = holI h a := congrFun (congrFun (xop_eq holI) h) a
def nxtI (h : Ob) (a e : Int) : Int := match (List.range 11).find? (fun i => decide (xw (h 1 i) = xw a)) with
  | some i => a + h 2 i + 1
  | none => (List.range 11).foldl (fun e i => if xw a < xw (h 1 i) ∧ xw (h 1 i) < xw e then h 1 i else e) e
noncomputable def nxt : Ob → Int → Int → Int := xop nxtI
theorem nxt_e (h : Ob) (a e : Int) : nxt h a e = nxtI h a e := congrFun (congrFun (congrFun (xop_eq nxtI) h) a) e
def ffuI (h : Ob) : Int := lfind (fun i => !inS (h 0 7) (i : Int)) 8
noncomputable def ffu : Ob → Int := xop ffuI
theorem ffu_e (h : Ob) : ffu h = ffuI h := congrFun (xop_eq ffuI) h
def ffpI (h : Ob) : Int := lfind (fun i => !isl h (i : Int)) 3
noncomputable def ffp : Ob → Int := xop ffpI
theorem ffp_e (h : Ob) : ffp h = ffpI h := congrFun (xop_eq ffpI) h
theorem hdl_nat {i : Nat} (h : i < 8) : hdl (i : Int) = true := by
  unfold hdl
  rw [xw_nat (by omega)]
  simp; omega
theorem dX7_isHandle_0 : decode cX7_isHandle 0 = .ok (.iload_n 0, 1) := by decide +kernel
theorem dX7_isHandle_1 : decode cX7_isHandle 1 = .ok (.ifCond .lt 13, 3) := by decide +kernel
theorem dX7_isHandle_4 : decode cX7_isHandle 4 = .ok (.iload_n 0, 1) := by decide +kernel
theorem dX7_isHandle_5 : decode cX7_isHandle 5 = .ok (.bipush 8, 2) := by decide +kernel
theorem dX7_isHandle_7 : decode cX7_isHandle 7 = .ok (.if_icmp .ge 7, 3) := by decide +kernel
theorem dX7_isHandle_10 : decode cX7_isHandle 10 = .ok (.iconst 1, 1) := by decide +kernel
theorem dX7_isHandle_11 : decode cX7_isHandle 11 = .ok (.goto 4, 3) := by decide +kernel
theorem dX7_isHandle_14 : decode cX7_isHandle 14 = .ok (.iconst 0, 1) := by decide +kernel
theorem dX7_isHandle_15 : decode cX7_isHandle 15 = .ok (.ireturn, 1) := by decide +kernel
abbrev mX7_isHandle : XM := (cX7_isHandle, 1, RX7, (some .boolean), shw_, 0)
noncomputable def rg_X7_isHandle_0 : XK :=
 o_iload 0 <|
 o_if_lt (o_iconst 0 <|
 o_zreturn)
 (o_iload 0 <|
 o_iconst 8 <|
 o_icmp_ge (o_iconst 0 <|
 o_zreturn)
 (o_iconst 1 <|
 o_zreturn))
def en_X7_isHandle_0 (p0 : Int) (a : Unit) : XSt := ([some (.inl p0)], [], [])
noncomputable def mg_X7_isHandle_0 (p0 : Int) (a : Unit) : Option Rt :=
 if xw p0 < 0 then (RI 0 [])
 else (if xw p0 ≥ 8 then (RI 0 [])
 else (RI 1 []))
set_option maxRecDepth 100000 in
set_option maxHeartbeats 4000000 in
theorem rq_X7_isHandle_0 (p0 : Int) (a : Unit) : rg_X7_isHandle_0 (en_X7_isHandle_0 p0 a) = mg_X7_isHandle_0 p0 a := rfl
set_option maxRecDepth 100000 in
set_option maxHeartbeats 4000000 in
theorem sg_X7_isHandle_0 {X : XDyn} {r0 : Rt} (C : XO X mX7_isHandle) : XS X mX7_isHandle r0 0 (rg_X7_isHandle_0) := by
 unfold rg_X7_isHandle_0
 exact s_iload_n (pc := 0) C dX7_isHandle_0 rfl <|
    s_if_lt (pc := 1) C dX7_isHandle_1 (by decide) (s_iconst (pc := 14) C dX7_isHandle_14 <|
    s_zreturn (pc := 15) C rfl dX7_isHandle_15)
    (s_iload_n (pc := 4) C dX7_isHandle_4 rfl <|
    s_bipush (pc := 5) C dX7_isHandle_5 (by decide) <|
    s_icmp_ge (pc := 7) C dX7_isHandle_7 (by decide) (s_iconst (pc := 14) C dX7_isHandle_14 <|
    s_zreturn (pc := 15) C rfl dX7_isHandle_15)
    (s_iconst (pc := 10) C dX7_isHandle_10 <|
    s_goto (pc := 11) C dX7_isHandle_11 (by decide) <|
    s_zreturn (pc := 15) C rfl dX7_isHandle_15))
noncomputable def rw_X7_isHandle_0 : XK := rg_X7_isHandle_0
noncomputable def md_X7_isHandle_0 (p0 : Int) : Unit → Option Rt := mg_X7_isHandle_0 p0
theorem eq_X7_isHandle_0 (p0 : Int) (a : Unit) : rw_X7_isHandle_0 (en_X7_isHandle_0 p0 a) = md_X7_isHandle_0 p0 a :=
 rq_X7_isHandle_0 p0 a
theorem sd_X7_isHandle_0 {X : XDyn} {r0 : Rt} (C : XO X mX7_isHandle) : XS X mX7_isHandle r0 0 (rw_X7_isHandle_0) := sg_X7_isHandle_0 C
theorem ctr_X7_isHandle : XCt yX7_isHandle mX7_isHandle (xF mX7_isHandle (rw_X7_isHandle_0)) := xMet (by decide +kernel) rfl (fun _ _ C => sd_X7_isHandle_0 C)
theorem eqf_X7_isHandle (p0 : Int) : xF mX7_isHandle (rw_X7_isHandle_0) [.inl p0] [] = md_X7_isHandle_0 p0 () := eq_X7_isHandle_0 p0 ()
theorem yi_X7_isHandle : yX7_isHandle.cls ≠ "java/lang/invoke/MethodHandle" ∧ yX7_isHandle.cls ≠ "java/lang/invoke/VarHandle" ∧ (parseMethodDescriptor yX7_isHandle.desc).map (fun d => d.parameters.length) = some 1 := ⟨by decide +kernel, by decide +kernel, by decide +kernel⟩
theorem sp_X7_isHandle (p0 : Int) : md_X7_isHandle_0 p0 () = RI (bz (hdl p0)) [] := by
  simp only [md_X7_isHandle_0, mg_X7_isHandle_0]
  cases hB : (hdl p0)
  all_goals (try simp only [hdl, Bool.and_eq_true, Bool.or_eq_true, Bool.not_eq_true', Bool.not_eq_true, Bool.and_eq_false_iff, Bool.or_eq_false_iff, Bool.not_eq_false', Bool.not_eq_eq_eq_not, Bool.not_true, Bool.not_false, decide_eq_true_eq, decide_eq_false_iff_not] at hB)
  all_goals (repeat' split)
  all_goals first
    | rfl
    | (exfalso; (try simp only [xin, Bool.and_eq_true, Bool.or_eq_true, Bool.not_eq_true', Bool.not_eq_true, Bool.and_eq_false_iff, Bool.or_eq_false_iff, Bool.not_eq_false', Bool.not_eq_eq_eq_not, Bool.not_true, Bool.not_false, decide_eq_true_eq, decide_eq_false_iff_not] at *); omega)
noncomputable def f_X7_isHandle : List AV → List Ob → Option Rt
  | [.inl p0], [] => some (some (.inl (bz (hdl p0))), [])
  | _, _ => none
theorem ct_X7_isHandle : XCt yX7_isHandle mX7_isHandle f_X7_isHandle := (ctr_X7_isHandle ).of (fun as μ r h => by
  unfold f_X7_isHandle at h
  split at h
  · rw [← h]
    exact (eqf_X7_isHandle _).trans (sp_X7_isHandle _)
  · cases h)
theorem dX7_isSize_0 : decode cX7_isSize 0 = .ok (.iload_n 0, 1) := by decide +kernel
theorem dX7_isSize_1 : decode cX7_isSize 1 = .ok (.iconst 1, 1) := by decide +kernel
theorem dX7_isSize_2 : decode cX7_isSize 2 = .ok (.if_icmp .lt 13, 3) := by decide +kernel
theorem dX7_isSize_5 : decode cX7_isSize 5 = .ok (.iload_n 0, 1) := by decide +kernel
theorem dX7_isSize_6 : decode cX7_isSize 6 = .ok (.bipush 60, 2) := by decide +kernel
theorem dX7_isSize_8 : decode cX7_isSize 8 = .ok (.if_icmp .gt 7, 3) := by decide +kernel
theorem dX7_isSize_11 : decode cX7_isSize 11 = .ok (.iconst 1, 1) := by decide +kernel
theorem dX7_isSize_12 : decode cX7_isSize 12 = .ok (.goto 4, 3) := by decide +kernel
theorem dX7_isSize_15 : decode cX7_isSize 15 = .ok (.iconst 0, 1) := by decide +kernel
theorem dX7_isSize_16 : decode cX7_isSize 16 = .ok (.ireturn, 1) := by decide +kernel
abbrev mX7_isSize : XM := (cX7_isSize, 1, RX7, (some .boolean), shw_, 0)
noncomputable def rg_X7_isSize_0 : XK :=
 o_iload 0 <|
 o_iconst 1 <|
 o_icmp_lt (o_iconst 0 <|
 o_zreturn)
 (o_iload 0 <|
 o_iconst 60 <|
 o_icmp_gt (o_iconst 0 <|
 o_zreturn)
 (o_iconst 1 <|
 o_zreturn))
def en_X7_isSize_0 (p0 : Int) (a : Unit) : XSt := ([some (.inl p0)], [], [])
noncomputable def mg_X7_isSize_0 (p0 : Int) (a : Unit) : Option Rt :=
 if xw p0 < 1 then (RI 0 [])
 else (if xw p0 > 60 then (RI 0 [])
 else (RI 1 []))
set_option maxRecDepth 100000 in
set_option maxHeartbeats 4000000 in
theorem rq_X7_isSize_0 (p0 : Int) (a : Unit) : rg_X7_isSize_0 (en_X7_isSize_0 p0 a) = mg_X7_isSize_0 p0 a := rfl
set_option maxRecDepth 100000 in
set_option maxHeartbeats 4000000 in
theorem sg_X7_isSize_0 {X : XDyn} {r0 : Rt} (C : XO X mX7_isSize) : XS X mX7_isSize r0 0 (rg_X7_isSize_0) := by
 unfold rg_X7_isSize_0
 exact s_iload_n (pc := 0) C dX7_isSize_0 rfl <|
    s_iconst (pc := 1) C dX7_isSize_1 <|
    s_icmp_lt (pc := 2) C dX7_isSize_2 (by decide) (s_iconst (pc := 15) C dX7_isSize_15 <|
    s_zreturn (pc := 16) C rfl dX7_isSize_16)
    (s_iload_n (pc := 5) C dX7_isSize_5 rfl <|
    s_bipush (pc := 6) C dX7_isSize_6 (by decide) <|
    s_icmp_gt (pc := 8) C dX7_isSize_8 (by decide) (s_iconst (pc := 15) C dX7_isSize_15 <|
    s_zreturn (pc := 16) C rfl dX7_isSize_16)
    (s_iconst (pc := 11) C dX7_isSize_11 <|
    s_goto (pc := 12) C dX7_isSize_12 (by decide) <|
    s_zreturn (pc := 16) C rfl dX7_isSize_16))
noncomputable def rw_X7_isSize_0 : XK := rg_X7_isSize_0
noncomputable def md_X7_isSize_0 (p0 : Int) : Unit → Option Rt := mg_X7_isSize_0 p0
theorem eq_X7_isSize_0 (p0 : Int) (a : Unit) : rw_X7_isSize_0 (en_X7_isSize_0 p0 a) = md_X7_isSize_0 p0 a :=
 rq_X7_isSize_0 p0 a
theorem sd_X7_isSize_0 {X : XDyn} {r0 : Rt} (C : XO X mX7_isSize) : XS X mX7_isSize r0 0 (rw_X7_isSize_0) := sg_X7_isSize_0 C
theorem ctr_X7_isSize : XCt yX7_isSize mX7_isSize (xF mX7_isSize (rw_X7_isSize_0)) := xMet (by decide +kernel) rfl (fun _ _ C => sd_X7_isSize_0 C)
theorem eqf_X7_isSize (p0 : Int) : xF mX7_isSize (rw_X7_isSize_0) [.inl p0] [] = md_X7_isSize_0 p0 () := eq_X7_isSize_0 p0 ()
theorem yi_X7_isSize : yX7_isSize.cls ≠ "java/lang/invoke/MethodHandle" ∧ yX7_isSize.cls ≠ "java/lang/invoke/VarHandle" ∧ (parseMethodDescriptor yX7_isSize.desc).map (fun d => d.parameters.length) = some 1 := ⟨by decide +kernel, by decide +kernel, by decide +kernel⟩
theorem sp_X7_isSize (p0 : Int) : md_X7_isSize_0 p0 () = RI (bz (siz p0)) [] := by
  simp only [md_X7_isSize_0, mg_X7_isSize_0]
  cases hB : (siz p0)
  all_goals (try simp only [siz, Bool.and_eq_true, Bool.or_eq_true, Bool.not_eq_true', Bool.not_eq_true, Bool.and_eq_false_iff, Bool.or_eq_false_iff, Bool.not_eq_false', Bool.not_eq_eq_eq_not, Bool.not_true, Bool.not_false, decide_eq_true_eq, decide_eq_false_iff_not] at hB)
  all_goals (repeat' split)
  all_goals first
    | rfl
    | (exfalso; (try simp only [xin, Bool.and_eq_true, Bool.or_eq_true, Bool.not_eq_true', Bool.not_eq_true, Bool.and_eq_false_iff, Bool.or_eq_false_iff, Bool.not_eq_false', Bool.not_eq_eq_eq_not, Bool.not_true, Bool.not_false, decide_eq_true_eq, decide_eq_false_iff_not] at *); omega)
noncomputable def f_X7_isSize : List AV → List Ob → Option Rt
  | [.inl p0], [] => some (some (.inl (bz (siz p0))), [])
  | _, _ => none
theorem ct_X7_isSize : XCt yX7_isSize mX7_isSize f_X7_isSize := (ctr_X7_isSize ).of (fun as μ r h => by
  unfold f_X7_isSize at h
  split at h
  · rw [← h]
    exact (eqf_X7_isSize _).trans (sp_X7_isSize _)
  · cases h)
theorem dX7_isAsked_0 : decode cX7_isAsked 0 = .ok (.iload_n 0, 1) := by decide +kernel
theorem dX7_isAsked_1 : decode cX7_isAsked 1 = .ok (.iconst 1, 1) := by decide +kernel
theorem dX7_isAsked_2 : decode cX7_isAsked 2 = .ok (.if_icmp .lt 14, 3) := by decide +kernel
theorem dX7_isAsked_5 : decode cX7_isAsked 5 = .ok (.iload_n 0, 1) := by decide +kernel
theorem dX7_isAsked_6 : decode cX7_isAsked 6 = .ok (.sipush 199, 3) := by decide +kernel
theorem dX7_isAsked_9 : decode cX7_isAsked 9 = .ok (.if_icmp .gt 7, 3) := by decide +kernel
theorem dX7_isAsked_12 : decode cX7_isAsked 12 = .ok (.iconst 1, 1) := by decide +kernel
theorem dX7_isAsked_13 : decode cX7_isAsked 13 = .ok (.goto 4, 3) := by decide +kernel
theorem dX7_isAsked_16 : decode cX7_isAsked 16 = .ok (.iconst 0, 1) := by decide +kernel
theorem dX7_isAsked_17 : decode cX7_isAsked 17 = .ok (.ireturn, 1) := by decide +kernel
abbrev mX7_isAsked : XM := (cX7_isAsked, 1, RX7, (some .boolean), shw_, 0)
noncomputable def rg_X7_isAsked_0 : XK :=
 o_iload 0 <|
 o_iconst 1 <|
 o_icmp_lt (o_iconst 0 <|
 o_zreturn)
 (o_iload 0 <|
 o_iconst 199 <|
 o_icmp_gt (o_iconst 0 <|
 o_zreturn)
 (o_iconst 1 <|
 o_zreturn))
def en_X7_isAsked_0 (p0 : Int) (a : Unit) : XSt := ([some (.inl p0)], [], [])
noncomputable def mg_X7_isAsked_0 (p0 : Int) (a : Unit) : Option Rt :=
 if xw p0 < 1 then (RI 0 [])
 else (if xw p0 > 199 then (RI 0 [])
 else (RI 1 []))
set_option maxRecDepth 100000 in
set_option maxHeartbeats 4000000 in
theorem rq_X7_isAsked_0 (p0 : Int) (a : Unit) : rg_X7_isAsked_0 (en_X7_isAsked_0 p0 a) = mg_X7_isAsked_0 p0 a := rfl
set_option maxRecDepth 100000 in
set_option maxHeartbeats 4000000 in
theorem sg_X7_isAsked_0 {X : XDyn} {r0 : Rt} (C : XO X mX7_isAsked) : XS X mX7_isAsked r0 0 (rg_X7_isAsked_0) := by
 unfold rg_X7_isAsked_0
 exact s_iload_n (pc := 0) C dX7_isAsked_0 rfl <|
    s_iconst (pc := 1) C dX7_isAsked_1 <|
    s_icmp_lt (pc := 2) C dX7_isAsked_2 (by decide) (s_iconst (pc := 16) C dX7_isAsked_16 <|
    s_zreturn (pc := 17) C rfl dX7_isAsked_17)
    (s_iload_n (pc := 5) C dX7_isAsked_5 rfl <|
    s_sipush (pc := 6) C dX7_isAsked_6 (by decide) <|
    s_icmp_gt (pc := 9) C dX7_isAsked_9 (by decide) (s_iconst (pc := 16) C dX7_isAsked_16 <|
    s_zreturn (pc := 17) C rfl dX7_isAsked_17)
    (s_iconst (pc := 12) C dX7_isAsked_12 <|
    s_goto (pc := 13) C dX7_isAsked_13 (by decide) <|
    s_zreturn (pc := 17) C rfl dX7_isAsked_17))
noncomputable def rw_X7_isAsked_0 : XK := rg_X7_isAsked_0
noncomputable def md_X7_isAsked_0 (p0 : Int) : Unit → Option Rt := mg_X7_isAsked_0 p0
theorem eq_X7_isAsked_0 (p0 : Int) (a : Unit) : rw_X7_isAsked_0 (en_X7_isAsked_0 p0 a) = md_X7_isAsked_0 p0 a :=
 rq_X7_isAsked_0 p0 a
theorem sd_X7_isAsked_0 {X : XDyn} {r0 : Rt} (C : XO X mX7_isAsked) : XS X mX7_isAsked r0 0 (rw_X7_isAsked_0) := sg_X7_isAsked_0 C
theorem ctr_X7_isAsked : XCt yX7_isAsked mX7_isAsked (xF mX7_isAsked (rw_X7_isAsked_0)) := xMet (by decide +kernel) rfl (fun _ _ C => sd_X7_isAsked_0 C)
theorem eqf_X7_isAsked (p0 : Int) : xF mX7_isAsked (rw_X7_isAsked_0) [.inl p0] [] = md_X7_isAsked_0 p0 () := eq_X7_isAsked_0 p0 ()
theorem yi_X7_isAsked : yX7_isAsked.cls ≠ "java/lang/invoke/MethodHandle" ∧ yX7_isAsked.cls ≠ "java/lang/invoke/VarHandle" ∧ (parseMethodDescriptor yX7_isAsked.desc).map (fun d => d.parameters.length) = some 1 := ⟨by decide +kernel, by decide +kernel, by decide +kernel⟩
theorem sp_X7_isAsked (p0 : Int) : md_X7_isAsked_0 p0 () = RI (bz (ask p0)) [] := by
  simp only [md_X7_isAsked_0, mg_X7_isAsked_0]
  cases hB : (ask p0)
  all_goals (try simp only [ask, Bool.and_eq_true, Bool.or_eq_true, Bool.not_eq_true', Bool.not_eq_true, Bool.and_eq_false_iff, Bool.or_eq_false_iff, Bool.not_eq_false', Bool.not_eq_eq_eq_not, Bool.not_true, Bool.not_false, decide_eq_true_eq, decide_eq_false_iff_not] at hB)
  all_goals (repeat' split)
  all_goals first
    | rfl
    | (exfalso; (try simp only [xin, Bool.and_eq_true, Bool.or_eq_true, Bool.not_eq_true', Bool.not_eq_true, Bool.and_eq_false_iff, Bool.or_eq_false_iff, Bool.not_eq_false', Bool.not_eq_eq_eq_not, Bool.not_true, Bool.not_false, decide_eq_true_eq, decide_eq_false_iff_not] at *); omega)
noncomputable def f_X7_isAsked : List AV → List Ob → Option Rt
  | [.inl p0], [] => some (some (.inl (bz (ask p0))), [])
  | _, _ => none
theorem ct_X7_isAsked : XCt yX7_isAsked mX7_isAsked f_X7_isAsked := (ctr_X7_isAsked ).of (fun as μ r h => by
  unfold f_X7_isAsked at h
  split at h
  · rw [← h]
    exact (eqf_X7_isAsked _).trans (sp_X7_isAsked _)
  · cases h)
theorem dX7_isAskedOrNone_0 : decode cX7_isAskedOrNone 0 = .ok (.iload_n 0, 1) := by decide +kernel
theorem dX7_isAskedOrNone_1 : decode cX7_isAskedOrNone 1 = .ok (.ifCond .eq 10, 3) := by decide +kernel
theorem dX7_isAskedOrNone_4 : decode cX7_isAskedOrNone 4 = .ok (.iload_n 0, 1) := by decide +kernel
theorem dX7_isAskedOrNone_5 : decode cX7_isAskedOrNone 5 = .ok (.invokestatic 266, 3) := by decide +kernel
theorem dX7_isAskedOrNone_8 : decode cX7_isAskedOrNone 8 = .ok (.ifCond .eq 7, 3) := by decide +kernel
theorem dX7_isAskedOrNone_11 : decode cX7_isAskedOrNone 11 = .ok (.iconst 1, 1) := by decide +kernel
theorem dX7_isAskedOrNone_12 : decode cX7_isAskedOrNone 12 = .ok (.goto 4, 3) := by decide +kernel
theorem dX7_isAskedOrNone_15 : decode cX7_isAskedOrNone 15 = .ok (.iconst 0, 1) := by decide +kernel
theorem dX7_isAskedOrNone_16 : decode cX7_isAskedOrNone 16 = .ok (.ireturn, 1) := by decide +kernel
abbrev mX7_isAskedOrNone : XM := (cX7_isAskedOrNone, 1, RX7, (some .boolean), shw_, 1)
noncomputable def rg_X7_isAskedOrNone_0 : XK :=
 o_iload 0 <|
 o_if_eq (o_iconst 1 <|
 o_zreturn)
 (o_iload 0 <|
 o_callS 1 1 [] f_X7_isAsked <|
 o_if_eq (o_iconst 0 <|
 o_zreturn)
 (o_iconst 1 <|
 o_zreturn))
def en_X7_isAskedOrNone_0 (p0 : Int) (a : Unit) : XSt := ([some (.inl p0)], [], [])
noncomputable def mg_X7_isAskedOrNone_0 (p0 : Int) (a : Unit) : Option Rt :=
 if xw p0 = 0 then (RI 1 [])
 else (if xw (bz (ask p0)) = 0 then (RI 0 [])
 else (RI 1 []))
set_option maxRecDepth 100000 in
set_option maxHeartbeats 4000000 in
theorem rq_X7_isAskedOrNone_0 (p0 : Int) (a : Unit) : rg_X7_isAskedOrNone_0 (en_X7_isAskedOrNone_0 p0 a) = mg_X7_isAskedOrNone_0 p0 a := rfl
set_option maxRecDepth 100000 in
set_option maxHeartbeats 4000000 in
theorem sg_X7_isAskedOrNone_0 {X : XDyn} {r0 : Rt} (C : XO X mX7_isAskedOrNone) : XS X mX7_isAskedOrNone r0 0 (rg_X7_isAskedOrNone_0) := by
 unfold rg_X7_isAskedOrNone_0
 exact s_iload_n (pc := 0) C dX7_isAskedOrNone_0 rfl <|
    s_if_eq (pc := 1) C dX7_isAskedOrNone_1 (by decide) (s_iconst (pc := 11) C dX7_isAskedOrNone_11 <|
    s_goto (pc := 12) C dX7_isAskedOrNone_12 (by decide) <|
    s_zreturn (pc := 16) C rfl dX7_isAskedOrNone_16)
    (s_iload_n (pc := 4) C dX7_isAskedOrNone_4 rfl <|
    s_callS (pc := 5) C ct_X7_isAsked (n := 1) (rk := 1) (mp := []) ⟨rfl, by decide, rfl⟩ (by decide) (by decide) ⟨rfl, yi_X7_isAsked⟩ wd_807 wd_808 wd_73 wd_809 dX7_isAskedOrNone_5 <|
    s_if_eq (pc := 8) C dX7_isAskedOrNone_8 (by decide) (s_iconst (pc := 15) C dX7_isAskedOrNone_15 <|
    s_zreturn (pc := 16) C rfl dX7_isAskedOrNone_16)
    (s_iconst (pc := 11) C dX7_isAskedOrNone_11 <|
    s_goto (pc := 12) C dX7_isAskedOrNone_12 (by decide) <|
    s_zreturn (pc := 16) C rfl dX7_isAskedOrNone_16))
noncomputable def rw_X7_isAskedOrNone_0 : XK := rg_X7_isAskedOrNone_0
noncomputable def md_X7_isAskedOrNone_0 (p0 : Int) : Unit → Option Rt := mg_X7_isAskedOrNone_0 p0
theorem eq_X7_isAskedOrNone_0 (p0 : Int) (a : Unit) : rw_X7_isAskedOrNone_0 (en_X7_isAskedOrNone_0 p0 a) = md_X7_isAskedOrNone_0 p0 a :=
 rq_X7_isAskedOrNone_0 p0 a
theorem sd_X7_isAskedOrNone_0 {X : XDyn} {r0 : Rt} (C : XO X mX7_isAskedOrNone) : XS X mX7_isAskedOrNone r0 0 (rw_X7_isAskedOrNone_0) := sg_X7_isAskedOrNone_0 C
theorem ctr_X7_isAskedOrNone : XCt yX7_isAskedOrNone mX7_isAskedOrNone (xF mX7_isAskedOrNone (rw_X7_isAskedOrNone_0)) := xMet (by decide +kernel) rfl (fun _ _ C => sd_X7_isAskedOrNone_0 C)
theorem eqf_X7_isAskedOrNone (p0 : Int) : xF mX7_isAskedOrNone (rw_X7_isAskedOrNone_0) [.inl p0] [] = md_X7_isAskedOrNone_0 p0 () := eq_X7_isAskedOrNone_0 p0 ()
theorem yi_X7_isAskedOrNone : yX7_isAskedOrNone.cls ≠ "java/lang/invoke/MethodHandle" ∧ yX7_isAskedOrNone.cls ≠ "java/lang/invoke/VarHandle" ∧ (parseMethodDescriptor yX7_isAskedOrNone.desc).map (fun d => d.parameters.length) = some 1 := ⟨by decide +kernel, by decide +kernel, by decide +kernel⟩
theorem sp_X7_isAskedOrNone (p0 : Int) : md_X7_isAskedOrNone_0 p0 () = RI (bz (ask0 p0)) [] := by
  simp only [md_X7_isAskedOrNone_0, mg_X7_isAskedOrNone_0, ask0]
  cases h : ask p0 <;> by_cases h0 : xw p0 = 0 <;> simp [h0, bz, xw0, xw1]
noncomputable def f_X7_isAskedOrNone : List AV → List Ob → Option Rt
  | [.inl p0], [] => some (some (.inl (bz (ask0 p0))), [])
  | _, _ => none
theorem ct_X7_isAskedOrNone : XCt yX7_isAskedOrNone mX7_isAskedOrNone f_X7_isAskedOrNone := (ctr_X7_isAskedOrNone ).of (fun as μ r h => by
  unfold f_X7_isAskedOrNone at h
  split at h
  · rw [← h]
    exact (eqf_X7_isAskedOrNone _).trans (sp_X7_isAskedOrNone _)
  · cases h)
theorem dX7_isIn_0 : decode cX7_isIn 0 = .ok (.iload_n 1, 1) := by decide +kernel
theorem dX7_isIn_1 : decode cX7_isIn 1 = .ok (.ifCond .lt 22, 3) := by decide +kernel
theorem dX7_isIn_4 : decode cX7_isIn 4 = .ok (.iload_n 1, 1) := by decide +kernel
theorem dX7_isIn_5 : decode cX7_isIn 5 = .ok (.bipush 8, 2) := by decide +kernel
theorem dX7_isIn_7 : decode cX7_isIn 7 = .ok (.if_icmp .ge 16, 3) := by decide +kernel
theorem dX7_isIn_10 : decode cX7_isIn 10 = .ok (.iload_n 0, 1) := by decide +kernel
theorem dX7_isIn_11 : decode cX7_isIn 11 = .ok (.iload_n 1, 1) := by decide +kernel
theorem dX7_isIn_12 : decode cX7_isIn 12 = .ok (.ishr, 1) := by decide +kernel
theorem dX7_isIn_13 : decode cX7_isIn 13 = .ok (.iconst 1, 1) := by decide +kernel
theorem dX7_isIn_14 : decode cX7_isIn 14 = .ok (.iand, 1) := by decide +kernel
theorem dX7_isIn_15 : decode cX7_isIn 15 = .ok (.iconst 1, 1) := by decide +kernel
theorem dX7_isIn_16 : decode cX7_isIn 16 = .ok (.if_icmp .ne 7, 3) := by decide +kernel
theorem dX7_isIn_19 : decode cX7_isIn 19 = .ok (.iconst 1, 1) := by decide +kernel
theorem dX7_isIn_20 : decode cX7_isIn 20 = .ok (.goto 4, 3) := by decide +kernel
theorem dX7_isIn_23 : decode cX7_isIn 23 = .ok (.iconst 0, 1) := by decide +kernel
theorem dX7_isIn_24 : decode cX7_isIn 24 = .ok (.ireturn, 1) := by decide +kernel
abbrev mX7_isIn : XM := (cX7_isIn, 2, RX7, (some .boolean), shw_, 0)
noncomputable def rg_X7_isIn_0 : XK :=
 o_iload 1 <|
 o_if_lt (o_iconst 0 <|
 o_zreturn)
 (o_iload 1 <|
 o_iconst 8 <|
 o_icmp_ge (o_iconst 0 <|
 o_zreturn)
 (o_iload 0 <|
 o_iload 1 <|
 o_ishr <|
 o_iconst 1 <|
 o_iand <|
 o_iconst 1 <|
 o_icmp_ne (o_iconst 0 <|
 o_zreturn)
 (o_iconst 1 <|
 o_zreturn)))
def en_X7_isIn_0 (p0 : Int) (p1 : Int) (a : Unit) : XSt := ([some (.inl p0), some (.inl p1)], [], [])
noncomputable def mg_X7_isIn_0 (p0 : Int) (p1 : Int) (a : Unit) : Option Rt :=
 if xw p1 < 0 then (RI 0 [])
 else (if xw p1 ≥ 8 then (RI 0 [])
 else (if xw (xand (xshr p0 p1) 1) = 1 then (RI 1 [])
 else (RI 0 [])))
set_option maxRecDepth 100000 in
set_option maxHeartbeats 4000000 in
theorem rq_X7_isIn_0 (p0 : Int) (p1 : Int) (a : Unit) : rg_X7_isIn_0 (en_X7_isIn_0 p0 p1 a) = mg_X7_isIn_0 p0 p1 a := rfl
set_option maxRecDepth 100000 in
set_option maxHeartbeats 4000000 in
theorem sg_X7_isIn_0 {X : XDyn} {r0 : Rt} (C : XO X mX7_isIn) : XS X mX7_isIn r0 0 (rg_X7_isIn_0) := by
 unfold rg_X7_isIn_0
 exact s_iload_n (pc := 0) C dX7_isIn_0 rfl <|
    s_if_lt (pc := 1) C dX7_isIn_1 (by decide) (s_iconst (pc := 23) C dX7_isIn_23 <|
    s_zreturn (pc := 24) C rfl dX7_isIn_24)
    (s_iload_n (pc := 4) C dX7_isIn_4 rfl <|
    s_bipush (pc := 5) C dX7_isIn_5 (by decide) <|
    s_icmp_ge (pc := 7) C dX7_isIn_7 (by decide) (s_iconst (pc := 23) C dX7_isIn_23 <|
    s_zreturn (pc := 24) C rfl dX7_isIn_24)
    (s_iload_n (pc := 10) C dX7_isIn_10 rfl <|
    s_iload_n (pc := 11) C dX7_isIn_11 rfl <|
    s_ishr (pc := 12) C dX7_isIn_12 <|
    s_iconst (pc := 13) C dX7_isIn_13 <|
    s_iand (pc := 14) C dX7_isIn_14 <|
    s_iconst (pc := 15) C dX7_isIn_15 <|
    s_icmp_ne (pc := 16) C dX7_isIn_16 (by decide) (s_iconst (pc := 23) C dX7_isIn_23 <|
    s_zreturn (pc := 24) C rfl dX7_isIn_24)
    (s_iconst (pc := 19) C dX7_isIn_19 <|
    s_goto (pc := 20) C dX7_isIn_20 (by decide) <|
    s_zreturn (pc := 24) C rfl dX7_isIn_24)))
noncomputable def rw_X7_isIn_0 : XK := rg_X7_isIn_0
noncomputable def md_X7_isIn_0 (p0 : Int) (p1 : Int) : Unit → Option Rt := mg_X7_isIn_0 p0 p1
theorem eq_X7_isIn_0 (p0 : Int) (p1 : Int) (a : Unit) : rw_X7_isIn_0 (en_X7_isIn_0 p0 p1 a) = md_X7_isIn_0 p0 p1 a :=
 rq_X7_isIn_0 p0 p1 a
theorem sd_X7_isIn_0 {X : XDyn} {r0 : Rt} (C : XO X mX7_isIn) : XS X mX7_isIn r0 0 (rw_X7_isIn_0) := sg_X7_isIn_0 C
theorem ctr_X7_isIn : XCt yX7_isIn mX7_isIn (xF mX7_isIn (rw_X7_isIn_0)) := xMet (by decide +kernel) rfl (fun _ _ C => sd_X7_isIn_0 C)
theorem eqf_X7_isIn (p0 : Int) (p1 : Int) : xF mX7_isIn (rw_X7_isIn_0) [.inl p0, .inl p1] [] = md_X7_isIn_0 p0 p1 () := eq_X7_isIn_0 p0 p1 ()
theorem yi_X7_isIn : yX7_isIn.cls ≠ "java/lang/invoke/MethodHandle" ∧ yX7_isIn.cls ≠ "java/lang/invoke/VarHandle" ∧ (parseMethodDescriptor yX7_isIn.desc).map (fun d => d.parameters.length) = some 2 := ⟨by decide +kernel, by decide +kernel, by decide +kernel⟩
theorem sp_X7_isIn (p0 p1 : Int) : md_X7_isIn_0 p0 p1 () = RI (bz (inS p0 p1)) [] := by
  simp only [md_X7_isIn_0, mg_X7_isIn_0]
  cases hB : (inS p0 p1)
  all_goals (try simp only [inS, hdl, Bool.and_eq_true, Bool.or_eq_true, Bool.not_eq_true', Bool.not_eq_true, Bool.and_eq_false_iff, Bool.or_eq_false_iff, Bool.not_eq_false', Bool.not_eq_eq_eq_not, Bool.not_true, Bool.not_false, decide_eq_true_eq, decide_eq_false_iff_not] at hB)
  all_goals (repeat' split)
  all_goals first
    | rfl
    | (exfalso; (try simp only [xin, Bool.and_eq_true, Bool.or_eq_true, Bool.not_eq_true', Bool.not_eq_true, Bool.and_eq_false_iff, Bool.or_eq_false_iff, Bool.not_eq_false', Bool.not_eq_eq_eq_not, Bool.not_true, Bool.not_false, decide_eq_true_eq, decide_eq_false_iff_not] at *); omega)
noncomputable def f_X7_isIn : List AV → List Ob → Option Rt
  | [.inl p0, .inl p1], [] => some (some (.inl (bz (inS p0 p1))), [])
  | _, _ => none
theorem ct_X7_isIn : XCt yX7_isIn mX7_isIn f_X7_isIn := (ctr_X7_isIn ).of (fun as μ r h => by
  unfold f_X7_isIn at h
  split at h
  · rw [← h]
    exact (eqf_X7_isIn _ _).trans (sp_X7_isIn _ _)
  · cases h)
theorem dX7_ownerOf_0 : decode cX7_ownerOf 0 = .ok (.iload_n 0, 1) := by decide +kernel
theorem dX7_ownerOf_1 : decode cX7_ownerOf 1 = .ok (.iconst (-1), 1) := by decide +kernel
theorem dX7_ownerOf_2 : decode cX7_ownerOf 2 = .ok (.if_icmp .ne 5, 3) := by decide +kernel
theorem dX7_ownerOf_5 : decode cX7_ownerOf 5 = .ok (.iconst 0, 1) := by decide +kernel
theorem dX7_ownerOf_6 : decode cX7_ownerOf 6 = .ok (.ireturn, 1) := by decide +kernel
theorem dX7_ownerOf_7 : decode cX7_ownerOf 7 = .ok (.iload_n 0, 1) := by decide +kernel
theorem dX7_ownerOf_8 : decode cX7_ownerOf 8 = .ok (.bipush 8, 2) := by decide +kernel
theorem dX7_ownerOf_10 : decode cX7_ownerOf 10 = .ok (.if_icmp .ge 9, 3) := by decide +kernel
theorem dX7_ownerOf_13 : decode cX7_ownerOf 13 = .ok (.iconst 1, 1) := by decide +kernel
theorem dX7_ownerOf_14 : decode cX7_ownerOf 14 = .ok (.iload_n 0, 1) := by decide +kernel
theorem dX7_ownerOf_15 : decode cX7_ownerOf 15 = .ok (.iadd, 1) := by decide +kernel
theorem dX7_ownerOf_16 : decode cX7_ownerOf 16 = .ok (.goto 10, 3) := by decide +kernel
theorem dX7_ownerOf_19 : decode cX7_ownerOf 19 = .ok (.bipush 33, 2) := by decide +kernel
theorem dX7_ownerOf_21 : decode cX7_ownerOf 21 = .ok (.iload_n 0, 1) := by decide +kernel
theorem dX7_ownerOf_22 : decode cX7_ownerOf 22 = .ok (.iadd, 1) := by decide +kernel
theorem dX7_ownerOf_23 : decode cX7_ownerOf 23 = .ok (.bipush 8, 2) := by decide +kernel
theorem dX7_ownerOf_25 : decode cX7_ownerOf 25 = .ok (.isub, 1) := by decide +kernel
theorem dX7_ownerOf_26 : decode cX7_ownerOf 26 = .ok (.ireturn, 1) := by decide +kernel
abbrev mX7_ownerOf : XM := (cX7_ownerOf, 1, RX7, (some .int), shw_, 0)
noncomputable def rg_X7_ownerOf_0 : XK :=
 o_iload 0 <|
 o_iconst (-1) <|
 o_icmp_ne (o_iload 0 <|
 o_iconst 8 <|
 o_icmp_ge (o_iconst 33 <|
 o_iload 0 <|
 o_iadd <|
 o_iconst 8 <|
 o_isub <|
 o_ireturn)
 (o_iconst 1 <|
 o_iload 0 <|
 o_iadd <|
 o_ireturn))
 (o_iconst 0 <|
 o_ireturn)
def en_X7_ownerOf_0 (p0 : Int) (a : Unit) : XSt := ([some (.inl p0)], [], [])
noncomputable def mg_X7_ownerOf_0 (p0 : Int) (a : Unit) : Option Rt :=
 if xw p0 = (-1) then (RI 0 [])
 else (if xw p0 ≥ 8 then (RI ((33 + p0) - 8) [])
 else (RI (1 + p0) []))
set_option maxRecDepth 100000 in
set_option maxHeartbeats 4000000 in
theorem rq_X7_ownerOf_0 (p0 : Int) (a : Unit) : rg_X7_ownerOf_0 (en_X7_ownerOf_0 p0 a) = mg_X7_ownerOf_0 p0 a := rfl
set_option maxRecDepth 100000 in
set_option maxHeartbeats 4000000 in
theorem sg_X7_ownerOf_0 {X : XDyn} {r0 : Rt} (C : XO X mX7_ownerOf) : XS X mX7_ownerOf r0 0 (rg_X7_ownerOf_0) := by
 unfold rg_X7_ownerOf_0
 exact s_iload_n (pc := 0) C dX7_ownerOf_0 rfl <|
    s_iconst (pc := 1) C dX7_ownerOf_1 <|
    s_icmp_ne (pc := 2) C dX7_ownerOf_2 (by decide) (s_iload_n (pc := 7) C dX7_ownerOf_7 rfl <|
    s_bipush (pc := 8) C dX7_ownerOf_8 (by decide) <|
    s_icmp_ge (pc := 10) C dX7_ownerOf_10 (by decide) (s_bipush (pc := 19) C dX7_ownerOf_19 (by decide) <|
    s_iload_n (pc := 21) C dX7_ownerOf_21 rfl <|
    s_iadd (pc := 22) C dX7_ownerOf_22 <|
    s_bipush (pc := 23) C dX7_ownerOf_23 (by decide) <|
    s_isub (pc := 25) C dX7_ownerOf_25 <|
    s_ireturn (pc := 26) C rfl dX7_ownerOf_26)
    (s_iconst (pc := 13) C dX7_ownerOf_13 <|
    s_iload_n (pc := 14) C dX7_ownerOf_14 rfl <|
    s_iadd (pc := 15) C dX7_ownerOf_15 <|
    s_goto (pc := 16) C dX7_ownerOf_16 (by decide) <|
    s_ireturn (pc := 26) C rfl dX7_ownerOf_26))
    (s_iconst (pc := 5) C dX7_ownerOf_5 <|
    s_ireturn (pc := 6) C rfl dX7_ownerOf_6)
noncomputable def rw_X7_ownerOf_0 : XK := rg_X7_ownerOf_0
noncomputable def md_X7_ownerOf_0 (p0 : Int) : Unit → Option Rt := mg_X7_ownerOf_0 p0
theorem eq_X7_ownerOf_0 (p0 : Int) (a : Unit) : rw_X7_ownerOf_0 (en_X7_ownerOf_0 p0 a) = md_X7_ownerOf_0 p0 a :=
 rq_X7_ownerOf_0 p0 a
theorem sd_X7_ownerOf_0 {X : XDyn} {r0 : Rt} (C : XO X mX7_ownerOf) : XS X mX7_ownerOf r0 0 (rw_X7_ownerOf_0) := sg_X7_ownerOf_0 C
theorem ctr_X7_ownerOf : XCt yX7_ownerOf mX7_ownerOf (xF mX7_ownerOf (rw_X7_ownerOf_0)) := xMet (by decide +kernel) rfl (fun _ _ C => sd_X7_ownerOf_0 C)
theorem eqf_X7_ownerOf (p0 : Int) : xF mX7_ownerOf (rw_X7_ownerOf_0) [.inl p0] [] = md_X7_ownerOf_0 p0 () := eq_X7_ownerOf_0 p0 ()
theorem yi_X7_ownerOf : yX7_ownerOf.cls ≠ "java/lang/invoke/MethodHandle" ∧ yX7_ownerOf.cls ≠ "java/lang/invoke/VarHandle" ∧ (parseMethodDescriptor yX7_ownerOf.desc).map (fun d => d.parameters.length) = some 1 := ⟨by decide +kernel, by decide +kernel, by decide +kernel⟩
theorem sp_X7_ownerOf (p0 : Int) : md_X7_ownerOf_0 p0 () = RI (ownF p0) [] := by
  simp only [md_X7_ownerOf_0, mg_X7_ownerOf_0, ownF]
  repeat' split
  all_goals first | rfl | (exfalso; omega) | (simp_all; done) | (simp_all; omega)
noncomputable def f_X7_ownerOf : List AV → List Ob → Option Rt
  | [.inl p0], [] => some (some (.inl (ownF p0)), [])
  | _, _ => none
theorem ct_X7_ownerOf : XCt yX7_ownerOf mX7_ownerOf f_X7_ownerOf := (ctr_X7_ownerOf ).of (fun as μ r h => by
  unfold f_X7_ownerOf at h
  split at h
  · rw [← h]
    exact (eqf_X7_ownerOf _).trans (sp_X7_ownerOf _)
  · cases h)
theorem dX7_holderOf_0 : decode cX7_holderOf 0 = .ok (.iload_n 0, 1) := by decide +kernel
theorem dX7_holderOf_1 : decode cX7_holderOf 1 = .ok (.iconst 1, 1) := by decide +kernel
theorem dX7_holderOf_2 : decode cX7_holderOf 2 = .ok (.if_icmp .lt 13, 3) := by decide +kernel
theorem dX7_holderOf_5 : decode cX7_holderOf 5 = .ok (.iload_n 0, 1) := by decide +kernel
theorem dX7_holderOf_6 : decode cX7_holderOf 6 = .ok (.bipush 9, 2) := by decide +kernel
theorem dX7_holderOf_8 : decode cX7_holderOf 8 = .ok (.if_icmp .ge 7, 3) := by decide +kernel
theorem dX7_holderOf_11 : decode cX7_holderOf 11 = .ok (.iload_n 0, 1) := by decide +kernel
theorem dX7_holderOf_12 : decode cX7_holderOf 12 = .ok (.iconst 1, 1) := by decide +kernel
theorem dX7_holderOf_13 : decode cX7_holderOf 13 = .ok (.isub, 1) := by decide +kernel
theorem dX7_holderOf_14 : decode cX7_holderOf 14 = .ok (.ireturn, 1) := by decide +kernel
theorem dX7_holderOf_15 : decode cX7_holderOf 15 = .ok (.iload_n 0, 1) := by decide +kernel
theorem dX7_holderOf_16 : decode cX7_holderOf 16 = .ok (.bipush 33, 2) := by decide +kernel
theorem dX7_holderOf_18 : decode cX7_holderOf 18 = .ok (.if_icmp .lt 17, 3) := by decide +kernel
theorem dX7_holderOf_21 : decode cX7_holderOf 21 = .ok (.iload_n 0, 1) := by decide +kernel
theorem dX7_holderOf_22 : decode cX7_holderOf 22 = .ok (.bipush 36, 2) := by decide +kernel
theorem dX7_holderOf_24 : decode cX7_holderOf 24 = .ok (.if_icmp .ge 11, 3) := by decide +kernel
theorem dX7_holderOf_27 : decode cX7_holderOf 27 = .ok (.bipush 8, 2) := by decide +kernel
theorem dX7_holderOf_29 : decode cX7_holderOf 29 = .ok (.iload_n 0, 1) := by decide +kernel
theorem dX7_holderOf_30 : decode cX7_holderOf 30 = .ok (.iadd, 1) := by decide +kernel
theorem dX7_holderOf_31 : decode cX7_holderOf 31 = .ok (.bipush 33, 2) := by decide +kernel
theorem dX7_holderOf_33 : decode cX7_holderOf 33 = .ok (.isub, 1) := by decide +kernel
theorem dX7_holderOf_34 : decode cX7_holderOf 34 = .ok (.ireturn, 1) := by decide +kernel
theorem dX7_holderOf_35 : decode cX7_holderOf 35 = .ok (.iconst (-1), 1) := by decide +kernel
theorem dX7_holderOf_36 : decode cX7_holderOf 36 = .ok (.ireturn, 1) := by decide +kernel
abbrev mX7_holderOf : XM := (cX7_holderOf, 1, RX7, (some .int), shw_, 0)
noncomputable def rg_X7_holderOf_0 (k15 : XK) : XK :=
 o_iload 0 <|
 o_iconst 1 <|
 o_icmp_lt (o_cut [] k15)
 (o_iload 0 <|
 o_iconst 9 <|
 o_icmp_ge (o_cut [] k15)
 (o_iload 0 <|
 o_iconst 1 <|
 o_isub <|
 o_ireturn))
def en_X7_holderOf_0 (p0 : Int) (a : Unit) : XSt := ([some (.inl p0)], [], [])
noncomputable def rg_X7_holderOf_15 : XK :=
 o_iload 0 <|
 o_iconst 33 <|
 o_icmp_lt (o_iconst (-1) <|
 o_ireturn)
 (o_iload 0 <|
 o_iconst 36 <|
 o_icmp_ge (o_iconst (-1) <|
 o_ireturn)
 (o_iconst 8 <|
 o_iload 0 <|
 o_iadd <|
 o_iconst 33 <|
 o_isub <|
 o_ireturn))
def en_X7_holderOf_15 (p0 : Int) (a : Unit) : XSt := ([some (.inl p0)], [], [])
noncomputable def mg_X7_holderOf_0 (p0 : Int) (k15 : Unit → Option Rt) (a : Unit) : Option Rt :=
 if xw p0 < 1 then (k15 ())
 else (if xw p0 ≥ 9 then (k15 ())
 else (RI (p0 - 1) []))
set_option maxRecDepth 100000 in
set_option maxHeartbeats 4000000 in
theorem rq_X7_holderOf_0 (p0 : Int) (k15 : XK) (a : Unit) : rg_X7_holderOf_0 k15 (en_X7_holderOf_0 p0 a) = mg_X7_holderOf_0 p0 (fun b => k15 (en_X7_holderOf_15 p0 b)) a := rfl
set_option maxRecDepth 100000 in
set_option maxHeartbeats 4000000 in
theorem sg_X7_holderOf_0 {X : XDyn} {r0 : Rt} (C : XO X mX7_holderOf) {k15 : XK} (q15 : XS X mX7_holderOf r0 15 k15) : XS X mX7_holderOf r0 0 (rg_X7_holderOf_0 k15) := by
 unfold rg_X7_holderOf_0
 exact s_iload_n (pc := 0) C dX7_holderOf_0 rfl <|
    s_iconst (pc := 1) C dX7_holderOf_1 <|
    s_icmp_lt (pc := 2) C dX7_holderOf_2 (by decide) (s_cut q15)
    (s_iload_n (pc := 5) C dX7_holderOf_5 rfl <|
    s_bipush (pc := 6) C dX7_holderOf_6 (by decide) <|
    s_icmp_ge (pc := 8) C dX7_holderOf_8 (by decide) (s_cut q15)
    (s_iload_n (pc := 11) C dX7_holderOf_11 rfl <|
    s_iconst (pc := 12) C dX7_holderOf_12 <|
    s_isub (pc := 13) C dX7_holderOf_13 <|
    s_ireturn (pc := 14) C rfl dX7_holderOf_14))
noncomputable def mg_X7_holderOf_15 (p0 : Int) (a : Unit) : Option Rt :=
 if xw p0 < 33 then (RI (-1) [])
 else (if xw p0 ≥ 36 then (RI (-1) [])
 else (RI ((8 + p0) - 33) []))
set_option maxRecDepth 100000 in
set_option maxHeartbeats 4000000 in
theorem rq_X7_holderOf_15 (p0 : Int) (a : Unit) : rg_X7_holderOf_15 (en_X7_holderOf_15 p0 a) = mg_X7_holderOf_15 p0 a := rfl
set_option maxRecDepth 100000 in
set_option maxHeartbeats 4000000 in
theorem sg_X7_holderOf_15 {X : XDyn} {r0 : Rt} (C : XO X mX7_holderOf) : XS X mX7_holderOf r0 15 (rg_X7_holderOf_15) := by
 unfold rg_X7_holderOf_15
 exact s_iload_n (pc := 15) C dX7_holderOf_15 rfl <|
    s_bipush (pc := 16) C dX7_holderOf_16 (by decide) <|
    s_icmp_lt (pc := 18) C dX7_holderOf_18 (by decide) (s_iconst (pc := 35) C dX7_holderOf_35 <|
    s_ireturn (pc := 36) C rfl dX7_holderOf_36)
    (s_iload_n (pc := 21) C dX7_holderOf_21 rfl <|
    s_bipush (pc := 22) C dX7_holderOf_22 (by decide) <|
    s_icmp_ge (pc := 24) C dX7_holderOf_24 (by decide) (s_iconst (pc := 35) C dX7_holderOf_35 <|
    s_ireturn (pc := 36) C rfl dX7_holderOf_36)
    (s_bipush (pc := 27) C dX7_holderOf_27 (by decide) <|
    s_iload_n (pc := 29) C dX7_holderOf_29 rfl <|
    s_iadd (pc := 30) C dX7_holderOf_30 <|
    s_bipush (pc := 31) C dX7_holderOf_31 (by decide) <|
    s_isub (pc := 33) C dX7_holderOf_33 <|
    s_ireturn (pc := 34) C rfl dX7_holderOf_34))
noncomputable def rw_X7_holderOf_15 : XK := rg_X7_holderOf_15
noncomputable def md_X7_holderOf_15 (p0 : Int) : Unit → Option Rt := mg_X7_holderOf_15 p0
theorem eq_X7_holderOf_15 (p0 : Int) (a : Unit) : rw_X7_holderOf_15 (en_X7_holderOf_15 p0 a) = md_X7_holderOf_15 p0 a :=
 rq_X7_holderOf_15 p0 a
theorem sd_X7_holderOf_15 {X : XDyn} {r0 : Rt} (C : XO X mX7_holderOf) : XS X mX7_holderOf r0 15 (rw_X7_holderOf_15) := sg_X7_holderOf_15 C
noncomputable def rw_X7_holderOf_0 : XK := rg_X7_holderOf_0 (rw_X7_holderOf_15)
noncomputable def md_X7_holderOf_0 (p0 : Int) : Unit → Option Rt := mg_X7_holderOf_0 p0 (md_X7_holderOf_15 p0)
theorem eq_X7_holderOf_0 (p0 : Int) (a : Unit) : rw_X7_holderOf_0 (en_X7_holderOf_0 p0 a) = md_X7_holderOf_0 p0 a :=
 (rq_X7_holderOf_0 p0 (rw_X7_holderOf_15) a).trans (congrFun (congr (rfl : mg_X7_holderOf_0 p0 = mg_X7_holderOf_0 p0) (funext (eq_X7_holderOf_15 p0))) a)
theorem sd_X7_holderOf_0 {X : XDyn} {r0 : Rt} (C : XO X mX7_holderOf) : XS X mX7_holderOf r0 0 (rw_X7_holderOf_0) := sg_X7_holderOf_0 C (sd_X7_holderOf_15 C)
theorem ctr_X7_holderOf : XCt yX7_holderOf mX7_holderOf (xF mX7_holderOf (rw_X7_holderOf_0)) := xMet (by decide +kernel) rfl (fun _ _ C => sd_X7_holderOf_0 C)
theorem eqf_X7_holderOf (p0 : Int) : xF mX7_holderOf (rw_X7_holderOf_0) [.inl p0] [] = md_X7_holderOf_0 p0 () := eq_X7_holderOf_0 p0 ()
theorem yi_X7_holderOf : yX7_holderOf.cls ≠ "java/lang/invoke/MethodHandle" ∧ yX7_holderOf.cls ≠ "java/lang/invoke/VarHandle" ∧ (parseMethodDescriptor yX7_holderOf.desc).map (fun d => d.parameters.length) = some 1 := ⟨by decide +kernel, by decide +kernel, by decide +kernel⟩
theorem sp_X7_holderOf (p0 : Int) : md_X7_holderOf_0 p0 () = RI (holF p0) [] := by
  simp only [md_X7_holderOf_0, mg_X7_holderOf_0, md_X7_holderOf_15, mg_X7_holderOf_15]
  unfold holF
  by_cases h1 : 1 ≤ xw p0 ∧ xw p0 < 9
  · rw [if_pos h1, if_neg (by omega), if_neg (by omega)]
  · rw [if_neg h1]
    by_cases h2 : 33 ≤ xw p0 ∧ xw p0 < 36
    · rw [if_pos h2]
      repeat' split
      all_goals first | rfl | (exfalso; omega)
    · rw [if_neg h2]
      repeat' split
      all_goals first | rfl | (exfalso; omega)
noncomputable def f_X7_holderOf : List AV → List Ob → Option Rt
  | [.inl p0], [] => some (some (.inl (holF p0)), [])
  | _, _ => none
theorem ct_X7_holderOf : XCt yX7_holderOf mX7_holderOf f_X7_holderOf := (ctr_X7_holderOf ).of (fun as μ r h => by
  unfold f_X7_holderOf at h
  split at h
  · rw [← h]
    exact (eqf_X7_holderOf _).trans (sp_X7_holderOf _)
  · cases h)
theorem dX3_isUsed_0 : decode cX3_isUsed 0 = .ok (.aload_n 0, 1) := by decide +kernel
theorem dX3_isUsed_1 : decode cX3_isUsed 1 = .ok (.getfield 33, 3) := by decide +kernel
theorem dX3_isUsed_4 : decode cX3_isUsed 4 = .ok (.iload_n 1, 1) := by decide +kernel
theorem dX3_isUsed_5 : decode cX3_isUsed 5 = .ok (.invokestatic 61, 3) := by decide +kernel
theorem dX3_isUsed_8 : decode cX3_isUsed 8 = .ok (.ireturn, 1) := by decide +kernel
abbrev mX3_isUsed : XM := (cX3_isUsed, 2, RX3, (some .boolean), shw_3, 1)
noncomputable def rg_X3_isUsed_0 : XK :=
 o_aload 0 <|
 o_get shw_3 3 7 <|
 o_iload 1 <|
 o_callS 2 1 [] f_X7_isIn <|
 o_zreturn
def en_X3_isUsed_0 (p1 : Int) (h0 : Ob) (a : Unit) : XSt := ([some (.inr (.inl (0, 0))), some (.inl p1)], [], [h0])
noncomputable def mg_X3_isUsed_0 (p1 : Int) (h0 : Ob) (a : Unit) : Option Rt :=
 if xb (bz (inS (h0 0 7) p1)) then RI (bz (inS (h0 0 7) p1)) [h0] else none
set_option maxRecDepth 100000 in
set_option maxHeartbeats 4000000 in
theorem rq_X3_isUsed_0 (p1 : Int) (h0 : Ob) (a : Unit) : rg_X3_isUsed_0 (en_X3_isUsed_0 p1 h0 a) = mg_X3_isUsed_0 p1 h0 a := rfl
set_option maxRecDepth 100000 in
set_option maxHeartbeats 4000000 in
theorem sg_X3_isUsed_0 {X : XDyn} {r0 : Rt} (C : XO X mX3_isUsed) : XS X mX3_isUsed r0 0 (rg_X3_isUsed_0) := by
 unfold rg_X3_isUsed_0
 exact s_aload_n (pc := 0) C dX3_isUsed_0 rfl <|
    s_get (pc := 1) C (ci := 3) (kf := 7) rfl inX3 (by decide) wd_121 dX3_isUsed_1 <|
    s_iload_n (pc := 4) C dX3_isUsed_4 rfl <|
    s_callN (pc := 5) C ct_X7_isIn (n := 2) (rk := 1) (mp := []) ⟨rfl, by decide, rfl⟩ (by decide) (by decide) yi_X7_isIn wd_354 wd_355 wd_73 wd_356 dX3_isUsed_5 <|
    s_zreturn (pc := 8) C rfl dX3_isUsed_8
noncomputable def rw_X3_isUsed_0 : XK := rg_X3_isUsed_0
noncomputable def md_X3_isUsed_0 (p1 : Int) (h0 : Ob) : Unit → Option Rt := mg_X3_isUsed_0 p1 h0
theorem eq_X3_isUsed_0 (p1 : Int) (h0 : Ob) (a : Unit) : rw_X3_isUsed_0 (en_X3_isUsed_0 p1 h0 a) = md_X3_isUsed_0 p1 h0 a :=
 rq_X3_isUsed_0 p1 h0 a
theorem sd_X3_isUsed_0 {X : XDyn} {r0 : Rt} (C : XO X mX3_isUsed) : XS X mX3_isUsed r0 0 (rw_X3_isUsed_0) := sg_X3_isUsed_0 C
theorem ctr_X3_isUsed : XCt yX3_isUsed mX3_isUsed (xF mX3_isUsed (rw_X3_isUsed_0)) := xMet (by decide +kernel) rfl (fun _ _ C => sd_X3_isUsed_0 C)
theorem eqf_X3_isUsed (p1 : Int) (h0 : Ob) : xF mX3_isUsed (rw_X3_isUsed_0) [.inr (.inl (0, 0)), .inl p1] [h0] = md_X3_isUsed_0 p1 h0 () := eq_X3_isUsed_0 p1 h0 ()
theorem yi_X3_isUsed : yX3_isUsed.cls = RX3 ∧ yX3_isUsed.cls ≠ "java/lang/invoke/MethodHandle" ∧ yX3_isUsed.cls ≠ "java/lang/invoke/VarHandle" ∧ (parseMethodDescriptor yX3_isUsed.desc).map (fun d => d.parameters.length) = some 1 := ⟨rfl, by decide +kernel, by decide +kernel, by decide +kernel⟩
theorem sp_X3_isUsed (p1 : Int) (h0 : Ob) : md_X3_isUsed_0 p1 h0 () = RI (bz (inS (h0 0 7) p1)) [h0] := by
  simp only [md_X3_isUsed_0, mg_X3_isUsed_0, xb_bz, if_true]
noncomputable def f_X3_isUsed : List AV → List Ob → Option Rt
  | [.inr (.inl (0, 0)), .inl p1], [h0] => some (some (.inl (bz (inS (h0 0 7) p1))), [h0])
  | _, _ => none
theorem ct_X3_isUsed : XCt yX3_isUsed mX3_isUsed f_X3_isUsed := (ctr_X3_isUsed ).of (fun as μ r h => by
  unfold f_X3_isUsed at h
  split at h
  · rw [← h]
    exact (eqf_X3_isUsed _ _).trans (sp_X3_isUsed _ _)
  · cases h)
theorem dX3_isPurgeable_0 : decode cX3_isPurgeable 0 = .ok (.aload_n 0, 1) := by decide +kernel
theorem dX3_isPurgeable_1 : decode cX3_isPurgeable 1 = .ok (.getfield 37, 3) := by decide +kernel
theorem dX3_isPurgeable_4 : decode cX3_isPurgeable 4 = .ok (.iload_n 1, 1) := by decide +kernel
theorem dX3_isPurgeable_5 : decode cX3_isPurgeable 5 = .ok (.invokestatic 61, 3) := by decide +kernel
theorem dX3_isPurgeable_8 : decode cX3_isPurgeable 8 = .ok (.ireturn, 1) := by decide +kernel
abbrev mX3_isPurgeable : XM := (cX3_isPurgeable, 2, RX3, (some .boolean), shw_3, 1)
noncomputable def rg_X3_isPurgeable_0 : XK :=
 o_aload 0 <|
 o_get shw_3 3 8 <|
 o_iload 1 <|
 o_callS 2 1 [] f_X7_isIn <|
 o_zreturn
def en_X3_isPurgeable_0 (p1 : Int) (h0 : Ob) (a : Unit) : XSt := ([some (.inr (.inl (0, 0))), some (.inl p1)], [], [h0])
noncomputable def mg_X3_isPurgeable_0 (p1 : Int) (h0 : Ob) (a : Unit) : Option Rt :=
 if xb (bz (inS (h0 0 8) p1)) then RI (bz (inS (h0 0 8) p1)) [h0] else none
set_option maxRecDepth 100000 in
set_option maxHeartbeats 4000000 in
theorem rq_X3_isPurgeable_0 (p1 : Int) (h0 : Ob) (a : Unit) : rg_X3_isPurgeable_0 (en_X3_isPurgeable_0 p1 h0 a) = mg_X3_isPurgeable_0 p1 h0 a := rfl
set_option maxRecDepth 100000 in
set_option maxHeartbeats 4000000 in
theorem sg_X3_isPurgeable_0 {X : XDyn} {r0 : Rt} (C : XO X mX3_isPurgeable) : XS X mX3_isPurgeable r0 0 (rg_X3_isPurgeable_0) := by
 unfold rg_X3_isPurgeable_0
 exact s_aload_n (pc := 0) C dX3_isPurgeable_0 rfl <|
    s_get (pc := 1) C (ci := 3) (kf := 8) rfl inX3 (by decide) wd_123 dX3_isPurgeable_1 <|
    s_iload_n (pc := 4) C dX3_isPurgeable_4 rfl <|
    s_callN (pc := 5) C ct_X7_isIn (n := 2) (rk := 1) (mp := []) ⟨rfl, by decide, rfl⟩ (by decide) (by decide) yi_X7_isIn wd_354 wd_355 wd_73 wd_356 dX3_isPurgeable_5 <|
    s_zreturn (pc := 8) C rfl dX3_isPurgeable_8
noncomputable def rw_X3_isPurgeable_0 : XK := rg_X3_isPurgeable_0
noncomputable def md_X3_isPurgeable_0 (p1 : Int) (h0 : Ob) : Unit → Option Rt := mg_X3_isPurgeable_0 p1 h0
theorem eq_X3_isPurgeable_0 (p1 : Int) (h0 : Ob) (a : Unit) : rw_X3_isPurgeable_0 (en_X3_isPurgeable_0 p1 h0 a) = md_X3_isPurgeable_0 p1 h0 a :=
 rq_X3_isPurgeable_0 p1 h0 a
theorem sd_X3_isPurgeable_0 {X : XDyn} {r0 : Rt} (C : XO X mX3_isPurgeable) : XS X mX3_isPurgeable r0 0 (rw_X3_isPurgeable_0) := sg_X3_isPurgeable_0 C
theorem ctr_X3_isPurgeable : XCt yX3_isPurgeable mX3_isPurgeable (xF mX3_isPurgeable (rw_X3_isPurgeable_0)) := xMet (by decide +kernel) rfl (fun _ _ C => sd_X3_isPurgeable_0 C)
theorem eqf_X3_isPurgeable (p1 : Int) (h0 : Ob) : xF mX3_isPurgeable (rw_X3_isPurgeable_0) [.inr (.inl (0, 0)), .inl p1] [h0] = md_X3_isPurgeable_0 p1 h0 () := eq_X3_isPurgeable_0 p1 h0 ()
theorem yi_X3_isPurgeable : yX3_isPurgeable.cls = RX3 ∧ yX3_isPurgeable.cls ≠ "java/lang/invoke/MethodHandle" ∧ yX3_isPurgeable.cls ≠ "java/lang/invoke/VarHandle" ∧ (parseMethodDescriptor yX3_isPurgeable.desc).map (fun d => d.parameters.length) = some 1 := ⟨rfl, by decide +kernel, by decide +kernel, by decide +kernel⟩
theorem sp_X3_isPurgeable (p1 : Int) (h0 : Ob) : md_X3_isPurgeable_0 p1 h0 () = RI (bz (inS (h0 0 8) p1)) [h0] := by
  simp only [md_X3_isPurgeable_0, mg_X3_isPurgeable_0, xb_bz, if_true]
noncomputable def f_X3_isPurgeable : List AV → List Ob → Option Rt
  | [.inr (.inl (0, 0)), .inl p1], [h0] => some (some (.inl (bz (inS (h0 0 8) p1))), [h0])
  | _, _ => none
theorem ct_X3_isPurgeable : XCt yX3_isPurgeable mX3_isPurgeable f_X3_isPurgeable := (ctr_X3_isPurgeable ).of (fun as μ r h => by
  unfold f_X3_isPurgeable at h
  split at h
  · rw [← h]
    exact (eqf_X3_isPurgeable _ _).trans (sp_X3_isPurgeable _ _)
  · cases h)
theorem dX3_isFull_0 : decode cX3_isFull 0 = .ok (.iload_n 1, 1) := by decide +kernel
theorem dX3_isFull_1 : decode cX3_isFull 1 = .ok (.ifCond .lt 23, 3) := by decide +kernel
theorem dX3_isFull_4 : decode cX3_isFull 4 = .ok (.iload_n 1, 1) := by decide +kernel
theorem dX3_isFull_5 : decode cX3_isFull 5 = .ok (.bipush 8, 2) := by decide +kernel
theorem dX3_isFull_7 : decode cX3_isFull 7 = .ok (.if_icmp .ge 17, 3) := by decide +kernel
theorem dX3_isFull_10 : decode cX3_isFull 10 = .ok (.aload_n 0, 1) := by decide +kernel
theorem dX3_isFull_11 : decode cX3_isFull 11 = .ok (.getfield 9, 3) := by decide +kernel
theorem dX3_isFull_14 : decode cX3_isFull 14 = .ok (.iload_n 1, 1) := by decide +kernel
theorem dX3_isFull_15 : decode cX3_isFull 15 = .ok (.iaload, 1) := by decide +kernel
theorem dX3_isFull_16 : decode cX3_isFull 16 = .ok (.iconst (-1), 1) := by decide +kernel
theorem dX3_isFull_17 : decode cX3_isFull 17 = .ok (.if_icmp .eq 7, 3) := by decide +kernel
theorem dX3_isFull_20 : decode cX3_isFull 20 = .ok (.iconst 1, 1) := by decide +kernel
theorem dX3_isFull_21 : decode cX3_isFull 21 = .ok (.goto 4, 3) := by decide +kernel
theorem dX3_isFull_24 : decode cX3_isFull 24 = .ok (.iconst 0, 1) := by decide +kernel
theorem dX3_isFull_25 : decode cX3_isFull 25 = .ok (.ireturn, 1) := by decide +kernel
abbrev mX3_isFull : XM := (cX3_isFull, 2, RX3, (some .boolean), shw_3, 0)
noncomputable def rg_X3_isFull_0 : XK :=
 o_iload 1 <|
 o_if_lt (o_iconst 0 <|
 o_zreturn)
 (o_iload 1 <|
 o_iconst 8 <|
 o_icmp_ge (o_iconst 0 <|
 o_zreturn)
 (o_aload 0 <|
 o_get shw_3 3 0 <|
 o_iload 1 <|
 o_iald shw_3 <|
 o_iconst (-1) <|
 o_icmp_eq (o_iconst 0 <|
 o_zreturn)
 (o_iconst 1 <|
 o_zreturn)))
def en_X3_isFull_0 (p1 : Int) (h0 : Ob) (a : Unit) : XSt := ([some (.inr (.inl (0, 0))), some (.inl p1)], [], [h0])
noncomputable def mg_X3_isFull_0 (p1 : Int) (h0 : Ob) (a : Unit) : Option Rt :=
 if xw p1 < 0 then (RI 0 [h0])
 else (if xw p1 ≥ 8 then (RI 0 [h0])
 else (if xin p1 11 then (
 if xw (h0 1 (xw p1).toNat) = (-1) then (RI 0 [h0])
 else (RI 1 [h0])) else none))
set_option maxRecDepth 100000 in
set_option maxHeartbeats 4000000 in
theorem rq_X3_isFull_0 (p1 : Int) (h0 : Ob) (a : Unit) : rg_X3_isFull_0 (en_X3_isFull_0 p1 h0 a) = mg_X3_isFull_0 p1 h0 a := rfl
set_option maxRecDepth 100000 in
set_option maxHeartbeats 4000000 in
theorem sg_X3_isFull_0 {X : XDyn} {r0 : Rt} (C : XO X mX3_isFull) : XS X mX3_isFull r0 0 (rg_X3_isFull_0) := by
 unfold rg_X3_isFull_0
 exact s_iload_n (pc := 0) C dX3_isFull_0 rfl <|
    s_if_lt (pc := 1) C dX3_isFull_1 (by decide) (s_iconst (pc := 24) C dX3_isFull_24 <|
    s_zreturn (pc := 25) C rfl dX3_isFull_25)
    (s_iload_n (pc := 4) C dX3_isFull_4 rfl <|
    s_bipush (pc := 5) C dX3_isFull_5 (by decide) <|
    s_icmp_ge (pc := 7) C dX3_isFull_7 (by decide) (s_iconst (pc := 24) C dX3_isFull_24 <|
    s_zreturn (pc := 25) C rfl dX3_isFull_25)
    (s_aload_n (pc := 10) C dX3_isFull_10 rfl <|
    s_get (pc := 11) C (ci := 3) (kf := 0) rfl inX3 (by decide) wd_99 dX3_isFull_11 <|
    s_iload_n (pc := 14) C dX3_isFull_14 rfl <|
    s_iald (pc := 15) C dX3_isFull_15 <|
    s_iconst (pc := 16) C dX3_isFull_16 <|
    s_icmp_eq (pc := 17) C dX3_isFull_17 (by decide) (s_iconst (pc := 24) C dX3_isFull_24 <|
    s_zreturn (pc := 25) C rfl dX3_isFull_25)
    (s_iconst (pc := 20) C dX3_isFull_20 <|
    s_goto (pc := 21) C dX3_isFull_21 (by decide) <|
    s_zreturn (pc := 25) C rfl dX3_isFull_25)))
noncomputable def rw_X3_isFull_0 : XK := rg_X3_isFull_0
noncomputable def md_X3_isFull_0 (p1 : Int) (h0 : Ob) : Unit → Option Rt := mg_X3_isFull_0 p1 h0
theorem eq_X3_isFull_0 (p1 : Int) (h0 : Ob) (a : Unit) : rw_X3_isFull_0 (en_X3_isFull_0 p1 h0 a) = md_X3_isFull_0 p1 h0 a :=
 rq_X3_isFull_0 p1 h0 a
theorem sd_X3_isFull_0 {X : XDyn} {r0 : Rt} (C : XO X mX3_isFull) : XS X mX3_isFull r0 0 (rw_X3_isFull_0) := sg_X3_isFull_0 C
theorem ctr_X3_isFull : XCt yX3_isFull mX3_isFull (xF mX3_isFull (rw_X3_isFull_0)) := xMet (by decide +kernel) rfl (fun _ _ C => sd_X3_isFull_0 C)
theorem eqf_X3_isFull (p1 : Int) (h0 : Ob) : xF mX3_isFull (rw_X3_isFull_0) [.inr (.inl (0, 0)), .inl p1] [h0] = md_X3_isFull_0 p1 h0 () := eq_X3_isFull_0 p1 h0 ()
theorem yi_X3_isFull : yX3_isFull.cls = RX3 ∧ yX3_isFull.cls ≠ "java/lang/invoke/MethodHandle" ∧ yX3_isFull.cls ≠ "java/lang/invoke/VarHandle" ∧ (parseMethodDescriptor yX3_isFull.desc).map (fun d => d.parameters.length) = some 1 := ⟨rfl, by decide +kernel, by decide +kernel, by decide +kernel⟩
theorem sp_X3_isFull (p1 : Int) (h0 : Ob) : md_X3_isFull_0 p1 h0 () = RI (bz (ful h0 p1)) [h0] := by
  simp only [md_X3_isFull_0, mg_X3_isFull_0]
  cases hB : (ful h0 p1)
  all_goals (try simp only [ful, hdl, Bool.and_eq_true, Bool.or_eq_true, Bool.not_eq_true', Bool.not_eq_true, Bool.and_eq_false_iff, Bool.or_eq_false_iff, Bool.not_eq_false', Bool.not_eq_eq_eq_not, Bool.not_true, Bool.not_false, decide_eq_true_eq, decide_eq_false_iff_not] at hB)
  all_goals (repeat' split)
  all_goals first
    | rfl
    | (exfalso; (try simp only [xin, Bool.and_eq_true, Bool.or_eq_true, Bool.not_eq_true', Bool.not_eq_true, Bool.and_eq_false_iff, Bool.or_eq_false_iff, Bool.not_eq_false', Bool.not_eq_eq_eq_not, Bool.not_true, Bool.not_false, decide_eq_true_eq, decide_eq_false_iff_not] at *); omega)
noncomputable def f_X3_isFull : List AV → List Ob → Option Rt
  | [.inr (.inl (0, 0)), .inl p1], [h0] => some (some (.inl (bz (ful h0 p1))), [h0])
  | _, _ => none
theorem ct_X3_isFull : XCt yX3_isFull mX3_isFull f_X3_isFull := (ctr_X3_isFull ).of (fun as μ r h => by
  unfold f_X3_isFull at h
  split at h
  · rw [← h]
    exact (eqf_X3_isFull _ _).trans (sp_X3_isFull _ _)
  · cases h)
theorem dX3_isMovable_0 : decode cX3_isMovable 0 = .ok (.iload_n 1, 1) := by decide +kernel
theorem dX3_isMovable_1 : decode cX3_isMovable 1 = .ok (.ifCond .lt 32, 3) := by decide +kernel
theorem dX3_isMovable_4 : decode cX3_isMovable 4 = .ok (.iload_n 1, 1) := by decide +kernel
theorem dX3_isMovable_5 : decode cX3_isMovable 5 = .ok (.bipush 8, 2) := by decide +kernel
theorem dX3_isMovable_7 : decode cX3_isMovable 7 = .ok (.if_icmp .ge 26, 3) := by decide +kernel
theorem dX3_isMovable_10 : decode cX3_isMovable 10 = .ok (.aload_n 0, 1) := by decide +kernel
theorem dX3_isMovable_11 : decode cX3_isMovable 11 = .ok (.getfield 9, 3) := by decide +kernel
theorem dX3_isMovable_14 : decode cX3_isMovable 14 = .ok (.iload_n 1, 1) := by decide +kernel
theorem dX3_isMovable_15 : decode cX3_isMovable 15 = .ok (.iaload, 1) := by decide +kernel
theorem dX3_isMovable_16 : decode cX3_isMovable 16 = .ok (.iconst (-1), 1) := by decide +kernel
theorem dX3_isMovable_17 : decode cX3_isMovable 17 = .ok (.if_icmp .eq 16, 3) := by decide +kernel
theorem dX3_isMovable_20 : decode cX3_isMovable 20 = .ok (.aload_n 0, 1) := by decide +kernel
theorem dX3_isMovable_21 : decode cX3_isMovable 21 = .ok (.getfield 21, 3) := by decide +kernel
theorem dX3_isMovable_24 : decode cX3_isMovable 24 = .ok (.iload_n 1, 1) := by decide +kernel
theorem dX3_isMovable_25 : decode cX3_isMovable 25 = .ok (.iaload, 1) := by decide +kernel
theorem dX3_isMovable_26 : decode cX3_isMovable 26 = .ok (.ifCond .ne 7, 3) := by decide +kernel
theorem dX3_isMovable_29 : decode cX3_isMovable 29 = .ok (.iconst 1, 1) := by decide +kernel
theorem dX3_isMovable_30 : decode cX3_isMovable 30 = .ok (.goto 4, 3) := by decide +kernel
theorem dX3_isMovable_33 : decode cX3_isMovable 33 = .ok (.iconst 0, 1) := by decide +kernel
theorem dX3_isMovable_34 : decode cX3_isMovable 34 = .ok (.ireturn, 1) := by decide +kernel
abbrev mX3_isMovable : XM := (cX3_isMovable, 2, RX3, (some .boolean), shw_3, 0)
noncomputable def rg_X3_isMovable_0 : XK :=
 o_iload 1 <|
 o_if_lt (o_iconst 0 <|
 o_zreturn)
 (o_iload 1 <|
 o_iconst 8 <|
 o_icmp_ge (o_iconst 0 <|
 o_zreturn)
 (o_aload 0 <|
 o_get shw_3 3 0 <|
 o_iload 1 <|
 o_iald shw_3 <|
 o_iconst (-1) <|
 o_icmp_eq (o_iconst 0 <|
 o_zreturn)
 (o_aload 0 <|
 o_get shw_3 3 3 <|
 o_iload 1 <|
 o_iald shw_3 <|
 o_if_ne (o_iconst 0 <|
 o_zreturn)
 (o_iconst 1 <|
 o_zreturn))))
def en_X3_isMovable_0 (p1 : Int) (h0 : Ob) (a : Unit) : XSt := ([some (.inr (.inl (0, 0))), some (.inl p1)], [], [h0])
noncomputable def mg_X3_isMovable_0 (p1 : Int) (h0 : Ob) (a : Unit) : Option Rt :=
 if xw p1 < 0 then (RI 0 [h0])
 else (if xw p1 ≥ 8 then (RI 0 [h0])
 else (if xin p1 11 then (
 if xw (h0 1 (xw p1).toNat) = (-1) then (RI 0 [h0])
 else (if xin p1 8 then (
 if xw (h0 4 (xw p1).toNat) = 0 then (RI 1 [h0])
 else (RI 0 [h0])) else none)) else none))
set_option maxRecDepth 100000 in
set_option maxHeartbeats 4000000 in
theorem rq_X3_isMovable_0 (p1 : Int) (h0 : Ob) (a : Unit) : rg_X3_isMovable_0 (en_X3_isMovable_0 p1 h0 a) = mg_X3_isMovable_0 p1 h0 a := rfl
set_option maxRecDepth 100000 in
set_option maxHeartbeats 4000000 in
theorem sg_X3_isMovable_0 {X : XDyn} {r0 : Rt} (C : XO X mX3_isMovable) : XS X mX3_isMovable r0 0 (rg_X3_isMovable_0) := by
 unfold rg_X3_isMovable_0
 exact s_iload_n (pc := 0) C dX3_isMovable_0 rfl <|
    s_if_lt (pc := 1) C dX3_isMovable_1 (by decide) (s_iconst (pc := 33) C dX3_isMovable_33 <|
    s_zreturn (pc := 34) C rfl dX3_isMovable_34)
    (s_iload_n (pc := 4) C dX3_isMovable_4 rfl <|
    s_bipush (pc := 5) C dX3_isMovable_5 (by decide) <|
    s_icmp_ge (pc := 7) C dX3_isMovable_7 (by decide) (s_iconst (pc := 33) C dX3_isMovable_33 <|
    s_zreturn (pc := 34) C rfl dX3_isMovable_34)
    (s_aload_n (pc := 10) C dX3_isMovable_10 rfl <|
    s_get (pc := 11) C (ci := 3) (kf := 0) rfl inX3 (by decide) wd_99 dX3_isMovable_11 <|
    s_iload_n (pc := 14) C dX3_isMovable_14 rfl <|
    s_iald (pc := 15) C dX3_isMovable_15 <|
    s_iconst (pc := 16) C dX3_isMovable_16 <|
    s_icmp_eq (pc := 17) C dX3_isMovable_17 (by decide) (s_iconst (pc := 33) C dX3_isMovable_33 <|
    s_zreturn (pc := 34) C rfl dX3_isMovable_34)
    (s_aload_n (pc := 20) C dX3_isMovable_20 rfl <|
    s_get (pc := 21) C (ci := 3) (kf := 3) rfl inX3 (by decide) wd_112 dX3_isMovable_21 <|
    s_iload_n (pc := 24) C dX3_isMovable_24 rfl <|
    s_iald (pc := 25) C dX3_isMovable_25 <|
    s_if_ne (pc := 26) C dX3_isMovable_26 (by decide) (s_iconst (pc := 33) C dX3_isMovable_33 <|
    s_zreturn (pc := 34) C rfl dX3_isMovable_34)
    (s_iconst (pc := 29) C dX3_isMovable_29 <|
    s_goto (pc := 30) C dX3_isMovable_30 (by decide) <|
    s_zreturn (pc := 34) C rfl dX3_isMovable_34))))
noncomputable def rw_X3_isMovable_0 : XK := rg_X3_isMovable_0
noncomputable def md_X3_isMovable_0 (p1 : Int) (h0 : Ob) : Unit → Option Rt := mg_X3_isMovable_0 p1 h0
theorem eq_X3_isMovable_0 (p1 : Int) (h0 : Ob) (a : Unit) : rw_X3_isMovable_0 (en_X3_isMovable_0 p1 h0 a) = md_X3_isMovable_0 p1 h0 a :=
 rq_X3_isMovable_0 p1 h0 a
theorem sd_X3_isMovable_0 {X : XDyn} {r0 : Rt} (C : XO X mX3_isMovable) : XS X mX3_isMovable r0 0 (rw_X3_isMovable_0) := sg_X3_isMovable_0 C
theorem ctr_X3_isMovable : XCt yX3_isMovable mX3_isMovable (xF mX3_isMovable (rw_X3_isMovable_0)) := xMet (by decide +kernel) rfl (fun _ _ C => sd_X3_isMovable_0 C)
theorem eqf_X3_isMovable (p1 : Int) (h0 : Ob) : xF mX3_isMovable (rw_X3_isMovable_0) [.inr (.inl (0, 0)), .inl p1] [h0] = md_X3_isMovable_0 p1 h0 () := eq_X3_isMovable_0 p1 h0 ()
theorem yi_X3_isMovable : yX3_isMovable.cls = RX3 ∧ yX3_isMovable.cls ≠ "java/lang/invoke/MethodHandle" ∧ yX3_isMovable.cls ≠ "java/lang/invoke/VarHandle" ∧ (parseMethodDescriptor yX3_isMovable.desc).map (fun d => d.parameters.length) = some 1 := ⟨rfl, by decide +kernel, by decide +kernel, by decide +kernel⟩
theorem sp_X3_isMovable (p1 : Int) (h0 : Ob) : md_X3_isMovable_0 p1 h0 () = RI (bz (mov h0 p1)) [h0] := by
  simp only [md_X3_isMovable_0, mg_X3_isMovable_0]
  cases hB : (mov h0 p1)
  all_goals (try simp only [mov, ful, hdl, Bool.and_eq_true, Bool.or_eq_true, Bool.not_eq_true', Bool.not_eq_true, Bool.and_eq_false_iff, Bool.or_eq_false_iff, Bool.not_eq_false', Bool.not_eq_eq_eq_not, Bool.not_true, Bool.not_false, decide_eq_true_eq, decide_eq_false_iff_not] at hB)
  all_goals (repeat' split)
  all_goals first
    | rfl
    | (exfalso; (try simp only [xin, Bool.and_eq_true, Bool.or_eq_true, Bool.not_eq_true', Bool.not_eq_true, Bool.and_eq_false_iff, Bool.or_eq_false_iff, Bool.not_eq_false', Bool.not_eq_eq_eq_not, Bool.not_true, Bool.not_false, decide_eq_true_eq, decide_eq_false_iff_not] at *); omega)
noncomputable def f_X3_isMovable : List AV → List Ob → Option Rt
  | [.inr (.inl (0, 0)), .inl p1], [h0] => some (some (.inl (bz (mov h0 p1))), [h0])
  | _, _ => none
theorem ct_X3_isMovable : XCt yX3_isMovable mX3_isMovable f_X3_isMovable := (ctr_X3_isMovable ).of (fun as μ r h => by
  unfold f_X3_isMovable at h
  split at h
  · rw [← h]
    exact (eqf_X3_isMovable _ _).trans (sp_X3_isMovable _ _)
  · cases h)
theorem dX3_isIsland_0 : decode cX3_isIsland 0 = .ok (.iload_n 1, 1) := by decide +kernel
theorem dX3_isIsland_1 : decode cX3_isIsland 1 = .ok (.ifCond .lt 25, 3) := by decide +kernel
theorem dX3_isIsland_4 : decode cX3_isIsland 4 = .ok (.iload_n 1, 1) := by decide +kernel
theorem dX3_isIsland_5 : decode cX3_isIsland 5 = .ok (.iconst 3, 1) := by decide +kernel
theorem dX3_isIsland_6 : decode cX3_isIsland 6 = .ok (.if_icmp .ge 20, 3) := by decide +kernel
theorem dX3_isIsland_9 : decode cX3_isIsland 9 = .ok (.aload_n 0, 1) := by decide +kernel
theorem dX3_isIsland_10 : decode cX3_isIsland 10 = .ok (.getfield 9, 3) := by decide +kernel
theorem dX3_isIsland_13 : decode cX3_isIsland 13 = .ok (.bipush 8, 2) := by decide +kernel
theorem dX3_isIsland_15 : decode cX3_isIsland 15 = .ok (.iload_n 1, 1) := by decide +kernel
theorem dX3_isIsland_16 : decode cX3_isIsland 16 = .ok (.iadd, 1) := by decide +kernel
theorem dX3_isIsland_17 : decode cX3_isIsland 17 = .ok (.iaload, 1) := by decide +kernel
theorem dX3_isIsland_18 : decode cX3_isIsland 18 = .ok (.iconst (-1), 1) := by decide +kernel
theorem dX3_isIsland_19 : decode cX3_isIsland 19 = .ok (.if_icmp .eq 7, 3) := by decide +kernel
theorem dX3_isIsland_22 : decode cX3_isIsland 22 = .ok (.iconst 1, 1) := by decide +kernel
theorem dX3_isIsland_23 : decode cX3_isIsland 23 = .ok (.goto 4, 3) := by decide +kernel
theorem dX3_isIsland_26 : decode cX3_isIsland 26 = .ok (.iconst 0, 1) := by decide +kernel
theorem dX3_isIsland_27 : decode cX3_isIsland 27 = .ok (.ireturn, 1) := by decide +kernel
abbrev mX3_isIsland : XM := (cX3_isIsland, 2, RX3, (some .boolean), shw_3, 0)
noncomputable def rg_X3_isIsland_0 : XK :=
 o_iload 1 <|
 o_if_lt (o_iconst 0 <|
 o_zreturn)
 (o_iload 1 <|
 o_iconst 3 <|
 o_icmp_ge (o_iconst 0 <|
 o_zreturn)
 (o_aload 0 <|
 o_get shw_3 3 0 <|
 o_iconst 8 <|
 o_iload 1 <|
 o_iadd <|
 o_iald shw_3 <|
 o_iconst (-1) <|
 o_icmp_eq (o_iconst 0 <|
 o_zreturn)
 (o_iconst 1 <|
 o_zreturn)))
def en_X3_isIsland_0 (p1 : Int) (h0 : Ob) (a : Unit) : XSt := ([some (.inr (.inl (0, 0))), some (.inl p1)], [], [h0])
noncomputable def mg_X3_isIsland_0 (p1 : Int) (h0 : Ob) (a : Unit) : Option Rt :=
 if xw p1 < 0 then (RI 0 [h0])
 else (if xw p1 ≥ 3 then (RI 0 [h0])
 else (if xin (8 + p1) 11 then (
 if xw (h0 1 (xw (8 + p1)).toNat) = (-1) then (RI 0 [h0])
 else (RI 1 [h0])) else none))
set_option maxRecDepth 100000 in
set_option maxHeartbeats 4000000 in
theorem rq_X3_isIsland_0 (p1 : Int) (h0 : Ob) (a : Unit) : rg_X3_isIsland_0 (en_X3_isIsland_0 p1 h0 a) = mg_X3_isIsland_0 p1 h0 a := rfl
set_option maxRecDepth 100000 in
set_option maxHeartbeats 4000000 in
theorem sg_X3_isIsland_0 {X : XDyn} {r0 : Rt} (C : XO X mX3_isIsland) : XS X mX3_isIsland r0 0 (rg_X3_isIsland_0) := by
 unfold rg_X3_isIsland_0
 exact s_iload_n (pc := 0) C dX3_isIsland_0 rfl <|
    s_if_lt (pc := 1) C dX3_isIsland_1 (by decide) (s_iconst (pc := 26) C dX3_isIsland_26 <|
    s_zreturn (pc := 27) C rfl dX3_isIsland_27)
    (s_iload_n (pc := 4) C dX3_isIsland_4 rfl <|
    s_iconst (pc := 5) C dX3_isIsland_5 <|
    s_icmp_ge (pc := 6) C dX3_isIsland_6 (by decide) (s_iconst (pc := 26) C dX3_isIsland_26 <|
    s_zreturn (pc := 27) C rfl dX3_isIsland_27)
    (s_aload_n (pc := 9) C dX3_isIsland_9 rfl <|
    s_get (pc := 10) C (ci := 3) (kf := 0) rfl inX3 (by decide) wd_99 dX3_isIsland_10 <|
    s_bipush (pc := 13) C dX3_isIsland_13 (by decide) <|
    s_iload_n (pc := 15) C dX3_isIsland_15 rfl <|
    s_iadd (pc := 16) C dX3_isIsland_16 <|
    s_iald (pc := 17) C dX3_isIsland_17 <|
    s_iconst (pc := 18) C dX3_isIsland_18 <|
    s_icmp_eq (pc := 19) C dX3_isIsland_19 (by decide) (s_iconst (pc := 26) C dX3_isIsland_26 <|
    s_zreturn (pc := 27) C rfl dX3_isIsland_27)
    (s_iconst (pc := 22) C dX3_isIsland_22 <|
    s_goto (pc := 23) C dX3_isIsland_23 (by decide) <|
    s_zreturn (pc := 27) C rfl dX3_isIsland_27)))
noncomputable def rw_X3_isIsland_0 : XK := rg_X3_isIsland_0
noncomputable def md_X3_isIsland_0 (p1 : Int) (h0 : Ob) : Unit → Option Rt := mg_X3_isIsland_0 p1 h0
theorem eq_X3_isIsland_0 (p1 : Int) (h0 : Ob) (a : Unit) : rw_X3_isIsland_0 (en_X3_isIsland_0 p1 h0 a) = md_X3_isIsland_0 p1 h0 a :=
 rq_X3_isIsland_0 p1 h0 a
theorem sd_X3_isIsland_0 {X : XDyn} {r0 : Rt} (C : XO X mX3_isIsland) : XS X mX3_isIsland r0 0 (rw_X3_isIsland_0) := sg_X3_isIsland_0 C
theorem ctr_X3_isIsland : XCt yX3_isIsland mX3_isIsland (xF mX3_isIsland (rw_X3_isIsland_0)) := xMet (by decide +kernel) rfl (fun _ _ C => sd_X3_isIsland_0 C)
theorem eqf_X3_isIsland (p1 : Int) (h0 : Ob) : xF mX3_isIsland (rw_X3_isIsland_0) [.inr (.inl (0, 0)), .inl p1] [h0] = md_X3_isIsland_0 p1 h0 () := eq_X3_isIsland_0 p1 h0 ()
theorem yi_X3_isIsland : yX3_isIsland.cls = RX3 ∧ yX3_isIsland.cls ≠ "java/lang/invoke/MethodHandle" ∧ yX3_isIsland.cls ≠ "java/lang/invoke/VarHandle" ∧ (parseMethodDescriptor yX3_isIsland.desc).map (fun d => d.parameters.length) = some 1 := ⟨rfl, by decide +kernel, by decide +kernel, by decide +kernel⟩
theorem xw_8 {a : Int} (h1 : 0 ≤ xw a) (h2 : xw a < 3) : xw (8 + a) = 8 + xw a := by
  simp only [xw_def] at *
  omega
theorem sp_X3_isIsland (p1 : Int) (h0 : Ob) : md_X3_isIsland_0 p1 h0 () = RI (bz (isl h0 p1)) [h0] := by
  simp only [md_X3_isIsland_0, mg_X3_isIsland_0]
  have h8 : 0 ≤ xw p1 → xw p1 < 3 → xw (8 + p1) = 8 + xw p1 := xw_8
  cases hB : (isl h0 p1)
  all_goals (try simp only [isl, Bool.and_eq_true, Bool.or_eq_true, Bool.not_eq_true', Bool.not_eq_true, Bool.and_eq_false_iff, Bool.or_eq_false_iff, Bool.not_eq_false', Bool.not_eq_eq_eq_not, Bool.not_true, Bool.not_false, decide_eq_true_eq, decide_eq_false_iff_not] at hB)
  all_goals (repeat' split)
  all_goals first
    | rfl
    | (exfalso; (try simp only [xin, Bool.and_eq_true, Bool.or_eq_true, Bool.not_eq_true', Bool.not_eq_true, Bool.and_eq_false_iff, Bool.or_eq_false_iff, Bool.not_eq_false', Bool.not_eq_eq_eq_not, Bool.not_true, Bool.not_false, decide_eq_true_eq, decide_eq_false_iff_not] at *); omega)
noncomputable def f_X3_isIsland : List AV → List Ob → Option Rt
  | [.inr (.inl (0, 0)), .inl p1], [h0] => some (some (.inl (bz (isl h0 p1))), [h0])
  | _, _ => none
theorem ct_X3_isIsland : XCt yX3_isIsland mX3_isIsland f_X3_isIsland := (ctr_X3_isIsland ).of (fun as μ r h => by
  unfold f_X3_isIsland at h
  split at h
  · rw [← h]
    exact (eqf_X3_isIsland _ _).trans (sp_X3_isIsland _ _)
  · cases h)
theorem dX3_kindOf_0 : decode cX3_kindOf 0 = .ok (.aload_n 0, 1) := by decide +kernel
theorem dX3_kindOf_1 : decode cX3_kindOf 1 = .ok (.iload_n 1, 1) := by decide +kernel
theorem dX3_kindOf_2 : decode cX3_kindOf 2 = .ok (.invokevirtual 65, 3) := by decide +kernel
theorem dX3_kindOf_5 : decode cX3_kindOf 5 = .ok (.ifCond .ne 5, 3) := by decide +kernel
theorem dX3_kindOf_8 : decode cX3_kindOf 8 = .ok (.iconst 0, 1) := by decide +kernel
theorem dX3_kindOf_9 : decode cX3_kindOf 9 = .ok (.ireturn, 1) := by decide +kernel
theorem dX3_kindOf_10 : decode cX3_kindOf 10 = .ok (.aload_n 0, 1) := by decide +kernel
theorem dX3_kindOf_11 : decode cX3_kindOf 11 = .ok (.iload_n 1, 1) := by decide +kernel
theorem dX3_kindOf_12 : decode cX3_kindOf 12 = .ok (.invokevirtual 69, 3) := by decide +kernel
theorem dX3_kindOf_15 : decode cX3_kindOf 15 = .ok (.ifCond .eq 7, 3) := by decide +kernel
theorem dX3_kindOf_18 : decode cX3_kindOf 18 = .ok (.iconst 1, 1) := by decide +kernel
theorem dX3_kindOf_19 : decode cX3_kindOf 19 = .ok (.goto 4, 3) := by decide +kernel
theorem dX3_kindOf_22 : decode cX3_kindOf 22 = .ok (.iconst 2, 1) := by decide +kernel
theorem dX3_kindOf_23 : decode cX3_kindOf 23 = .ok (.ireturn, 1) := by decide +kernel
abbrev mX3_kindOf : XM := (cX3_kindOf, 2, RX3, (some .int), shw_3, 2)
noncomputable def rg_X3_kindOf_0 : XK :=
 o_aload 0 <|
 o_iload 1 <|
 o_callV 2 1 [0] f_X3_isUsed <|
 o_if_ne (o_aload 0 <|
 o_iload 1 <|
 o_callV 2 1 [0] f_X3_isFull <|
 o_if_eq (o_iconst 2 <|
 o_ireturn)
 (o_iconst 1 <|
 o_ireturn))
 (o_iconst 0 <|
 o_ireturn)
def en_X3_kindOf_0 (p1 : Int) (h0 : Ob) (a : Unit) : XSt := ([some (.inr (.inl (0, 0))), some (.inl p1)], [], [h0])
noncomputable def mg_X3_kindOf_0 (p1 : Int) (h0 : Ob) (a : Unit) : Option Rt :=
 if xw (bz (inS (h0 0 7) p1)) = 0 then (RI 0 [h0])
 else (if xw (bz (ful h0 p1)) = 0 then (RI 2 [h0])
 else (RI 1 [h0]))
set_option maxRecDepth 100000 in
set_option maxHeartbeats 4000000 in
theorem rq_X3_kindOf_0 (p1 : Int) (h0 : Ob) (a : Unit) : rg_X3_kindOf_0 (en_X3_kindOf_0 p1 h0 a) = mg_X3_kindOf_0 p1 h0 a := rfl
set_option maxRecDepth 100000 in
set_option maxHeartbeats 4000000 in
theorem sg_X3_kindOf_0 {X : XDyn} {r0 : Rt} (C : XO X mX3_kindOf) : XS X mX3_kindOf r0 0 (rg_X3_kindOf_0) := by
 unfold rg_X3_kindOf_0
 exact s_aload_n (pc := 0) C dX3_kindOf_0 rfl <|
    s_iload_n (pc := 1) C dX3_kindOf_1 rfl <|
    s_callV (pc := 2) C ct_X3_isUsed (n := 2) (rk := 1) (mp := [0]) ⟨rfl, by decide, rfl⟩ (ci := 3) rfl rfl (by decide) (by decide) yi_X3_isUsed (by decide) wd_350 wd_351 wd_352 wd_74 wd_353 dX3_kindOf_2 <|
    s_if_ne (pc := 5) C dX3_kindOf_5 (by decide) (s_aload_n (pc := 10) C dX3_kindOf_10 rfl <|
    s_iload_n (pc := 11) C dX3_kindOf_11 rfl <|
    s_callV (pc := 12) C ct_X3_isFull (n := 2) (rk := 1) (mp := [0]) ⟨rfl, by decide, rfl⟩ (ci := 3) rfl rfl (by decide) (by decide) yi_X3_isFull (by decide) wd_638 wd_556 wd_557 wd_74 wd_558 dX3_kindOf_12 <|
    s_if_eq (pc := 15) C dX3_kindOf_15 (by decide) (s_iconst (pc := 22) C dX3_kindOf_22 <|
    s_ireturn (pc := 23) C rfl dX3_kindOf_23)
    (s_iconst (pc := 18) C dX3_kindOf_18 <|
    s_goto (pc := 19) C dX3_kindOf_19 (by decide) <|
    s_ireturn (pc := 23) C rfl dX3_kindOf_23))
    (s_iconst (pc := 8) C dX3_kindOf_8 <|
    s_ireturn (pc := 9) C rfl dX3_kindOf_9)
noncomputable def rw_X3_kindOf_0 : XK := rg_X3_kindOf_0
noncomputable def md_X3_kindOf_0 (p1 : Int) (h0 : Ob) : Unit → Option Rt := mg_X3_kindOf_0 p1 h0
theorem eq_X3_kindOf_0 (p1 : Int) (h0 : Ob) (a : Unit) : rw_X3_kindOf_0 (en_X3_kindOf_0 p1 h0 a) = md_X3_kindOf_0 p1 h0 a :=
 rq_X3_kindOf_0 p1 h0 a
theorem sd_X3_kindOf_0 {X : XDyn} {r0 : Rt} (C : XO X mX3_kindOf) : XS X mX3_kindOf r0 0 (rw_X3_kindOf_0) := sg_X3_kindOf_0 C
theorem ctr_X3_kindOf : XCt yX3_kindOf mX3_kindOf (xF mX3_kindOf (rw_X3_kindOf_0)) := xMet (by decide +kernel) rfl (fun _ _ C => sd_X3_kindOf_0 C)
theorem eqf_X3_kindOf (p1 : Int) (h0 : Ob) : xF mX3_kindOf (rw_X3_kindOf_0) [.inr (.inl (0, 0)), .inl p1] [h0] = md_X3_kindOf_0 p1 h0 () := eq_X3_kindOf_0 p1 h0 ()
theorem yi_X3_kindOf : yX3_kindOf.cls = RX3 ∧ yX3_kindOf.cls ≠ "java/lang/invoke/MethodHandle" ∧ yX3_kindOf.cls ≠ "java/lang/invoke/VarHandle" ∧ (parseMethodDescriptor yX3_kindOf.desc).map (fun d => d.parameters.length) = some 1 := ⟨rfl, by decide +kernel, by decide +kernel, by decide +kernel⟩
theorem sp_X3_kindOf (p1 : Int) (h0 : Ob) : md_X3_kindOf_0 p1 h0 () = RI (knd h0 p1) [h0] := by
  simp only [md_X3_kindOf_0, mg_X3_kindOf_0, knd]
  cases inS (h0 0 7) p1 <;> cases ful h0 p1 <;> simp [bz, xw0, xw1]
noncomputable def f_X3_kindOf : List AV → List Ob → Option Rt
  | [.inr (.inl (0, 0)), .inl p1], [h0] => some (some (.inl (knd h0 p1)), [h0])
  | _, _ => none
theorem ct_X3_kindOf : XCt yX3_kindOf mX3_kindOf f_X3_kindOf := (ctr_X3_kindOf ).of (fun as μ r h => by
  unfold f_X3_kindOf at h
  split at h
  · rw [← h]
    exact (eqf_X3_kindOf _ _).trans (sp_X3_kindOf _ _)
  · cases h)
theorem dX3_isCell_0 : decode cX3_isCell 0 = .ok (.iload_n 1, 1) := by decide +kernel
theorem dX3_isCell_1 : decode cX3_isCell 1 = .ok (.ifCond .lt 15, 3) := by decide +kernel
theorem dX3_isCell_4 : decode cX3_isCell 4 = .ok (.iload_n 1, 1) := by decide +kernel
theorem dX3_isCell_5 : decode cX3_isCell 5 = .ok (.aload_n 0, 1) := by decide +kernel
theorem dX3_isCell_6 : decode cX3_isCell 6 = .ok (.getfield 40, 3) := by decide +kernel
theorem dX3_isCell_9 : decode cX3_isCell 9 = .ok (.if_icmp .ge 7, 3) := by decide +kernel
theorem dX3_isCell_12 : decode cX3_isCell 12 = .ok (.iconst 1, 1) := by decide +kernel
theorem dX3_isCell_13 : decode cX3_isCell 13 = .ok (.goto 4, 3) := by decide +kernel
theorem dX3_isCell_16 : decode cX3_isCell 16 = .ok (.iconst 0, 1) := by decide +kernel
theorem dX3_isCell_17 : decode cX3_isCell 17 = .ok (.ireturn, 1) := by decide +kernel
abbrev mX3_isCell : XM := (cX3_isCell, 2, RX3, (some .boolean), shw_3, 0)
noncomputable def rg_X3_isCell_0 : XK :=
 o_iload 1 <|
 o_if_lt (o_iconst 0 <|
 o_zreturn)
 (o_iload 1 <|
 o_aload 0 <|
 o_get shw_3 3 9 <|
 o_icmp_ge (o_iconst 0 <|
 o_zreturn)
 (o_iconst 1 <|
 o_zreturn))
def en_X3_isCell_0 (p1 : Int) (h0 : Ob) (a : Unit) : XSt := ([some (.inr (.inl (0, 0))), some (.inl p1)], [], [h0])
noncomputable def mg_X3_isCell_0 (p1 : Int) (h0 : Ob) (a : Unit) : Option Rt :=
 if xw p1 < 0 then (RI 0 [h0])
 else (if xw p1 ≥ xw (h0 0 9) then (RI 0 [h0])
 else (RI 1 [h0]))
set_option maxRecDepth 100000 in
set_option maxHeartbeats 4000000 in
theorem rq_X3_isCell_0 (p1 : Int) (h0 : Ob) (a : Unit) : rg_X3_isCell_0 (en_X3_isCell_0 p1 h0 a) = mg_X3_isCell_0 p1 h0 a := rfl
set_option maxRecDepth 100000 in
set_option maxHeartbeats 4000000 in
theorem sg_X3_isCell_0 {X : XDyn} {r0 : Rt} (C : XO X mX3_isCell) : XS X mX3_isCell r0 0 (rg_X3_isCell_0) := by
 unfold rg_X3_isCell_0
 exact s_iload_n (pc := 0) C dX3_isCell_0 rfl <|
    s_if_lt (pc := 1) C dX3_isCell_1 (by decide) (s_iconst (pc := 16) C dX3_isCell_16 <|
    s_zreturn (pc := 17) C rfl dX3_isCell_17)
    (s_iload_n (pc := 4) C dX3_isCell_4 rfl <|
    s_aload_n (pc := 5) C dX3_isCell_5 rfl <|
    s_get (pc := 6) C (ci := 3) (kf := 9) rfl inX3 (by decide) wd_127 dX3_isCell_6 <|
    s_icmp_ge (pc := 9) C dX3_isCell_9 (by decide) (s_iconst (pc := 16) C dX3_isCell_16 <|
    s_zreturn (pc := 17) C rfl dX3_isCell_17)
    (s_iconst (pc := 12) C dX3_isCell_12 <|
    s_goto (pc := 13) C dX3_isCell_13 (by decide) <|
    s_zreturn (pc := 17) C rfl dX3_isCell_17))
noncomputable def rw_X3_isCell_0 : XK := rg_X3_isCell_0
noncomputable def md_X3_isCell_0 (p1 : Int) (h0 : Ob) : Unit → Option Rt := mg_X3_isCell_0 p1 h0
theorem eq_X3_isCell_0 (p1 : Int) (h0 : Ob) (a : Unit) : rw_X3_isCell_0 (en_X3_isCell_0 p1 h0 a) = md_X3_isCell_0 p1 h0 a :=
 rq_X3_isCell_0 p1 h0 a
theorem sd_X3_isCell_0 {X : XDyn} {r0 : Rt} (C : XO X mX3_isCell) : XS X mX3_isCell r0 0 (rw_X3_isCell_0) := sg_X3_isCell_0 C
theorem ctr_X3_isCell : XCt yX3_isCell mX3_isCell (xF mX3_isCell (rw_X3_isCell_0)) := xMet (by decide +kernel) rfl (fun _ _ C => sd_X3_isCell_0 C)
theorem eqf_X3_isCell (p1 : Int) (h0 : Ob) : xF mX3_isCell (rw_X3_isCell_0) [.inr (.inl (0, 0)), .inl p1] [h0] = md_X3_isCell_0 p1 h0 () := eq_X3_isCell_0 p1 h0 ()
theorem yi_X3_isCell : yX3_isCell.cls = RX3 ∧ yX3_isCell.cls ≠ "java/lang/invoke/MethodHandle" ∧ yX3_isCell.cls ≠ "java/lang/invoke/VarHandle" ∧ (parseMethodDescriptor yX3_isCell.desc).map (fun d => d.parameters.length) = some 1 := ⟨rfl, by decide +kernel, by decide +kernel, by decide +kernel⟩
theorem sp_X3_isCell (p1 : Int) (h0 : Ob) : md_X3_isCell_0 p1 h0 () = RI (bz (isc h0 p1)) [h0] := by
  simp only [md_X3_isCell_0, mg_X3_isCell_0]
  cases hB : (isc h0 p1)
  all_goals (try simp only [isc, Bool.and_eq_true, Bool.or_eq_true, Bool.not_eq_true', Bool.not_eq_true, Bool.and_eq_false_iff, Bool.or_eq_false_iff, Bool.not_eq_false', Bool.not_eq_eq_eq_not, Bool.not_true, Bool.not_false, decide_eq_true_eq, decide_eq_false_iff_not] at hB)
  all_goals (repeat' split)
  all_goals first
    | rfl
    | (exfalso; (try simp only [xin, Bool.and_eq_true, Bool.or_eq_true, Bool.not_eq_true', Bool.not_eq_true, Bool.and_eq_false_iff, Bool.or_eq_false_iff, Bool.not_eq_false', Bool.not_eq_eq_eq_not, Bool.not_true, Bool.not_false, decide_eq_true_eq, decide_eq_false_iff_not] at *); omega)
noncomputable def f_X3_isCell : List AV → List Ob → Option Rt
  | [.inr (.inl (0, 0)), .inl p1], [h0] => some (some (.inl (bz (isc h0 p1))), [h0])
  | _, _ => none
theorem ct_X3_isCell : XCt yX3_isCell mX3_isCell f_X3_isCell := (ctr_X3_isCell ).of (fun as μ r h => by
  unfold f_X3_isCell at h
  split at h
  · rw [← h]
    exact (eqf_X3_isCell _ _).trans (sp_X3_isCell _ _)
  · cases h)
theorem dX3_holderAt_0 : decode cX3_holderAt 0 = .ok (.iconst 0, 1) := by decide +kernel
theorem dX3_holderAt_1 : decode cX3_holderAt 1 = .ok (.istore_n 2, 1) := by decide +kernel
theorem dX3_holderAt_2 : decode cX3_holderAt 2 = .ok (.iload_n 2, 1) := by decide +kernel
theorem dX3_holderAt_3 : decode cX3_holderAt 3 = .ok (.bipush 11, 2) := by decide +kernel
theorem dX3_holderAt_5 : decode cX3_holderAt 5 = .ok (.if_icmp .ge 21, 3) := by decide +kernel
theorem dX3_holderAt_8 : decode cX3_holderAt 8 = .ok (.aload_n 0, 1) := by decide +kernel
theorem dX3_holderAt_9 : decode cX3_holderAt 9 = .ok (.getfield 9, 3) := by decide +kernel
theorem dX3_holderAt_12 : decode cX3_holderAt 12 = .ok (.iload_n 2, 1) := by decide +kernel
theorem dX3_holderAt_13 : decode cX3_holderAt 13 = .ok (.iaload, 1) := by decide +kernel
theorem dX3_holderAt_14 : decode cX3_holderAt 14 = .ok (.iload_n 1, 1) := by decide +kernel
theorem dX3_holderAt_15 : decode cX3_holderAt 15 = .ok (.if_icmp .ne 5, 3) := by decide +kernel
theorem dX3_holderAt_18 : decode cX3_holderAt 18 = .ok (.iload_n 2, 1) := by decide +kernel
theorem dX3_holderAt_19 : decode cX3_holderAt 19 = .ok (.ireturn, 1) := by decide +kernel
theorem dX3_holderAt_20 : decode cX3_holderAt 20 = .ok (.iinc 2 1, 3) := by decide +kernel
theorem dX3_holderAt_23 : decode cX3_holderAt 23 = .ok (.goto (-21), 3) := by decide +kernel
theorem dX3_holderAt_26 : decode cX3_holderAt 26 = .ok (.iconst (-1), 1) := by decide +kernel
theorem dX3_holderAt_27 : decode cX3_holderAt 27 = .ok (.ireturn, 1) := by decide +kernel
abbrev mX3_holderAt : XM := (cX3_holderAt, 3, RX3, (some .int), shw_3, 0)
noncomputable def rg_X3_holderAt_0 (k2 : XK) : XK :=
 o_iconst 0 <|
 o_istore 2 <|
 o_cut [] k2
def en_X3_holderAt_0 (p1 : Int) (h0 : Ob) (a : Unit) : XSt := ([some (.inr (.inl (0, 0))), some (.inl p1), none], [], [h0])
noncomputable def rg_X3_holderAt_2 (k2 : XK) : XK :=
 o_iload 2 <|
 o_iconst 11 <|
 o_icmp_ge (o_iconst (-1) <|
 o_ireturn)
 (o_aload 0 <|
 o_get shw_3 3 0 <|
 o_iload 2 <|
 o_iald shw_3 <|
 o_iload 1 <|
 o_icmp_ne (o_iinc 2 1 <|
 o_cut [] k2)
 (o_iload 2 <|
 o_ireturn))
def en_X3_holderAt_2 (p1 : Int) (h0 : Ob) (a : Int) : XSt := ([some (.inr (.inl (0, 0))), some (.inl p1), some (.inl a)], [], [h0])
noncomputable def mg_X3_holderAt_0 (p1 : Int) (h0 : Ob) (k2 : Int → Option Rt) (a : Unit) : Option Rt :=
 k2 0
set_option maxRecDepth 100000 in
set_option maxHeartbeats 4000000 in
theorem rq_X3_holderAt_0 (p1 : Int) (h0 : Ob) (k2 : XK) (a : Unit) : rg_X3_holderAt_0 k2 (en_X3_holderAt_0 p1 h0 a) = mg_X3_holderAt_0 p1 h0 (fun b => k2 (en_X3_holderAt_2 p1 h0 b)) a := rfl
set_option maxRecDepth 100000 in
set_option maxHeartbeats 4000000 in
theorem sg_X3_holderAt_0 {X : XDyn} {r0 : Rt} (C : XO X mX3_holderAt) {k2 : XK} (q2 : XS X mX3_holderAt r0 2 k2) : XS X mX3_holderAt r0 0 (rg_X3_holderAt_0 k2) := by
 unfold rg_X3_holderAt_0
 exact s_iconst (pc := 0) C dX3_holderAt_0 <|
    s_istore_n (pc := 1) C dX3_holderAt_1 rfl <|
    s_cut q2
noncomputable def mg_X3_holderAt_2 (p1 : Int) (h0 : Ob) (k2 : Int → Option Rt) (a : Int) : Option Rt :=
 if xw a ≥ 11 then (RI (-1) [h0])
 else (if xin a 11 then (
 if xw (h0 1 (xw a).toNat) = xw p1 then (RI a [h0])
 else (k2 (a + 1))) else none)
set_option maxRecDepth 100000 in
set_option maxHeartbeats 4000000 in
theorem rq_X3_holderAt_2 (p1 : Int) (h0 : Ob) (k2 : XK) (a : Int) : rg_X3_holderAt_2 k2 (en_X3_holderAt_2 p1 h0 a) = mg_X3_holderAt_2 p1 h0 (fun b => k2 (en_X3_holderAt_2 p1 h0 b)) a := rfl
set_option maxRecDepth 100000 in
set_option maxHeartbeats 4000000 in
theorem sg_X3_holderAt_2 {X : XDyn} {r0 : Rt} (C : XO X mX3_holderAt) {k2 : XK} (q2 : XS X mX3_holderAt r0 2 k2) : XS X mX3_holderAt r0 2 (rg_X3_holderAt_2 k2) := by
 unfold rg_X3_holderAt_2
 exact s_iload_n (pc := 2) C dX3_holderAt_2 rfl <|
    s_bipush (pc := 3) C dX3_holderAt_3 (by decide) <|
    s_icmp_ge (pc := 5) C dX3_holderAt_5 (by decide) (s_iconst (pc := 26) C dX3_holderAt_26 <|
    s_ireturn (pc := 27) C rfl dX3_holderAt_27)
    (s_aload_n (pc := 8) C dX3_holderAt_8 rfl <|
    s_get (pc := 9) C (ci := 3) (kf := 0) rfl inX3 (by decide) wd_99 dX3_holderAt_9 <|
    s_iload_n (pc := 12) C dX3_holderAt_12 rfl <|
    s_iald (pc := 13) C dX3_holderAt_13 <|
    s_iload_n (pc := 14) C dX3_holderAt_14 rfl <|
    s_icmp_ne (pc := 15) C dX3_holderAt_15 (by decide) (s_iinc (pc := 20) C dX3_holderAt_20 <|
    s_goto (pc := 23) C dX3_holderAt_23 (by decide) <|
    s_cut q2)
    (s_iload_n (pc := 18) C dX3_holderAt_18 rfl <|
    s_ireturn (pc := 19) C rfl dX3_holderAt_19))
noncomputable def rw_X3_holderAt_2 (f : Nat) : XK := tlp (fun k2 => rg_X3_holderAt_2 k2) f
noncomputable def lb_X3_holderAt_2 (p1 : Int) (h0 : Ob) (f : Nat) : ((Int) → Option Rt) → Int → Option Rt := fun k2 => mg_X3_holderAt_2 p1 h0 k2
noncomputable def md_X3_holderAt_2 (p1 : Int) (h0 : Ob) (f : Nat) : Int → Option Rt := tlp (lb_X3_holderAt_2 p1 h0 f) f
theorem eq_X3_holderAt_2 (p1 : Int) (h0 : Ob) (f : Nat) (a : Int) : rw_X3_holderAt_2 f (en_X3_holderAt_2 p1 h0 a) = md_X3_holderAt_2 p1 h0 f a :=
 tlp_enc (en_X3_holderAt_2 p1 h0) (fun k2 a => (rq_X3_holderAt_2 p1 h0 k2 a).trans (congrFun (congr (rfl : mg_X3_holderAt_2 p1 h0 = mg_X3_holderAt_2 p1 h0) rfl) a)) f a
theorem sd_X3_holderAt_2 (f : Nat) {X : XDyn} {r0 : Rt} (C : XO X mX3_holderAt) : XS X mX3_holderAt r0 2 (rw_X3_holderAt_2 f) := s_lp (fun k2 q2 => sg_X3_holderAt_2 C q2) f
noncomputable def rw_X3_holderAt_0 (f : Nat) : XK := rg_X3_holderAt_0 (rw_X3_holderAt_2 f)
noncomputable def md_X3_holderAt_0 (p1 : Int) (h0 : Ob) (f : Nat) : Unit → Option Rt := mg_X3_holderAt_0 p1 h0 (md_X3_holderAt_2 p1 h0 f)
theorem eq_X3_holderAt_0 (p1 : Int) (h0 : Ob) (f : Nat) (a : Unit) : rw_X3_holderAt_0 f (en_X3_holderAt_0 p1 h0 a) = md_X3_holderAt_0 p1 h0 f a :=
 (rq_X3_holderAt_0 p1 h0 (rw_X3_holderAt_2 f) a).trans (congrFun (congr (rfl : mg_X3_holderAt_0 p1 h0 = mg_X3_holderAt_0 p1 h0) (funext (eq_X3_holderAt_2 p1 h0 f))) a)
theorem sd_X3_holderAt_0 (f : Nat) {X : XDyn} {r0 : Rt} (C : XO X mX3_holderAt) : XS X mX3_holderAt r0 0 (rw_X3_holderAt_0 f) := sg_X3_holderAt_0 C (sd_X3_holderAt_2 f C)
theorem ctr_X3_holderAt (f : Nat) : XCt yX3_holderAt mX3_holderAt (xF mX3_holderAt (rw_X3_holderAt_0 f)) := xMet (by decide +kernel) rfl (fun _ _ C => sd_X3_holderAt_0 f C)
theorem eqf_X3_holderAt (f : Nat) (p1 : Int) (h0 : Ob) : xF mX3_holderAt (rw_X3_holderAt_0 f) [.inr (.inl (0, 0)), .inl p1] [h0] = md_X3_holderAt_0 p1 h0 f () := eq_X3_holderAt_0 p1 h0 f ()
theorem yi_X3_holderAt : yX3_holderAt.cls = RX3 ∧ yX3_holderAt.cls ≠ "java/lang/invoke/MethodHandle" ∧ yX3_holderAt.cls ≠ "java/lang/invoke/VarHandle" ∧ (parseMethodDescriptor yX3_holderAt.desc).map (fun d => d.parameters.length) = some 1 := ⟨rfl, by decide +kernel, by decide +kernel, by decide +kernel⟩
theorem sp_X3_holderAt (f : Nat) (hf : 1000 ≤ f) (p1 : Int) (h0 : Ob) : md_X3_holderAt_0 p1 h0 f () = RI (hol h0 p1) [h0] := by
  rw [hol_e]
  show md_X3_holderAt_2 p1 h0 f 0 = _
  refine loop_find 11 _ (fun r => RI r [h0]) (fun i => (i : Int)) (fun k i hi => ?_) (fun k => ?_) f (by omega)
  · simp only [lb_X3_holderAt_2, mg_X3_holderAt_2, xw_nat (show i < 2147483648 by omega), xin_nat hi (by omega), toNat_nat]
    rw [if_neg (by omega)]
    simp
  · rfl
noncomputable def f_X3_holderAt : List AV → List Ob → Option Rt
  | [.inr (.inl (0, 0)), .inl p1], [h0] => some (some (.inl (hol h0 p1)), [h0])
  | _, _ => none
theorem ct_X3_holderAt : XCt yX3_holderAt mX3_holderAt f_X3_holderAt := (ctr_X3_holderAt xfu).of (fun as μ r h => by
  unfold f_X3_holderAt at h
  split at h
  · rw [← h]
    exact (eqf_X3_holderAt xfu _ _).trans (sp_X3_holderAt xfu (xfu_ge (by decide)) _ _)
  · cases h)
theorem dX3_endAt_0 : decode cX3_endAt 0 = .ok (.iload_n 2, 1) := by decide +kernel
theorem dX3_endAt_1 : decode cX3_endAt 1 = .ok (.istore_n 3, 1) := by decide +kernel
theorem dX3_endAt_2 : decode cX3_endAt 2 = .ok (.iconst 0, 1) := by decide +kernel
theorem dX3_endAt_3 : decode cX3_endAt 3 = .ok (.istore 4, 2) := by decide +kernel
theorem dX3_endAt_5 : decode cX3_endAt 5 = .ok (.iload 4, 2) := by decide +kernel
theorem dX3_endAt_7 : decode cX3_endAt 7 = .ok (.bipush 11, 2) := by decide +kernel
theorem dX3_endAt_9 : decode cX3_endAt 9 = .ok (.if_icmp .ge 62, 3) := by decide +kernel
theorem dX3_endAt_12 : decode cX3_endAt 12 = .ok (.aload_n 0, 1) := by decide +kernel
theorem dX3_endAt_13 : decode cX3_endAt 13 = .ok (.getfield 9, 3) := by decide +kernel
theorem dX3_endAt_16 : decode cX3_endAt 16 = .ok (.iload 4, 2) := by decide +kernel
theorem dX3_endAt_18 : decode cX3_endAt 18 = .ok (.iaload, 1) := by decide +kernel
theorem dX3_endAt_19 : decode cX3_endAt 19 = .ok (.iload_n 1, 1) := by decide +kernel
theorem dX3_endAt_20 : decode cX3_endAt 20 = .ok (.if_icmp .ne 15, 3) := by decide +kernel
theorem dX3_endAt_23 : decode cX3_endAt 23 = .ok (.iload_n 1, 1) := by decide +kernel
theorem dX3_endAt_24 : decode cX3_endAt 24 = .ok (.aload_n 0, 1) := by decide +kernel
theorem dX3_endAt_25 : decode cX3_endAt 25 = .ok (.getfield 15, 3) := by decide +kernel
theorem dX3_endAt_28 : decode cX3_endAt 28 = .ok (.iload 4, 2) := by decide +kernel
theorem dX3_endAt_30 : decode cX3_endAt 30 = .ok (.iaload, 1) := by decide +kernel
theorem dX3_endAt_31 : decode cX3_endAt 31 = .ok (.iadd, 1) := by decide +kernel
theorem dX3_endAt_32 : decode cX3_endAt 32 = .ok (.iconst 1, 1) := by decide +kernel
theorem dX3_endAt_33 : decode cX3_endAt 33 = .ok (.iadd, 1) := by decide +kernel
theorem dX3_endAt_34 : decode cX3_endAt 34 = .ok (.ireturn, 1) := by decide +kernel
theorem dX3_endAt_35 : decode cX3_endAt 35 = .ok (.aload_n 0, 1) := by decide +kernel
theorem dX3_endAt_36 : decode cX3_endAt 36 = .ok (.getfield 9, 3) := by decide +kernel
theorem dX3_endAt_39 : decode cX3_endAt 39 = .ok (.iload 4, 2) := by decide +kernel
theorem dX3_endAt_41 : decode cX3_endAt 41 = .ok (.iaload, 1) := by decide +kernel
theorem dX3_endAt_42 : decode cX3_endAt 42 = .ok (.iload_n 1, 1) := by decide +kernel
theorem dX3_endAt_43 : decode cX3_endAt 43 = .ok (.if_icmp .le 22, 3) := by decide +kernel
theorem dX3_endAt_46 : decode cX3_endAt 46 = .ok (.aload_n 0, 1) := by decide +kernel
theorem dX3_endAt_47 : decode cX3_endAt 47 = .ok (.getfield 9, 3) := by decide +kernel
theorem dX3_endAt_50 : decode cX3_endAt 50 = .ok (.iload 4, 2) := by decide +kernel
theorem dX3_endAt_52 : decode cX3_endAt 52 = .ok (.iaload, 1) := by decide +kernel
theorem dX3_endAt_53 : decode cX3_endAt 53 = .ok (.iload_n 3, 1) := by decide +kernel
theorem dX3_endAt_54 : decode cX3_endAt 54 = .ok (.if_icmp .ge 11, 3) := by decide +kernel
theorem dX3_endAt_57 : decode cX3_endAt 57 = .ok (.aload_n 0, 1) := by decide +kernel
theorem dX3_endAt_58 : decode cX3_endAt 58 = .ok (.getfield 9, 3) := by decide +kernel
theorem dX3_endAt_61 : decode cX3_endAt 61 = .ok (.iload 4, 2) := by decide +kernel
theorem dX3_endAt_63 : decode cX3_endAt 63 = .ok (.iaload, 1) := by decide +kernel
theorem dX3_endAt_64 : decode cX3_endAt 64 = .ok (.istore_n 3, 1) := by decide +kernel
theorem dX3_endAt_65 : decode cX3_endAt 65 = .ok (.iinc 4 1, 3) := by decide +kernel
theorem dX3_endAt_68 : decode cX3_endAt 68 = .ok (.goto (-63), 3) := by decide +kernel
theorem dX3_endAt_71 : decode cX3_endAt 71 = .ok (.iload_n 3, 1) := by decide +kernel
theorem dX3_endAt_72 : decode cX3_endAt 72 = .ok (.ireturn, 1) := by decide +kernel
abbrev mX3_endAt : XM := (cX3_endAt, 5, RX3, (some .int), shw_3, 0)
noncomputable def rg_X3_endAt_0 (k5 : XK) : XK :=
 o_iload 2 <|
 o_istore 3 <|
 o_iconst 0 <|
 o_istore 4 <|
 o_cut [] k5
def en_X3_endAt_0 (p1 : Int) (p2 : Int) (h0 : Ob) (a : Unit) : XSt := ([some (.inr (.inl (0, 0))), some (.inl p1), some (.inl p2), none, none], [], [h0])
noncomputable def rg_X3_endAt_5 (k65 : XK) : XK :=
 o_iload 4 <|
 o_iconst 11 <|
 o_icmp_ge (o_iload 3 <|
 o_ireturn)
 (o_aload 0 <|
 o_get shw_3 3 0 <|
 o_iload 4 <|
 o_iald shw_3 <|
 o_iload 1 <|
 o_icmp_ne (o_aload 0 <|
 o_get shw_3 3 0 <|
 o_iload 4 <|
 o_iald shw_3 <|
 o_iload 1 <|
 o_icmp_le (o_cut [] k65)
 (o_aload 0 <|
 o_get shw_3 3 0 <|
 o_iload 4 <|
 o_iald shw_3 <|
 o_iload 3 <|
 o_icmp_ge (o_cut [] k65)
 (o_aload 0 <|
 o_get shw_3 3 0 <|
 o_iload 4 <|
 o_iald shw_3 <|
 o_istore 3 <|
 o_cut [] k65)))
 (o_iload 1 <|
 o_aload 0 <|
 o_get shw_3 3 1 <|
 o_iload 4 <|
 o_iald shw_3 <|
 o_iadd <|
 o_iconst 1 <|
 o_iadd <|
 o_ireturn))
def en_X3_endAt_5 (p1 : Int) (p2 : Int) (h0 : Ob) (a : Int × Int) : XSt := ([some (.inr (.inl (0, 0))), some (.inl p1), some (.inl p2), some (.inl a.1), some (.inl a.2)], [], [h0])
noncomputable def rg_X3_endAt_65 (k5 : XK) : XK :=
 o_iinc 4 1 <|
 o_cut [] k5
def en_X3_endAt_65 (p1 : Int) (p2 : Int) (h0 : Ob) (a : Int × Int) : XSt := ([some (.inr (.inl (0, 0))), some (.inl p1), some (.inl p2), some (.inl a.1), some (.inl a.2)], [], [h0])
noncomputable def mg_X3_endAt_0 (p1 : Int) (p2 : Int) (h0 : Ob) (k5 : (Int × Int) → Option Rt) (a : Unit) : Option Rt :=
 k5 (p2, 0)
set_option maxRecDepth 100000 in
set_option maxHeartbeats 4000000 in
theorem rq_X3_endAt_0 (p1 : Int) (p2 : Int) (h0 : Ob) (k5 : XK) (a : Unit) : rg_X3_endAt_0 k5 (en_X3_endAt_0 p1 p2 h0 a) = mg_X3_endAt_0 p1 p2 h0 (fun b => k5 (en_X3_endAt_5 p1 p2 h0 b)) a := rfl
set_option maxRecDepth 100000 in
set_option maxHeartbeats 4000000 in
theorem sg_X3_endAt_0 {X : XDyn} {r0 : Rt} (C : XO X mX3_endAt) {k5 : XK} (q5 : XS X mX3_endAt r0 5 k5) : XS X mX3_endAt r0 0 (rg_X3_endAt_0 k5) := by
 unfold rg_X3_endAt_0
 exact s_iload_n (pc := 0) C dX3_endAt_0 rfl <|
    s_istore_n (pc := 1) C dX3_endAt_1 rfl <|
    s_iconst (pc := 2) C dX3_endAt_2 <|
    s_istore (pc := 3) C dX3_endAt_3 <|
    s_cut q5
noncomputable def mg_X3_endAt_5 (p1 : Int) (p2 : Int) (h0 : Ob) (k65 : (Int × Int) → Option Rt) (a : Int × Int) : Option Rt :=
 if xw a.2 ≥ 11 then (RI a.1 [h0])
 else (if xin a.2 11 then (
 if xw (h0 1 (xw a.2).toNat) = xw p1 then (if xin a.2 11 then (
 RI ((p1 + (h0 2 (xw a.2).toNat)) + 1) [h0]) else none)
 else (if xin a.2 11 then (
 if xw (h0 1 (xw a.2).toNat) ≤ xw p1 then (k65 (a.1, a.2))
 else (if xin a.2 11 then (
 if xw (h0 1 (xw a.2).toNat) ≥ xw a.1 then (k65 (a.1, a.2))
 else (if xin a.2 11 then (
 k65 ((h0 1 (xw a.2).toNat), a.2)) else none)) else none)) else none)) else none)
set_option maxRecDepth 100000 in
set_option maxHeartbeats 4000000 in
theorem rq_X3_endAt_5 (p1 : Int) (p2 : Int) (h0 : Ob) (k65 : XK) (a : Int × Int) : rg_X3_endAt_5 k65 (en_X3_endAt_5 p1 p2 h0 a) = mg_X3_endAt_5 p1 p2 h0 (fun b => k65 (en_X3_endAt_65 p1 p2 h0 b)) a := rfl
set_option maxRecDepth 100000 in
set_option maxHeartbeats 4000000 in
theorem sg_X3_endAt_5 {X : XDyn} {r0 : Rt} (C : XO X mX3_endAt) {k65 : XK} (q65 : XS X mX3_endAt r0 65 k65) : XS X mX3_endAt r0 5 (rg_X3_endAt_5 k65) := by
 unfold rg_X3_endAt_5
 exact s_iload (pc := 5) C dX3_endAt_5 <|
    s_bipush (pc := 7) C dX3_endAt_7 (by decide) <|
    s_icmp_ge (pc := 9) C dX3_endAt_9 (by decide) (s_iload_n (pc := 71) C dX3_endAt_71 rfl <|
    s_ireturn (pc := 72) C rfl dX3_endAt_72)
    (s_aload_n (pc := 12) C dX3_endAt_12 rfl <|
    s_get (pc := 13) C (ci := 3) (kf := 0) rfl inX3 (by decide) wd_99 dX3_endAt_13 <|
    s_iload (pc := 16) C dX3_endAt_16 <|
    s_iald (pc := 18) C dX3_endAt_18 <|
    s_iload_n (pc := 19) C dX3_endAt_19 rfl <|
    s_icmp_ne (pc := 20) C dX3_endAt_20 (by decide) (s_aload_n (pc := 35) C dX3_endAt_35 rfl <|
    s_get (pc := 36) C (ci := 3) (kf := 0) rfl inX3 (by decide) wd_99 dX3_endAt_36 <|
    s_iload (pc := 39) C dX3_endAt_39 <|
    s_iald (pc := 41) C dX3_endAt_41 <|
    s_iload_n (pc := 42) C dX3_endAt_42 rfl <|
    s_icmp_le (pc := 43) C dX3_endAt_43 (by decide) (s_cut q65)
    (s_aload_n (pc := 46) C dX3_endAt_46 rfl <|
    s_get (pc := 47) C (ci := 3) (kf := 0) rfl inX3 (by decide) wd_99 dX3_endAt_47 <|
    s_iload (pc := 50) C dX3_endAt_50 <|
    s_iald (pc := 52) C dX3_endAt_52 <|
    s_iload_n (pc := 53) C dX3_endAt_53 rfl <|
    s_icmp_ge (pc := 54) C dX3_endAt_54 (by decide) (s_cut q65)
    (s_aload_n (pc := 57) C dX3_endAt_57 rfl <|
    s_get (pc := 58) C (ci := 3) (kf := 0) rfl inX3 (by decide) wd_99 dX3_endAt_58 <|
    s_iload (pc := 61) C dX3_endAt_61 <|
    s_iald (pc := 63) C dX3_endAt_63 <|
    s_istore_n (pc := 64) C dX3_endAt_64 rfl <|
    s_cut q65)))
    (s_iload_n (pc := 23) C dX3_endAt_23 rfl <|
    s_aload_n (pc := 24) C dX3_endAt_24 rfl <|
    s_get (pc := 25) C (ci := 3) (kf := 1) rfl inX3 (by decide) wd_105 dX3_endAt_25 <|
    s_iload (pc := 28) C dX3_endAt_28 <|
    s_iald (pc := 30) C dX3_endAt_30 <|
    s_iadd (pc := 31) C dX3_endAt_31 <|
    s_iconst (pc := 32) C dX3_endAt_32 <|
    s_iadd (pc := 33) C dX3_endAt_33 <|
    s_ireturn (pc := 34) C rfl dX3_endAt_34))
noncomputable def mg_X3_endAt_65 (p1 : Int) (p2 : Int) (h0 : Ob) (k5 : (Int × Int) → Option Rt) (a : Int × Int) : Option Rt :=
 k5 (a.1, (a.2 + 1))
set_option maxRecDepth 100000 in
set_option maxHeartbeats 4000000 in
theorem rq_X3_endAt_65 (p1 : Int) (p2 : Int) (h0 : Ob) (k5 : XK) (a : Int × Int) : rg_X3_endAt_65 k5 (en_X3_endAt_65 p1 p2 h0 a) = mg_X3_endAt_65 p1 p2 h0 (fun b => k5 (en_X3_endAt_5 p1 p2 h0 b)) a := rfl
set_option maxRecDepth 100000 in
set_option maxHeartbeats 4000000 in
theorem sg_X3_endAt_65 {X : XDyn} {r0 : Rt} (C : XO X mX3_endAt) {k5 : XK} (q5 : XS X mX3_endAt r0 5 k5) : XS X mX3_endAt r0 65 (rg_X3_endAt_65 k5) := by
 unfold rg_X3_endAt_65
 exact s_iinc (pc := 65) C dX3_endAt_65 <|
    s_goto (pc := 68) C dX3_endAt_68 (by decide) <|
    s_cut q5
noncomputable def rw_X3_endAt_65 (f : Nat) (k5 : XK) : XK := rg_X3_endAt_65 k5
noncomputable def md_X3_endAt_65 (p1 : Int) (p2 : Int) (h0 : Ob) (f : Nat) (k5 : (Int × Int) → Option Rt) : Int × Int → Option Rt := mg_X3_endAt_65 p1 p2 h0 k5
theorem eq_X3_endAt_65 (p1 : Int) (p2 : Int) (h0 : Ob) (f : Nat) (k5 : XK) (a : Int × Int) : rw_X3_endAt_65 f k5 (en_X3_endAt_65 p1 p2 h0 a) = md_X3_endAt_65 p1 p2 h0 f (fun b => k5 (en_X3_endAt_5 p1 p2 h0 b)) a :=
 (rq_X3_endAt_65 p1 p2 h0 k5 a).trans (congrFun (congr (rfl : mg_X3_endAt_65 p1 p2 h0 = mg_X3_endAt_65 p1 p2 h0) rfl) a)
theorem sd_X3_endAt_65 (f : Nat) {X : XDyn} {r0 : Rt} (C : XO X mX3_endAt) {k5 : XK} (q5 : XS X mX3_endAt r0 5 k5) : XS X mX3_endAt r0 65 (rw_X3_endAt_65 f k5) := sg_X3_endAt_65 C q5
noncomputable def rw_X3_endAt_5 (f : Nat) : XK := tlp (fun k5 => rg_X3_endAt_5 (rw_X3_endAt_65 f k5)) f
noncomputable def lb_X3_endAt_5 (p1 : Int) (p2 : Int) (h0 : Ob) (f : Nat) : ((Int × Int) → Option Rt) → Int × Int → Option Rt := fun k5 => mg_X3_endAt_5 p1 p2 h0 (md_X3_endAt_65 p1 p2 h0 f k5)
noncomputable def md_X3_endAt_5 (p1 : Int) (p2 : Int) (h0 : Ob) (f : Nat) : Int × Int → Option Rt := tlp (lb_X3_endAt_5 p1 p2 h0 f) f
theorem eq_X3_endAt_5 (p1 : Int) (p2 : Int) (h0 : Ob) (f : Nat) (a : Int × Int) : rw_X3_endAt_5 f (en_X3_endAt_5 p1 p2 h0 a) = md_X3_endAt_5 p1 p2 h0 f a :=
 tlp_enc (en_X3_endAt_5 p1 p2 h0) (fun k5 a => (rq_X3_endAt_5 p1 p2 h0 (rw_X3_endAt_65 f k5) a).trans (congrFun (congr (rfl : mg_X3_endAt_5 p1 p2 h0 = mg_X3_endAt_5 p1 p2 h0) (funext (eq_X3_endAt_65 p1 p2 h0 f k5))) a)) f a
theorem sd_X3_endAt_5 (f : Nat) {X : XDyn} {r0 : Rt} (C : XO X mX3_endAt) : XS X mX3_endAt r0 5 (rw_X3_endAt_5 f) := s_lp (fun k5 q5 => sg_X3_endAt_5 C (sd_X3_endAt_65 f C q5)) f
noncomputable def rw_X3_endAt_0 (f : Nat) : XK := rg_X3_endAt_0 (rw_X3_endAt_5 f)
noncomputable def md_X3_endAt_0 (p1 : Int) (p2 : Int) (h0 : Ob) (f : Nat) : Unit → Option Rt := mg_X3_endAt_0 p1 p2 h0 (md_X3_endAt_5 p1 p2 h0 f)
theorem eq_X3_endAt_0 (p1 : Int) (p2 : Int) (h0 : Ob) (f : Nat) (a : Unit) : rw_X3_endAt_0 f (en_X3_endAt_0 p1 p2 h0 a) = md_X3_endAt_0 p1 p2 h0 f a :=
 (rq_X3_endAt_0 p1 p2 h0 (rw_X3_endAt_5 f) a).trans (congrFun (congr (rfl : mg_X3_endAt_0 p1 p2 h0 = mg_X3_endAt_0 p1 p2 h0) (funext (eq_X3_endAt_5 p1 p2 h0 f))) a)
theorem sd_X3_endAt_0 (f : Nat) {X : XDyn} {r0 : Rt} (C : XO X mX3_endAt) : XS X mX3_endAt r0 0 (rw_X3_endAt_0 f) := sg_X3_endAt_0 C (sd_X3_endAt_5 f C)
theorem ctr_X3_endAt (f : Nat) : XCt yX3_endAt mX3_endAt (xF mX3_endAt (rw_X3_endAt_0 f)) := xMet (by decide +kernel) rfl (fun _ _ C => sd_X3_endAt_0 f C)
theorem eqf_X3_endAt (f : Nat) (p1 : Int) (p2 : Int) (h0 : Ob) : xF mX3_endAt (rw_X3_endAt_0 f) [.inr (.inl (0, 0)), .inl p1, .inl p2] [h0] = md_X3_endAt_0 p1 p2 h0 f () := eq_X3_endAt_0 p1 p2 h0 f ()
theorem yi_X3_endAt : yX3_endAt.cls = RX3 ∧ yX3_endAt.cls ≠ "java/lang/invoke/MethodHandle" ∧ yX3_endAt.cls ≠ "java/lang/invoke/VarHandle" ∧ (parseMethodDescriptor yX3_endAt.desc).map (fun d => d.parameters.length) = some 2 := ⟨rfl, by decide +kernel, by decide +kernel, by decide +kernel⟩
theorem sp_X3_endAt (f : Nat) (hf : 1000 ≤ f) (p1 p2 : Int) (h0 : Ob) : md_X3_endAt_0 p1 p2 h0 f () = RI (nxt h0 p1 p2) [h0] := by
  show md_X3_endAt_5 p1 p2 h0 f (p2, 0) = _
  unfold md_X3_endAt_5
  generalize hf0 : f = f0
  rw [hf0] at hf
  have key : ∀ (d i f : Nat) (e : Int), i + d = 11 → d < f → tlp (lb_X3_endAt_5 p1 p2 h0 f0) f (e, (i : Int)) = RI (match (List.range' i d).find? (fun i => decide (xw (h0 1 i) = xw p1)) with
      | some i => p1 + h0 2 i + 1
      | none => (List.range' i d).foldl (fun e i => if xw p1 < xw (h0 1 i) ∧ xw (h0 1 i) < xw e then h0 1 i else e) e) [h0] := by
    intro d
    induction d with
    | zero =>
      intro i f e hi hf
      cases f with
      | zero => omega
      | succ f =>
        have : i = 11 := by omega
        subst this
        rfl
    | succ d ih =>
      intro i f e hi hf
      cases f with
      | zero => omega
      | succ f =>
        rw [tlp_succ]
        have hi11 : i < 11 := by omega
        simp only [lb_X3_endAt_5, mg_X3_endAt_5, md_X3_endAt_65, mg_X3_endAt_65, xw_nat (show i < 2147483648 by omega), xin_nat hi11 (by omega), toNat_nat, if_true, List.range'_succ, List.find?_cons, List.foldl_cons]
        rw [if_neg (by omega)]
        by_cases h1 : xw (h0 1 i) = xw p1
        · simp [h1]
        · have e1 : ((i : Int) + 1) = ((i + 1 : Nat) : Int) := by omega
          rw [if_neg h1, e1]
          simp only [h1, decide_false]
          by_cases h2 : xw (h0 1 i) ≤ xw p1
          · rw [if_pos h2, if_neg (by omega)]
            exact ih (i + 1) f e (by omega) (by omega)
          · rw [if_neg h2]
            by_cases h3 : xw (h0 1 i) ≥ xw e
            · rw [if_pos h3, if_neg (by omega)]
              exact ih (i + 1) f e (by omega) (by omega)
            · rw [if_neg h3, if_pos (by omega)]
              exact ih (i + 1) f _ (by omega) (by omega)
  rw [nxt_e]
  unfold nxtI
  rw [List.range_eq_range']
  exact key 11 0 f0 p2 (by omega) (by omega)
noncomputable def f_X3_endAt : List AV → List Ob → Option Rt
  | [.inr (.inl (0, 0)), .inl p1, .inl p2], [h0] => some (some (.inl (nxt h0 p1 p2)), [h0])
  | _, _ => none
theorem ct_X3_endAt : XCt yX3_endAt mX3_endAt f_X3_endAt := (ctr_X3_endAt xfu).of (fun as μ r h => by
  unfold f_X3_endAt at h
  split at h
  · rw [← h]
    exact (eqf_X3_endAt xfu _ _ _).trans (sp_X3_endAt xfu (xfu_ge (by decide)) _ _ _)
  · cases h)
theorem dX3_firstUnusedHandle_0 : decode cX3_firstUnusedHandle 0 = .ok (.iconst 0, 1) := by decide +kernel
theorem dX3_firstUnusedHandle_1 : decode cX3_firstUnusedHandle 1 = .ok (.istore_n 1, 1) := by decide +kernel
theorem dX3_firstUnusedHandle_2 : decode cX3_firstUnusedHandle 2 = .ok (.iload_n 1, 1) := by decide +kernel
theorem dX3_firstUnusedHandle_3 : decode cX3_firstUnusedHandle 3 = .ok (.bipush 8, 2) := by decide +kernel
theorem dX3_firstUnusedHandle_5 : decode cX3_firstUnusedHandle 5 = .ok (.if_icmp .ge 19, 3) := by decide +kernel
theorem dX3_firstUnusedHandle_8 : decode cX3_firstUnusedHandle 8 = .ok (.aload_n 0, 1) := by decide +kernel
theorem dX3_firstUnusedHandle_9 : decode cX3_firstUnusedHandle 9 = .ok (.iload_n 1, 1) := by decide +kernel
theorem dX3_firstUnusedHandle_10 : decode cX3_firstUnusedHandle 10 = .ok (.invokevirtual 65, 3) := by decide +kernel
theorem dX3_firstUnusedHandle_13 : decode cX3_firstUnusedHandle 13 = .ok (.ifCond .ne 5, 3) := by decide +kernel
theorem dX3_firstUnusedHandle_16 : decode cX3_firstUnusedHandle 16 = .ok (.iload_n 1, 1) := by decide +kernel
theorem dX3_firstUnusedHandle_17 : decode cX3_firstUnusedHandle 17 = .ok (.ireturn, 1) := by decide +kernel
theorem dX3_firstUnusedHandle_18 : decode cX3_firstUnusedHandle 18 = .ok (.iinc 1 1, 3) := by decide +kernel
theorem dX3_firstUnusedHandle_21 : decode cX3_firstUnusedHandle 21 = .ok (.goto (-19), 3) := by decide +kernel
theorem dX3_firstUnusedHandle_24 : decode cX3_firstUnusedHandle 24 = .ok (.iconst (-1), 1) := by decide +kernel
theorem dX3_firstUnusedHandle_25 : decode cX3_firstUnusedHandle 25 = .ok (.ireturn, 1) := by decide +kernel
abbrev mX3_firstUnusedHandle : XM := (cX3_firstUnusedHandle, 2, RX3, (some .int), shw_3, 2)
noncomputable def rg_X3_firstUnusedHandle_0 (k2 : XK) : XK :=
 o_iconst 0 <|
 o_istore 1 <|
 o_cut [] k2
def en_X3_firstUnusedHandle_0 (h0 : Ob) (a : Unit) : XSt := ([some (.inr (.inl (0, 0))), none], [], [h0])
noncomputable def rg_X3_firstUnusedHandle_2 (k2 : XK) : XK :=
 o_iload 1 <|
 o_iconst 8 <|
 o_icmp_ge (o_iconst (-1) <|
 o_ireturn)
 (o_aload 0 <|
 o_iload 1 <|
 o_callV 2 1 [0] f_X3_isUsed <|
 o_if_ne (o_iinc 1 1 <|
 o_cut [] k2)
 (o_iload 1 <|
 o_ireturn))
def en_X3_firstUnusedHandle_2 (h0 : Ob) (a : Int) : XSt := ([some (.inr (.inl (0, 0))), some (.inl a)], [], [h0])
noncomputable def mg_X3_firstUnusedHandle_0 (h0 : Ob) (k2 : Int → Option Rt) (a : Unit) : Option Rt :=
 k2 0
set_option maxRecDepth 100000 in
set_option maxHeartbeats 4000000 in
theorem rq_X3_firstUnusedHandle_0 (h0 : Ob) (k2 : XK) (a : Unit) : rg_X3_firstUnusedHandle_0 k2 (en_X3_firstUnusedHandle_0 h0 a) = mg_X3_firstUnusedHandle_0 h0 (fun b => k2 (en_X3_firstUnusedHandle_2 h0 b)) a := rfl
set_option maxRecDepth 100000 in
set_option maxHeartbeats 4000000 in
theorem sg_X3_firstUnusedHandle_0 {X : XDyn} {r0 : Rt} (C : XO X mX3_firstUnusedHandle) {k2 : XK} (q2 : XS X mX3_firstUnusedHandle r0 2 k2) : XS X mX3_firstUnusedHandle r0 0 (rg_X3_firstUnusedHandle_0 k2) := by
 unfold rg_X3_firstUnusedHandle_0
 exact s_iconst (pc := 0) C dX3_firstUnusedHandle_0 <|
    s_istore_n (pc := 1) C dX3_firstUnusedHandle_1 rfl <|
    s_cut q2
noncomputable def mg_X3_firstUnusedHandle_2 (h0 : Ob) (k2 : Int → Option Rt) (a : Int) : Option Rt :=
 if xw a ≥ 8 then (RI (-1) [h0])
 else (if xw (bz (inS (h0 0 7) a)) = 0 then (RI a [h0])
 else (k2 (a + 1)))
set_option maxRecDepth 100000 in
set_option maxHeartbeats 4000000 in
theorem rq_X3_firstUnusedHandle_2 (h0 : Ob) (k2 : XK) (a : Int) : rg_X3_firstUnusedHandle_2 k2 (en_X3_firstUnusedHandle_2 h0 a) = mg_X3_firstUnusedHandle_2 h0 (fun b => k2 (en_X3_firstUnusedHandle_2 h0 b)) a := rfl
set_option maxRecDepth 100000 in
set_option maxHeartbeats 4000000 in
theorem sg_X3_firstUnusedHandle_2 {X : XDyn} {r0 : Rt} (C : XO X mX3_firstUnusedHandle) {k2 : XK} (q2 : XS X mX3_firstUnusedHandle r0 2 k2) : XS X mX3_firstUnusedHandle r0 2 (rg_X3_firstUnusedHandle_2 k2) := by
 unfold rg_X3_firstUnusedHandle_2
 exact s_iload_n (pc := 2) C dX3_firstUnusedHandle_2 rfl <|
    s_bipush (pc := 3) C dX3_firstUnusedHandle_3 (by decide) <|
    s_icmp_ge (pc := 5) C dX3_firstUnusedHandle_5 (by decide) (s_iconst (pc := 24) C dX3_firstUnusedHandle_24 <|
    s_ireturn (pc := 25) C rfl dX3_firstUnusedHandle_25)
    (s_aload_n (pc := 8) C dX3_firstUnusedHandle_8 rfl <|
    s_iload_n (pc := 9) C dX3_firstUnusedHandle_9 rfl <|
    s_callV (pc := 10) C ct_X3_isUsed (n := 2) (rk := 1) (mp := [0]) ⟨rfl, by decide, rfl⟩ (ci := 3) rfl rfl (by decide) (by decide) yi_X3_isUsed (by decide) wd_350 wd_351 wd_352 wd_74 wd_353 dX3_firstUnusedHandle_10 <|
    s_if_ne (pc := 13) C dX3_firstUnusedHandle_13 (by decide) (s_iinc (pc := 18) C dX3_firstUnusedHandle_18 <|
    s_goto (pc := 21) C dX3_firstUnusedHandle_21 (by decide) <|
    s_cut q2)
    (s_iload_n (pc := 16) C dX3_firstUnusedHandle_16 rfl <|
    s_ireturn (pc := 17) C rfl dX3_firstUnusedHandle_17))
noncomputable def rw_X3_firstUnusedHandle_2 (f : Nat) : XK := tlp (fun k2 => rg_X3_firstUnusedHandle_2 k2) f
noncomputable def lb_X3_firstUnusedHandle_2 (h0 : Ob) (f : Nat) : ((Int) → Option Rt) → Int → Option Rt := fun k2 => mg_X3_firstUnusedHandle_2 h0 k2
noncomputable def md_X3_firstUnusedHandle_2 (h0 : Ob) (f : Nat) : Int → Option Rt := tlp (lb_X3_firstUnusedHandle_2 h0 f) f
theorem eq_X3_firstUnusedHandle_2 (h0 : Ob) (f : Nat) (a : Int) : rw_X3_firstUnusedHandle_2 f (en_X3_firstUnusedHandle_2 h0 a) = md_X3_firstUnusedHandle_2 h0 f a :=
 tlp_enc (en_X3_firstUnusedHandle_2 h0) (fun k2 a => (rq_X3_firstUnusedHandle_2 h0 k2 a).trans (congrFun (congr (rfl : mg_X3_firstUnusedHandle_2 h0 = mg_X3_firstUnusedHandle_2 h0) rfl) a)) f a
theorem sd_X3_firstUnusedHandle_2 (f : Nat) {X : XDyn} {r0 : Rt} (C : XO X mX3_firstUnusedHandle) : XS X mX3_firstUnusedHandle r0 2 (rw_X3_firstUnusedHandle_2 f) := s_lp (fun k2 q2 => sg_X3_firstUnusedHandle_2 C q2) f
noncomputable def rw_X3_firstUnusedHandle_0 (f : Nat) : XK := rg_X3_firstUnusedHandle_0 (rw_X3_firstUnusedHandle_2 f)
noncomputable def md_X3_firstUnusedHandle_0 (h0 : Ob) (f : Nat) : Unit → Option Rt := mg_X3_firstUnusedHandle_0 h0 (md_X3_firstUnusedHandle_2 h0 f)
theorem eq_X3_firstUnusedHandle_0 (h0 : Ob) (f : Nat) (a : Unit) : rw_X3_firstUnusedHandle_0 f (en_X3_firstUnusedHandle_0 h0 a) = md_X3_firstUnusedHandle_0 h0 f a :=
 (rq_X3_firstUnusedHandle_0 h0 (rw_X3_firstUnusedHandle_2 f) a).trans (congrFun (congr (rfl : mg_X3_firstUnusedHandle_0 h0 = mg_X3_firstUnusedHandle_0 h0) (funext (eq_X3_firstUnusedHandle_2 h0 f))) a)
theorem sd_X3_firstUnusedHandle_0 (f : Nat) {X : XDyn} {r0 : Rt} (C : XO X mX3_firstUnusedHandle) : XS X mX3_firstUnusedHandle r0 0 (rw_X3_firstUnusedHandle_0 f) := sg_X3_firstUnusedHandle_0 C (sd_X3_firstUnusedHandle_2 f C)
theorem ctr_X3_firstUnusedHandle (f : Nat) : XCt yX3_firstUnusedHandle mX3_firstUnusedHandle (xF mX3_firstUnusedHandle (rw_X3_firstUnusedHandle_0 f)) := xMet (by decide +kernel) rfl (fun _ _ C => sd_X3_firstUnusedHandle_0 f C)
theorem eqf_X3_firstUnusedHandle (f : Nat) (h0 : Ob) : xF mX3_firstUnusedHandle (rw_X3_firstUnusedHandle_0 f) [.inr (.inl (0, 0))] [h0] = md_X3_firstUnusedHandle_0 h0 f () := eq_X3_firstUnusedHandle_0 h0 f ()
theorem yi_X3_firstUnusedHandle : yX3_firstUnusedHandle.cls = RX3 ∧ yX3_firstUnusedHandle.cls ≠ "java/lang/invoke/MethodHandle" ∧ yX3_firstUnusedHandle.cls ≠ "java/lang/invoke/VarHandle" ∧ (parseMethodDescriptor yX3_firstUnusedHandle.desc).map (fun d => d.parameters.length) = some 0 := ⟨rfl, by decide +kernel, by decide +kernel, by decide +kernel⟩
theorem sp_X3_firstUnusedHandle (f : Nat) (hf : 1000 ≤ f) (h0 : Ob) : md_X3_firstUnusedHandle_0 h0 f () = RI (ffu h0) [h0] := by
  rw [ffu_e]
  show md_X3_firstUnusedHandle_2 h0 f 0 = _
  refine loop_find 8 _ (fun r => RI r [h0]) (fun i => (i : Int)) (fun k i hi => ?_) (fun k => ?_) f (by omega)
  · simp only [lb_X3_firstUnusedHandle_2, mg_X3_firstUnusedHandle_2, xw_nat (show i < 2147483648 by omega), bz_0]
    rw [if_neg (by omega)]
    cases inS (h0 0 7) (i : Int) <;> simp
  · rfl
noncomputable def f_X3_firstUnusedHandle : List AV → List Ob → Option Rt
  | [.inr (.inl (0, 0))], [h0] => some (some (.inl (ffu h0)), [h0])
  | _, _ => none
theorem ct_X3_firstUnusedHandle : XCt yX3_firstUnusedHandle mX3_firstUnusedHandle f_X3_firstUnusedHandle := (ctr_X3_firstUnusedHandle xfu).of (fun as μ r h => by
  unfold f_X3_firstUnusedHandle at h
  split at h
  · rw [← h]
    exact (eqf_X3_firstUnusedHandle xfu _).trans (sp_X3_firstUnusedHandle xfu (xfu_ge (by decide)) _)
  · cases h)
theorem dX3_firstUnusedPointer_0 : decode cX3_firstUnusedPointer 0 = .ok (.iconst 0, 1) := by decide +kernel
theorem dX3_firstUnusedPointer_1 : decode cX3_firstUnusedPointer 1 = .ok (.istore_n 1, 1) := by decide +kernel
theorem dX3_firstUnusedPointer_2 : decode cX3_firstUnusedPointer 2 = .ok (.iload_n 1, 1) := by decide +kernel
theorem dX3_firstUnusedPointer_3 : decode cX3_firstUnusedPointer 3 = .ok (.iconst 3, 1) := by decide +kernel
theorem dX3_firstUnusedPointer_4 : decode cX3_firstUnusedPointer 4 = .ok (.if_icmp .ge 19, 3) := by decide +kernel
theorem dX3_firstUnusedPointer_7 : decode cX3_firstUnusedPointer 7 = .ok (.aload_n 0, 1) := by decide +kernel
theorem dX3_firstUnusedPointer_8 : decode cX3_firstUnusedPointer 8 = .ok (.iload_n 1, 1) := by decide +kernel
theorem dX3_firstUnusedPointer_9 : decode cX3_firstUnusedPointer 9 = .ok (.invokevirtual 72, 3) := by decide +kernel
theorem dX3_firstUnusedPointer_12 : decode cX3_firstUnusedPointer 12 = .ok (.ifCond .ne 5, 3) := by decide +kernel
theorem dX3_firstUnusedPointer_15 : decode cX3_firstUnusedPointer 15 = .ok (.iload_n 1, 1) := by decide +kernel
theorem dX3_firstUnusedPointer_16 : decode cX3_firstUnusedPointer 16 = .ok (.ireturn, 1) := by decide +kernel
theorem dX3_firstUnusedPointer_17 : decode cX3_firstUnusedPointer 17 = .ok (.iinc 1 1, 3) := by decide +kernel
theorem dX3_firstUnusedPointer_20 : decode cX3_firstUnusedPointer 20 = .ok (.goto (-18), 3) := by decide +kernel
theorem dX3_firstUnusedPointer_23 : decode cX3_firstUnusedPointer 23 = .ok (.iconst (-1), 1) := by decide +kernel
theorem dX3_firstUnusedPointer_24 : decode cX3_firstUnusedPointer 24 = .ok (.ireturn, 1) := by decide +kernel
abbrev mX3_firstUnusedPointer : XM := (cX3_firstUnusedPointer, 2, RX3, (some .int), shw_3, 1)
noncomputable def rg_X3_firstUnusedPointer_0 (k2 : XK) : XK :=
 o_iconst 0 <|
 o_istore 1 <|
 o_cut [] k2
def en_X3_firstUnusedPointer_0 (h0 : Ob) (a : Unit) : XSt := ([some (.inr (.inl (0, 0))), none], [], [h0])
noncomputable def rg_X3_firstUnusedPointer_2 (k2 : XK) : XK :=
 o_iload 1 <|
 o_iconst 3 <|
 o_icmp_ge (o_iconst (-1) <|
 o_ireturn)
 (o_aload 0 <|
 o_iload 1 <|
 o_callV 2 1 [0] f_X3_isIsland <|
 o_if_ne (o_iinc 1 1 <|
 o_cut [] k2)
 (o_iload 1 <|
 o_ireturn))
def en_X3_firstUnusedPointer_2 (h0 : Ob) (a : Int) : XSt := ([some (.inr (.inl (0, 0))), some (.inl a)], [], [h0])
noncomputable def mg_X3_firstUnusedPointer_0 (h0 : Ob) (k2 : Int → Option Rt) (a : Unit) : Option Rt :=
 k2 0
set_option maxRecDepth 100000 in
set_option maxHeartbeats 4000000 in
theorem rq_X3_firstUnusedPointer_0 (h0 : Ob) (k2 : XK) (a : Unit) : rg_X3_firstUnusedPointer_0 k2 (en_X3_firstUnusedPointer_0 h0 a) = mg_X3_firstUnusedPointer_0 h0 (fun b => k2 (en_X3_firstUnusedPointer_2 h0 b)) a := rfl
set_option maxRecDepth 100000 in
set_option maxHeartbeats 4000000 in
theorem sg_X3_firstUnusedPointer_0 {X : XDyn} {r0 : Rt} (C : XO X mX3_firstUnusedPointer) {k2 : XK} (q2 : XS X mX3_firstUnusedPointer r0 2 k2) : XS X mX3_firstUnusedPointer r0 0 (rg_X3_firstUnusedPointer_0 k2) := by
 unfold rg_X3_firstUnusedPointer_0
 exact s_iconst (pc := 0) C dX3_firstUnusedPointer_0 <|
    s_istore_n (pc := 1) C dX3_firstUnusedPointer_1 rfl <|
    s_cut q2
noncomputable def mg_X3_firstUnusedPointer_2 (h0 : Ob) (k2 : Int → Option Rt) (a : Int) : Option Rt :=
 if xw a ≥ 3 then (RI (-1) [h0])
 else (if xw (bz (isl h0 a)) = 0 then (RI a [h0])
 else (k2 (a + 1)))
set_option maxRecDepth 100000 in
set_option maxHeartbeats 4000000 in
theorem rq_X3_firstUnusedPointer_2 (h0 : Ob) (k2 : XK) (a : Int) : rg_X3_firstUnusedPointer_2 k2 (en_X3_firstUnusedPointer_2 h0 a) = mg_X3_firstUnusedPointer_2 h0 (fun b => k2 (en_X3_firstUnusedPointer_2 h0 b)) a := rfl
set_option maxRecDepth 100000 in
set_option maxHeartbeats 4000000 in
theorem sg_X3_firstUnusedPointer_2 {X : XDyn} {r0 : Rt} (C : XO X mX3_firstUnusedPointer) {k2 : XK} (q2 : XS X mX3_firstUnusedPointer r0 2 k2) : XS X mX3_firstUnusedPointer r0 2 (rg_X3_firstUnusedPointer_2 k2) := by
 unfold rg_X3_firstUnusedPointer_2
 exact s_iload_n (pc := 2) C dX3_firstUnusedPointer_2 rfl <|
    s_iconst (pc := 3) C dX3_firstUnusedPointer_3 <|
    s_icmp_ge (pc := 4) C dX3_firstUnusedPointer_4 (by decide) (s_iconst (pc := 23) C dX3_firstUnusedPointer_23 <|
    s_ireturn (pc := 24) C rfl dX3_firstUnusedPointer_24)
    (s_aload_n (pc := 7) C dX3_firstUnusedPointer_7 rfl <|
    s_iload_n (pc := 8) C dX3_firstUnusedPointer_8 rfl <|
    s_callV (pc := 9) C ct_X3_isIsland (n := 2) (rk := 1) (mp := [0]) ⟨rfl, by decide, rfl⟩ (ci := 3) rfl rfl (by decide) (by decide) yi_X3_isIsland (by decide) wd_661 wd_581 wd_582 wd_74 wd_583 dX3_firstUnusedPointer_9 <|
    s_if_ne (pc := 12) C dX3_firstUnusedPointer_12 (by decide) (s_iinc (pc := 17) C dX3_firstUnusedPointer_17 <|
    s_goto (pc := 20) C dX3_firstUnusedPointer_20 (by decide) <|
    s_cut q2)
    (s_iload_n (pc := 15) C dX3_firstUnusedPointer_15 rfl <|
    s_ireturn (pc := 16) C rfl dX3_firstUnusedPointer_16))
noncomputable def rw_X3_firstUnusedPointer_2 (f : Nat) : XK := tlp (fun k2 => rg_X3_firstUnusedPointer_2 k2) f
noncomputable def lb_X3_firstUnusedPointer_2 (h0 : Ob) (f : Nat) : ((Int) → Option Rt) → Int → Option Rt := fun k2 => mg_X3_firstUnusedPointer_2 h0 k2
noncomputable def md_X3_firstUnusedPointer_2 (h0 : Ob) (f : Nat) : Int → Option Rt := tlp (lb_X3_firstUnusedPointer_2 h0 f) f
theorem eq_X3_firstUnusedPointer_2 (h0 : Ob) (f : Nat) (a : Int) : rw_X3_firstUnusedPointer_2 f (en_X3_firstUnusedPointer_2 h0 a) = md_X3_firstUnusedPointer_2 h0 f a :=
 tlp_enc (en_X3_firstUnusedPointer_2 h0) (fun k2 a => (rq_X3_firstUnusedPointer_2 h0 k2 a).trans (congrFun (congr (rfl : mg_X3_firstUnusedPointer_2 h0 = mg_X3_firstUnusedPointer_2 h0) rfl) a)) f a
theorem sd_X3_firstUnusedPointer_2 (f : Nat) {X : XDyn} {r0 : Rt} (C : XO X mX3_firstUnusedPointer) : XS X mX3_firstUnusedPointer r0 2 (rw_X3_firstUnusedPointer_2 f) := s_lp (fun k2 q2 => sg_X3_firstUnusedPointer_2 C q2) f
noncomputable def rw_X3_firstUnusedPointer_0 (f : Nat) : XK := rg_X3_firstUnusedPointer_0 (rw_X3_firstUnusedPointer_2 f)
noncomputable def md_X3_firstUnusedPointer_0 (h0 : Ob) (f : Nat) : Unit → Option Rt := mg_X3_firstUnusedPointer_0 h0 (md_X3_firstUnusedPointer_2 h0 f)
theorem eq_X3_firstUnusedPointer_0 (h0 : Ob) (f : Nat) (a : Unit) : rw_X3_firstUnusedPointer_0 f (en_X3_firstUnusedPointer_0 h0 a) = md_X3_firstUnusedPointer_0 h0 f a :=
 (rq_X3_firstUnusedPointer_0 h0 (rw_X3_firstUnusedPointer_2 f) a).trans (congrFun (congr (rfl : mg_X3_firstUnusedPointer_0 h0 = mg_X3_firstUnusedPointer_0 h0) (funext (eq_X3_firstUnusedPointer_2 h0 f))) a)
theorem sd_X3_firstUnusedPointer_0 (f : Nat) {X : XDyn} {r0 : Rt} (C : XO X mX3_firstUnusedPointer) : XS X mX3_firstUnusedPointer r0 0 (rw_X3_firstUnusedPointer_0 f) := sg_X3_firstUnusedPointer_0 C (sd_X3_firstUnusedPointer_2 f C)
theorem ctr_X3_firstUnusedPointer (f : Nat) : XCt yX3_firstUnusedPointer mX3_firstUnusedPointer (xF mX3_firstUnusedPointer (rw_X3_firstUnusedPointer_0 f)) := xMet (by decide +kernel) rfl (fun _ _ C => sd_X3_firstUnusedPointer_0 f C)
theorem eqf_X3_firstUnusedPointer (f : Nat) (h0 : Ob) : xF mX3_firstUnusedPointer (rw_X3_firstUnusedPointer_0 f) [.inr (.inl (0, 0))] [h0] = md_X3_firstUnusedPointer_0 h0 f () := eq_X3_firstUnusedPointer_0 h0 f ()
theorem yi_X3_firstUnusedPointer : yX3_firstUnusedPointer.cls = RX3 ∧ yX3_firstUnusedPointer.cls ≠ "java/lang/invoke/MethodHandle" ∧ yX3_firstUnusedPointer.cls ≠ "java/lang/invoke/VarHandle" ∧ (parseMethodDescriptor yX3_firstUnusedPointer.desc).map (fun d => d.parameters.length) = some 0 := ⟨rfl, by decide +kernel, by decide +kernel, by decide +kernel⟩
theorem sp_X3_firstUnusedPointer (f : Nat) (hf : 1000 ≤ f) (h0 : Ob) : md_X3_firstUnusedPointer_0 h0 f () = RI (ffp h0) [h0] := by
  rw [ffp_e]
  show md_X3_firstUnusedPointer_2 h0 f 0 = _
  refine loop_find 3 _ (fun r => RI r [h0]) (fun i => (i : Int)) (fun k i hi => ?_) (fun k => ?_) f (by omega)
  · simp only [lb_X3_firstUnusedPointer_2, mg_X3_firstUnusedPointer_2, xw_nat (show i < 2147483648 by omega), bz_0]
    rw [if_neg (by omega)]
    cases isl h0 (i : Int) <;> simp
  · rfl
noncomputable def f_X3_firstUnusedPointer : List AV → List Ob → Option Rt
  | [.inr (.inl (0, 0))], [h0] => some (some (.inl (ffp h0)), [h0])
  | _, _ => none
theorem ct_X3_firstUnusedPointer : XCt yX3_firstUnusedPointer mX3_firstUnusedPointer f_X3_firstUnusedPointer := (ctr_X3_firstUnusedPointer xfu).of (fun as μ r h => by
  unfold f_X3_firstUnusedPointer at h
  split at h
  · rw [← h]
    exact (eqf_X3_firstUnusedPointer xfu _).trans (sp_X3_firstUnusedPointer xfu (xfu_ge (by decide)) _)
  · cases h)
