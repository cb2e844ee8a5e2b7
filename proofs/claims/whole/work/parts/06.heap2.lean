def movSI (h : Ob) : Int := (List.range 8).foldl (fun (s : Int) (i : Nat) => if mov h (i : Int) then xor_ s (xshl 1 (i : Int)) else s) 0
noncomputable def movS : Ob → Int := xop movSI
theorem movS_e (h : Ob) : movS h = movSI h := congrFun (xop_eq movSI) h
noncomputable def goS (h : Ob) : Int := xand (movS h) (h 0 8)
def sqSI (h : Ob) : Int := (List.range 8).foldl (fun (s : Int) (i : Nat) => if mov h (i : Int) && decide (xw (h 5 i) < xw (h 2 i)) then xor_ s (xshl 1 (i : Int)) else s) 0
noncomputable def sqS : Ob → Int := xop sqSI
theorem sqS_e (h : Ob) : sqS h = sqSI h := congrFun (xop_eq sqSI) h
def wrtI (h : Ob) (a : Int) : Int := if hdl a then (if xw (h 0 12) = 0 then h 7 (xw a).toNat else if xw (h 0 12) = 1 then h 6 (xw a).toNat
  else if xw (h 0 12) = 2 then xdiv (100 * h 6 (xw a).toNat) (xmax 1 (h 2 (xw a).toNat)) else if xw (h 0 12) = 3 then 1000 - h 2 (xw a).toNat else h 7 (xw a).toNat + 4 * h 6 (xw a).toNat) else 0
noncomputable def wrt : Ob → Int → Int := xop wrtI
theorem wrt_e (h : Ob) (a : Int) : wrt h a = wrtI h a := congrFun (congrFun (xop_eq wrtI) h) a
noncomputable def lwoI (h : Ob) (s : Int) : Int := (List.range 8).foldl (fun (fd : Int) (i : Nat) => if inS s (i : Int) && (decide (xw fd = -1) || decide (xw (wrt h (i : Int)) < xw (wrt h fd))) then (i : Int) else fd) (-1)
noncomputable def lwo : Ob → Int → Int := xop lwoI
theorem lwo_e (h : Ob) (s : Int) : lwo h s = lwoI h s := congrFun (congrFun (xop_eq lwoI) h) s
def cofI (h : Ob) (s : Int) : Int := (List.range 8).foldl (fun (c : Int) (i : Nat) => if inS s (i : Int) then c + (h 2 i + 1) else c) 0
noncomputable def cof : Ob → Int → Int := xop cofI
theorem cof_e (h : Ob) (s : Int) : cof h s = cofI h s := congrFun (congrFun (xop_eq cofI) h) s
def descO (h : Ob) (a c : Int) : Ob := if hdl a then (xset (xset (xset (xset (xset h 0 7 (xor_ (h 0 7) (xshl 1 a))) 0 8 (xand (h 0 8) (xxor (xshl 1 a) (-1)))) 4 (xw a).toNat 0) 6 (xw a).toNat c) 5 (xw a).toNat (h 2 (xw a).toNat)) else h
def sqaOI (h : Ob) : Ob := (List.range 8).foldl (fun (g : Ob) (i : Nat) => if mov g (i : Int) then xset g 2 i (g 5 i) else g) h
noncomputable def sqaO : Ob → Ob := xop sqaOI
theorem sqaO_e (h : Ob) : sqaO h = sqaOI h := congrFun (xop_eq sqaOI) h
def iscon (h : Ob) (a k : Int) : Bool := decide (0 ≤ xw a) && (decide (xw a < 11) && (decide (0 ≤ xw k) && decide (xw k < xw (xmin (h 2 (xw a).toNat) 60))))
def conF (h : Ob) (a k : Int) : Int := if iscon h a k then h 3 (xw a * 60 + xw k).toNat else 0
def scoO (h : Ob) (a k v : Int) : Ob := if iscon h a k then xset h 3 (xw a * 60 + xw k).toNat v else h
def clrO (h : Ob) (a b c : Int) : Ob := if 0 ≤ xw a ∧ xw a < 11 ∧ 0 ≤ xw b then (fun j k => if j = 3 ∧ xw a * 60 + xw b ≤ (k : Int) ∧ (k : Int) < xw a * 60 + xw c ∧ (k : Int) < xw a * 60 + 60 then 0 else h j k) else h
def layO (h : Ob) (a b c : Int) : Ob := if 0 ≤ xw a ∧ xw a < 11 then clrO (xset (xset h 1 (xw a).toNat b) 2 (xw a).toNat c) a 0 c else h
theorem xin_of {i : Int} {n : Nat} (h1 : 0 ≤ xw i) (h2 : xw i < (n : Int)) : xin i n = true := by unfold xin; simp [h1, h2]
theorem hdl_iff {a : Int} : hdl a = true ↔ 0 ≤ xw a ∧ xw a < 8 := by unfold hdl; simp
theorem xmin_le {x : Int} : xw (xmin x 60) ≤ 60 := by
  have h60 : xw 60 = 60 := by decide
  unfold xmin
  split
  · rw [h60]; omega
  · rename_i h; rw [h60] at h; omega
theorem xw_mul60 {a k : Int} (h1 : 0 ≤ xw a) (h2 : xw a < 11) (h3 : 0 ≤ xw k) (h4 : xw k < 60) : xw (a * 60 + k) = xw a * 60 + xw k := by
  simp only [xw_def] at *
  omega
theorem iscon_iff {h : Ob} {a k : Int} : iscon h a k = true ↔ 0 ≤ xw a ∧ xw a < 11 ∧ 0 ≤ xw k ∧ xw k < xw (xmin (h 2 (xw a).toNat) 60) := by unfold iscon; simp
theorem iscon_lt {h : Ob} {a k : Int} (hc : iscon h a k = true) : 0 ≤ xw a ∧ xw a < 11 ∧ 0 ≤ xw k ∧ xw k < 60 ∧ xw (a * 60 + k) = xw a * 60 + xw k := by
  obtain ⟨h1, h2, h3, h4⟩ := iscon_iff.mp hc
  have := @xmin_le (h 2 (xw a).toNat)
  exact ⟨h1, h2, h3, by omega, xw_mul60 h1 h2 h3 (by omega)⟩
theorem dX3_movable_0 : decode cX3_movable 0 = .ok (.iconst 0, 1) := by decide +kernel
theorem dX3_movable_1 : decode cX3_movable 1 = .ok (.istore_n 1, 1) := by decide +kernel
theorem dX3_movable_2 : decode cX3_movable 2 = .ok (.iconst 0, 1) := by decide +kernel
theorem dX3_movable_3 : decode cX3_movable 3 = .ok (.istore_n 2, 1) := by decide +kernel
theorem dX3_movable_4 : decode cX3_movable 4 = .ok (.iload_n 2, 1) := by decide +kernel
theorem dX3_movable_5 : decode cX3_movable 5 = .ok (.bipush 8, 2) := by decide +kernel
theorem dX3_movable_7 : decode cX3_movable 7 = .ok (.if_icmp .ge 23, 3) := by decide +kernel
theorem dX3_movable_10 : decode cX3_movable 10 = .ok (.aload_n 0, 1) := by decide +kernel
theorem dX3_movable_11 : decode cX3_movable 11 = .ok (.iload_n 2, 1) := by decide +kernel
theorem dX3_movable_12 : decode cX3_movable 12 = .ok (.invokevirtual 75, 3) := by decide +kernel
theorem dX3_movable_15 : decode cX3_movable 15 = .ok (.ifCond .eq 9, 3) := by decide +kernel
theorem dX3_movable_18 : decode cX3_movable 18 = .ok (.iload_n 1, 1) := by decide +kernel
theorem dX3_movable_19 : decode cX3_movable 19 = .ok (.iconst 1, 1) := by decide +kernel
theorem dX3_movable_20 : decode cX3_movable 20 = .ok (.iload_n 2, 1) := by decide +kernel
theorem dX3_movable_21 : decode cX3_movable 21 = .ok (.ishl, 1) := by decide +kernel
theorem dX3_movable_22 : decode cX3_movable 22 = .ok (.ior, 1) := by decide +kernel
theorem dX3_movable_23 : decode cX3_movable 23 = .ok (.istore_n 1, 1) := by decide +kernel
theorem dX3_movable_24 : decode cX3_movable 24 = .ok (.iinc 2 1, 3) := by decide +kernel
theorem dX3_movable_27 : decode cX3_movable 27 = .ok (.goto (-23), 3) := by decide +kernel
theorem dX3_movable_30 : decode cX3_movable 30 = .ok (.iload_n 1, 1) := by decide +kernel
theorem dX3_movable_31 : decode cX3_movable 31 = .ok (.ireturn, 1) := by decide +kernel
abbrev mX3_movable : XM := (cX3_movable, 3, RX3, (some .int), shw_3, 1)
noncomputable def rg_X3_movable_0 (k4 : XK) : XK :=
 o_iconst 0 <|
 o_istore 1 <|
 o_iconst 0 <|
 o_istore 2 <|
 o_cut [] k4
def en_X3_movable_0 (h0 : Ob) (a : Unit) : XSt := ([some (.inr (.inl (0, 0))), none, none], [], [h0])
noncomputable def rg_X3_movable_4 (k24 : XK) : XK :=
 o_iload 2 <|
 o_iconst 8 <|
 o_icmp_ge (o_iload 1 <|
 o_ireturn)
 (o_aload 0 <|
 o_iload 2 <|
 o_callV 2 1 [0] f_X3_isMovable <|
 o_if_eq (o_cut [] k24)
 (o_iload 1 <|
 o_iconst 1 <|
 o_iload 2 <|
 o_ishl <|
 o_ior <|
 o_istore 1 <|
 o_cut [] k24))
def en_X3_movable_4 (h0 : Ob) (a : Int × Int) : XSt := ([some (.inr (.inl (0, 0))), some (.inl a.1), some (.inl a.2)], [], [h0])
noncomputable def rg_X3_movable_24 (k4 : XK) : XK :=
 o_iinc 2 1 <|
 o_cut [] k4
def en_X3_movable_24 (h0 : Ob) (a : Int × Int) : XSt := ([some (.inr (.inl (0, 0))), some (.inl a.1), some (.inl a.2)], [], [h0])
noncomputable def mg_X3_movable_0 (h0 : Ob) (k4 : (Int × Int) → Option Rt) (a : Unit) : Option Rt :=
 k4 (0, 0)
set_option maxRecDepth 100000 in
set_option maxHeartbeats 4000000 in
theorem rq_X3_movable_0 (h0 : Ob) (k4 : XK) (a : Unit) : rg_X3_movable_0 k4 (en_X3_movable_0 h0 a) = mg_X3_movable_0 h0 (fun b => k4 (en_X3_movable_4 h0 b)) a := rfl
set_option maxRecDepth 100000 in
set_option maxHeartbeats 4000000 in
theorem sg_X3_movable_0 {X : XDyn} {r0 : Rt} (C : XO X mX3_movable) {k4 : XK} (q4 : XS X mX3_movable r0 4 k4) : XS X mX3_movable r0 0 (rg_X3_movable_0 k4) := by
 unfold rg_X3_movable_0
 exact s_iconst (pc := 0) C dX3_movable_0 <|
    s_istore_n (pc := 1) C dX3_movable_1 rfl <|
    s_iconst (pc := 2) C dX3_movable_2 <|
    s_istore_n (pc := 3) C dX3_movable_3 rfl <|
    s_cut q4
noncomputable def mg_X3_movable_4 (h0 : Ob) (k24 : (Int × Int) → Option Rt) (a : Int × Int) : Option Rt :=
 if xw a.2 ≥ 8 then (RI a.1 [h0])
 else (if xw (bz (mov h0 a.2)) = 0 then (k24 (a.1, a.2))
 else (k24 ((xor_ a.1 (xshl 1 a.2)), a.2)))
set_option maxRecDepth 100000 in
set_option maxHeartbeats 4000000 in
theorem rq_X3_movable_4 (h0 : Ob) (k24 : XK) (a : Int × Int) : rg_X3_movable_4 k24 (en_X3_movable_4 h0 a) = mg_X3_movable_4 h0 (fun b => k24 (en_X3_movable_24 h0 b)) a := rfl
set_option maxRecDepth 100000 in
set_option maxHeartbeats 4000000 in
theorem sg_X3_movable_4 {X : XDyn} {r0 : Rt} (C : XO X mX3_movable) {k24 : XK} (q24 : XS X mX3_movable r0 24 k24) : XS X mX3_movable r0 4 (rg_X3_movable_4 k24) := by
 unfold rg_X3_movable_4
 exact s_iload_n (pc := 4) C dX3_movable_4 rfl <|
    s_bipush (pc := 5) C dX3_movable_5 (by decide) <|
    s_icmp_ge (pc := 7) C dX3_movable_7 (by decide) (s_iload_n (pc := 30) C dX3_movable_30 rfl <|
    s_ireturn (pc := 31) C rfl dX3_movable_31)
    (s_aload_n (pc := 10) C dX3_movable_10 rfl <|
    s_iload_n (pc := 11) C dX3_movable_11 rfl <|
    s_callV (pc := 12) C ct_X3_isMovable (n := 2) (rk := 1) (mp := [0]) ⟨rfl, by decide, rfl⟩ (ci := 3) rfl rfl (by decide) (by decide) yi_X3_isMovable (by decide) wd_412 wd_413 wd_414 wd_74 wd_415 dX3_movable_12 <|
    s_if_eq (pc := 15) C dX3_movable_15 (by decide) (s_cut q24)
    (s_iload_n (pc := 18) C dX3_movable_18 rfl <|
    s_iconst (pc := 19) C dX3_movable_19 <|
    s_iload_n (pc := 20) C dX3_movable_20 rfl <|
    s_ishl (pc := 21) C dX3_movable_21 <|
    s_ior (pc := 22) C dX3_movable_22 <|
    s_istore_n (pc := 23) C dX3_movable_23 rfl <|
    s_cut q24))
noncomputable def mg_X3_movable_24 (h0 : Ob) (k4 : (Int × Int) → Option Rt) (a : Int × Int) : Option Rt :=
 k4 (a.1, (a.2 + 1))
set_option maxRecDepth 100000 in
set_option maxHeartbeats 4000000 in
theorem rq_X3_movable_24 (h0 : Ob) (k4 : XK) (a : Int × Int) : rg_X3_movable_24 k4 (en_X3_movable_24 h0 a) = mg_X3_movable_24 h0 (fun b => k4 (en_X3_movable_4 h0 b)) a := rfl
set_option maxRecDepth 100000 in
set_option maxHeartbeats 4000000 in
theorem sg_X3_movable_24 {X : XDyn} {r0 : Rt} (C : XO X mX3_movable) {k4 : XK} (q4 : XS X mX3_movable r0 4 k4) : XS X mX3_movable r0 24 (rg_X3_movable_24 k4) := by
 unfold rg_X3_movable_24
 exact s_iinc (pc := 24) C dX3_movable_24 <|
    s_goto (pc := 27) C dX3_movable_27 (by decide) <|
    s_cut q4
noncomputable def rw_X3_movable_24 (f : Nat) (k4 : XK) : XK := rg_X3_movable_24 k4
noncomputable def md_X3_movable_24 (h0 : Ob) (f : Nat) (k4 : (Int × Int) → Option Rt) : Int × Int → Option Rt := mg_X3_movable_24 h0 k4
theorem eq_X3_movable_24 (h0 : Ob) (f : Nat) (k4 : XK) (a : Int × Int) : rw_X3_movable_24 f k4 (en_X3_movable_24 h0 a) = md_X3_movable_24 h0 f (fun b => k4 (en_X3_movable_4 h0 b)) a :=
 (rq_X3_movable_24 h0 k4 a).trans (congrFun (congr (rfl : mg_X3_movable_24 h0 = mg_X3_movable_24 h0) rfl) a)
theorem sd_X3_movable_24 (f : Nat) {X : XDyn} {r0 : Rt} (C : XO X mX3_movable) {k4 : XK} (q4 : XS X mX3_movable r0 4 k4) : XS X mX3_movable r0 24 (rw_X3_movable_24 f k4) := sg_X3_movable_24 C q4
noncomputable def rw_X3_movable_4 (f : Nat) : XK := tlp (fun k4 => rg_X3_movable_4 (rw_X3_movable_24 f k4)) f
noncomputable def lb_X3_movable_4 (h0 : Ob) (f : Nat) : ((Int × Int) → Option Rt) → Int × Int → Option Rt := fun k4 => mg_X3_movable_4 h0 (md_X3_movable_24 h0 f k4)
noncomputable def md_X3_movable_4 (h0 : Ob) (f : Nat) : Int × Int → Option Rt := tlp (lb_X3_movable_4 h0 f) f
theorem eq_X3_movable_4 (h0 : Ob) (f : Nat) (a : Int × Int) : rw_X3_movable_4 f (en_X3_movable_4 h0 a) = md_X3_movable_4 h0 f a :=
 tlp_enc (en_X3_movable_4 h0) (fun k4 a => (rq_X3_movable_4 h0 (rw_X3_movable_24 f k4) a).trans (congrFun (congr (rfl : mg_X3_movable_4 h0 = mg_X3_movable_4 h0) (funext (eq_X3_movable_24 h0 f k4))) a)) f a
theorem sd_X3_movable_4 (f : Nat) {X : XDyn} {r0 : Rt} (C : XO X mX3_movable) : XS X mX3_movable r0 4 (rw_X3_movable_4 f) := s_lp (fun k4 q4 => sg_X3_movable_4 C (sd_X3_movable_24 f C q4)) f
noncomputable def rw_X3_movable_0 (f : Nat) : XK := rg_X3_movable_0 (rw_X3_movable_4 f)
noncomputable def md_X3_movable_0 (h0 : Ob) (f : Nat) : Unit → Option Rt := mg_X3_movable_0 h0 (md_X3_movable_4 h0 f)
theorem eq_X3_movable_0 (h0 : Ob) (f : Nat) (a : Unit) : rw_X3_movable_0 f (en_X3_movable_0 h0 a) = md_X3_movable_0 h0 f a :=
 (rq_X3_movable_0 h0 (rw_X3_movable_4 f) a).trans (congrFun (congr (rfl : mg_X3_movable_0 h0 = mg_X3_movable_0 h0) (funext (eq_X3_movable_4 h0 f))) a)
theorem sd_X3_movable_0 (f : Nat) {X : XDyn} {r0 : Rt} (C : XO X mX3_movable) : XS X mX3_movable r0 0 (rw_X3_movable_0 f) := sg_X3_movable_0 C (sd_X3_movable_4 f C)
theorem ctr_X3_movable (f : Nat) : XCt yX3_movable mX3_movable (xF mX3_movable (rw_X3_movable_0 f)) := xMet (by decide +kernel) rfl (fun _ _ C => sd_X3_movable_0 f C)
theorem eqf_X3_movable (f : Nat) (h0 : Ob) : xF mX3_movable (rw_X3_movable_0 f) [.inr (.inl (0, 0))] [h0] = md_X3_movable_0 h0 f () := eq_X3_movable_0 h0 f ()
theorem yi_X3_movable : yX3_movable.cls = RX3 ∧ yX3_movable.cls ≠ "java/lang/invoke/MethodHandle" ∧ yX3_movable.cls ≠ "java/lang/invoke/VarHandle" ∧ (parseMethodDescriptor yX3_movable.desc).map (fun d => d.parameters.length) = some 0 := ⟨rfl, by decide +kernel, by decide +kernel, by decide +kernel⟩
theorem sp_X3_movable (f : Nat) (hf : 1000 ≤ f) (h0 : Ob) : md_X3_movable_0 h0 f () = RI (movS h0) [h0] := by
  rw [movS_e]
  show md_X3_movable_4 h0 f (0, 0) = _
  refine (loop_fold 8 _ (fun s => RI s [h0]) (fun i s => (s, (i : Int))) (fun _ _ => True) (fun k i s hi _ => ⟨?_, trivial⟩) (fun k s _ => rfl) f 0 (by omega) trivial).1
  simp only [md_X3_movable_0, mg_X3_movable_0, lb_X3_movable_4, mg_X3_movable_4, md_X3_movable_24, mg_X3_movable_24, xw_nat (show i < 2147483648 by omega), bz_0]
  rw [if_neg (by omega)]
  cases mov h0 (i : Int) <;> rfl
noncomputable def f_X3_movable : List AV → List Ob → Option Rt
  | [.inr (.inl (0, 0))], [h0] => some (some (.inl (movS h0)), [h0])
  | _, _ => none
theorem ct_X3_movable : XCt yX3_movable mX3_movable f_X3_movable := (ctr_X3_movable xfu).of (fun as μ r h => by
  unfold f_X3_movable at h
  split at h
  · rw [← h]
    exact (eqf_X3_movable xfu _).trans (sp_X3_movable xfu (xfu_ge (by decide)) _)
  · cases h)
theorem dX3_goers_0 : decode cX3_goers 0 = .ok (.aload_n 0, 1) := by decide +kernel
theorem dX3_goers_1 : decode cX3_goers 1 = .ok (.invokevirtual 78, 3) := by decide +kernel
theorem dX3_goers_4 : decode cX3_goers 4 = .ok (.aload_n 0, 1) := by decide +kernel
theorem dX3_goers_5 : decode cX3_goers 5 = .ok (.getfield 37, 3) := by decide +kernel
theorem dX3_goers_8 : decode cX3_goers 8 = .ok (.iand, 1) := by decide +kernel
theorem dX3_goers_9 : decode cX3_goers 9 = .ok (.ireturn, 1) := by decide +kernel
abbrev mX3_goers : XM := (cX3_goers, 1, RX3, (some .int), shw_3, 2)
noncomputable def rg_X3_goers_0 : XK :=
 o_aload 0 <|
 o_callV 1 1 [0] f_X3_movable <|
 o_aload 0 <|
 o_get shw_3 3 8 <|
 o_iand <|
 o_ireturn
def en_X3_goers_0 (h0 : Ob) (a : Unit) : XSt := ([some (.inr (.inl (0, 0)))], [], [h0])
noncomputable def mg_X3_goers_0 (h0 : Ob) (a : Unit) : Option Rt :=
 RI (xand (movS h0) (h0 0 8)) [h0]
set_option maxRecDepth 100000 in
set_option maxHeartbeats 4000000 in
theorem rq_X3_goers_0 (h0 : Ob) (a : Unit) : rg_X3_goers_0 (en_X3_goers_0 h0 a) = mg_X3_goers_0 h0 a := rfl
set_option maxRecDepth 100000 in
set_option maxHeartbeats 4000000 in
theorem sg_X3_goers_0 {X : XDyn} {r0 : Rt} (C : XO X mX3_goers) : XS X mX3_goers r0 0 (rg_X3_goers_0) := by
 unfold rg_X3_goers_0
 exact s_aload_n (pc := 0) C dX3_goers_0 rfl <|
    s_callV (pc := 1) C ct_X3_movable (n := 1) (rk := 1) (mp := [0]) ⟨rfl, by decide, rfl⟩ (ci := 3) rfl rfl (by decide) (by decide) yi_X3_movable (by decide) wd_525 wd_428 wd_429 wd_74 wd_430 dX3_goers_1 <|
    s_aload_n (pc := 4) C dX3_goers_4 rfl <|
    s_get (pc := 5) C (ci := 3) (kf := 8) rfl inX3 (by decide) wd_123 dX3_goers_5 <|
    s_iand (pc := 8) C dX3_goers_8 <|
    s_ireturn (pc := 9) C rfl dX3_goers_9
noncomputable def rw_X3_goers_0 : XK := rg_X3_goers_0
noncomputable def md_X3_goers_0 (h0 : Ob) : Unit → Option Rt := mg_X3_goers_0 h0
theorem eq_X3_goers_0 (h0 : Ob) (a : Unit) : rw_X3_goers_0 (en_X3_goers_0 h0 a) = md_X3_goers_0 h0 a :=
 rq_X3_goers_0 h0 a
theorem sd_X3_goers_0 {X : XDyn} {r0 : Rt} (C : XO X mX3_goers) : XS X mX3_goers r0 0 (rw_X3_goers_0) := sg_X3_goers_0 C
theorem ctr_X3_goers : XCt yX3_goers mX3_goers (xF mX3_goers (rw_X3_goers_0)) := xMet (by decide +kernel) rfl (fun _ _ C => sd_X3_goers_0 C)
theorem eqf_X3_goers (h0 : Ob) : xF mX3_goers (rw_X3_goers_0) [.inr (.inl (0, 0))] [h0] = md_X3_goers_0 h0 () := eq_X3_goers_0 h0 ()
theorem yi_X3_goers : yX3_goers.cls = RX3 ∧ yX3_goers.cls ≠ "java/lang/invoke/MethodHandle" ∧ yX3_goers.cls ≠ "java/lang/invoke/VarHandle" ∧ (parseMethodDescriptor yX3_goers.desc).map (fun d => d.parameters.length) = some 0 := ⟨rfl, by decide +kernel, by decide +kernel, by decide +kernel⟩
theorem sp_X3_goers (h0 : Ob) : md_X3_goers_0 h0 () = RI (goS h0) [h0] := rfl
noncomputable def f_X3_goers : List AV → List Ob → Option Rt
  | [.inr (.inl (0, 0))], [h0] => some (some (.inl (goS h0)), [h0])
  | _, _ => none
theorem ct_X3_goers : XCt yX3_goers mX3_goers f_X3_goers := (ctr_X3_goers ).of (fun as μ r h => by
  unfold f_X3_goers at h
  split at h
  · rw [← h]
    exact (eqf_X3_goers _).trans (sp_X3_goers _)
  · cases h)
theorem dX3_squeezable_0 : decode cX3_squeezable 0 = .ok (.iconst 0, 1) := by decide +kernel
theorem dX3_squeezable_1 : decode cX3_squeezable 1 = .ok (.istore_n 1, 1) := by decide +kernel
theorem dX3_squeezable_2 : decode cX3_squeezable 2 = .ok (.iconst 0, 1) := by decide +kernel
theorem dX3_squeezable_3 : decode cX3_squeezable 3 = .ok (.istore_n 2, 1) := by decide +kernel
theorem dX3_squeezable_4 : decode cX3_squeezable 4 = .ok (.iload_n 2, 1) := by decide +kernel
theorem dX3_squeezable_5 : decode cX3_squeezable 5 = .ok (.bipush 8, 2) := by decide +kernel
theorem dX3_squeezable_7 : decode cX3_squeezable 7 = .ok (.if_icmp .ge 38, 3) := by decide +kernel
theorem dX3_squeezable_10 : decode cX3_squeezable 10 = .ok (.aload_n 0, 1) := by decide +kernel
theorem dX3_squeezable_11 : decode cX3_squeezable 11 = .ok (.iload_n 2, 1) := by decide +kernel
theorem dX3_squeezable_12 : decode cX3_squeezable 12 = .ok (.invokevirtual 75, 3) := by decide +kernel
theorem dX3_squeezable_15 : decode cX3_squeezable 15 = .ok (.ifCond .eq 24, 3) := by decide +kernel
theorem dX3_squeezable_18 : decode cX3_squeezable 18 = .ok (.aload_n 0, 1) := by decide +kernel
theorem dX3_squeezable_19 : decode cX3_squeezable 19 = .ok (.getfield 24, 3) := by decide +kernel
theorem dX3_squeezable_22 : decode cX3_squeezable 22 = .ok (.iload_n 2, 1) := by decide +kernel
theorem dX3_squeezable_23 : decode cX3_squeezable 23 = .ok (.iaload, 1) := by decide +kernel
theorem dX3_squeezable_24 : decode cX3_squeezable 24 = .ok (.aload_n 0, 1) := by decide +kernel
theorem dX3_squeezable_25 : decode cX3_squeezable 25 = .ok (.getfield 15, 3) := by decide +kernel
theorem dX3_squeezable_28 : decode cX3_squeezable 28 = .ok (.iload_n 2, 1) := by decide +kernel
theorem dX3_squeezable_29 : decode cX3_squeezable 29 = .ok (.iaload, 1) := by decide +kernel
theorem dX3_squeezable_30 : decode cX3_squeezable 30 = .ok (.if_icmp .ge 9, 3) := by decide +kernel
theorem dX3_squeezable_33 : decode cX3_squeezable 33 = .ok (.iload_n 1, 1) := by decide +kernel
theorem dX3_squeezable_34 : decode cX3_squeezable 34 = .ok (.iconst 1, 1) := by decide +kernel
theorem dX3_squeezable_35 : decode cX3_squeezable 35 = .ok (.iload_n 2, 1) := by decide +kernel
theorem dX3_squeezable_36 : decode cX3_squeezable 36 = .ok (.ishl, 1) := by decide +kernel
theorem dX3_squeezable_37 : decode cX3_squeezable 37 = .ok (.ior, 1) := by decide +kernel
theorem dX3_squeezable_38 : decode cX3_squeezable 38 = .ok (.istore_n 1, 1) := by decide +kernel
theorem dX3_squeezable_39 : decode cX3_squeezable 39 = .ok (.iinc 2 1, 3) := by decide +kernel
theorem dX3_squeezable_42 : decode cX3_squeezable 42 = .ok (.goto (-38), 3) := by decide +kernel
theorem dX3_squeezable_45 : decode cX3_squeezable 45 = .ok (.iload_n 1, 1) := by decide +kernel
theorem dX3_squeezable_46 : decode cX3_squeezable 46 = .ok (.ireturn, 1) := by decide +kernel
abbrev mX3_squeezable : XM := (cX3_squeezable, 3, RX3, (some .int), shw_3, 1)
noncomputable def rg_X3_squeezable_0 (k4 : XK) : XK :=
 o_iconst 0 <|
 o_istore 1 <|
 o_iconst 0 <|
 o_istore 2 <|
 o_cut [] k4
def en_X3_squeezable_0 (h0 : Ob) (a : Unit) : XSt := ([some (.inr (.inl (0, 0))), none, none], [], [h0])
noncomputable def rg_X3_squeezable_4 (k39 : XK) : XK :=
 o_iload 2 <|
 o_iconst 8 <|
 o_icmp_ge (o_iload 1 <|
 o_ireturn)
 (o_aload 0 <|
 o_iload 2 <|
 o_callV 2 1 [0] f_X3_isMovable <|
 o_if_eq (o_cut [] k39)
 (o_aload 0 <|
 o_get shw_3 3 4 <|
 o_iload 2 <|
 o_iald shw_3 <|
 o_aload 0 <|
 o_get shw_3 3 1 <|
 o_iload 2 <|
 o_iald shw_3 <|
 o_icmp_ge (o_cut [] k39)
 (o_iload 1 <|
 o_iconst 1 <|
 o_iload 2 <|
 o_ishl <|
 o_ior <|
 o_istore 1 <|
 o_cut [] k39)))
def en_X3_squeezable_4 (h0 : Ob) (a : Int × Int) : XSt := ([some (.inr (.inl (0, 0))), some (.inl a.1), some (.inl a.2)], [], [h0])
noncomputable def rg_X3_squeezable_39 (k4 : XK) : XK :=
 o_iinc 2 1 <|
 o_cut [] k4
def en_X3_squeezable_39 (h0 : Ob) (a : Int × Int) : XSt := ([some (.inr (.inl (0, 0))), some (.inl a.1), some (.inl a.2)], [], [h0])
noncomputable def mg_X3_squeezable_0 (h0 : Ob) (k4 : (Int × Int) → Option Rt) (a : Unit) : Option Rt :=
 k4 (0, 0)
set_option maxRecDepth 100000 in
set_option maxHeartbeats 4000000 in
theorem rq_X3_squeezable_0 (h0 : Ob) (k4 : XK) (a : Unit) : rg_X3_squeezable_0 k4 (en_X3_squeezable_0 h0 a) = mg_X3_squeezable_0 h0 (fun b => k4 (en_X3_squeezable_4 h0 b)) a := rfl
set_option maxRecDepth 100000 in
set_option maxHeartbeats 4000000 in
theorem sg_X3_squeezable_0 {X : XDyn} {r0 : Rt} (C : XO X mX3_squeezable) {k4 : XK} (q4 : XS X mX3_squeezable r0 4 k4) : XS X mX3_squeezable r0 0 (rg_X3_squeezable_0 k4) := by
 unfold rg_X3_squeezable_0
 exact s_iconst (pc := 0) C dX3_squeezable_0 <|
    s_istore_n (pc := 1) C dX3_squeezable_1 rfl <|
    s_iconst (pc := 2) C dX3_squeezable_2 <|
    s_istore_n (pc := 3) C dX3_squeezable_3 rfl <|
    s_cut q4
noncomputable def mg_X3_squeezable_4 (h0 : Ob) (k39 : (Int × Int) → Option Rt) (a : Int × Int) : Option Rt :=
 if xw a.2 ≥ 8 then (RI a.1 [h0])
 else (if xw (bz (mov h0 a.2)) = 0 then (k39 (a.1, a.2))
 else (if xin a.2 8 then (
 if xin a.2 11 then (
 if xw (h0 5 (xw a.2).toNat) ≥ xw (h0 2 (xw a.2).toNat) then (k39 (a.1, a.2))
 else (k39 ((xor_ a.1 (xshl 1 a.2)), a.2))) else none) else none))
set_option maxRecDepth 100000 in
set_option maxHeartbeats 4000000 in
theorem rq_X3_squeezable_4 (h0 : Ob) (k39 : XK) (a : Int × Int) : rg_X3_squeezable_4 k39 (en_X3_squeezable_4 h0 a) = mg_X3_squeezable_4 h0 (fun b => k39 (en_X3_squeezable_39 h0 b)) a := rfl
set_option maxRecDepth 100000 in
set_option maxHeartbeats 4000000 in
theorem sg_X3_squeezable_4 {X : XDyn} {r0 : Rt} (C : XO X mX3_squeezable) {k39 : XK} (q39 : XS X mX3_squeezable r0 39 k39) : XS X mX3_squeezable r0 4 (rg_X3_squeezable_4 k39) := by
 unfold rg_X3_squeezable_4
 exact s_iload_n (pc := 4) C dX3_squeezable_4 rfl <|
    s_bipush (pc := 5) C dX3_squeezable_5 (by decide) <|
    s_icmp_ge (pc := 7) C dX3_squeezable_7 (by decide) (s_iload_n (pc := 45) C dX3_squeezable_45 rfl <|
    s_ireturn (pc := 46) C rfl dX3_squeezable_46)
    (s_aload_n (pc := 10) C dX3_squeezable_10 rfl <|
    s_iload_n (pc := 11) C dX3_squeezable_11 rfl <|
    s_callV (pc := 12) C ct_X3_isMovable (n := 2) (rk := 1) (mp := [0]) ⟨rfl, by decide, rfl⟩ (ci := 3) rfl rfl (by decide) (by decide) yi_X3_isMovable (by decide) wd_412 wd_413 wd_414 wd_74 wd_415 dX3_squeezable_12 <|
    s_if_eq (pc := 15) C dX3_squeezable_15 (by decide) (s_cut q39)
    (s_aload_n (pc := 18) C dX3_squeezable_18 rfl <|
    s_get (pc := 19) C (ci := 3) (kf := 4) rfl inX3 (by decide) wd_114 dX3_squeezable_19 <|
    s_iload_n (pc := 22) C dX3_squeezable_22 rfl <|
    s_iald (pc := 23) C dX3_squeezable_23 <|
    s_aload_n (pc := 24) C dX3_squeezable_24 rfl <|
    s_get (pc := 25) C (ci := 3) (kf := 1) rfl inX3 (by decide) wd_105 dX3_squeezable_25 <|
    s_iload_n (pc := 28) C dX3_squeezable_28 rfl <|
    s_iald (pc := 29) C dX3_squeezable_29 <|
    s_icmp_ge (pc := 30) C dX3_squeezable_30 (by decide) (s_cut q39)
    (s_iload_n (pc := 33) C dX3_squeezable_33 rfl <|
    s_iconst (pc := 34) C dX3_squeezable_34 <|
    s_iload_n (pc := 35) C dX3_squeezable_35 rfl <|
    s_ishl (pc := 36) C dX3_squeezable_36 <|
    s_ior (pc := 37) C dX3_squeezable_37 <|
    s_istore_n (pc := 38) C dX3_squeezable_38 rfl <|
    s_cut q39)))
noncomputable def mg_X3_squeezable_39 (h0 : Ob) (k4 : (Int × Int) → Option Rt) (a : Int × Int) : Option Rt :=
 k4 (a.1, (a.2 + 1))
set_option maxRecDepth 100000 in
set_option maxHeartbeats 4000000 in
theorem rq_X3_squeezable_39 (h0 : Ob) (k4 : XK) (a : Int × Int) : rg_X3_squeezable_39 k4 (en_X3_squeezable_39 h0 a) = mg_X3_squeezable_39 h0 (fun b => k4 (en_X3_squeezable_4 h0 b)) a := rfl
set_option maxRecDepth 100000 in
set_option maxHeartbeats 4000000 in
theorem sg_X3_squeezable_39 {X : XDyn} {r0 : Rt} (C : XO X mX3_squeezable) {k4 : XK} (q4 : XS X mX3_squeezable r0 4 k4) : XS X mX3_squeezable r0 39 (rg_X3_squeezable_39 k4) := by
 unfold rg_X3_squeezable_39
 exact s_iinc (pc := 39) C dX3_squeezable_39 <|
    s_goto (pc := 42) C dX3_squeezable_42 (by decide) <|
    s_cut q4
noncomputable def rw_X3_squeezable_39 (f : Nat) (k4 : XK) : XK := rg_X3_squeezable_39 k4
noncomputable def md_X3_squeezable_39 (h0 : Ob) (f : Nat) (k4 : (Int × Int) → Option Rt) : Int × Int → Option Rt := mg_X3_squeezable_39 h0 k4
theorem eq_X3_squeezable_39 (h0 : Ob) (f : Nat) (k4 : XK) (a : Int × Int) : rw_X3_squeezable_39 f k4 (en_X3_squeezable_39 h0 a) = md_X3_squeezable_39 h0 f (fun b => k4 (en_X3_squeezable_4 h0 b)) a :=
 (rq_X3_squeezable_39 h0 k4 a).trans (congrFun (congr (rfl : mg_X3_squeezable_39 h0 = mg_X3_squeezable_39 h0) rfl) a)
theorem sd_X3_squeezable_39 (f : Nat) {X : XDyn} {r0 : Rt} (C : XO X mX3_squeezable) {k4 : XK} (q4 : XS X mX3_squeezable r0 4 k4) : XS X mX3_squeezable r0 39 (rw_X3_squeezable_39 f k4) := sg_X3_squeezable_39 C q4
noncomputable def rw_X3_squeezable_4 (f : Nat) : XK := tlp (fun k4 => rg_X3_squeezable_4 (rw_X3_squeezable_39 f k4)) f
noncomputable def lb_X3_squeezable_4 (h0 : Ob) (f : Nat) : ((Int × Int) → Option Rt) → Int × Int → Option Rt := fun k4 => mg_X3_squeezable_4 h0 (md_X3_squeezable_39 h0 f k4)
noncomputable def md_X3_squeezable_4 (h0 : Ob) (f : Nat) : Int × Int → Option Rt := tlp (lb_X3_squeezable_4 h0 f) f
theorem eq_X3_squeezable_4 (h0 : Ob) (f : Nat) (a : Int × Int) : rw_X3_squeezable_4 f (en_X3_squeezable_4 h0 a) = md_X3_squeezable_4 h0 f a :=
 tlp_enc (en_X3_squeezable_4 h0) (fun k4 a => (rq_X3_squeezable_4 h0 (rw_X3_squeezable_39 f k4) a).trans (congrFun (congr (rfl : mg_X3_squeezable_4 h0 = mg_X3_squeezable_4 h0) (funext (eq_X3_squeezable_39 h0 f k4))) a)) f a
theorem sd_X3_squeezable_4 (f : Nat) {X : XDyn} {r0 : Rt} (C : XO X mX3_squeezable) : XS X mX3_squeezable r0 4 (rw_X3_squeezable_4 f) := s_lp (fun k4 q4 => sg_X3_squeezable_4 C (sd_X3_squeezable_39 f C q4)) f
noncomputable def rw_X3_squeezable_0 (f : Nat) : XK := rg_X3_squeezable_0 (rw_X3_squeezable_4 f)
noncomputable def md_X3_squeezable_0 (h0 : Ob) (f : Nat) : Unit → Option Rt := mg_X3_squeezable_0 h0 (md_X3_squeezable_4 h0 f)
theorem eq_X3_squeezable_0 (h0 : Ob) (f : Nat) (a : Unit) : rw_X3_squeezable_0 f (en_X3_squeezable_0 h0 a) = md_X3_squeezable_0 h0 f a :=
 (rq_X3_squeezable_0 h0 (rw_X3_squeezable_4 f) a).trans (congrFun (congr (rfl : mg_X3_squeezable_0 h0 = mg_X3_squeezable_0 h0) (funext (eq_X3_squeezable_4 h0 f))) a)
theorem sd_X3_squeezable_0 (f : Nat) {X : XDyn} {r0 : Rt} (C : XO X mX3_squeezable) : XS X mX3_squeezable r0 0 (rw_X3_squeezable_0 f) := sg_X3_squeezable_0 C (sd_X3_squeezable_4 f C)
theorem ctr_X3_squeezable (f : Nat) : XCt yX3_squeezable mX3_squeezable (xF mX3_squeezable (rw_X3_squeezable_0 f)) := xMet (by decide +kernel) rfl (fun _ _ C => sd_X3_squeezable_0 f C)
theorem eqf_X3_squeezable (f : Nat) (h0 : Ob) : xF mX3_squeezable (rw_X3_squeezable_0 f) [.inr (.inl (0, 0))] [h0] = md_X3_squeezable_0 h0 f () := eq_X3_squeezable_0 h0 f ()
theorem yi_X3_squeezable : yX3_squeezable.cls = RX3 ∧ yX3_squeezable.cls ≠ "java/lang/invoke/MethodHandle" ∧ yX3_squeezable.cls ≠ "java/lang/invoke/VarHandle" ∧ (parseMethodDescriptor yX3_squeezable.desc).map (fun d => d.parameters.length) = some 0 := ⟨rfl, by decide +kernel, by decide +kernel, by decide +kernel⟩
theorem sp_X3_squeezable (f : Nat) (hf : 1000 ≤ f) (h0 : Ob) : md_X3_squeezable_0 h0 f () = RI (sqS h0) [h0] := by
  rw [sqS_e]
  show md_X3_squeezable_4 h0 f (0, 0) = _
  refine (loop_fold 8 _ (fun s => RI s [h0]) (fun i s => (s, (i : Int))) (fun _ _ => True) (fun k i s hi _ => ⟨?_, trivial⟩) (fun k s _ => rfl) f 0 (by omega) trivial).1
  simp only [md_X3_squeezable_0, mg_X3_squeezable_0, lb_X3_squeezable_4, mg_X3_squeezable_4, md_X3_squeezable_39, mg_X3_squeezable_39, xw_nat (show i < 2147483648 by omega), bz_0, xin_nat hi (show 8 ≤ 2147483648 by omega), xin_nat (show i < 11 by omega) (show 11 ≤ 2147483648 by omega), toNat_nat, if_true]
  rw [if_neg (by omega)]
  cases mov h0 (i : Int)
  · rfl
  · by_cases h1 : xw (h0 5 i) < xw (h0 2 i)
    · simp only [h1, decide_true, Bool.and_self, if_true]
      rw [if_neg (by simp), if_neg (by omega)]
      rfl
    · simp only [h1, decide_false, Bool.and_false]
      rw [if_neg (by simp), if_pos (by omega)]
      rfl
noncomputable def f_X3_squeezable : List AV → List Ob → Option Rt
  | [.inr (.inl (0, 0))], [h0] => some (some (.inl (sqS h0)), [h0])
  | _, _ => none
theorem ct_X3_squeezable : XCt yX3_squeezable mX3_squeezable f_X3_squeezable := (ctr_X3_squeezable xfu).of (fun as μ r h => by
  unfold f_X3_squeezable at h
  split at h
  · rw [← h]
    exact (eqf_X3_squeezable xfu _).trans (sp_X3_squeezable xfu (xfu_ge (by decide)) _)
  · cases h)
theorem dX3_worthOf_0 : decode cX3_worthOf 0 = .ok (.iload_n 1, 1) := by decide +kernel
theorem dX3_worthOf_1 : decode cX3_worthOf 1 = .ok (.invokestatic 82, 3) := by decide +kernel
theorem dX3_worthOf_4 : decode cX3_worthOf 4 = .ok (.ifCond .ne 5, 3) := by decide +kernel
theorem dX3_worthOf_7 : decode cX3_worthOf 7 = .ok (.iconst 0, 1) := by decide +kernel
theorem dX3_worthOf_8 : decode cX3_worthOf 8 = .ok (.ireturn, 1) := by decide +kernel
theorem dX3_worthOf_9 : decode cX3_worthOf 9 = .ok (.aload_n 0, 1) := by decide +kernel
theorem dX3_worthOf_10 : decode cX3_worthOf 10 = .ok (.getfield 49, 3) := by decide +kernel
theorem dX3_worthOf_13 : decode cX3_worthOf 13 = .ok (.tableswitch 77 0 3 #[31, 38, 45, 66], 31) := by decide +kernel
theorem dX3_worthOf_44 : decode cX3_worthOf 44 = .ok (.aload_n 0, 1) := by decide +kernel
theorem dX3_worthOf_45 : decode cX3_worthOf 45 = .ok (.getfield 30, 3) := by decide +kernel
theorem dX3_worthOf_48 : decode cX3_worthOf 48 = .ok (.iload_n 1, 1) := by decide +kernel
theorem dX3_worthOf_49 : decode cX3_worthOf 49 = .ok (.iaload, 1) := by decide +kernel
theorem dX3_worthOf_50 : decode cX3_worthOf 50 = .ok (.ireturn, 1) := by decide +kernel
theorem dX3_worthOf_51 : decode cX3_worthOf 51 = .ok (.aload_n 0, 1) := by decide +kernel
theorem dX3_worthOf_52 : decode cX3_worthOf 52 = .ok (.getfield 27, 3) := by decide +kernel
theorem dX3_worthOf_55 : decode cX3_worthOf 55 = .ok (.iload_n 1, 1) := by decide +kernel
theorem dX3_worthOf_56 : decode cX3_worthOf 56 = .ok (.iaload, 1) := by decide +kernel
theorem dX3_worthOf_57 : decode cX3_worthOf 57 = .ok (.ireturn, 1) := by decide +kernel
theorem dX3_worthOf_58 : decode cX3_worthOf 58 = .ok (.bipush 100, 2) := by decide +kernel
theorem dX3_worthOf_60 : decode cX3_worthOf 60 = .ok (.aload_n 0, 1) := by decide +kernel
theorem dX3_worthOf_61 : decode cX3_worthOf 61 = .ok (.getfield 27, 3) := by decide +kernel
theorem dX3_worthOf_64 : decode cX3_worthOf 64 = .ok (.iload_n 1, 1) := by decide +kernel
theorem dX3_worthOf_65 : decode cX3_worthOf 65 = .ok (.iaload, 1) := by decide +kernel
theorem dX3_worthOf_66 : decode cX3_worthOf 66 = .ok (.imul, 1) := by decide +kernel
theorem dX3_worthOf_67 : decode cX3_worthOf 67 = .ok (.iconst 1, 1) := by decide +kernel
theorem dX3_worthOf_68 : decode cX3_worthOf 68 = .ok (.aload_n 0, 1) := by decide +kernel
theorem dX3_worthOf_69 : decode cX3_worthOf 69 = .ok (.getfield 15, 3) := by decide +kernel
theorem dX3_worthOf_72 : decode cX3_worthOf 72 = .ok (.iload_n 1, 1) := by decide +kernel
theorem dX3_worthOf_73 : decode cX3_worthOf 73 = .ok (.iaload, 1) := by decide +kernel
theorem dX3_worthOf_74 : decode cX3_worthOf 74 = .ok (.invokestatic 85, 3) := by decide +kernel
theorem dX3_worthOf_77 : decode cX3_worthOf 77 = .ok (.idiv, 1) := by decide +kernel
theorem dX3_worthOf_78 : decode cX3_worthOf 78 = .ok (.ireturn, 1) := by decide +kernel
theorem dX3_worthOf_79 : decode cX3_worthOf 79 = .ok (.sipush 1000, 3) := by decide +kernel
theorem dX3_worthOf_82 : decode cX3_worthOf 82 = .ok (.aload_n 0, 1) := by decide +kernel
theorem dX3_worthOf_83 : decode cX3_worthOf 83 = .ok (.getfield 15, 3) := by decide +kernel
theorem dX3_worthOf_86 : decode cX3_worthOf 86 = .ok (.iload_n 1, 1) := by decide +kernel
theorem dX3_worthOf_87 : decode cX3_worthOf 87 = .ok (.iaload, 1) := by decide +kernel
theorem dX3_worthOf_88 : decode cX3_worthOf 88 = .ok (.isub, 1) := by decide +kernel
theorem dX3_worthOf_89 : decode cX3_worthOf 89 = .ok (.ireturn, 1) := by decide +kernel
theorem dX3_worthOf_90 : decode cX3_worthOf 90 = .ok (.aload_n 0, 1) := by decide +kernel
theorem dX3_worthOf_91 : decode cX3_worthOf 91 = .ok (.getfield 30, 3) := by decide +kernel
theorem dX3_worthOf_94 : decode cX3_worthOf 94 = .ok (.iload_n 1, 1) := by decide +kernel
theorem dX3_worthOf_95 : decode cX3_worthOf 95 = .ok (.iaload, 1) := by decide +kernel
theorem dX3_worthOf_96 : decode cX3_worthOf 96 = .ok (.iconst 4, 1) := by decide +kernel
theorem dX3_worthOf_97 : decode cX3_worthOf 97 = .ok (.aload_n 0, 1) := by decide +kernel
theorem dX3_worthOf_98 : decode cX3_worthOf 98 = .ok (.getfield 27, 3) := by decide +kernel
theorem dX3_worthOf_101 : decode cX3_worthOf 101 = .ok (.iload_n 1, 1) := by decide +kernel
theorem dX3_worthOf_102 : decode cX3_worthOf 102 = .ok (.iaload, 1) := by decide +kernel
theorem dX3_worthOf_103 : decode cX3_worthOf 103 = .ok (.imul, 1) := by decide +kernel
theorem dX3_worthOf_104 : decode cX3_worthOf 104 = .ok (.iadd, 1) := by decide +kernel
theorem dX3_worthOf_105 : decode cX3_worthOf 105 = .ok (.ireturn, 1) := by decide +kernel
abbrev mX3_worthOf : XM := (cX3_worthOf, 2, RX3, (some .int), shw_3, 1)
noncomputable def rg_X3_worthOf_0 : XK :=
 o_iload 1 <|
 o_callS 1 1 [] f_X7_isHandle <|
 o_if_ne (o_aload 0 <|
 o_get shw_3 3 12 <|
 o_sw [(0, o_aload 0 <|
 o_get shw_3 3 6 <|
 o_iload 1 <|
 o_iald shw_3 <|
 o_ireturn),
 (1, o_aload 0 <|
 o_get shw_3 3 5 <|
 o_iload 1 <|
 o_iald shw_3 <|
 o_ireturn),
 (2, o_iconst 100 <|
 o_aload 0 <|
 o_get shw_3 3 5 <|
 o_iload 1 <|
 o_iald shw_3 <|
 o_imul <|
 o_iconst 1 <|
 o_aload 0 <|
 o_get shw_3 3 1 <|
 o_iload 1 <|
 o_iald shw_3 <|
 o_max <|
 o_idiv <|
 o_ireturn),
 (3, o_iconst 1000 <|
 o_aload 0 <|
 o_get shw_3 3 1 <|
 o_iload 1 <|
 o_iald shw_3 <|
 o_isub <|
 o_ireturn)]
 (o_aload 0 <|
 o_get shw_3 3 6 <|
 o_iload 1 <|
 o_iald shw_3 <|
 o_iconst 4 <|
 o_aload 0 <|
 o_get shw_3 3 5 <|
 o_iload 1 <|
 o_iald shw_3 <|
 o_imul <|
 o_iadd <|
 o_ireturn))
 (o_iconst 0 <|
 o_ireturn)
def en_X3_worthOf_0 (p1 : Int) (h0 : Ob) (a : Unit) : XSt := ([some (.inr (.inl (0, 0))), some (.inl p1)], [], [h0])
noncomputable def mg_X3_worthOf_0 (p1 : Int) (h0 : Ob) (a : Unit) : Option Rt :=
 if xw (bz (hdl p1)) = 0 then (RI 0 [h0])
 else (if xw (h0 0 12) = 0 then (if xin p1 8 then (
 RI (h0 7 (xw p1).toNat) [h0]) else none)
 else if xw (h0 0 12) = 1 then (if xin p1 8 then (
 RI (h0 6 (xw p1).toNat) [h0]) else none)
 else if xw (h0 0 12) = 2 then (if xin p1 8 then (
 if xin p1 11 then (
 if xw (xmax 1 (h0 2 (xw p1).toNat)) = 0 then none else
 RI (xdiv (100 * (h0 6 (xw p1).toNat)) (xmax 1 (h0 2 (xw p1).toNat))) [h0]) else none) else none)
 else if xw (h0 0 12) = 3 then (if xin p1 11 then (
 RI (1000 - (h0 2 (xw p1).toNat)) [h0]) else none)
 else (if xin p1 8 then (
 if xin p1 8 then (
 RI ((h0 7 (xw p1).toNat) + (4 * (h0 6 (xw p1).toNat))) [h0]) else none) else none))
set_option maxRecDepth 100000 in
set_option maxHeartbeats 4000000 in
theorem rq_X3_worthOf_0 (p1 : Int) (h0 : Ob) (a : Unit) : rg_X3_worthOf_0 (en_X3_worthOf_0 p1 h0 a) = mg_X3_worthOf_0 p1 h0 a := rfl
set_option maxRecDepth 100000 in
set_option maxHeartbeats 4000000 in
theorem sg_X3_worthOf_0 {X : XDyn} {r0 : Rt} (C : XO X mX3_worthOf) : XS X mX3_worthOf r0 0 (rg_X3_worthOf_0) := by
 unfold rg_X3_worthOf_0
 exact s_iload_n (pc := 0) C dX3_worthOf_0 rfl <|
    s_callN (pc := 1) C ct_X7_isHandle (n := 1) (rk := 1) (mp := []) ⟨rfl, by decide, rfl⟩ (by decide) (by decide) yi_X7_isHandle wd_516 wd_383 wd_73 wd_384 dX3_worthOf_1 <|
    s_if_ne (pc := 4) C dX3_worthOf_4 (by decide) (s_aload_n (pc := 9) C dX3_worthOf_9 rfl <|
    s_get (pc := 10) C (ci := 3) (kf := 12) rfl inX3 (by decide) wd_133 dX3_worthOf_10 <|
    s_tsw (pc := 13) C dX3_worthOf_13 _ (by decide) (s_aload_n (pc := 90) C dX3_worthOf_90 rfl <|
    s_get (pc := 91) C (ci := 3) (kf := 6) rfl inX3 (by decide) wd_119 dX3_worthOf_91 <|
    s_iload_n (pc := 94) C dX3_worthOf_94 rfl <|
    s_iald (pc := 95) C dX3_worthOf_95 <|
    s_iconst (pc := 96) C dX3_worthOf_96 <|
    s_aload_n (pc := 97) C dX3_worthOf_97 rfl <|
    s_get (pc := 98) C (ci := 3) (kf := 5) rfl inX3 (by decide) wd_117 dX3_worthOf_98 <|
    s_iload_n (pc := 101) C dX3_worthOf_101 rfl <|
    s_iald (pc := 102) C dX3_worthOf_102 <|
    s_imul (pc := 103) C dX3_worthOf_103 <|
    s_iadd (pc := 104) C dX3_worthOf_104 <|
    s_ireturn (pc := 105) C rfl dX3_worthOf_105) (List.forall_mem_cons.mpr ⟨⟨by decide, by decide, 31, 44, rfl, by decide, s_aload_n (pc := 44) C dX3_worthOf_44 rfl <|
    s_get (pc := 45) C (ci := 3) (kf := 6) rfl inX3 (by decide) wd_119 dX3_worthOf_45 <|
    s_iload_n (pc := 48) C dX3_worthOf_48 rfl <|
    s_iald (pc := 49) C dX3_worthOf_49 <|
    s_ireturn (pc := 50) C rfl dX3_worthOf_50⟩, (List.forall_mem_cons.mpr ⟨⟨by decide, by decide, 38, 51, rfl, by decide, s_aload_n (pc := 51) C dX3_worthOf_51 rfl <|
    s_get (pc := 52) C (ci := 3) (kf := 5) rfl inX3 (by decide) wd_117 dX3_worthOf_52 <|
    s_iload_n (pc := 55) C dX3_worthOf_55 rfl <|
    s_iald (pc := 56) C dX3_worthOf_56 <|
    s_ireturn (pc := 57) C rfl dX3_worthOf_57⟩, (List.forall_mem_cons.mpr ⟨⟨by decide, by decide, 45, 58, rfl, by decide, s_bipush (pc := 58) C dX3_worthOf_58 (by decide) <|
    s_aload_n (pc := 60) C dX3_worthOf_60 rfl <|
    s_get (pc := 61) C (ci := 3) (kf := 5) rfl inX3 (by decide) wd_117 dX3_worthOf_61 <|
    s_iload_n (pc := 64) C dX3_worthOf_64 rfl <|
    s_iald (pc := 65) C dX3_worthOf_65 <|
    s_imul (pc := 66) C dX3_worthOf_66 <|
    s_iconst (pc := 67) C dX3_worthOf_67 <|
    s_aload_n (pc := 68) C dX3_worthOf_68 rfl <|
    s_get (pc := 69) C (ci := 3) (kf := 1) rfl inX3 (by decide) wd_105 dX3_worthOf_69 <|
    s_iload_n (pc := 72) C dX3_worthOf_72 rfl <|
    s_iald (pc := 73) C dX3_worthOf_73 <|
    s_max (pc := 74) C (by decide) wd_401 wd_402 wd_82 wd_403 dX3_worthOf_74 <|
    s_idiv (pc := 77) C dX3_worthOf_77 <|
    s_ireturn (pc := 78) C rfl dX3_worthOf_78⟩, (List.forall_mem_cons.mpr ⟨⟨by decide, by decide, 66, 79, rfl, by decide, s_sipush (pc := 79) C dX3_worthOf_79 (by decide) <|
    s_aload_n (pc := 82) C dX3_worthOf_82 rfl <|
    s_get (pc := 83) C (ci := 3) (kf := 1) rfl inX3 (by decide) wd_105 dX3_worthOf_83 <|
    s_iload_n (pc := 86) C dX3_worthOf_86 rfl <|
    s_iald (pc := 87) C dX3_worthOf_87 <|
    s_isub (pc := 88) C dX3_worthOf_88 <|
    s_ireturn (pc := 89) C rfl dX3_worthOf_89⟩, (fun _ z => absurd z List.not_mem_nil)⟩)⟩)⟩)⟩) (fun v h1 h2 => by
     have hv : v = 0 ∨ v = 1 ∨ v = 2 ∨ v = 3 := by omega
     rcases hv with rfl | rfl | rfl | rfl <;> simp))
    (s_iconst (pc := 7) C dX3_worthOf_7 <|
    s_ireturn (pc := 8) C rfl dX3_worthOf_8)
noncomputable def rw_X3_worthOf_0 : XK := rg_X3_worthOf_0
noncomputable def md_X3_worthOf_0 (p1 : Int) (h0 : Ob) : Unit → Option Rt := mg_X3_worthOf_0 p1 h0
theorem eq_X3_worthOf_0 (p1 : Int) (h0 : Ob) (a : Unit) : rw_X3_worthOf_0 (en_X3_worthOf_0 p1 h0 a) = md_X3_worthOf_0 p1 h0 a :=
 rq_X3_worthOf_0 p1 h0 a
theorem sd_X3_worthOf_0 {X : XDyn} {r0 : Rt} (C : XO X mX3_worthOf) : XS X mX3_worthOf r0 0 (rw_X3_worthOf_0) := sg_X3_worthOf_0 C
theorem ctr_X3_worthOf : XCt yX3_worthOf mX3_worthOf (xF mX3_worthOf (rw_X3_worthOf_0)) := xMet (by decide +kernel) rfl (fun _ _ C => sd_X3_worthOf_0 C)
theorem eqf_X3_worthOf (p1 : Int) (h0 : Ob) : xF mX3_worthOf (rw_X3_worthOf_0) [.inr (.inl (0, 0)), .inl p1] [h0] = md_X3_worthOf_0 p1 h0 () := eq_X3_worthOf_0 p1 h0 ()
theorem yi_X3_worthOf : yX3_worthOf.cls = RX3 ∧ yX3_worthOf.cls ≠ "java/lang/invoke/MethodHandle" ∧ yX3_worthOf.cls ≠ "java/lang/invoke/VarHandle" ∧ (parseMethodDescriptor yX3_worthOf.desc).map (fun d => d.parameters.length) = some 1 := ⟨rfl, by decide +kernel, by decide +kernel, by decide +kernel⟩
theorem sp_X3_worthOf (p1 : Int) (h0 : Ob) : md_X3_worthOf_0 p1 h0 () = RI (wrt h0 p1) [h0] := by
  simp only [md_X3_worthOf_0, mg_X3_worthOf_0, bz_0]
  rw [wrt_e]
  unfold wrtI
  cases hh : hdl p1
  · rfl
  · obtain ⟨h1, h2⟩ := hdl_iff.mp hh
    have hm : ¬ xw (xmax 1 (h0 2 (xw p1).toNat)) = 0 := by
      unfold xmax
      rw [xw1]
      split
      · omega
      · rw [xw1]; omega
    rw [if_neg (by simp), if_pos rfl, xin_of (n := 8) h1 h2, xin_of (n := 11) h1 (by omega)]
    simp only [if_true, hm, if_false]
    split
    · rfl
    · split
      · rfl
      · split
        · rfl
        · split <;> rfl
noncomputable def f_X3_worthOf : List AV → List Ob → Option Rt
  | [.inr (.inl (0, 0)), .inl p1], [h0] => some (some (.inl (wrt h0 p1)), [h0])
  | _, _ => none
theorem ct_X3_worthOf : XCt yX3_worthOf mX3_worthOf f_X3_worthOf := (ctr_X3_worthOf ).of (fun as μ r h => by
  unfold f_X3_worthOf at h
  split at h
  · rw [← h]
    exact (eqf_X3_worthOf _ _).trans (sp_X3_worthOf _ _)
  · cases h)
theorem dX3_leastWorthy_0 : decode cX3_leastWorthy 0 = .ok (.iconst (-1), 1) := by decide +kernel
theorem dX3_leastWorthy_1 : decode cX3_leastWorthy 1 = .ok (.istore_n 2, 1) := by decide +kernel
theorem dX3_leastWorthy_2 : decode cX3_leastWorthy 2 = .ok (.iconst 0, 1) := by decide +kernel
theorem dX3_leastWorthy_3 : decode cX3_leastWorthy 3 = .ok (.istore_n 3, 1) := by decide +kernel
theorem dX3_leastWorthy_4 : decode cX3_leastWorthy 4 = .ok (.iload_n 3, 1) := by decide +kernel
theorem dX3_leastWorthy_5 : decode cX3_leastWorthy 5 = .ok (.bipush 8, 2) := by decide +kernel
theorem dX3_leastWorthy_7 : decode cX3_leastWorthy 7 = .ok (.if_icmp .ge 37, 3) := by decide +kernel
theorem dX3_leastWorthy_10 : decode cX3_leastWorthy 10 = .ok (.iload_n 1, 1) := by decide +kernel
theorem dX3_leastWorthy_11 : decode cX3_leastWorthy 11 = .ok (.iload_n 3, 1) := by decide +kernel
theorem dX3_leastWorthy_12 : decode cX3_leastWorthy 12 = .ok (.invokestatic 61, 3) := by decide +kernel
theorem dX3_leastWorthy_15 : decode cX3_leastWorthy 15 = .ok (.ifCond .eq 23, 3) := by decide +kernel
theorem dX3_leastWorthy_18 : decode cX3_leastWorthy 18 = .ok (.iload_n 2, 1) := by decide +kernel
theorem dX3_leastWorthy_19 : decode cX3_leastWorthy 19 = .ok (.iconst (-1), 1) := by decide +kernel
theorem dX3_leastWorthy_20 : decode cX3_leastWorthy 20 = .ok (.if_icmp .eq 16, 3) := by decide +kernel
theorem dX3_leastWorthy_23 : decode cX3_leastWorthy 23 = .ok (.aload_n 0, 1) := by decide +kernel
theorem dX3_leastWorthy_24 : decode cX3_leastWorthy 24 = .ok (.iload_n 3, 1) := by decide +kernel
theorem dX3_leastWorthy_25 : decode cX3_leastWorthy 25 = .ok (.invokevirtual 91, 3) := by decide +kernel
theorem dX3_leastWorthy_28 : decode cX3_leastWorthy 28 = .ok (.aload_n 0, 1) := by decide +kernel
theorem dX3_leastWorthy_29 : decode cX3_leastWorthy 29 = .ok (.iload_n 2, 1) := by decide +kernel
theorem dX3_leastWorthy_30 : decode cX3_leastWorthy 30 = .ok (.invokevirtual 91, 3) := by decide +kernel
theorem dX3_leastWorthy_33 : decode cX3_leastWorthy 33 = .ok (.if_icmp .ge 5, 3) := by decide +kernel
theorem dX3_leastWorthy_36 : decode cX3_leastWorthy 36 = .ok (.iload_n 3, 1) := by decide +kernel
theorem dX3_leastWorthy_37 : decode cX3_leastWorthy 37 = .ok (.istore_n 2, 1) := by decide +kernel
theorem dX3_leastWorthy_38 : decode cX3_leastWorthy 38 = .ok (.iinc 3 1, 3) := by decide +kernel
theorem dX3_leastWorthy_41 : decode cX3_leastWorthy 41 = .ok (.goto (-37), 3) := by decide +kernel
theorem dX3_leastWorthy_44 : decode cX3_leastWorthy 44 = .ok (.iload_n 2, 1) := by decide +kernel
theorem dX3_leastWorthy_45 : decode cX3_leastWorthy 45 = .ok (.ireturn, 1) := by decide +kernel
abbrev mX3_leastWorthy : XM := (cX3_leastWorthy, 4, RX3, (some .int), shw_3, 2)
noncomputable def rg_X3_leastWorthy_0 (k4 : XK) : XK :=
 o_iconst (-1) <|
 o_istore 2 <|
 o_iconst 0 <|
 o_istore 3 <|
 o_cut [] k4
def en_X3_leastWorthy_0 (p1 : Int) (h0 : Ob) (a : Unit) : XSt := ([some (.inr (.inl (0, 0))), some (.inl p1), none, none], [], [h0])
noncomputable def rg_X3_leastWorthy_4 (k38 : XK) (k36 : XK) : XK :=
 o_iload 3 <|
 o_iconst 8 <|
 o_icmp_ge (o_iload 2 <|
 o_ireturn)
 (o_iload 1 <|
 o_iload 3 <|
 o_callS 2 1 [] f_X7_isIn <|
 o_if_eq (o_cut [] k38)
 (o_iload 2 <|
 o_iconst (-1) <|
 o_icmp_eq (o_cut [2] k36)
 (o_aload 0 <|
 o_iload 3 <|
 o_callV 2 1 [0] f_X3_worthOf <|
 o_aload 0 <|
 o_iload 2 <|
 o_callV 2 1 [0] f_X3_worthOf <|
 o_icmp_ge (o_cut [] k38)
 (o_cut [2] k36))))
def en_X3_leastWorthy_4 (p1 : Int) (h0 : Ob) (a : Int × Int) : XSt := ([some (.inr (.inl (0, 0))), some (.inl p1), some (.inl a.1), some (.inl a.2)], [], [h0])
noncomputable def rg_X3_leastWorthy_36 (k38 : XK) : XK :=
 o_iload 3 <|
 o_istore 2 <|
 o_cut [] k38
def en_X3_leastWorthy_36 (p1 : Int) (h0 : Ob) (a : Int) : XSt := ([some (.inr (.inl (0, 0))), some (.inl p1), none, some (.inl a)], [], [h0])
noncomputable def rg_X3_leastWorthy_38 (k4 : XK) : XK :=
 o_iinc 3 1 <|
 o_cut [] k4
def en_X3_leastWorthy_38 (p1 : Int) (h0 : Ob) (a : Int × Int) : XSt := ([some (.inr (.inl (0, 0))), some (.inl p1), some (.inl a.1), some (.inl a.2)], [], [h0])
noncomputable def mg_X3_leastWorthy_0 (p1 : Int) (h0 : Ob) (k4 : (Int × Int) → Option Rt) (a : Unit) : Option Rt :=
 k4 ((-1), 0)
set_option maxRecDepth 100000 in
set_option maxHeartbeats 4000000 in
theorem rq_X3_leastWorthy_0 (p1 : Int) (h0 : Ob) (k4 : XK) (a : Unit) : rg_X3_leastWorthy_0 k4 (en_X3_leastWorthy_0 p1 h0 a) = mg_X3_leastWorthy_0 p1 h0 (fun b => k4 (en_X3_leastWorthy_4 p1 h0 b)) a := rfl
set_option maxRecDepth 100000 in
set_option maxHeartbeats 4000000 in
theorem sg_X3_leastWorthy_0 {X : XDyn} {r0 : Rt} (C : XO X mX3_leastWorthy) {k4 : XK} (q4 : XS X mX3_leastWorthy r0 4 k4) : XS X mX3_leastWorthy r0 0 (rg_X3_leastWorthy_0 k4) := by
 unfold rg_X3_leastWorthy_0
 exact s_iconst (pc := 0) C dX3_leastWorthy_0 <|
    s_istore_n (pc := 1) C dX3_leastWorthy_1 rfl <|
    s_iconst (pc := 2) C dX3_leastWorthy_2 <|
    s_istore_n (pc := 3) C dX3_leastWorthy_3 rfl <|
    s_cut q4
noncomputable def mg_X3_leastWorthy_4 (p1 : Int) (h0 : Ob) (k38 : (Int × Int) → Option Rt) (k36 : Int → Option Rt) (a : Int × Int) : Option Rt :=
 if xw a.2 ≥ 8 then (RI a.1 [h0])
 else (if xw (bz (inS p1 a.2)) = 0 then (k38 (a.1, a.2))
 else (if xw a.1 = (-1) then (k36 a.2)
 else (if xw (wrt h0 a.2) ≥ xw (wrt h0 a.1) then (k38 (a.1, a.2))
 else (k36 a.2))))
set_option maxRecDepth 100000 in
set_option maxHeartbeats 4000000 in
theorem rq_X3_leastWorthy_4 (p1 : Int) (h0 : Ob) (k38 : XK) (k36 : XK) (a : Int × Int) : rg_X3_leastWorthy_4 k38 k36 (en_X3_leastWorthy_4 p1 h0 a) = mg_X3_leastWorthy_4 p1 h0 (fun b => k38 (en_X3_leastWorthy_38 p1 h0 b)) (fun b => k36 (en_X3_leastWorthy_36 p1 h0 b)) a := rfl
set_option maxRecDepth 100000 in
set_option maxHeartbeats 4000000 in
theorem sg_X3_leastWorthy_4 {X : XDyn} {r0 : Rt} (C : XO X mX3_leastWorthy) {k38 : XK} (q38 : XS X mX3_leastWorthy r0 38 k38) {k36 : XK} (q36 : XS X mX3_leastWorthy r0 36 k36) : XS X mX3_leastWorthy r0 4 (rg_X3_leastWorthy_4 k38 k36) := by
 unfold rg_X3_leastWorthy_4
 exact s_iload_n (pc := 4) C dX3_leastWorthy_4 rfl <|
    s_bipush (pc := 5) C dX3_leastWorthy_5 (by decide) <|
    s_icmp_ge (pc := 7) C dX3_leastWorthy_7 (by decide) (s_iload_n (pc := 44) C dX3_leastWorthy_44 rfl <|
    s_ireturn (pc := 45) C rfl dX3_leastWorthy_45)
    (s_iload_n (pc := 10) C dX3_leastWorthy_10 rfl <|
    s_iload_n (pc := 11) C dX3_leastWorthy_11 rfl <|
    s_callN (pc := 12) C ct_X7_isIn (n := 2) (rk := 1) (mp := []) ⟨rfl, by decide, rfl⟩ (by decide) (by decide) yi_X7_isIn wd_354 wd_355 wd_73 wd_356 dX3_leastWorthy_12 <|
    s_if_eq (pc := 15) C dX3_leastWorthy_15 (by decide) (s_cut q38)
    (s_iload_n (pc := 18) C dX3_leastWorthy_18 rfl <|
    s_iconst (pc := 19) C dX3_leastWorthy_19 <|
    s_icmp_eq (pc := 20) C dX3_leastWorthy_20 (by decide) (s_cut q36)
    (s_aload_n (pc := 23) C dX3_leastWorthy_23 rfl <|
    s_iload_n (pc := 24) C dX3_leastWorthy_24 rfl <|
    s_callV (pc := 25) C ct_X3_worthOf (n := 2) (rk := 1) (mp := [0]) ⟨rfl, by decide, rfl⟩ (ci := 3) rfl rfl (by decide) (by decide) yi_X3_worthOf (by decide) wd_512 wd_513 wd_514 wd_74 wd_515 dX3_leastWorthy_25 <|
    s_aload_n (pc := 28) C dX3_leastWorthy_28 rfl <|
    s_iload_n (pc := 29) C dX3_leastWorthy_29 rfl <|
    s_callV (pc := 30) C ct_X3_worthOf (n := 2) (rk := 1) (mp := [0]) ⟨rfl, by decide, rfl⟩ (ci := 3) rfl rfl (by decide) (by decide) yi_X3_worthOf (by decide) wd_512 wd_513 wd_514 wd_74 wd_515 dX3_leastWorthy_30 <|
    s_icmp_ge (pc := 33) C dX3_leastWorthy_33 (by decide) (s_cut q38)
    (s_cut q36))))
noncomputable def mg_X3_leastWorthy_36 (p1 : Int) (h0 : Ob) (k38 : (Int × Int) → Option Rt) (a : Int) : Option Rt :=
 k38 (a, a)
set_option maxRecDepth 100000 in
set_option maxHeartbeats 4000000 in
theorem rq_X3_leastWorthy_36 (p1 : Int) (h0 : Ob) (k38 : XK) (a : Int) : rg_X3_leastWorthy_36 k38 (en_X3_leastWorthy_36 p1 h0 a) = mg_X3_leastWorthy_36 p1 h0 (fun b => k38 (en_X3_leastWorthy_38 p1 h0 b)) a := rfl
set_option maxRecDepth 100000 in
set_option maxHeartbeats 4000000 in
theorem sg_X3_leastWorthy_36 {X : XDyn} {r0 : Rt} (C : XO X mX3_leastWorthy) {k38 : XK} (q38 : XS X mX3_leastWorthy r0 38 k38) : XS X mX3_leastWorthy r0 36 (rg_X3_leastWorthy_36 k38) := by
 unfold rg_X3_leastWorthy_36
 exact s_iload_n (pc := 36) C dX3_leastWorthy_36 rfl <|
    s_istore_n (pc := 37) C dX3_leastWorthy_37 rfl <|
    s_cut q38
noncomputable def mg_X3_leastWorthy_38 (p1 : Int) (h0 : Ob) (k4 : (Int × Int) → Option Rt) (a : Int × Int) : Option Rt :=
 k4 (a.1, (a.2 + 1))
set_option maxRecDepth 100000 in
set_option maxHeartbeats 4000000 in
theorem rq_X3_leastWorthy_38 (p1 : Int) (h0 : Ob) (k4 : XK) (a : Int × Int) : rg_X3_leastWorthy_38 k4 (en_X3_leastWorthy_38 p1 h0 a) = mg_X3_leastWorthy_38 p1 h0 (fun b => k4 (en_X3_leastWorthy_4 p1 h0 b)) a := rfl
set_option maxRecDepth 100000 in
set_option maxHeartbeats 4000000 in
theorem sg_X3_leastWorthy_38 {X : XDyn} {r0 : Rt} (C : XO X mX3_leastWorthy) {k4 : XK} (q4 : XS X mX3_leastWorthy r0 4 k4) : XS X mX3_leastWorthy r0 38 (rg_X3_leastWorthy_38 k4) := by
 unfold rg_X3_leastWorthy_38
 exact s_iinc (pc := 38) C dX3_leastWorthy_38 <|
    s_goto (pc := 41) C dX3_leastWorthy_41 (by decide) <|
    s_cut q4
noncomputable def rw_X3_leastWorthy_38 (f : Nat) (k4 : XK) : XK := rg_X3_leastWorthy_38 k4
noncomputable def md_X3_leastWorthy_38 (p1 : Int) (h0 : Ob) (f : Nat) (k4 : (Int × Int) → Option Rt) : Int × Int → Option Rt := mg_X3_leastWorthy_38 p1 h0 k4
theorem eq_X3_leastWorthy_38 (p1 : Int) (h0 : Ob) (f : Nat) (k4 : XK) (a : Int × Int) : rw_X3_leastWorthy_38 f k4 (en_X3_leastWorthy_38 p1 h0 a) = md_X3_leastWorthy_38 p1 h0 f (fun b => k4 (en_X3_leastWorthy_4 p1 h0 b)) a :=
 (rq_X3_leastWorthy_38 p1 h0 k4 a).trans (congrFun (congr (rfl : mg_X3_leastWorthy_38 p1 h0 = mg_X3_leastWorthy_38 p1 h0) rfl) a)
theorem sd_X3_leastWorthy_38 (f : Nat) {X : XDyn} {r0 : Rt} (C : XO X mX3_leastWorthy) {k4 : XK} (q4 : XS X mX3_leastWorthy r0 4 k4) : XS X mX3_leastWorthy r0 38 (rw_X3_leastWorthy_38 f k4) := sg_X3_leastWorthy_38 C q4
noncomputable def rw_X3_leastWorthy_36 (f : Nat) (k4 : XK) : XK := rg_X3_leastWorthy_36 (rw_X3_leastWorthy_38 f k4)
noncomputable def md_X3_leastWorthy_36 (p1 : Int) (h0 : Ob) (f : Nat) (k4 : (Int × Int) → Option Rt) : Int → Option Rt := mg_X3_leastWorthy_36 p1 h0 (md_X3_leastWorthy_38 p1 h0 f k4)
theorem eq_X3_leastWorthy_36 (p1 : Int) (h0 : Ob) (f : Nat) (k4 : XK) (a : Int) : rw_X3_leastWorthy_36 f k4 (en_X3_leastWorthy_36 p1 h0 a) = md_X3_leastWorthy_36 p1 h0 f (fun b => k4 (en_X3_leastWorthy_4 p1 h0 b)) a :=
 (rq_X3_leastWorthy_36 p1 h0 (rw_X3_leastWorthy_38 f k4) a).trans (congrFun (congr (rfl : mg_X3_leastWorthy_36 p1 h0 = mg_X3_leastWorthy_36 p1 h0) (funext (eq_X3_leastWorthy_38 p1 h0 f k4))) a)
theorem sd_X3_leastWorthy_36 (f : Nat) {X : XDyn} {r0 : Rt} (C : XO X mX3_leastWorthy) {k4 : XK} (q4 : XS X mX3_leastWorthy r0 4 k4) : XS X mX3_leastWorthy r0 36 (rw_X3_leastWorthy_36 f k4) := sg_X3_leastWorthy_36 C (sd_X3_leastWorthy_38 f C q4)
noncomputable def rw_X3_leastWorthy_4 (f : Nat) : XK := tlp (fun k4 => rg_X3_leastWorthy_4 (rw_X3_leastWorthy_38 f k4) (rw_X3_leastWorthy_36 f k4)) f
noncomputable def lb_X3_leastWorthy_4 (p1 : Int) (h0 : Ob) (f : Nat) : ((Int × Int) → Option Rt) → Int × Int → Option Rt := fun k4 => mg_X3_leastWorthy_4 p1 h0 (md_X3_leastWorthy_38 p1 h0 f k4) (md_X3_leastWorthy_36 p1 h0 f k4)
noncomputable def md_X3_leastWorthy_4 (p1 : Int) (h0 : Ob) (f : Nat) : Int × Int → Option Rt := tlp (lb_X3_leastWorthy_4 p1 h0 f) f
theorem eq_X3_leastWorthy_4 (p1 : Int) (h0 : Ob) (f : Nat) (a : Int × Int) : rw_X3_leastWorthy_4 f (en_X3_leastWorthy_4 p1 h0 a) = md_X3_leastWorthy_4 p1 h0 f a :=
 tlp_enc (en_X3_leastWorthy_4 p1 h0) (fun k4 a => (rq_X3_leastWorthy_4 p1 h0 (rw_X3_leastWorthy_38 f k4) (rw_X3_leastWorthy_36 f k4) a).trans (congrFun (congr (congr (rfl : mg_X3_leastWorthy_4 p1 h0 = mg_X3_leastWorthy_4 p1 h0) (funext (eq_X3_leastWorthy_38 p1 h0 f k4))) (funext (eq_X3_leastWorthy_36 p1 h0 f k4))) a)) f a
theorem sd_X3_leastWorthy_4 (f : Nat) {X : XDyn} {r0 : Rt} (C : XO X mX3_leastWorthy) : XS X mX3_leastWorthy r0 4 (rw_X3_leastWorthy_4 f) := s_lp (fun k4 q4 => sg_X3_leastWorthy_4 C (sd_X3_leastWorthy_38 f C q4) (sd_X3_leastWorthy_36 f C q4)) f
noncomputable def rw_X3_leastWorthy_0 (f : Nat) : XK := rg_X3_leastWorthy_0 (rw_X3_leastWorthy_4 f)
noncomputable def md_X3_leastWorthy_0 (p1 : Int) (h0 : Ob) (f : Nat) : Unit → Option Rt := mg_X3_leastWorthy_0 p1 h0 (md_X3_leastWorthy_4 p1 h0 f)
theorem eq_X3_leastWorthy_0 (p1 : Int) (h0 : Ob) (f : Nat) (a : Unit) : rw_X3_leastWorthy_0 f (en_X3_leastWorthy_0 p1 h0 a) = md_X3_leastWorthy_0 p1 h0 f a :=
 (rq_X3_leastWorthy_0 p1 h0 (rw_X3_leastWorthy_4 f) a).trans (congrFun (congr (rfl : mg_X3_leastWorthy_0 p1 h0 = mg_X3_leastWorthy_0 p1 h0) (funext (eq_X3_leastWorthy_4 p1 h0 f))) a)
theorem sd_X3_leastWorthy_0 (f : Nat) {X : XDyn} {r0 : Rt} (C : XO X mX3_leastWorthy) : XS X mX3_leastWorthy r0 0 (rw_X3_leastWorthy_0 f) := sg_X3_leastWorthy_0 C (sd_X3_leastWorthy_4 f C)
theorem ctr_X3_leastWorthy (f : Nat) : XCt yX3_leastWorthy mX3_leastWorthy (xF mX3_leastWorthy (rw_X3_leastWorthy_0 f)) := xMet (by decide +kernel) rfl (fun _ _ C => sd_X3_leastWorthy_0 f C)
theorem eqf_X3_leastWorthy (f : Nat) (p1 : Int) (h0 : Ob) : xF mX3_leastWorthy (rw_X3_leastWorthy_0 f) [.inr (.inl (0, 0)), .inl p1] [h0] = md_X3_leastWorthy_0 p1 h0 f () := eq_X3_leastWorthy_0 p1 h0 f ()
theorem yi_X3_leastWorthy : yX3_leastWorthy.cls = RX3 ∧ yX3_leastWorthy.cls ≠ "java/lang/invoke/MethodHandle" ∧ yX3_leastWorthy.cls ≠ "java/lang/invoke/VarHandle" ∧ (parseMethodDescriptor yX3_leastWorthy.desc).map (fun d => d.parameters.length) = some 1 := ⟨rfl, by decide +kernel, by decide +kernel, by decide +kernel⟩
theorem sp_X3_leastWorthy (f : Nat) (hf : 1000 ≤ f) (p1 : Int) (h0 : Ob) : md_X3_leastWorthy_0 p1 h0 f () = RI (lwo h0 p1) [h0] := by
  rw [lwo_e]
  show md_X3_leastWorthy_4 p1 h0 f ((-1), 0) = _
  refine (loop_fold 8 _ (fun s => RI s [h0]) (fun i s => (s, (i : Int))) (fun _ _ => True) (fun k i s hi _ => ⟨?_, trivial⟩) (fun k s _ => rfl) f (-1) (by omega) trivial).1
  simp only [md_X3_leastWorthy_0, mg_X3_leastWorthy_0, lb_X3_leastWorthy_4, mg_X3_leastWorthy_4, md_X3_leastWorthy_36, mg_X3_leastWorthy_36, md_X3_leastWorthy_38, mg_X3_leastWorthy_38, xw_nat (show i < 2147483648 by omega), bz_0]
  rw [if_neg (by omega)]
  cases inS p1 (i : Int)
  · rfl
  · by_cases h1 : xw s = -1
    · simp only [h1, decide_true, Bool.true_or, Bool.and_self, if_true]
      rfl
    · by_cases h2 : xw (wrt h0 (i : Int)) < xw (wrt h0 s)
      · simp only [h1, h2, decide_true, decide_false, Bool.false_or, Bool.and_self, if_true, if_false]
        rw [if_neg (by simp), if_neg (by omega)]
        rfl
      · simp only [h1, h2, decide_false, Bool.false_or, Bool.and_false, if_false]
        rw [if_neg (by simp), if_pos (by omega)]
        rfl
noncomputable def f_X3_leastWorthy : List AV → List Ob → Option Rt
  | [.inr (.inl (0, 0)), .inl p1], [h0] => some (some (.inl (lwo h0 p1)), [h0])
  | _, _ => none
theorem ct_X3_leastWorthy : XCt yX3_leastWorthy mX3_leastWorthy f_X3_leastWorthy := (ctr_X3_leastWorthy xfu).of (fun as μ r h => by
  unfold f_X3_leastWorthy at h
  split at h
  · rw [← h]
    exact (eqf_X3_leastWorthy xfu _ _).trans (sp_X3_leastWorthy xfu (xfu_ge (by decide)) _ _)
  · cases h)
theorem dX3_cellsOf_0 : decode cX3_cellsOf 0 = .ok (.iconst 0, 1) := by decide +kernel
theorem dX3_cellsOf_1 : decode cX3_cellsOf 1 = .ok (.istore_n 2, 1) := by decide +kernel
theorem dX3_cellsOf_2 : decode cX3_cellsOf 2 = .ok (.iconst 0, 1) := by decide +kernel
theorem dX3_cellsOf_3 : decode cX3_cellsOf 3 = .ok (.istore_n 3, 1) := by decide +kernel
theorem dX3_cellsOf_4 : decode cX3_cellsOf 4 = .ok (.iload_n 3, 1) := by decide +kernel
theorem dX3_cellsOf_5 : decode cX3_cellsOf 5 = .ok (.bipush 8, 2) := by decide +kernel
theorem dX3_cellsOf_7 : decode cX3_cellsOf 7 = .ok (.if_icmp .ge 28, 3) := by decide +kernel
theorem dX3_cellsOf_10 : decode cX3_cellsOf 10 = .ok (.iload_n 1, 1) := by decide +kernel
theorem dX3_cellsOf_11 : decode cX3_cellsOf 11 = .ok (.iload_n 3, 1) := by decide +kernel
theorem dX3_cellsOf_12 : decode cX3_cellsOf 12 = .ok (.invokestatic 61, 3) := by decide +kernel
theorem dX3_cellsOf_15 : decode cX3_cellsOf 15 = .ok (.ifCond .eq 14, 3) := by decide +kernel
theorem dX3_cellsOf_18 : decode cX3_cellsOf 18 = .ok (.iload_n 2, 1) := by decide +kernel
theorem dX3_cellsOf_19 : decode cX3_cellsOf 19 = .ok (.aload_n 0, 1) := by decide +kernel
theorem dX3_cellsOf_20 : decode cX3_cellsOf 20 = .ok (.getfield 15, 3) := by decide +kernel
theorem dX3_cellsOf_23 : decode cX3_cellsOf 23 = .ok (.iload_n 3, 1) := by decide +kernel
theorem dX3_cellsOf_24 : decode cX3_cellsOf 24 = .ok (.iaload, 1) := by decide +kernel
theorem dX3_cellsOf_25 : decode cX3_cellsOf 25 = .ok (.iconst 1, 1) := by decide +kernel
theorem dX3_cellsOf_26 : decode cX3_cellsOf 26 = .ok (.iadd, 1) := by decide +kernel
theorem dX3_cellsOf_27 : decode cX3_cellsOf 27 = .ok (.iadd, 1) := by decide +kernel
theorem dX3_cellsOf_28 : decode cX3_cellsOf 28 = .ok (.istore_n 2, 1) := by decide +kernel
theorem dX3_cellsOf_29 : decode cX3_cellsOf 29 = .ok (.iinc 3 1, 3) := by decide +kernel
theorem dX3_cellsOf_32 : decode cX3_cellsOf 32 = .ok (.goto (-28), 3) := by decide +kernel
theorem dX3_cellsOf_35 : decode cX3_cellsOf 35 = .ok (.iload_n 2, 1) := by decide +kernel
theorem dX3_cellsOf_36 : decode cX3_cellsOf 36 = .ok (.ireturn, 1) := by decide +kernel
abbrev mX3_cellsOf : XM := (cX3_cellsOf, 4, RX3, (some .int), shw_3, 1)
noncomputable def rg_X3_cellsOf_0 (k4 : XK) : XK :=
 o_iconst 0 <|
 o_istore 2 <|
 o_iconst 0 <|
 o_istore 3 <|
 o_cut [] k4
def en_X3_cellsOf_0 (p1 : Int) (h0 : Ob) (a : Unit) : XSt := ([some (.inr (.inl (0, 0))), some (.inl p1), none, none], [], [h0])
noncomputable def rg_X3_cellsOf_4 (k29 : XK) : XK :=
 o_iload 3 <|
 o_iconst 8 <|
 o_icmp_ge (o_iload 2 <|
 o_ireturn)
 (o_iload 1 <|
 o_iload 3 <|
 o_callS 2 1 [] f_X7_isIn <|
 o_if_eq (o_cut [] k29)
 (o_iload 2 <|
 o_aload 0 <|
 o_get shw_3 3 1 <|
 o_iload 3 <|
 o_iald shw_3 <|
 o_iconst 1 <|
 o_iadd <|
 o_iadd <|
 o_istore 2 <|
 o_cut [] k29))
def en_X3_cellsOf_4 (p1 : Int) (h0 : Ob) (a : Int × Int) : XSt := ([some (.inr (.inl (0, 0))), some (.inl p1), some (.inl a.1), some (.inl a.2)], [], [h0])
noncomputable def rg_X3_cellsOf_29 (k4 : XK) : XK :=
 o_iinc 3 1 <|
 o_cut [] k4
def en_X3_cellsOf_29 (p1 : Int) (h0 : Ob) (a : Int × Int) : XSt := ([some (.inr (.inl (0, 0))), some (.inl p1), some (.inl a.1), some (.inl a.2)], [], [h0])
noncomputable def mg_X3_cellsOf_0 (p1 : Int) (h0 : Ob) (k4 : (Int × Int) → Option Rt) (a : Unit) : Option Rt :=
 k4 (0, 0)
set_option maxRecDepth 100000 in
set_option maxHeartbeats 4000000 in
theorem rq_X3_cellsOf_0 (p1 : Int) (h0 : Ob) (k4 : XK) (a : Unit) : rg_X3_cellsOf_0 k4 (en_X3_cellsOf_0 p1 h0 a) = mg_X3_cellsOf_0 p1 h0 (fun b => k4 (en_X3_cellsOf_4 p1 h0 b)) a := rfl
set_option maxRecDepth 100000 in
set_option maxHeartbeats 4000000 in
theorem sg_X3_cellsOf_0 {X : XDyn} {r0 : Rt} (C : XO X mX3_cellsOf) {k4 : XK} (q4 : XS X mX3_cellsOf r0 4 k4) : XS X mX3_cellsOf r0 0 (rg_X3_cellsOf_0 k4) := by
 unfold rg_X3_cellsOf_0
 exact s_iconst (pc := 0) C dX3_cellsOf_0 <|
    s_istore_n (pc := 1) C dX3_cellsOf_1 rfl <|
    s_iconst (pc := 2) C dX3_cellsOf_2 <|
    s_istore_n (pc := 3) C dX3_cellsOf_3 rfl <|
    s_cut q4
noncomputable def mg_X3_cellsOf_4 (p1 : Int) (h0 : Ob) (k29 : (Int × Int) → Option Rt) (a : Int × Int) : Option Rt :=
 if xw a.2 ≥ 8 then (RI a.1 [h0])
 else (if xw (bz (inS p1 a.2)) = 0 then (k29 (a.1, a.2))
 else (if xin a.2 11 then (
 k29 ((a.1 + ((h0 2 (xw a.2).toNat) + 1)), a.2)) else none))
set_option maxRecDepth 100000 in
set_option maxHeartbeats 4000000 in
theorem rq_X3_cellsOf_4 (p1 : Int) (h0 : Ob) (k29 : XK) (a : Int × Int) : rg_X3_cellsOf_4 k29 (en_X3_cellsOf_4 p1 h0 a) = mg_X3_cellsOf_4 p1 h0 (fun b => k29 (en_X3_cellsOf_29 p1 h0 b)) a := rfl
set_option maxRecDepth 100000 in
set_option maxHeartbeats 4000000 in
theorem sg_X3_cellsOf_4 {X : XDyn} {r0 : Rt} (C : XO X mX3_cellsOf) {k29 : XK} (q29 : XS X mX3_cellsOf r0 29 k29) : XS X mX3_cellsOf r0 4 (rg_X3_cellsOf_4 k29) := by
 unfold rg_X3_cellsOf_4
 exact s_iload_n (pc := 4) C dX3_cellsOf_4 rfl <|
    s_bipush (pc := 5) C dX3_cellsOf_5 (by decide) <|
    s_icmp_ge (pc := 7) C dX3_cellsOf_7 (by decide) (s_iload_n (pc := 35) C dX3_cellsOf_35 rfl <|
    s_ireturn (pc := 36) C rfl dX3_cellsOf_36)
    (s_iload_n (pc := 10) C dX3_cellsOf_10 rfl <|
    s_iload_n (pc := 11) C dX3_cellsOf_11 rfl <|
    s_callN (pc := 12) C ct_X7_isIn (n := 2) (rk := 1) (mp := []) ⟨rfl, by decide, rfl⟩ (by decide) (by decide) yi_X7_isIn wd_354 wd_355 wd_73 wd_356 dX3_cellsOf_12 <|
    s_if_eq (pc := 15) C dX3_cellsOf_15 (by decide) (s_cut q29)
    (s_iload_n (pc := 18) C dX3_cellsOf_18 rfl <|
    s_aload_n (pc := 19) C dX3_cellsOf_19 rfl <|
    s_get (pc := 20) C (ci := 3) (kf := 1) rfl inX3 (by decide) wd_105 dX3_cellsOf_20 <|
    s_iload_n (pc := 23) C dX3_cellsOf_23 rfl <|
    s_iald (pc := 24) C dX3_cellsOf_24 <|
    s_iconst (pc := 25) C dX3_cellsOf_25 <|
    s_iadd (pc := 26) C dX3_cellsOf_26 <|
    s_iadd (pc := 27) C dX3_cellsOf_27 <|
    s_istore_n (pc := 28) C dX3_cellsOf_28 rfl <|
    s_cut q29))
noncomputable def mg_X3_cellsOf_29 (p1 : Int) (h0 : Ob) (k4 : (Int × Int) → Option Rt) (a : Int × Int) : Option Rt :=
 k4 (a.1, (a.2 + 1))
set_option maxRecDepth 100000 in
set_option maxHeartbeats 4000000 in
theorem rq_X3_cellsOf_29 (p1 : Int) (h0 : Ob) (k4 : XK) (a : Int × Int) : rg_X3_cellsOf_29 k4 (en_X3_cellsOf_29 p1 h0 a) = mg_X3_cellsOf_29 p1 h0 (fun b => k4 (en_X3_cellsOf_4 p1 h0 b)) a := rfl
set_option maxRecDepth 100000 in
set_option maxHeartbeats 4000000 in
theorem sg_X3_cellsOf_29 {X : XDyn} {r0 : Rt} (C : XO X mX3_cellsOf) {k4 : XK} (q4 : XS X mX3_cellsOf r0 4 k4) : XS X mX3_cellsOf r0 29 (rg_X3_cellsOf_29 k4) := by
 unfold rg_X3_cellsOf_29
 exact s_iinc (pc := 29) C dX3_cellsOf_29 <|
    s_goto (pc := 32) C dX3_cellsOf_32 (by decide) <|
    s_cut q4
noncomputable def rw_X3_cellsOf_29 (f : Nat) (k4 : XK) : XK := rg_X3_cellsOf_29 k4
noncomputable def md_X3_cellsOf_29 (p1 : Int) (h0 : Ob) (f : Nat) (k4 : (Int × Int) → Option Rt) : Int × Int → Option Rt := mg_X3_cellsOf_29 p1 h0 k4
theorem eq_X3_cellsOf_29 (p1 : Int) (h0 : Ob) (f : Nat) (k4 : XK) (a : Int × Int) : rw_X3_cellsOf_29 f k4 (en_X3_cellsOf_29 p1 h0 a) = md_X3_cellsOf_29 p1 h0 f (fun b => k4 (en_X3_cellsOf_4 p1 h0 b)) a :=
 (rq_X3_cellsOf_29 p1 h0 k4 a).trans (congrFun (congr (rfl : mg_X3_cellsOf_29 p1 h0 = mg_X3_cellsOf_29 p1 h0) rfl) a)
theorem sd_X3_cellsOf_29 (f : Nat) {X : XDyn} {r0 : Rt} (C : XO X mX3_cellsOf) {k4 : XK} (q4 : XS X mX3_cellsOf r0 4 k4) : XS X mX3_cellsOf r0 29 (rw_X3_cellsOf_29 f k4) := sg_X3_cellsOf_29 C q4
noncomputable def rw_X3_cellsOf_4 (f : Nat) : XK := tlp (fun k4 => rg_X3_cellsOf_4 (rw_X3_cellsOf_29 f k4)) f
noncomputable def lb_X3_cellsOf_4 (p1 : Int) (h0 : Ob) (f : Nat) : ((Int × Int) → Option Rt) → Int × Int → Option Rt := fun k4 => mg_X3_cellsOf_4 p1 h0 (md_X3_cellsOf_29 p1 h0 f k4)
noncomputable def md_X3_cellsOf_4 (p1 : Int) (h0 : Ob) (f : Nat) : Int × Int → Option Rt := tlp (lb_X3_cellsOf_4 p1 h0 f) f
theorem eq_X3_cellsOf_4 (p1 : Int) (h0 : Ob) (f : Nat) (a : Int × Int) : rw_X3_cellsOf_4 f (en_X3_cellsOf_4 p1 h0 a) = md_X3_cellsOf_4 p1 h0 f a :=
 tlp_enc (en_X3_cellsOf_4 p1 h0) (fun k4 a => (rq_X3_cellsOf_4 p1 h0 (rw_X3_cellsOf_29 f k4) a).trans (congrFun (congr (rfl : mg_X3_cellsOf_4 p1 h0 = mg_X3_cellsOf_4 p1 h0) (funext (eq_X3_cellsOf_29 p1 h0 f k4))) a)) f a
theorem sd_X3_cellsOf_4 (f : Nat) {X : XDyn} {r0 : Rt} (C : XO X mX3_cellsOf) : XS X mX3_cellsOf r0 4 (rw_X3_cellsOf_4 f) := s_lp (fun k4 q4 => sg_X3_cellsOf_4 C (sd_X3_cellsOf_29 f C q4)) f
noncomputable def rw_X3_cellsOf_0 (f : Nat) : XK := rg_X3_cellsOf_0 (rw_X3_cellsOf_4 f)
noncomputable def md_X3_cellsOf_0 (p1 : Int) (h0 : Ob) (f : Nat) : Unit → Option Rt := mg_X3_cellsOf_0 p1 h0 (md_X3_cellsOf_4 p1 h0 f)
theorem eq_X3_cellsOf_0 (p1 : Int) (h0 : Ob) (f : Nat) (a : Unit) : rw_X3_cellsOf_0 f (en_X3_cellsOf_0 p1 h0 a) = md_X3_cellsOf_0 p1 h0 f a :=
 (rq_X3_cellsOf_0 p1 h0 (rw_X3_cellsOf_4 f) a).trans (congrFun (congr (rfl : mg_X3_cellsOf_0 p1 h0 = mg_X3_cellsOf_0 p1 h0) (funext (eq_X3_cellsOf_4 p1 h0 f))) a)
theorem sd_X3_cellsOf_0 (f : Nat) {X : XDyn} {r0 : Rt} (C : XO X mX3_cellsOf) : XS X mX3_cellsOf r0 0 (rw_X3_cellsOf_0 f) := sg_X3_cellsOf_0 C (sd_X3_cellsOf_4 f C)
theorem ctr_X3_cellsOf (f : Nat) : XCt yX3_cellsOf mX3_cellsOf (xF mX3_cellsOf (rw_X3_cellsOf_0 f)) := xMet (by decide +kernel) rfl (fun _ _ C => sd_X3_cellsOf_0 f C)
theorem eqf_X3_cellsOf (f : Nat) (p1 : Int) (h0 : Ob) : xF mX3_cellsOf (rw_X3_cellsOf_0 f) [.inr (.inl (0, 0)), .inl p1] [h0] = md_X3_cellsOf_0 p1 h0 f () := eq_X3_cellsOf_0 p1 h0 f ()
theorem yi_X3_cellsOf : yX3_cellsOf.cls = RX3 ∧ yX3_cellsOf.cls ≠ "java/lang/invoke/MethodHandle" ∧ yX3_cellsOf.cls ≠ "java/lang/invoke/VarHandle" ∧ (parseMethodDescriptor yX3_cellsOf.desc).map (fun d => d.parameters.length) = some 1 := ⟨rfl, by decide +kernel, by decide +kernel, by decide +kernel⟩
theorem sp_X3_cellsOf (f : Nat) (hf : 1000 ≤ f) (p1 : Int) (h0 : Ob) : md_X3_cellsOf_0 p1 h0 f () = RI (cof h0 p1) [h0] := by
  rw [cof_e]
  show md_X3_cellsOf_4 p1 h0 f (0, 0) = _
  refine (loop_fold 8 _ (fun s => RI s [h0]) (fun i s => (s, (i : Int))) (fun _ _ => True) (fun k i s hi _ => ⟨?_, trivial⟩) (fun k s _ => rfl) f 0 (by omega) trivial).1
  simp only [md_X3_cellsOf_0, mg_X3_cellsOf_0, lb_X3_cellsOf_4, mg_X3_cellsOf_4, md_X3_cellsOf_29, mg_X3_cellsOf_29, xw_nat (show i < 2147483648 by omega), bz_0, xin_nat (show i < 11 by omega) (show 11 ≤ 2147483648 by omega), toNat_nat, if_true]
  rw [if_neg (by omega)]
  cases inS p1 (i : Int) <;> rfl
noncomputable def f_X3_cellsOf : List AV → List Ob → Option Rt
  | [.inr (.inl (0, 0)), .inl p1], [h0] => some (some (.inl (cof h0 p1)), [h0])
  | _, _ => none
theorem ct_X3_cellsOf : XCt yX3_cellsOf mX3_cellsOf f_X3_cellsOf := (ctr_X3_cellsOf xfu).of (fun as μ r h => by
  unfold f_X3_cellsOf at h
  split at h
  · rw [← h]
    exact (eqf_X3_cellsOf xfu _ _).trans (sp_X3_cellsOf xfu (xfu_ge (by decide)) _ _)
  · cases h)
theorem dX3_describe_0 : decode cX3_describe 0 = .ok (.iload_n 1, 1) := by decide +kernel
theorem dX3_describe_1 : decode cX3_describe 1 = .ok (.invokestatic 82, 3) := by decide +kernel
theorem dX3_describe_4 : decode cX3_describe 4 = .ok (.ifCond .ne 4, 3) := by decide +kernel
theorem dX3_describe_7 : decode cX3_describe 7 = .ok (.return_, 1) := by decide +kernel
theorem dX3_describe_8 : decode cX3_describe 8 = .ok (.aload_n 0, 1) := by decide +kernel
theorem dX3_describe_9 : decode cX3_describe 9 = .ok (.dup, 1) := by decide +kernel
theorem dX3_describe_10 : decode cX3_describe 10 = .ok (.getfield 33, 3) := by decide +kernel
theorem dX3_describe_13 : decode cX3_describe 13 = .ok (.iconst 1, 1) := by decide +kernel
theorem dX3_describe_14 : decode cX3_describe 14 = .ok (.iload_n 1, 1) := by decide +kernel
theorem dX3_describe_15 : decode cX3_describe 15 = .ok (.ishl, 1) := by decide +kernel
theorem dX3_describe_16 : decode cX3_describe 16 = .ok (.ior, 1) := by decide +kernel
theorem dX3_describe_17 : decode cX3_describe 17 = .ok (.putfield 33, 3) := by decide +kernel
theorem dX3_describe_20 : decode cX3_describe 20 = .ok (.aload_n 0, 1) := by decide +kernel
theorem dX3_describe_21 : decode cX3_describe 21 = .ok (.dup, 1) := by decide +kernel
theorem dX3_describe_22 : decode cX3_describe 22 = .ok (.getfield 37, 3) := by decide +kernel
theorem dX3_describe_25 : decode cX3_describe 25 = .ok (.iconst 1, 1) := by decide +kernel
theorem dX3_describe_26 : decode cX3_describe 26 = .ok (.iload_n 1, 1) := by decide +kernel
theorem dX3_describe_27 : decode cX3_describe 27 = .ok (.ishl, 1) := by decide +kernel
theorem dX3_describe_28 : decode cX3_describe 28 = .ok (.iconst (-1), 1) := by decide +kernel
theorem dX3_describe_29 : decode cX3_describe 29 = .ok (.ixor, 1) := by decide +kernel
theorem dX3_describe_30 : decode cX3_describe 30 = .ok (.iand, 1) := by decide +kernel
theorem dX3_describe_31 : decode cX3_describe 31 = .ok (.putfield 37, 3) := by decide +kernel
theorem dX3_describe_34 : decode cX3_describe 34 = .ok (.aload_n 0, 1) := by decide +kernel
theorem dX3_describe_35 : decode cX3_describe 35 = .ok (.getfield 21, 3) := by decide +kernel
theorem dX3_describe_38 : decode cX3_describe 38 = .ok (.iload_n 1, 1) := by decide +kernel
theorem dX3_describe_39 : decode cX3_describe 39 = .ok (.iconst 0, 1) := by decide +kernel
theorem dX3_describe_40 : decode cX3_describe 40 = .ok (.iastore, 1) := by decide +kernel
theorem dX3_describe_41 : decode cX3_describe 41 = .ok (.aload_n 0, 1) := by decide +kernel
theorem dX3_describe_42 : decode cX3_describe 42 = .ok (.getfield 27, 3) := by decide +kernel
theorem dX3_describe_45 : decode cX3_describe 45 = .ok (.iload_n 1, 1) := by decide +kernel
theorem dX3_describe_46 : decode cX3_describe 46 = .ok (.iload_n 2, 1) := by decide +kernel
theorem dX3_describe_47 : decode cX3_describe 47 = .ok (.iastore, 1) := by decide +kernel
theorem dX3_describe_48 : decode cX3_describe 48 = .ok (.aload_n 0, 1) := by decide +kernel
theorem dX3_describe_49 : decode cX3_describe 49 = .ok (.getfield 24, 3) := by decide +kernel
theorem dX3_describe_52 : decode cX3_describe 52 = .ok (.iload_n 1, 1) := by decide +kernel
theorem dX3_describe_53 : decode cX3_describe 53 = .ok (.aload_n 0, 1) := by decide +kernel
theorem dX3_describe_54 : decode cX3_describe 54 = .ok (.getfield 15, 3) := by decide +kernel
theorem dX3_describe_57 : decode cX3_describe 57 = .ok (.iload_n 1, 1) := by decide +kernel
theorem dX3_describe_58 : decode cX3_describe 58 = .ok (.iaload, 1) := by decide +kernel
theorem dX3_describe_59 : decode cX3_describe 59 = .ok (.iastore, 1) := by decide +kernel
theorem dX3_describe_60 : decode cX3_describe 60 = .ok (.return_, 1) := by decide +kernel
abbrev mX3_describe : XM := (cX3_describe, 3, RX3, none, shw_3, 1)
noncomputable def rg_X3_describe_0 : XK :=
 o_iload 1 <|
 o_callS 1 1 [] f_X7_isHandle <|
 o_if_ne (o_aload 0 <|
 o_dup <|
 o_get shw_3 3 7 <|
 o_iconst 1 <|
 o_iload 1 <|
 o_ishl <|
 o_ior <|
 o_put shw_3 3 7 false <|
 o_aload 0 <|
 o_dup <|
 o_get shw_3 3 8 <|
 o_iconst 1 <|
 o_iload 1 <|
 o_ishl <|
 o_iconst (-1) <|
 o_ixor <|
 o_iand <|
 o_put shw_3 3 8 false <|
 o_aload 0 <|
 o_get shw_3 3 3 <|
 o_iload 1 <|
 o_iconst 0 <|
 o_iast shw_3 <|
 o_aload 0 <|
 o_get shw_3 3 5 <|
 o_iload 1 <|
 o_iload 2 <|
 o_iast shw_3 <|
 o_aload 0 <|
 o_get shw_3 3 4 <|
 o_iload 1 <|
 o_aload 0 <|
 o_get shw_3 3 1 <|
 o_iload 1 <|
 o_iald shw_3 <|
 o_iast shw_3 <|
 o_return)
 (o_return)
def en_X3_describe_0 (p1 : Int) (p2 : Int) (a : Ob) : XSt := ([some (.inr (.inl (0, 0))), some (.inl p1), some (.inl p2)], [], [a])
noncomputable def mg_X3_describe_0 (p1 : Int) (p2 : Int) (a : Ob) : Option Rt :=
 if xw (bz (hdl p1)) = 0 then (RV [a])
 else (if xin p1 8 then (
 if xin p1 8 then (
 if xin p1 11 then (
 if xin p1 8 then (
 RV [(xset (xset (xset (xset (xset a 0 7 (xor_ (a 0 7) (xshl 1 p1))) 0 8 (xand ((xset a 0 7 (xor_ (a 0 7) (xshl 1 p1))) 0 8) (xxor (xshl 1 p1) (-1)))) 4 (xw p1).toNat 0) 6 (xw p1).toNat p2) 5 (xw p1).toNat ((xset (xset (xset (xset a 0 7 (xor_ (a 0 7) (xshl 1 p1))) 0 8 (xand ((xset a 0 7 (xor_ (a 0 7) (xshl 1 p1))) 0 8) (xxor (xshl 1 p1) (-1)))) 4 (xw p1).toNat 0) 6 (xw p1).toNat p2) 2 (xw p1).toNat))]) else none) else none) else none) else none)
set_option maxRecDepth 100000 in
set_option maxHeartbeats 4000000 in
theorem rq_X3_describe_0 (p1 : Int) (p2 : Int) (a : Ob) : rg_X3_describe_0 (en_X3_describe_0 p1 p2 a) = mg_X3_describe_0 p1 p2 a := rfl
set_option maxRecDepth 100000 in
set_option maxHeartbeats 4000000 in
theorem sg_X3_describe_0 {X : XDyn} {r0 : Rt} (C : XO X mX3_describe) : XS X mX3_describe r0 0 (rg_X3_describe_0) := by
 unfold rg_X3_describe_0
 exact s_iload_n (pc := 0) C dX3_describe_0 rfl <|
    s_callN (pc := 1) C ct_X7_isHandle (n := 1) (rk := 1) (mp := []) ⟨rfl, by decide, rfl⟩ (by decide) (by decide) yi_X7_isHandle wd_516 wd_383 wd_73 wd_384 dX3_describe_1 <|
    s_if_ne (pc := 4) C dX3_describe_4 (by decide) (s_aload_n (pc := 8) C dX3_describe_8 rfl <|
    s_dup (pc := 9) C dX3_describe_9 <|
    s_get (pc := 10) C (ci := 3) (kf := 7) rfl inX3 (by decide) wd_121 dX3_describe_10 <|
    s_iconst (pc := 13) C dX3_describe_13 <|
    s_iload_n (pc := 14) C dX3_describe_14 rfl <|
    s_ishl (pc := 15) C dX3_describe_15 <|
    s_ior (pc := 16) C dX3_describe_16 <|
    s_put (pc := 17) (z := false) C (ci := 3) (kf := 7) rfl inX3 tyX3_ok nmX3 (by decide) wd_121 rfl rfl dX3_describe_17 <|
    s_aload_n (pc := 20) C dX3_describe_20 rfl <|
    s_dup (pc := 21) C dX3_describe_21 <|
    s_get (pc := 22) C (ci := 3) (kf := 8) rfl inX3 (by decide) wd_123 dX3_describe_22 <|
    s_iconst (pc := 25) C dX3_describe_25 <|
    s_iload_n (pc := 26) C dX3_describe_26 rfl <|
    s_ishl (pc := 27) C dX3_describe_27 <|
    s_iconst (pc := 28) C dX3_describe_28 <|
    s_ixor (pc := 29) C dX3_describe_29 <|
    s_iand (pc := 30) C dX3_describe_30 <|
    s_put (pc := 31) (z := false) C (ci := 3) (kf := 8) rfl inX3 tyX3_ok nmX3 (by decide) wd_123 rfl rfl dX3_describe_31 <|
    s_aload_n (pc := 34) C dX3_describe_34 rfl <|
    s_get (pc := 35) C (ci := 3) (kf := 3) rfl inX3 (by decide) wd_112 dX3_describe_35 <|
    s_iload_n (pc := 38) C dX3_describe_38 rfl <|
    s_iconst (pc := 39) C dX3_describe_39 <|
    s_iast (pc := 40) C dX3_describe_40 <|
    s_aload_n (pc := 41) C dX3_describe_41 rfl <|
    s_get (pc := 42) C (ci := 3) (kf := 5) rfl inX3 (by decide) wd_117 dX3_describe_42 <|
    s_iload_n (pc := 45) C dX3_describe_45 rfl <|
    s_iload_n (pc := 46) C dX3_describe_46 rfl <|
    s_iast (pc := 47) C dX3_describe_47 <|
    s_aload_n (pc := 48) C dX3_describe_48 rfl <|
    s_get (pc := 49) C (ci := 3) (kf := 4) rfl inX3 (by decide) wd_114 dX3_describe_49 <|
    s_iload_n (pc := 52) C dX3_describe_52 rfl <|
    s_aload_n (pc := 53) C dX3_describe_53 rfl <|
    s_get (pc := 54) C (ci := 3) (kf := 1) rfl inX3 (by decide) wd_105 dX3_describe_54 <|
    s_iload_n (pc := 57) C dX3_describe_57 rfl <|
    s_iald (pc := 58) C dX3_describe_58 <|
    s_iast (pc := 59) C dX3_describe_59 <|
    s_return (pc := 60) C rfl dX3_describe_60)
    (s_return (pc := 7) C rfl dX3_describe_7)
noncomputable def rw_X3_describe_0 : XK := rg_X3_describe_0
noncomputable def md_X3_describe_0 (p1 : Int) (p2 : Int) : Ob → Option Rt := mg_X3_describe_0 p1 p2
theorem eq_X3_describe_0 (p1 : Int) (p2 : Int) (a : Ob) : rw_X3_describe_0 (en_X3_describe_0 p1 p2 a) = md_X3_describe_0 p1 p2 a :=
 rq_X3_describe_0 p1 p2 a
theorem sd_X3_describe_0 {X : XDyn} {r0 : Rt} (C : XO X mX3_describe) : XS X mX3_describe r0 0 (rw_X3_describe_0) := sg_X3_describe_0 C
theorem ctr_X3_describe : XCt yX3_describe mX3_describe (xF mX3_describe (rw_X3_describe_0)) := xMet (by decide +kernel) rfl (fun _ _ C => sd_X3_describe_0 C)
theorem eqf_X3_describe (p1 : Int) (p2 : Int) (h0 : Ob) : xF mX3_describe (rw_X3_describe_0) [.inr (.inl (0, 0)), .inl p1, .inl p2] [h0] = md_X3_describe_0 p1 p2 h0 := eq_X3_describe_0 p1 p2 h0
theorem yi_X3_describe : yX3_describe.cls = RX3 ∧ yX3_describe.cls ≠ "java/lang/invoke/MethodHandle" ∧ yX3_describe.cls ≠ "java/lang/invoke/VarHandle" ∧ (parseMethodDescriptor yX3_describe.desc).map (fun d => d.parameters.length) = some 2 := ⟨rfl, by decide +kernel, by decide +kernel, by decide +kernel⟩
theorem sp_X3_describe (p1 p2 : Int) (h0 : Ob) : md_X3_describe_0 p1 p2 h0 = RV [descO h0 p1 p2] := by
  simp only [md_X3_describe_0, mg_X3_describe_0, bz_0]
  unfold descO
  cases hh : hdl p1
  · rfl
  · obtain ⟨h1, h2⟩ := hdl_iff.mp hh
    rw [if_neg (by simp), if_pos rfl, xin_of (n := 8) h1 h2, xin_of (n := 11) h1 (by omega)]
    simp only [if_true]
    rfl
noncomputable def f_X3_describe : List AV → List Ob → Option Rt
  | [.inr (.inl (0, 0)), .inl p1, .inl p2], [h0] => some (none, [(descO h0 p1 p2)])
  | _, _ => none
theorem ct_X3_describe : XCt yX3_describe mX3_describe f_X3_describe := (ctr_X3_describe ).of (fun as μ r h => by
  unfold f_X3_describe at h
  split at h
  · rw [← h]
    exact (eqf_X3_describe _ _ _).trans (sp_X3_describe _ _ _)
  · cases h)
theorem dX3_squeezeAll_0 : decode cX3_squeezeAll 0 = .ok (.iconst 0, 1) := by decide +kernel
theorem dX3_squeezeAll_1 : decode cX3_squeezeAll 1 = .ok (.istore_n 1, 1) := by decide +kernel
theorem dX3_squeezeAll_2 : decode cX3_squeezeAll 2 = .ok (.iload_n 1, 1) := by decide +kernel
theorem dX3_squeezeAll_3 : decode cX3_squeezeAll 3 = .ok (.bipush 8, 2) := by decide +kernel
theorem dX3_squeezeAll_5 : decode cX3_squeezeAll 5 = .ok (.if_icmp .ge 29, 3) := by decide +kernel
theorem dX3_squeezeAll_8 : decode cX3_squeezeAll 8 = .ok (.aload_n 0, 1) := by decide +kernel
theorem dX3_squeezeAll_9 : decode cX3_squeezeAll 9 = .ok (.iload_n 1, 1) := by decide +kernel
theorem dX3_squeezeAll_10 : decode cX3_squeezeAll 10 = .ok (.invokevirtual 75, 3) := by decide +kernel
theorem dX3_squeezeAll_13 : decode cX3_squeezeAll 13 = .ok (.ifCond .eq 15, 3) := by decide +kernel
theorem dX3_squeezeAll_16 : decode cX3_squeezeAll 16 = .ok (.aload_n 0, 1) := by decide +kernel
theorem dX3_squeezeAll_17 : decode cX3_squeezeAll 17 = .ok (.getfield 15, 3) := by decide +kernel
theorem dX3_squeezeAll_20 : decode cX3_squeezeAll 20 = .ok (.iload_n 1, 1) := by decide +kernel
theorem dX3_squeezeAll_21 : decode cX3_squeezeAll 21 = .ok (.aload_n 0, 1) := by decide +kernel
theorem dX3_squeezeAll_22 : decode cX3_squeezeAll 22 = .ok (.getfield 24, 3) := by decide +kernel
theorem dX3_squeezeAll_25 : decode cX3_squeezeAll 25 = .ok (.iload_n 1, 1) := by decide +kernel
theorem dX3_squeezeAll_26 : decode cX3_squeezeAll 26 = .ok (.iaload, 1) := by decide +kernel
theorem dX3_squeezeAll_27 : decode cX3_squeezeAll 27 = .ok (.iastore, 1) := by decide +kernel
theorem dX3_squeezeAll_28 : decode cX3_squeezeAll 28 = .ok (.iinc 1 1, 3) := by decide +kernel
theorem dX3_squeezeAll_31 : decode cX3_squeezeAll 31 = .ok (.goto (-29), 3) := by decide +kernel
theorem dX3_squeezeAll_34 : decode cX3_squeezeAll 34 = .ok (.return_, 1) := by decide +kernel
abbrev mX3_squeezeAll : XM := (cX3_squeezeAll, 2, RX3, none, shw_3, 1)
noncomputable def rg_X3_squeezeAll_0 (k2 : XK) : XK :=
 o_iconst 0 <|
 o_istore 1 <|
 o_cut [] k2
def en_X3_squeezeAll_0 (a : Ob) : XSt := ([some (.inr (.inl (0, 0))), none], [], [a])
noncomputable def rg_X3_squeezeAll_2 (k28 : XK) : XK :=
 o_iload 1 <|
 o_iconst 8 <|
 o_icmp_ge (o_return)
 (o_aload 0 <|
 o_iload 1 <|
 o_callV 2 1 [0] f_X3_isMovable <|
 o_if_eq (o_cut [] k28)
 (o_aload 0 <|
 o_get shw_3 3 1 <|
 o_iload 1 <|
 o_aload 0 <|
 o_get shw_3 3 4 <|
 o_iload 1 <|
 o_iald shw_3 <|
 o_iast shw_3 <|
 o_cut [] k28))
def en_X3_squeezeAll_2 (a : Int × Ob) : XSt := ([some (.inr (.inl (0, 0))), some (.inl a.1)], [], [a.2])
noncomputable def rg_X3_squeezeAll_28 (k2 : XK) : XK :=
 o_iinc 1 1 <|
 o_cut [] k2
def en_X3_squeezeAll_28 (a : Int × Ob) : XSt := ([some (.inr (.inl (0, 0))), some (.inl a.1)], [], [a.2])
noncomputable def mg_X3_squeezeAll_0 (k2 : (Int × Ob) → Option Rt) (a : Ob) : Option Rt :=
 k2 (0, a)
set_option maxRecDepth 100000 in
set_option maxHeartbeats 4000000 in
theorem rq_X3_squeezeAll_0 (k2 : XK) (a : Ob) : rg_X3_squeezeAll_0 k2 (en_X3_squeezeAll_0 a) = mg_X3_squeezeAll_0 (fun b => k2 (en_X3_squeezeAll_2 b)) a := rfl
set_option maxRecDepth 100000 in
set_option maxHeartbeats 4000000 in
theorem sg_X3_squeezeAll_0 {X : XDyn} {r0 : Rt} (C : XO X mX3_squeezeAll) {k2 : XK} (q2 : XS X mX3_squeezeAll r0 2 k2) : XS X mX3_squeezeAll r0 0 (rg_X3_squeezeAll_0 k2) := by
 unfold rg_X3_squeezeAll_0
 exact s_iconst (pc := 0) C dX3_squeezeAll_0 <|
    s_istore_n (pc := 1) C dX3_squeezeAll_1 rfl <|
    s_cut q2
noncomputable def mg_X3_squeezeAll_2 (k28 : (Int × Ob) → Option Rt) (a : Int × Ob) : Option Rt :=
 if xw a.1 ≥ 8 then (RV [a.2])
 else (if xw (bz (mov a.2 a.1)) = 0 then (k28 (a.1, a.2))
 else (if xin a.1 8 then (
 if xin a.1 11 then (
 k28 (a.1, (xset a.2 2 (xw a.1).toNat (a.2 5 (xw a.1).toNat)))) else none) else none))
set_option maxRecDepth 100000 in
set_option maxHeartbeats 4000000 in
theorem rq_X3_squeezeAll_2 (k28 : XK) (a : Int × Ob) : rg_X3_squeezeAll_2 k28 (en_X3_squeezeAll_2 a) = mg_X3_squeezeAll_2 (fun b => k28 (en_X3_squeezeAll_28 b)) a := rfl
set_option maxRecDepth 100000 in
set_option maxHeartbeats 4000000 in
theorem sg_X3_squeezeAll_2 {X : XDyn} {r0 : Rt} (C : XO X mX3_squeezeAll) {k28 : XK} (q28 : XS X mX3_squeezeAll r0 28 k28) : XS X mX3_squeezeAll r0 2 (rg_X3_squeezeAll_2 k28) := by
 unfold rg_X3_squeezeAll_2
 exact s_iload_n (pc := 2) C dX3_squeezeAll_2 rfl <|
    s_bipush (pc := 3) C dX3_squeezeAll_3 (by decide) <|
    s_icmp_ge (pc := 5) C dX3_squeezeAll_5 (by decide) (s_return (pc := 34) C rfl dX3_squeezeAll_34)
    (s_aload_n (pc := 8) C dX3_squeezeAll_8 rfl <|
    s_iload_n (pc := 9) C dX3_squeezeAll_9 rfl <|
    s_callV (pc := 10) C ct_X3_isMovable (n := 2) (rk := 1) (mp := [0]) ⟨rfl, by decide, rfl⟩ (ci := 3) rfl rfl (by decide) (by decide) yi_X3_isMovable (by decide) wd_412 wd_413 wd_414 wd_74 wd_415 dX3_squeezeAll_10 <|
    s_if_eq (pc := 13) C dX3_squeezeAll_13 (by decide) (s_cut q28)
    (s_aload_n (pc := 16) C dX3_squeezeAll_16 rfl <|
    s_get (pc := 17) C (ci := 3) (kf := 1) rfl inX3 (by decide) wd_105 dX3_squeezeAll_17 <|
    s_iload_n (pc := 20) C dX3_squeezeAll_20 rfl <|
    s_aload_n (pc := 21) C dX3_squeezeAll_21 rfl <|
    s_get (pc := 22) C (ci := 3) (kf := 4) rfl inX3 (by decide) wd_114 dX3_squeezeAll_22 <|
    s_iload_n (pc := 25) C dX3_squeezeAll_25 rfl <|
    s_iald (pc := 26) C dX3_squeezeAll_26 <|
    s_iast (pc := 27) C dX3_squeezeAll_27 <|
    s_cut q28))
noncomputable def mg_X3_squeezeAll_28 (k2 : (Int × Ob) → Option Rt) (a : Int × Ob) : Option Rt :=
 k2 ((a.1 + 1), a.2)
set_option maxRecDepth 100000 in
set_option maxHeartbeats 4000000 in
theorem rq_X3_squeezeAll_28 (k2 : XK) (a : Int × Ob) : rg_X3_squeezeAll_28 k2 (en_X3_squeezeAll_28 a) = mg_X3_squeezeAll_28 (fun b => k2 (en_X3_squeezeAll_2 b)) a := rfl
set_option maxRecDepth 100000 in
set_option maxHeartbeats 4000000 in
theorem sg_X3_squeezeAll_28 {X : XDyn} {r0 : Rt} (C : XO X mX3_squeezeAll) {k2 : XK} (q2 : XS X mX3_squeezeAll r0 2 k2) : XS X mX3_squeezeAll r0 28 (rg_X3_squeezeAll_28 k2) := by
 unfold rg_X3_squeezeAll_28
 exact s_iinc (pc := 28) C dX3_squeezeAll_28 <|
    s_goto (pc := 31) C dX3_squeezeAll_31 (by decide) <|
    s_cut q2
noncomputable def rw_X3_squeezeAll_28 (f : Nat) (k2 : XK) : XK := rg_X3_squeezeAll_28 k2
noncomputable def md_X3_squeezeAll_28 (f : Nat) (k2 : (Int × Ob) → Option Rt) : Int × Ob → Option Rt := mg_X3_squeezeAll_28 k2
theorem eq_X3_squeezeAll_28 (f : Nat) (k2 : XK) (a : Int × Ob) : rw_X3_squeezeAll_28 f k2 (en_X3_squeezeAll_28 a) = md_X3_squeezeAll_28 f (fun b => k2 (en_X3_squeezeAll_2 b)) a :=
 (rq_X3_squeezeAll_28 k2 a).trans (congrFun (congr (rfl : mg_X3_squeezeAll_28 = mg_X3_squeezeAll_28) rfl) a)
theorem sd_X3_squeezeAll_28 (f : Nat) {X : XDyn} {r0 : Rt} (C : XO X mX3_squeezeAll) {k2 : XK} (q2 : XS X mX3_squeezeAll r0 2 k2) : XS X mX3_squeezeAll r0 28 (rw_X3_squeezeAll_28 f k2) := sg_X3_squeezeAll_28 C q2
noncomputable def rw_X3_squeezeAll_2 (f : Nat) : XK := tlp (fun k2 => rg_X3_squeezeAll_2 (rw_X3_squeezeAll_28 f k2)) f
noncomputable def lb_X3_squeezeAll_2 (f : Nat) : ((Int × Ob) → Option Rt) → Int × Ob → Option Rt := fun k2 => mg_X3_squeezeAll_2 (md_X3_squeezeAll_28 f k2)
noncomputable def md_X3_squeezeAll_2 (f : Nat) : Int × Ob → Option Rt := tlp (lb_X3_squeezeAll_2 f) f
theorem eq_X3_squeezeAll_2 (f : Nat) (a : Int × Ob) : rw_X3_squeezeAll_2 f (en_X3_squeezeAll_2 a) = md_X3_squeezeAll_2 f a :=
 tlp_enc (en_X3_squeezeAll_2) (fun k2 a => (rq_X3_squeezeAll_2 (rw_X3_squeezeAll_28 f k2) a).trans (congrFun (congr (rfl : mg_X3_squeezeAll_2 = mg_X3_squeezeAll_2) (funext (eq_X3_squeezeAll_28 f k2))) a)) f a
theorem sd_X3_squeezeAll_2 (f : Nat) {X : XDyn} {r0 : Rt} (C : XO X mX3_squeezeAll) : XS X mX3_squeezeAll r0 2 (rw_X3_squeezeAll_2 f) := s_lp (fun k2 q2 => sg_X3_squeezeAll_2 C (sd_X3_squeezeAll_28 f C q2)) f
noncomputable def rw_X3_squeezeAll_0 (f : Nat) : XK := rg_X3_squeezeAll_0 (rw_X3_squeezeAll_2 f)
noncomputable def md_X3_squeezeAll_0 (f : Nat) : Ob → Option Rt := mg_X3_squeezeAll_0 (md_X3_squeezeAll_2 f)
theorem eq_X3_squeezeAll_0 (f : Nat) (a : Ob) : rw_X3_squeezeAll_0 f (en_X3_squeezeAll_0 a) = md_X3_squeezeAll_0 f a :=
 (rq_X3_squeezeAll_0 (rw_X3_squeezeAll_2 f) a).trans (congrFun (congr (rfl : mg_X3_squeezeAll_0 = mg_X3_squeezeAll_0) (funext (eq_X3_squeezeAll_2 f))) a)
theorem sd_X3_squeezeAll_0 (f : Nat) {X : XDyn} {r0 : Rt} (C : XO X mX3_squeezeAll) : XS X mX3_squeezeAll r0 0 (rw_X3_squeezeAll_0 f) := sg_X3_squeezeAll_0 C (sd_X3_squeezeAll_2 f C)
theorem ctr_X3_squeezeAll (f : Nat) : XCt yX3_squeezeAll mX3_squeezeAll (xF mX3_squeezeAll (rw_X3_squeezeAll_0 f)) := xMet (by decide +kernel) rfl (fun _ _ C => sd_X3_squeezeAll_0 f C)
theorem eqf_X3_squeezeAll (f : Nat) (h0 : Ob) : xF mX3_squeezeAll (rw_X3_squeezeAll_0 f) [.inr (.inl (0, 0))] [h0] = md_X3_squeezeAll_0 f h0 := eq_X3_squeezeAll_0 f h0
theorem yi_X3_squeezeAll : yX3_squeezeAll.cls = RX3 ∧ yX3_squeezeAll.cls ≠ "java/lang/invoke/MethodHandle" ∧ yX3_squeezeAll.cls ≠ "java/lang/invoke/VarHandle" ∧ (parseMethodDescriptor yX3_squeezeAll.desc).map (fun d => d.parameters.length) = some 0 := ⟨rfl, by decide +kernel, by decide +kernel, by decide +kernel⟩
theorem sp_X3_squeezeAll (f : Nat) (hf : 1000 ≤ f) (h0 : Ob) : md_X3_squeezeAll_0 f h0 = RV [sqaO h0] := by
  rw [sqaO_e]
  show md_X3_squeezeAll_2 f (0, h0) = _
  refine (loop_fold 8 _ (fun s => RV [s]) (fun i s => ((i : Int), s)) (fun _ _ => True) (fun k i s hi _ => ⟨?_, trivial⟩) (fun k s _ => rfl) f h0 (by omega) trivial).1
  simp only [md_X3_squeezeAll_0, mg_X3_squeezeAll_0, lb_X3_squeezeAll_2, mg_X3_squeezeAll_2, md_X3_squeezeAll_28, mg_X3_squeezeAll_28, xw_nat (show i < 2147483648 by omega), bz_0, xin_nat hi (show 8 ≤ 2147483648 by omega), xin_nat (show i < 11 by omega) (show 11 ≤ 2147483648 by omega), toNat_nat, if_true]
  rw [if_neg (by omega)]
  cases mov s (i : Int) <;> rfl
noncomputable def f_X3_squeezeAll : List AV → List Ob → Option Rt
  | [.inr (.inl (0, 0))], [h0] => some (none, [(sqaO h0)])
  | _, _ => none
theorem ct_X3_squeezeAll : XCt yX3_squeezeAll mX3_squeezeAll f_X3_squeezeAll := (ctr_X3_squeezeAll xfu).of (fun as μ r h => by
  unfold f_X3_squeezeAll at h
  split at h
  · rw [← h]
    exact (eqf_X3_squeezeAll xfu _).trans (sp_X3_squeezeAll xfu (xfu_ge (by decide)) _)
  · cases h)
theorem dX3_isContent_0 : decode cX3_isContent 0 = .ok (.iload_n 1, 1) := by decide +kernel
theorem dX3_isContent_1 : decode cX3_isContent 1 = .ok (.ifCond .lt 32, 3) := by decide +kernel
theorem dX3_isContent_4 : decode cX3_isContent 4 = .ok (.iload_n 1, 1) := by decide +kernel
theorem dX3_isContent_5 : decode cX3_isContent 5 = .ok (.bipush 11, 2) := by decide +kernel
theorem dX3_isContent_7 : decode cX3_isContent 7 = .ok (.if_icmp .ge 26, 3) := by decide +kernel
theorem dX3_isContent_10 : decode cX3_isContent 10 = .ok (.iload_n 2, 1) := by decide +kernel
theorem dX3_isContent_11 : decode cX3_isContent 11 = .ok (.ifCond .lt 22, 3) := by decide +kernel
theorem dX3_isContent_14 : decode cX3_isContent 14 = .ok (.iload_n 2, 1) := by decide +kernel
theorem dX3_isContent_15 : decode cX3_isContent 15 = .ok (.aload_n 0, 1) := by decide +kernel
theorem dX3_isContent_16 : decode cX3_isContent 16 = .ok (.getfield 15, 3) := by decide +kernel
theorem dX3_isContent_19 : decode cX3_isContent 19 = .ok (.iload_n 1, 1) := by decide +kernel
theorem dX3_isContent_20 : decode cX3_isContent 20 = .ok (.iaload, 1) := by decide +kernel
theorem dX3_isContent_21 : decode cX3_isContent 21 = .ok (.bipush 60, 2) := by decide +kernel
theorem dX3_isContent_23 : decode cX3_isContent 23 = .ok (.invokestatic 95, 3) := by decide +kernel
theorem dX3_isContent_26 : decode cX3_isContent 26 = .ok (.if_icmp .ge 7, 3) := by decide +kernel
theorem dX3_isContent_29 : decode cX3_isContent 29 = .ok (.iconst 1, 1) := by decide +kernel
theorem dX3_isContent_30 : decode cX3_isContent 30 = .ok (.goto 4, 3) := by decide +kernel
theorem dX3_isContent_33 : decode cX3_isContent 33 = .ok (.iconst 0, 1) := by decide +kernel
theorem dX3_isContent_34 : decode cX3_isContent 34 = .ok (.ireturn, 1) := by decide +kernel
abbrev mX3_isContent : XM := (cX3_isContent, 3, RX3, (some .boolean), shw_3, 1)
noncomputable def rg_X3_isContent_0 : XK :=
 o_iload 1 <|
 o_if_lt (o_iconst 0 <|
 o_zreturn)
 (o_iload 1 <|
 o_iconst 11 <|
 o_icmp_ge (o_iconst 0 <|
 o_zreturn)
 (o_iload 2 <|
 o_if_lt (o_iconst 0 <|
 o_zreturn)
 (o_iload 2 <|
 o_aload 0 <|
 o_get shw_3 3 1 <|
 o_iload 1 <|
 o_iald shw_3 <|
 o_iconst 60 <|
 o_min <|
 o_icmp_ge (o_iconst 0 <|
 o_zreturn)
 (o_iconst 1 <|
 o_zreturn))))
def en_X3_isContent_0 (p1 : Int) (p2 : Int) (h0 : Ob) (a : Unit) : XSt := ([some (.inr (.inl (0, 0))), some (.inl p1), some (.inl p2)], [], [h0])
noncomputable def mg_X3_isContent_0 (p1 : Int) (p2 : Int) (h0 : Ob) (a : Unit) : Option Rt :=
 if xw p1 < 0 then (RI 0 [h0])
 else (if xw p1 ≥ 11 then (RI 0 [h0])
 else (if xw p2 < 0 then (RI 0 [h0])
 else (if xin p1 11 then (
 if xw p2 ≥ xw (xmin (h0 2 (xw p1).toNat) 60) then (RI 0 [h0])
 else (RI 1 [h0])) else none)))
set_option maxRecDepth 100000 in
set_option maxHeartbeats 4000000 in
theorem rq_X3_isContent_0 (p1 : Int) (p2 : Int) (h0 : Ob) (a : Unit) : rg_X3_isContent_0 (en_X3_isContent_0 p1 p2 h0 a) = mg_X3_isContent_0 p1 p2 h0 a := rfl
set_option maxRecDepth 100000 in
set_option maxHeartbeats 4000000 in
theorem sg_X3_isContent_0 {X : XDyn} {r0 : Rt} (C : XO X mX3_isContent) : XS X mX3_isContent r0 0 (rg_X3_isContent_0) := by
 unfold rg_X3_isContent_0
 exact s_iload_n (pc := 0) C dX3_isContent_0 rfl <|
    s_if_lt (pc := 1) C dX3_isContent_1 (by decide) (s_iconst (pc := 33) C dX3_isContent_33 <|
    s_zreturn (pc := 34) C rfl dX3_isContent_34)
    (s_iload_n (pc := 4) C dX3_isContent_4 rfl <|
    s_bipush (pc := 5) C dX3_isContent_5 (by decide) <|
    s_icmp_ge (pc := 7) C dX3_isContent_7 (by decide) (s_iconst (pc := 33) C dX3_isContent_33 <|
    s_zreturn (pc := 34) C rfl dX3_isContent_34)
    (s_iload_n (pc := 10) C dX3_isContent_10 rfl <|
    s_if_lt (pc := 11) C dX3_isContent_11 (by decide) (s_iconst (pc := 33) C dX3_isContent_33 <|
    s_zreturn (pc := 34) C rfl dX3_isContent_34)
    (s_iload_n (pc := 14) C dX3_isContent_14 rfl <|
    s_aload_n (pc := 15) C dX3_isContent_15 rfl <|
    s_get (pc := 16) C (ci := 3) (kf := 1) rfl inX3 (by decide) wd_105 dX3_isContent_16 <|
    s_iload_n (pc := 19) C dX3_isContent_19 rfl <|
    s_iald (pc := 20) C dX3_isContent_20 <|
    s_bipush (pc := 21) C dX3_isContent_21 (by decide) <|
    s_min (pc := 23) C (by decide) wd_420 wd_421 wd_82 wd_422 dX3_isContent_23 <|
    s_icmp_ge (pc := 26) C dX3_isContent_26 (by decide) (s_iconst (pc := 33) C dX3_isContent_33 <|
    s_zreturn (pc := 34) C rfl dX3_isContent_34)
    (s_iconst (pc := 29) C dX3_isContent_29 <|
    s_goto (pc := 30) C dX3_isContent_30 (by decide) <|
    s_zreturn (pc := 34) C rfl dX3_isContent_34))))
noncomputable def rw_X3_isContent_0 : XK := rg_X3_isContent_0
noncomputable def md_X3_isContent_0 (p1 : Int) (p2 : Int) (h0 : Ob) : Unit → Option Rt := mg_X3_isContent_0 p1 p2 h0
theorem eq_X3_isContent_0 (p1 : Int) (p2 : Int) (h0 : Ob) (a : Unit) : rw_X3_isContent_0 (en_X3_isContent_0 p1 p2 h0 a) = md_X3_isContent_0 p1 p2 h0 a :=
 rq_X3_isContent_0 p1 p2 h0 a
theorem sd_X3_isContent_0 {X : XDyn} {r0 : Rt} (C : XO X mX3_isContent) : XS X mX3_isContent r0 0 (rw_X3_isContent_0) := sg_X3_isContent_0 C
theorem ctr_X3_isContent : XCt yX3_isContent mX3_isContent (xF mX3_isContent (rw_X3_isContent_0)) := xMet (by decide +kernel) rfl (fun _ _ C => sd_X3_isContent_0 C)
theorem eqf_X3_isContent (p1 : Int) (p2 : Int) (h0 : Ob) : xF mX3_isContent (rw_X3_isContent_0) [.inr (.inl (0, 0)), .inl p1, .inl p2] [h0] = md_X3_isContent_0 p1 p2 h0 () := eq_X3_isContent_0 p1 p2 h0 ()
theorem yi_X3_isContent : yX3_isContent.cls = RX3 ∧ yX3_isContent.cls ≠ "java/lang/invoke/MethodHandle" ∧ yX3_isContent.cls ≠ "java/lang/invoke/VarHandle" ∧ (parseMethodDescriptor yX3_isContent.desc).map (fun d => d.parameters.length) = some 2 := ⟨rfl, by decide +kernel, by decide +kernel, by decide +kernel⟩
theorem sp_X3_isContent (p1 p2 : Int) (h0 : Ob) : md_X3_isContent_0 p1 p2 h0 () = RI (bz (iscon h0 p1 p2)) [h0] := by
  simp only [md_X3_isContent_0, mg_X3_isContent_0]
  cases hB : (iscon h0 p1 p2)
  all_goals (try simp only [iscon, Bool.and_eq_true, Bool.or_eq_true, Bool.not_eq_true', Bool.not_eq_true, Bool.and_eq_false_iff, Bool.or_eq_false_iff, Bool.not_eq_false', Bool.not_eq_eq_eq_not, Bool.not_true, Bool.not_false, decide_eq_true_eq, decide_eq_false_iff_not] at hB)
  all_goals (repeat' split)
  all_goals first
    | rfl
    | (exfalso; (try simp only [xin, Bool.and_eq_true, Bool.or_eq_true, Bool.not_eq_true', Bool.not_eq_true, Bool.and_eq_false_iff, Bool.or_eq_false_iff, Bool.not_eq_false', Bool.not_eq_eq_eq_not, Bool.not_true, Bool.not_false, decide_eq_true_eq, decide_eq_false_iff_not] at *); omega)
noncomputable def f_X3_isContent : List AV → List Ob → Option Rt
  | [.inr (.inl (0, 0)), .inl p1, .inl p2], [h0] => some (some (.inl (bz (iscon h0 p1 p2))), [h0])
  | _, _ => none
theorem ct_X3_isContent : XCt yX3_isContent mX3_isContent f_X3_isContent := (ctr_X3_isContent ).of (fun as μ r h => by
  unfold f_X3_isContent at h
  split at h
  · rw [← h]
    exact (eqf_X3_isContent _ _ _).trans (sp_X3_isContent _ _ _)
  · cases h)
theorem dX3_contentOf_0 : decode cX3_contentOf 0 = .ok (.aload_n 0, 1) := by decide +kernel
theorem dX3_contentOf_1 : decode cX3_contentOf 1 = .ok (.iload_n 1, 1) := by decide +kernel
theorem dX3_contentOf_2 : decode cX3_contentOf 2 = .ok (.iload_n 2, 1) := by decide +kernel
theorem dX3_contentOf_3 : decode cX3_contentOf 3 = .ok (.invokevirtual 98, 3) := by decide +kernel
theorem dX3_contentOf_6 : decode cX3_contentOf 6 = .ok (.ifCond .eq 17, 3) := by decide +kernel
theorem dX3_contentOf_9 : decode cX3_contentOf 9 = .ok (.aload_n 0, 1) := by decide +kernel
theorem dX3_contentOf_10 : decode cX3_contentOf 10 = .ok (.getfield 18, 3) := by decide +kernel
theorem dX3_contentOf_13 : decode cX3_contentOf 13 = .ok (.iload_n 1, 1) := by decide +kernel
theorem dX3_contentOf_14 : decode cX3_contentOf 14 = .ok (.bipush 60, 2) := by decide +kernel
theorem dX3_contentOf_16 : decode cX3_contentOf 16 = .ok (.imul, 1) := by decide +kernel
theorem dX3_contentOf_17 : decode cX3_contentOf 17 = .ok (.iload_n 2, 1) := by decide +kernel
theorem dX3_contentOf_18 : decode cX3_contentOf 18 = .ok (.iadd, 1) := by decide +kernel
theorem dX3_contentOf_19 : decode cX3_contentOf 19 = .ok (.iaload, 1) := by decide +kernel
theorem dX3_contentOf_20 : decode cX3_contentOf 20 = .ok (.goto 4, 3) := by decide +kernel
theorem dX3_contentOf_23 : decode cX3_contentOf 23 = .ok (.iconst 0, 1) := by decide +kernel
theorem dX3_contentOf_24 : decode cX3_contentOf 24 = .ok (.ireturn, 1) := by decide +kernel
abbrev mX3_contentOf : XM := (cX3_contentOf, 3, RX3, (some .int), shw_3, 2)
noncomputable def rg_X3_contentOf_0 : XK :=
 o_aload 0 <|
 o_iload 1 <|
 o_iload 2 <|
 o_callV 3 1 [0] f_X3_isContent <|
 o_if_eq (o_iconst 0 <|
 o_ireturn)
 (o_aload 0 <|
 o_get shw_3 3 2 <|
 o_iload 1 <|
 o_iconst 60 <|
 o_imul <|
 o_iload 2 <|
 o_iadd <|
 o_iald shw_3 <|
 o_ireturn)
def en_X3_contentOf_0 (p1 : Int) (p2 : Int) (h0 : Ob) (a : Unit) : XSt := ([some (.inr (.inl (0, 0))), some (.inl p1), some (.inl p2)], [], [h0])
noncomputable def mg_X3_contentOf_0 (p1 : Int) (p2 : Int) (h0 : Ob) (a : Unit) : Option Rt :=
 if xw (bz (iscon h0 p1 p2)) = 0 then (RI 0 [h0])
 else (if xin ((p1 * 60) + p2) 660 then (
 RI (h0 3 (xw ((p1 * 60) + p2)).toNat) [h0]) else none)
set_option maxRecDepth 100000 in
set_option maxHeartbeats 4000000 in
theorem rq_X3_contentOf_0 (p1 : Int) (p2 : Int) (h0 : Ob) (a : Unit) : rg_X3_contentOf_0 (en_X3_contentOf_0 p1 p2 h0 a) = mg_X3_contentOf_0 p1 p2 h0 a := rfl
set_option maxRecDepth 100000 in
set_option maxHeartbeats 4000000 in
theorem sg_X3_contentOf_0 {X : XDyn} {r0 : Rt} (C : XO X mX3_contentOf) : XS X mX3_contentOf r0 0 (rg_X3_contentOf_0) := by
 unfold rg_X3_contentOf_0
 exact s_aload_n (pc := 0) C dX3_contentOf_0 rfl <|
    s_iload_n (pc := 1) C dX3_contentOf_1 rfl <|
    s_iload_n (pc := 2) C dX3_contentOf_2 rfl <|
    s_callV (pc := 3) C ct_X3_isContent (n := 3) (rk := 1) (mp := [0]) ⟨rfl, by decide, rfl⟩ (ci := 3) rfl rfl (by decide) (by decide) yi_X3_isContent (by decide) wd_571 wd_560 wd_561 wd_74 wd_562 dX3_contentOf_3 <|
    s_if_eq (pc := 6) C dX3_contentOf_6 (by decide) (s_iconst (pc := 23) C dX3_contentOf_23 <|
    s_ireturn (pc := 24) C rfl dX3_contentOf_24)
    (s_aload_n (pc := 9) C dX3_contentOf_9 rfl <|
    s_get (pc := 10) C (ci := 3) (kf := 2) rfl inX3 (by decide) wd_111 dX3_contentOf_10 <|
    s_iload_n (pc := 13) C dX3_contentOf_13 rfl <|
    s_bipush (pc := 14) C dX3_contentOf_14 (by decide) <|
    s_imul (pc := 16) C dX3_contentOf_16 <|
    s_iload_n (pc := 17) C dX3_contentOf_17 rfl <|
    s_iadd (pc := 18) C dX3_contentOf_18 <|
    s_iald (pc := 19) C dX3_contentOf_19 <|
    s_goto (pc := 20) C dX3_contentOf_20 (by decide) <|
    s_ireturn (pc := 24) C rfl dX3_contentOf_24)
noncomputable def rw_X3_contentOf_0 : XK := rg_X3_contentOf_0
noncomputable def md_X3_contentOf_0 (p1 : Int) (p2 : Int) (h0 : Ob) : Unit → Option Rt := mg_X3_contentOf_0 p1 p2 h0
theorem eq_X3_contentOf_0 (p1 : Int) (p2 : Int) (h0 : Ob) (a : Unit) : rw_X3_contentOf_0 (en_X3_contentOf_0 p1 p2 h0 a) = md_X3_contentOf_0 p1 p2 h0 a :=
 rq_X3_contentOf_0 p1 p2 h0 a
theorem sd_X3_contentOf_0 {X : XDyn} {r0 : Rt} (C : XO X mX3_contentOf) : XS X mX3_contentOf r0 0 (rw_X3_contentOf_0) := sg_X3_contentOf_0 C
theorem ctr_X3_contentOf : XCt yX3_contentOf mX3_contentOf (xF mX3_contentOf (rw_X3_contentOf_0)) := xMet (by decide +kernel) rfl (fun _ _ C => sd_X3_contentOf_0 C)
theorem eqf_X3_contentOf (p1 : Int) (p2 : Int) (h0 : Ob) : xF mX3_contentOf (rw_X3_contentOf_0) [.inr (.inl (0, 0)), .inl p1, .inl p2] [h0] = md_X3_contentOf_0 p1 p2 h0 () := eq_X3_contentOf_0 p1 p2 h0 ()
theorem yi_X3_contentOf : yX3_contentOf.cls = RX3 ∧ yX3_contentOf.cls ≠ "java/lang/invoke/MethodHandle" ∧ yX3_contentOf.cls ≠ "java/lang/invoke/VarHandle" ∧ (parseMethodDescriptor yX3_contentOf.desc).map (fun d => d.parameters.length) = some 2 := ⟨rfl, by decide +kernel, by decide +kernel, by decide +kernel⟩
theorem sp_X3_contentOf (p1 p2 : Int) (h0 : Ob) : md_X3_contentOf_0 p1 p2 h0 () = RI (conF h0 p1 p2) [h0] := by
  simp only [md_X3_contentOf_0, mg_X3_contentOf_0, bz_0]
  unfold conF
  cases hh : iscon h0 p1 p2
  · rfl
  · obtain ⟨h1, h2, h3, h4, h5⟩ := iscon_lt hh
    rw [if_neg (by simp), if_pos rfl, xin_of (n := 660) (by omega) (by omega), h5]
    rfl
noncomputable def f_X3_contentOf : List AV → List Ob → Option Rt
  | [.inr (.inl (0, 0)), .inl p1, .inl p2], [h0] => some (some (.inl (conF h0 p1 p2)), [h0])
  | _, _ => none
theorem ct_X3_contentOf : XCt yX3_contentOf mX3_contentOf f_X3_contentOf := (ctr_X3_contentOf ).of (fun as μ r h => by
  unfold f_X3_contentOf at h
  split at h
  · rw [← h]
    exact (eqf_X3_contentOf _ _ _).trans (sp_X3_contentOf _ _ _)
  · cases h)
theorem dX3_setContent_0 : decode cX3_setContent 0 = .ok (.aload_n 0, 1) := by decide +kernel
theorem dX3_setContent_1 : decode cX3_setContent 1 = .ok (.iload_n 1, 1) := by decide +kernel
theorem dX3_setContent_2 : decode cX3_setContent 2 = .ok (.iload_n 2, 1) := by decide +kernel
theorem dX3_setContent_3 : decode cX3_setContent 3 = .ok (.invokevirtual 98, 3) := by decide +kernel
theorem dX3_setContent_6 : decode cX3_setContent 6 = .ok (.ifCond .eq 15, 3) := by decide +kernel
theorem dX3_setContent_9 : decode cX3_setContent 9 = .ok (.aload_n 0, 1) := by decide +kernel
theorem dX3_setContent_10 : decode cX3_setContent 10 = .ok (.getfield 18, 3) := by decide +kernel
theorem dX3_setContent_13 : decode cX3_setContent 13 = .ok (.iload_n 1, 1) := by decide +kernel
theorem dX3_setContent_14 : decode cX3_setContent 14 = .ok (.bipush 60, 2) := by decide +kernel
theorem dX3_setContent_16 : decode cX3_setContent 16 = .ok (.imul, 1) := by decide +kernel
theorem dX3_setContent_17 : decode cX3_setContent 17 = .ok (.iload_n 2, 1) := by decide +kernel
theorem dX3_setContent_18 : decode cX3_setContent 18 = .ok (.iadd, 1) := by decide +kernel
theorem dX3_setContent_19 : decode cX3_setContent 19 = .ok (.iload_n 3, 1) := by decide +kernel
theorem dX3_setContent_20 : decode cX3_setContent 20 = .ok (.iastore, 1) := by decide +kernel
theorem dX3_setContent_21 : decode cX3_setContent 21 = .ok (.return_, 1) := by decide +kernel
abbrev mX3_setContent : XM := (cX3_setContent, 4, RX3, none, shw_3, 2)
noncomputable def rg_X3_setContent_0 : XK :=
 o_aload 0 <|
 o_iload 1 <|
 o_iload 2 <|
 o_callV 3 1 [0] f_X3_isContent <|
 o_if_eq (o_return)
 (o_aload 0 <|
 o_get shw_3 3 2 <|
 o_iload 1 <|
 o_iconst 60 <|
 o_imul <|
 o_iload 2 <|
 o_iadd <|
 o_iload 3 <|
 o_iast shw_3 <|
 o_return)
def en_X3_setContent_0 (p1 : Int) (p2 : Int) (p3 : Int) (a : Ob) : XSt := ([some (.inr (.inl (0, 0))), some (.inl p1), some (.inl p2), some (.inl p3)], [], [a])
noncomputable def mg_X3_setContent_0 (p1 : Int) (p2 : Int) (p3 : Int) (a : Ob) : Option Rt :=
 if xw (bz (iscon a p1 p2)) = 0 then (RV [a])
 else (if xin ((p1 * 60) + p2) 660 then (
 RV [(xset a 3 (xw ((p1 * 60) + p2)).toNat p3)]) else none)
set_option maxRecDepth 100000 in
set_option maxHeartbeats 4000000 in
theorem rq_X3_setContent_0 (p1 : Int) (p2 : Int) (p3 : Int) (a : Ob) : rg_X3_setContent_0 (en_X3_setContent_0 p1 p2 p3 a) = mg_X3_setContent_0 p1 p2 p3 a := rfl
set_option maxRecDepth 100000 in
set_option maxHeartbeats 4000000 in
theorem sg_X3_setContent_0 {X : XDyn} {r0 : Rt} (C : XO X mX3_setContent) : XS X mX3_setContent r0 0 (rg_X3_setContent_0) := by
 unfold rg_X3_setContent_0
 exact s_aload_n (pc := 0) C dX3_setContent_0 rfl <|
    s_iload_n (pc := 1) C dX3_setContent_1 rfl <|
    s_iload_n (pc := 2) C dX3_setContent_2 rfl <|
    s_callV (pc := 3) C ct_X3_isContent (n := 3) (rk := 1) (mp := [0]) ⟨rfl, by decide, rfl⟩ (ci := 3) rfl rfl (by decide) (by decide) yi_X3_isContent (by decide) wd_571 wd_560 wd_561 wd_74 wd_562 dX3_setContent_3 <|
    s_if_eq (pc := 6) C dX3_setContent_6 (by decide) (s_return (pc := 21) C rfl dX3_setContent_21)
    (s_aload_n (pc := 9) C dX3_setContent_9 rfl <|
    s_get (pc := 10) C (ci := 3) (kf := 2) rfl inX3 (by decide) wd_111 dX3_setContent_10 <|
    s_iload_n (pc := 13) C dX3_setContent_13 rfl <|
    s_bipush (pc := 14) C dX3_setContent_14 (by decide) <|
    s_imul (pc := 16) C dX3_setContent_16 <|
    s_iload_n (pc := 17) C dX3_setContent_17 rfl <|
    s_iadd (pc := 18) C dX3_setContent_18 <|
    s_iload_n (pc := 19) C dX3_setContent_19 rfl <|
    s_iast (pc := 20) C dX3_setContent_20 <|
    s_return (pc := 21) C rfl dX3_setContent_21)
noncomputable def rw_X3_setContent_0 : XK := rg_X3_setContent_0
noncomputable def md_X3_setContent_0 (p1 : Int) (p2 : Int) (p3 : Int) : Ob → Option Rt := mg_X3_setContent_0 p1 p2 p3
theorem eq_X3_setContent_0 (p1 : Int) (p2 : Int) (p3 : Int) (a : Ob) : rw_X3_setContent_0 (en_X3_setContent_0 p1 p2 p3 a) = md_X3_setContent_0 p1 p2 p3 a :=
 rq_X3_setContent_0 p1 p2 p3 a
theorem sd_X3_setContent_0 {X : XDyn} {r0 : Rt} (C : XO X mX3_setContent) : XS X mX3_setContent r0 0 (rw_X3_setContent_0) := sg_X3_setContent_0 C
theorem ctr_X3_setContent : XCt yX3_setContent mX3_setContent (xF mX3_setContent (rw_X3_setContent_0)) := xMet (by decide +kernel) rfl (fun _ _ C => sd_X3_setContent_0 C)
theorem eqf_X3_setContent (p1 : Int) (p2 : Int) (p3 : Int) (h0 : Ob) : xF mX3_setContent (rw_X3_setContent_0) [.inr (.inl (0, 0)), .inl p1, .inl p2, .inl p3] [h0] = md_X3_setContent_0 p1 p2 p3 h0 := eq_X3_setContent_0 p1 p2 p3 h0
theorem yi_X3_setContent : yX3_setContent.cls = RX3 ∧ yX3_setContent.cls ≠ "java/lang/invoke/MethodHandle" ∧ yX3_setContent.cls ≠ "java/lang/invoke/VarHandle" ∧ (parseMethodDescriptor yX3_setContent.desc).map (fun d => d.parameters.length) = some 3 := ⟨rfl, by decide +kernel, by decide +kernel, by decide +kernel⟩
theorem sp_X3_setContent (p1 p2 p3 : Int) (h0 : Ob) : md_X3_setContent_0 p1 p2 p3 h0 = RV [scoO h0 p1 p2 p3] := by
  simp only [md_X3_setContent_0, mg_X3_setContent_0, bz_0]
  unfold scoO
  cases hh : iscon h0 p1 p2
  · rfl
  · obtain ⟨h1, h2, h3, h4, h5⟩ := iscon_lt hh
    rw [if_neg (by simp), if_pos rfl, xin_of (n := 660) (by omega) (by omega), h5]
    rfl
noncomputable def f_X3_setContent : List AV → List Ob → Option Rt
  | [.inr (.inl (0, 0)), .inl p1, .inl p2, .inl p3], [h0] => some (none, [(scoO h0 p1 p2 p3)])
  | _, _ => none
theorem ct_X3_setContent : XCt yX3_setContent mX3_setContent f_X3_setContent := (ctr_X3_setContent ).of (fun as μ r h => by
  unfold f_X3_setContent at h
  split at h
  · rw [← h]
    exact (eqf_X3_setContent _ _ _ _).trans (sp_X3_setContent _ _ _ _)
  · cases h)
theorem dX3_clearContents_0 : decode cX3_clearContents 0 = .ok (.iload_n 1, 1) := by decide +kernel
theorem dX3_clearContents_1 : decode cX3_clearContents 1 = .ok (.ifCond .lt 13, 3) := by decide +kernel
theorem dX3_clearContents_4 : decode cX3_clearContents 4 = .ok (.iload_n 1, 1) := by decide +kernel
theorem dX3_clearContents_5 : decode cX3_clearContents 5 = .ok (.bipush 11, 2) := by decide +kernel
theorem dX3_clearContents_7 : decode cX3_clearContents 7 = .ok (.if_icmp .ge 7, 3) := by decide +kernel
theorem dX3_clearContents_10 : decode cX3_clearContents 10 = .ok (.iload_n 2, 1) := by decide +kernel
theorem dX3_clearContents_11 : decode cX3_clearContents 11 = .ok (.ifCond .ge 4, 3) := by decide +kernel
theorem dX3_clearContents_14 : decode cX3_clearContents 14 = .ok (.return_, 1) := by decide +kernel
theorem dX3_clearContents_15 : decode cX3_clearContents 15 = .ok (.iload_n 2, 1) := by decide +kernel
theorem dX3_clearContents_16 : decode cX3_clearContents 16 = .ok (.istore 4, 2) := by decide +kernel
theorem dX3_clearContents_18 : decode cX3_clearContents 18 = .ok (.iload 4, 2) := by decide +kernel
theorem dX3_clearContents_20 : decode cX3_clearContents 20 = .ok (.iload_n 3, 1) := by decide +kernel
theorem dX3_clearContents_21 : decode cX3_clearContents 21 = .ok (.if_icmp .ge 29, 3) := by decide +kernel
theorem dX3_clearContents_24 : decode cX3_clearContents 24 = .ok (.iload 4, 2) := by decide +kernel
theorem dX3_clearContents_26 : decode cX3_clearContents 26 = .ok (.bipush 60, 2) := by decide +kernel
theorem dX3_clearContents_28 : decode cX3_clearContents 28 = .ok (.if_icmp .ge 22, 3) := by decide +kernel
theorem dX3_clearContents_31 : decode cX3_clearContents 31 = .ok (.aload_n 0, 1) := by decide +kernel
theorem dX3_clearContents_32 : decode cX3_clearContents 32 = .ok (.getfield 18, 3) := by decide +kernel
theorem dX3_clearContents_35 : decode cX3_clearContents 35 = .ok (.iload_n 1, 1) := by decide +kernel
theorem dX3_clearContents_36 : decode cX3_clearContents 36 = .ok (.bipush 60, 2) := by decide +kernel
theorem dX3_clearContents_38 : decode cX3_clearContents 38 = .ok (.imul, 1) := by decide +kernel
theorem dX3_clearContents_39 : decode cX3_clearContents 39 = .ok (.iload 4, 2) := by decide +kernel
theorem dX3_clearContents_41 : decode cX3_clearContents 41 = .ok (.iadd, 1) := by decide +kernel
theorem dX3_clearContents_42 : decode cX3_clearContents 42 = .ok (.iconst 0, 1) := by decide +kernel
theorem dX3_clearContents_43 : decode cX3_clearContents 43 = .ok (.iastore, 1) := by decide +kernel
theorem dX3_clearContents_44 : decode cX3_clearContents 44 = .ok (.iinc 4 1, 3) := by decide +kernel
theorem dX3_clearContents_47 : decode cX3_clearContents 47 = .ok (.goto (-29), 3) := by decide +kernel
theorem dX3_clearContents_50 : decode cX3_clearContents 50 = .ok (.return_, 1) := by decide +kernel
abbrev mX3_clearContents : XM := (cX3_clearContents, 5, RX3, none, shw_3, 0)
noncomputable def rg_X3_clearContents_0 (k18 : XK) : XK :=
 o_iload 1 <|
 o_if_lt (o_return)
 (o_iload 1 <|
 o_iconst 11 <|
 o_icmp_ge (o_return)
 (o_iload 2 <|
 o_if_ge (o_iload 2 <|
 o_istore 4 <|
 o_cut [] k18)
 (o_return)))
def en_X3_clearContents_0 (p1 : Int) (p2 : Int) (p3 : Int) (a : Ob) : XSt := ([some (.inr (.inl (0, 0))), some (.inl p1), some (.inl p2), some (.inl p3), none], [], [a])
noncomputable def rg_X3_clearContents_18 (k18 : XK) : XK :=
 o_iload 4 <|
 o_iload 3 <|
 o_icmp_ge (o_return)
 (o_iload 4 <|
 o_iconst 60 <|
 o_icmp_ge (o_return)
 (o_aload 0 <|
 o_get shw_3 3 2 <|
 o_iload 1 <|
 o_iconst 60 <|
 o_imul <|
 o_iload 4 <|
 o_iadd <|
 o_iconst 0 <|
 o_iast shw_3 <|
 o_iinc 4 1 <|
 o_cut [] k18))
def en_X3_clearContents_18 (p1 : Int) (p2 : Int) (p3 : Int) (a : Int × Ob) : XSt := ([some (.inr (.inl (0, 0))), some (.inl p1), some (.inl p2), some (.inl p3), some (.inl a.1)], [], [a.2])
noncomputable def mg_X3_clearContents_0 (p1 : Int) (p2 : Int) (p3 : Int) (k18 : (Int × Ob) → Option Rt) (a : Ob) : Option Rt :=
 if xw p1 < 0 then (RV [a])
 else (if xw p1 ≥ 11 then (RV [a])
 else (if xw p2 ≥ 0 then (k18 (p2, a))
 else (RV [a])))
set_option maxRecDepth 100000 in
set_option maxHeartbeats 4000000 in
theorem rq_X3_clearContents_0 (p1 : Int) (p2 : Int) (p3 : Int) (k18 : XK) (a : Ob) : rg_X3_clearContents_0 k18 (en_X3_clearContents_0 p1 p2 p3 a) = mg_X3_clearContents_0 p1 p2 p3 (fun b => k18 (en_X3_clearContents_18 p1 p2 p3 b)) a := rfl
set_option maxRecDepth 100000 in
set_option maxHeartbeats 4000000 in
theorem sg_X3_clearContents_0 {X : XDyn} {r0 : Rt} (C : XO X mX3_clearContents) {k18 : XK} (q18 : XS X mX3_clearContents r0 18 k18) : XS X mX3_clearContents r0 0 (rg_X3_clearContents_0 k18) := by
 unfold rg_X3_clearContents_0
 exact s_iload_n (pc := 0) C dX3_clearContents_0 rfl <|
    s_if_lt (pc := 1) C dX3_clearContents_1 (by decide) (s_return (pc := 14) C rfl dX3_clearContents_14)
    (s_iload_n (pc := 4) C dX3_clearContents_4 rfl <|
    s_bipush (pc := 5) C dX3_clearContents_5 (by decide) <|
    s_icmp_ge (pc := 7) C dX3_clearContents_7 (by decide) (s_return (pc := 14) C rfl dX3_clearContents_14)
    (s_iload_n (pc := 10) C dX3_clearContents_10 rfl <|
    s_if_ge (pc := 11) C dX3_clearContents_11 (by decide) (s_iload_n (pc := 15) C dX3_clearContents_15 rfl <|
    s_istore (pc := 16) C dX3_clearContents_16 <|
    s_cut q18)
    (s_return (pc := 14) C rfl dX3_clearContents_14)))
noncomputable def mg_X3_clearContents_18 (p1 : Int) (p2 : Int) (p3 : Int) (k18 : (Int × Ob) → Option Rt) (a : Int × Ob) : Option Rt :=
 if xw a.1 ≥ xw p3 then (RV [a.2])
 else (if xw a.1 ≥ 60 then (RV [a.2])
 else (if xin ((p1 * 60) + a.1) 660 then (
 k18 ((a.1 + 1), (xset a.2 3 (xw ((p1 * 60) + a.1)).toNat 0))) else none))
set_option maxRecDepth 100000 in
set_option maxHeartbeats 4000000 in
theorem rq_X3_clearContents_18 (p1 : Int) (p2 : Int) (p3 : Int) (k18 : XK) (a : Int × Ob) : rg_X3_clearContents_18 k18 (en_X3_clearContents_18 p1 p2 p3 a) = mg_X3_clearContents_18 p1 p2 p3 (fun b => k18 (en_X3_clearContents_18 p1 p2 p3 b)) a := rfl
set_option maxRecDepth 100000 in
set_option maxHeartbeats 4000000 in
theorem sg_X3_clearContents_18 {X : XDyn} {r0 : Rt} (C : XO X mX3_clearContents) {k18 : XK} (q18 : XS X mX3_clearContents r0 18 k18) : XS X mX3_clearContents r0 18 (rg_X3_clearContents_18 k18) := by
 unfold rg_X3_clearContents_18
 exact s_iload (pc := 18) C dX3_clearContents_18 <|
    s_iload_n (pc := 20) C dX3_clearContents_20 rfl <|
    s_icmp_ge (pc := 21) C dX3_clearContents_21 (by decide) (s_return (pc := 50) C rfl dX3_clearContents_50)
    (s_iload (pc := 24) C dX3_clearContents_24 <|
    s_bipush (pc := 26) C dX3_clearContents_26 (by decide) <|
    s_icmp_ge (pc := 28) C dX3_clearContents_28 (by decide) (s_return (pc := 50) C rfl dX3_clearContents_50)
    (s_aload_n (pc := 31) C dX3_clearContents_31 rfl <|
    s_get (pc := 32) C (ci := 3) (kf := 2) rfl inX3 (by decide) wd_111 dX3_clearContents_32 <|
    s_iload_n (pc := 35) C dX3_clearContents_35 rfl <|
    s_bipush (pc := 36) C dX3_clearContents_36 (by decide) <|
    s_imul (pc := 38) C dX3_clearContents_38 <|
    s_iload (pc := 39) C dX3_clearContents_39 <|
    s_iadd (pc := 41) C dX3_clearContents_41 <|
    s_iconst (pc := 42) C dX3_clearContents_42 <|
    s_iast (pc := 43) C dX3_clearContents_43 <|
    s_iinc (pc := 44) C dX3_clearContents_44 <|
    s_goto (pc := 47) C dX3_clearContents_47 (by decide) <|
    s_cut q18))
noncomputable def rw_X3_clearContents_18 (f : Nat) : XK := tlp (fun k18 => rg_X3_clearContents_18 k18) f
noncomputable def lb_X3_clearContents_18 (p1 : Int) (p2 : Int) (p3 : Int) (f : Nat) : ((Int × Ob) → Option Rt) → Int × Ob → Option Rt := fun k18 => mg_X3_clearContents_18 p1 p2 p3 k18
noncomputable def md_X3_clearContents_18 (p1 : Int) (p2 : Int) (p3 : Int) (f : Nat) : Int × Ob → Option Rt := tlp (lb_X3_clearContents_18 p1 p2 p3 f) f
theorem eq_X3_clearContents_18 (p1 : Int) (p2 : Int) (p3 : Int) (f : Nat) (a : Int × Ob) : rw_X3_clearContents_18 f (en_X3_clearContents_18 p1 p2 p3 a) = md_X3_clearContents_18 p1 p2 p3 f a :=
 tlp_enc (en_X3_clearContents_18 p1 p2 p3) (fun k18 a => (rq_X3_clearContents_18 p1 p2 p3 k18 a).trans (congrFun (congr (rfl : mg_X3_clearContents_18 p1 p2 p3 = mg_X3_clearContents_18 p1 p2 p3) rfl) a)) f a
theorem sd_X3_clearContents_18 (f : Nat) {X : XDyn} {r0 : Rt} (C : XO X mX3_clearContents) : XS X mX3_clearContents r0 18 (rw_X3_clearContents_18 f) := s_lp (fun k18 q18 => sg_X3_clearContents_18 C q18) f
noncomputable def rw_X3_clearContents_0 (f : Nat) : XK := rg_X3_clearContents_0 (rw_X3_clearContents_18 f)
noncomputable def md_X3_clearContents_0 (p1 : Int) (p2 : Int) (p3 : Int) (f : Nat) : Ob → Option Rt := mg_X3_clearContents_0 p1 p2 p3 (md_X3_clearContents_18 p1 p2 p3 f)
theorem eq_X3_clearContents_0 (p1 : Int) (p2 : Int) (p3 : Int) (f : Nat) (a : Ob) : rw_X3_clearContents_0 f (en_X3_clearContents_0 p1 p2 p3 a) = md_X3_clearContents_0 p1 p2 p3 f a :=
 (rq_X3_clearContents_0 p1 p2 p3 (rw_X3_clearContents_18 f) a).trans (congrFun (congr (rfl : mg_X3_clearContents_0 p1 p2 p3 = mg_X3_clearContents_0 p1 p2 p3) (funext (eq_X3_clearContents_18 p1 p2 p3 f))) a)
theorem sd_X3_clearContents_0 (f : Nat) {X : XDyn} {r0 : Rt} (C : XO X mX3_clearContents) : XS X mX3_clearContents r0 0 (rw_X3_clearContents_0 f) := sg_X3_clearContents_0 C (sd_X3_clearContents_18 f C)
theorem ctr_X3_clearContents (f : Nat) : XCt yX3_clearContents mX3_clearContents (xF mX3_clearContents (rw_X3_clearContents_0 f)) := xMet (by decide +kernel) rfl (fun _ _ C => sd_X3_clearContents_0 f C)
theorem eqf_X3_clearContents (f : Nat) (p1 : Int) (p2 : Int) (p3 : Int) (h0 : Ob) : xF mX3_clearContents (rw_X3_clearContents_0 f) [.inr (.inl (0, 0)), .inl p1, .inl p2, .inl p3] [h0] = md_X3_clearContents_0 p1 p2 p3 f h0 := eq_X3_clearContents_0 p1 p2 p3 f h0
theorem yi_X3_clearContents : yX3_clearContents.cls = RX3 ∧ yX3_clearContents.cls ≠ "java/lang/invoke/MethodHandle" ∧ yX3_clearContents.cls ≠ "java/lang/invoke/VarHandle" ∧ (parseMethodDescriptor yX3_clearContents.desc).map (fun d => d.parameters.length) = some 3 := ⟨rfl, by decide +kernel, by decide +kernel, by decide +kernel⟩
theorem sp_X3_clearContents (f : Nat) (hf : 1000 ≤ f) (p1 p2 p3 : Int) (h0 : Ob) : md_X3_clearContents_0 p1 p2 p3 f h0 = RV [clrO h0 p1 p2 p3] := by
  simp only [md_X3_clearContents_0, mg_X3_clearContents_0]
  unfold clrO
  by_cases h1 : xw p1 < 0
  · rw [if_pos h1, if_neg (by omega)]
  · rw [if_neg h1]
    by_cases h2 : xw p1 ≥ 11
    · rw [if_pos h2, if_neg (by omega)]
    · rw [if_neg h2]
      by_cases h3 : xw p2 ≥ 0
      · rw [if_pos h3, if_pos (by omega)]
        unfold md_X3_clearContents_18
        generalize hf0 : f = f0
        rw [hf0] at hf
        have key : ∀ (d f : Nat) (x : Int) (h : Ob), d < f → 0 ≤ xw x → (xw p3 - xw x).toNat ≤ d ∨ (60 - xw x).toNat ≤ d → tlp (lb_X3_clearContents_18 p1 p2 p3 f0) f (x, h) = RV [fun j k => if j = 3 ∧ xw p1 * 60 + xw x ≤ (k : Int) ∧ (k : Int) < xw p1 * 60 + xw p3 ∧ (k : Int) < xw p1 * 60 + 60 then 0 else h j k] := by
          intro d
          induction d with
          | zero =>
            intro f x h hf hx hd
            cases f with
            | zero => omega
            | succ f =>
              rw [tlp_succ]
              simp only [lb_X3_clearContents_18, mg_X3_clearContents_18]
              have e : (fun (j k : Nat) => if j = 3 ∧ xw p1 * 60 + xw x ≤ (k : Int) ∧ (k : Int) < xw p1 * 60 + xw p3 ∧ (k : Int) < xw p1 * 60 + 60 then 0 else h j k) = h := by
                funext j k
                rw [if_neg (by omega)]
              rw [e]
              rcases hd with hd | hd
              · rw [if_pos (by omega)]
              · by_cases h4 : xw x ≥ xw p3
                · rw [if_pos h4]
                · rw [if_neg h4, if_pos (by omega)]
          | succ d ih =>
            intro f x h hf hx hd
            cases f with
            | zero => omega
            | succ f =>
              rw [tlp_succ]
              simp only [lb_X3_clearContents_18, mg_X3_clearContents_18]
              by_cases h4 : xw x ≥ xw p3 ∨ xw x ≥ 60
              · have e : (fun (j k : Nat) => if j = 3 ∧ xw p1 * 60 + xw x ≤ (k : Int) ∧ (k : Int) < xw p1 * 60 + xw p3 ∧ (k : Int) < xw p1 * 60 + 60 then 0 else h j k) = h := by
                  funext j k
                  rw [if_neg (by omega)]
                rw [e]
                by_cases h5 : xw x ≥ xw p3
                · rw [if_pos h5]
                · rw [if_neg h5, if_pos (by omega)]
              · have hm := xw_mul60 (a := p1) (k := x) (by omega) (by omega) hx (by omega)
                have hx1 : xw (x + 1) = xw x + 1 := by simp only [xw_def] at *; omega
                rw [if_neg (by omega), if_neg (by omega), xin_of (n := 660) (by omega) (by omega)]
                simp only [if_true]
                rw [ih f (x + 1) _ (by omega) (by omega) (by omega), hx1, hm]
                congr 2
                congr 1
                funext j k
                simp only [xset]
                by_cases hj : j = 3
                · by_cases hk : k = (xw p1 * 60 + xw x).toNat
                  · rw [if_pos (show j = 3 ∧ k = (xw p1 * 60 + xw x).toNat from ⟨hj, hk⟩), if_pos (show j = 3 ∧ xw p1 * 60 + xw x ≤ (k : Int) ∧ (k : Int) < xw p1 * 60 + xw p3 ∧ (k : Int) < xw p1 * 60 + 60 by omega)]
                    split <;> rfl
                  · rw [if_neg (show ¬ (j = 3 ∧ k = (xw p1 * 60 + xw x).toNat) from fun z => hk z.2)]
                    by_cases hc : j = 3 ∧ xw p1 * 60 + xw x ≤ (k : Int) ∧ (k : Int) < xw p1 * 60 + xw p3 ∧ (k : Int) < xw p1 * 60 + 60
                    · rw [if_pos hc, if_pos (by omega)]
                    · rw [if_neg hc, if_neg (by omega)]
                · rw [if_neg (fun z => hj z.1), if_neg (fun z => hj z.1), if_neg (fun z => hj z.1)]
        exact key 60 f0 p2 h0 (by omega) h3 (Or.inr (by omega))
      · rw [if_neg h3, if_neg (by omega)]
noncomputable def f_X3_clearContents : List AV → List Ob → Option Rt
  | [.inr (.inl (0, 0)), .inl p1, .inl p2, .inl p3], [h0] => some (none, [(clrO h0 p1 p2 p3)])
  | _, _ => none
theorem ct_X3_clearContents : XCt yX3_clearContents mX3_clearContents f_X3_clearContents := (ctr_X3_clearContents xfu).of (fun as μ r h => by
  unfold f_X3_clearContents at h
  split at h
  · rw [← h]
    exact (eqf_X3_clearContents xfu _ _ _ _).trans (sp_X3_clearContents xfu (xfu_ge (by decide)) _ _ _ _)
  · cases h)
theorem dX3_layNew_0 : decode cX3_layNew 0 = .ok (.iload_n 1, 1) := by decide +kernel
theorem dX3_layNew_1 : decode cX3_layNew 1 = .ok (.ifCond .lt 9, 3) := by decide +kernel
theorem dX3_layNew_4 : decode cX3_layNew 4 = .ok (.iload_n 1, 1) := by decide +kernel
theorem dX3_layNew_5 : decode cX3_layNew 5 = .ok (.bipush 11, 2) := by decide +kernel
theorem dX3_layNew_7 : decode cX3_layNew 7 = .ok (.if_icmp .lt 4, 3) := by decide +kernel
theorem dX3_layNew_10 : decode cX3_layNew 10 = .ok (.return_, 1) := by decide +kernel
theorem dX3_layNew_11 : decode cX3_layNew 11 = .ok (.aload_n 0, 1) := by decide +kernel
theorem dX3_layNew_12 : decode cX3_layNew 12 = .ok (.getfield 9, 3) := by decide +kernel
theorem dX3_layNew_15 : decode cX3_layNew 15 = .ok (.iload_n 1, 1) := by decide +kernel
theorem dX3_layNew_16 : decode cX3_layNew 16 = .ok (.iload_n 2, 1) := by decide +kernel
theorem dX3_layNew_17 : decode cX3_layNew 17 = .ok (.iastore, 1) := by decide +kernel
theorem dX3_layNew_18 : decode cX3_layNew 18 = .ok (.aload_n 0, 1) := by decide +kernel
theorem dX3_layNew_19 : decode cX3_layNew 19 = .ok (.getfield 15, 3) := by decide +kernel
theorem dX3_layNew_22 : decode cX3_layNew 22 = .ok (.iload_n 1, 1) := by decide +kernel
theorem dX3_layNew_23 : decode cX3_layNew 23 = .ok (.iload_n 3, 1) := by decide +kernel
theorem dX3_layNew_24 : decode cX3_layNew 24 = .ok (.iastore, 1) := by decide +kernel
theorem dX3_layNew_25 : decode cX3_layNew 25 = .ok (.aload_n 0, 1) := by decide +kernel
theorem dX3_layNew_26 : decode cX3_layNew 26 = .ok (.iload_n 1, 1) := by decide +kernel
theorem dX3_layNew_27 : decode cX3_layNew 27 = .ok (.iconst 0, 1) := by decide +kernel
theorem dX3_layNew_28 : decode cX3_layNew 28 = .ok (.iload_n 3, 1) := by decide +kernel
theorem dX3_layNew_29 : decode cX3_layNew 29 = .ok (.invokevirtual 101, 3) := by decide +kernel
theorem dX3_layNew_32 : decode cX3_layNew 32 = .ok (.return_, 1) := by decide +kernel
abbrev mX3_layNew : XM := (cX3_layNew, 4, RX3, none, shw_3, 1)
noncomputable def rg_X3_layNew_0 : XK :=
 o_iload 1 <|
 o_if_lt (o_return)
 (o_iload 1 <|
 o_iconst 11 <|
 o_icmp_lt (o_aload 0 <|
 o_get shw_3 3 0 <|
 o_iload 1 <|
 o_iload 2 <|
 o_iast shw_3 <|
 o_aload 0 <|
 o_get shw_3 3 1 <|
 o_iload 1 <|
 o_iload 3 <|
 o_iast shw_3 <|
 o_aload 0 <|
 o_iload 1 <|
 o_iconst 0 <|
 o_iload 3 <|
 o_callV 4 0 [0] f_X3_clearContents <|
 o_return)
 (o_return))
def en_X3_layNew_0 (p1 : Int) (p2 : Int) (p3 : Int) (a : Ob) : XSt := ([some (.inr (.inl (0, 0))), some (.inl p1), some (.inl p2), some (.inl p3)], [], [a])
noncomputable def mg_X3_layNew_0 (p1 : Int) (p2 : Int) (p3 : Int) (a : Ob) : Option Rt :=
 if xw p1 < 0 then (RV [a])
 else (if xw p1 < 11 then (if xin p1 11 then (
 if xin p1 11 then (
 RV [(clrO (xset (xset a 1 (xw p1).toNat p2) 2 (xw p1).toNat p3) p1 0 p3)]) else none) else none)
 else (RV [a]))
set_option maxRecDepth 100000 in
set_option maxHeartbeats 4000000 in
theorem rq_X3_layNew_0 (p1 : Int) (p2 : Int) (p3 : Int) (a : Ob) : rg_X3_layNew_0 (en_X3_layNew_0 p1 p2 p3 a) = mg_X3_layNew_0 p1 p2 p3 a := rfl
set_option maxRecDepth 100000 in
set_option maxHeartbeats 4000000 in
theorem sg_X3_layNew_0 {X : XDyn} {r0 : Rt} (C : XO X mX3_layNew) : XS X mX3_layNew r0 0 (rg_X3_layNew_0) := by
 unfold rg_X3_layNew_0
 exact s_iload_n (pc := 0) C dX3_layNew_0 rfl <|
    s_if_lt (pc := 1) C dX3_layNew_1 (by decide) (s_return (pc := 10) C rfl dX3_layNew_10)
    (s_iload_n (pc := 4) C dX3_layNew_4 rfl <|
    s_bipush (pc := 5) C dX3_layNew_5 (by decide) <|
    s_icmp_lt (pc := 7) C dX3_layNew_7 (by decide) (s_aload_n (pc := 11) C dX3_layNew_11 rfl <|
    s_get (pc := 12) C (ci := 3) (kf := 0) rfl inX3 (by decide) wd_99 dX3_layNew_12 <|
    s_iload_n (pc := 15) C dX3_layNew_15 rfl <|
    s_iload_n (pc := 16) C dX3_layNew_16 rfl <|
    s_iast (pc := 17) C dX3_layNew_17 <|
    s_aload_n (pc := 18) C dX3_layNew_18 rfl <|
    s_get (pc := 19) C (ci := 3) (kf := 1) rfl inX3 (by decide) wd_105 dX3_layNew_19 <|
    s_iload_n (pc := 22) C dX3_layNew_22 rfl <|
    s_iload_n (pc := 23) C dX3_layNew_23 rfl <|
    s_iast (pc := 24) C dX3_layNew_24 <|
    s_aload_n (pc := 25) C dX3_layNew_25 rfl <|
    s_iload_n (pc := 26) C dX3_layNew_26 rfl <|
    s_iconst (pc := 27) C dX3_layNew_27 <|
    s_iload_n (pc := 28) C dX3_layNew_28 rfl <|
    s_callV (pc := 29) C ct_X3_clearContents (n := 4) (rk := 0) (mp := [0]) ⟨rfl, by decide, rfl⟩ (ci := 3) rfl rfl (by decide) (by decide) yi_X3_clearContents (by decide) wd_534 wd_535 wd_536 wd_74 wd_537 dX3_layNew_29 <|
    s_return (pc := 32) C rfl dX3_layNew_32)
    (s_return (pc := 10) C rfl dX3_layNew_10))
noncomputable def rw_X3_layNew_0 : XK := rg_X3_layNew_0
noncomputable def md_X3_layNew_0 (p1 : Int) (p2 : Int) (p3 : Int) : Ob → Option Rt := mg_X3_layNew_0 p1 p2 p3
theorem eq_X3_layNew_0 (p1 : Int) (p2 : Int) (p3 : Int) (a : Ob) : rw_X3_layNew_0 (en_X3_layNew_0 p1 p2 p3 a) = md_X3_layNew_0 p1 p2 p3 a :=
 rq_X3_layNew_0 p1 p2 p3 a
theorem sd_X3_layNew_0 {X : XDyn} {r0 : Rt} (C : XO X mX3_layNew) : XS X mX3_layNew r0 0 (rw_X3_layNew_0) := sg_X3_layNew_0 C
theorem ctr_X3_layNew : XCt yX3_layNew mX3_layNew (xF mX3_layNew (rw_X3_layNew_0)) := xMet (by decide +kernel) rfl (fun _ _ C => sd_X3_layNew_0 C)
theorem eqf_X3_layNew (p1 : Int) (p2 : Int) (p3 : Int) (h0 : Ob) : xF mX3_layNew (rw_X3_layNew_0) [.inr (.inl (0, 0)), .inl p1, .inl p2, .inl p3] [h0] = md_X3_layNew_0 p1 p2 p3 h0 := eq_X3_layNew_0 p1 p2 p3 h0
theorem yi_X3_layNew : yX3_layNew.cls = RX3 ∧ yX3_layNew.cls ≠ "java/lang/invoke/MethodHandle" ∧ yX3_layNew.cls ≠ "java/lang/invoke/VarHandle" ∧ (parseMethodDescriptor yX3_layNew.desc).map (fun d => d.parameters.length) = some 3 := ⟨rfl, by decide +kernel, by decide +kernel, by decide +kernel⟩
theorem sp_X3_layNew (p1 p2 p3 : Int) (h0 : Ob) : md_X3_layNew_0 p1 p2 p3 h0 = RV [layO h0 p1 p2 p3] := by
  simp only [md_X3_layNew_0, mg_X3_layNew_0]
  unfold layO
  by_cases h1 : xw p1 < 0
  · rw [if_pos h1, if_neg (by omega)]
  · rw [if_neg h1]
    by_cases h2 : xw p1 < 11
    · rw [if_pos h2, xin_of (n := 11) (by omega) (by omega), if_pos rfl, if_pos rfl, if_pos (show 0 ≤ xw p1 ∧ xw p1 < 11 by omega)]
    · rw [if_neg h2, if_neg (by omega)]
noncomputable def f_X3_layNew : List AV → List Ob → Option Rt
  | [.inr (.inl (0, 0)), .inl p1, .inl p2, .inl p3], [h0] => some (none, [(layO h0 p1 p2 p3)])
  | _, _ => none
theorem ct_X3_layNew : XCt yX3_layNew mX3_layNew f_X3_layNew := (ctr_X3_layNew ).of (fun as μ r h => by
  unfold f_X3_layNew at h
  split at h
  · rw [← h]
    exact (eqf_X3_layNew _ _ _ _).trans (sp_X3_layNew _ _ _ _)
  · cases h)
