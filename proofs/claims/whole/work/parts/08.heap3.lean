theorem dX3_blocks_0 : decode cX3_blocks 0 = .ok (.iconst 0, 1) := by decide +kernel
theorem dX3_blocks_1 : decode cX3_blocks 1 = .ok (.istore_n 1, 1) := by decide +kernel
theorem dX3_blocks_2 : decode cX3_blocks 2 = .ok (.iconst 0, 1) := by decide +kernel
theorem dX3_blocks_3 : decode cX3_blocks 3 = .ok (.istore_n 2, 1) := by decide +kernel
theorem dX3_blocks_4 : decode cX3_blocks 4 = .ok (.iload_n 2, 1) := by decide +kernel
theorem dX3_blocks_5 : decode cX3_blocks 5 = .ok (.aload_n 0, 1) := by decide +kernel
theorem dX3_blocks_6 : decode cX3_blocks 6 = .ok (.getfield 40, 3) := by decide +kernel
theorem dX3_blocks_9 : decode cX3_blocks 9 = .ok (.if_icmp .ge 25, 3) := by decide +kernel
theorem dX3_blocks_12 : decode cX3_blocks 12 = .ok (.iinc 1 1, 3) := by decide +kernel
theorem dX3_blocks_15 : decode cX3_blocks 15 = .ok (.iload_n 2, 1) := by decide +kernel
theorem dX3_blocks_16 : decode cX3_blocks 16 = .ok (.iconst 1, 1) := by decide +kernel
theorem dX3_blocks_17 : decode cX3_blocks 17 = .ok (.iadd, 1) := by decide +kernel
theorem dX3_blocks_18 : decode cX3_blocks 18 = .ok (.aload_n 0, 1) := by decide +kernel
theorem dX3_blocks_19 : decode cX3_blocks 19 = .ok (.iload_n 2, 1) := by decide +kernel
theorem dX3_blocks_20 : decode cX3_blocks 20 = .ok (.aload_n 0, 1) := by decide +kernel
theorem dX3_blocks_21 : decode cX3_blocks 21 = .ok (.getfield 40, 3) := by decide +kernel
theorem dX3_blocks_24 : decode cX3_blocks 24 = .ok (.invokevirtual 114, 3) := by decide +kernel
theorem dX3_blocks_27 : decode cX3_blocks 27 = .ok (.invokestatic 85, 3) := by decide +kernel
theorem dX3_blocks_30 : decode cX3_blocks 30 = .ok (.istore_n 2, 1) := by decide +kernel
theorem dX3_blocks_31 : decode cX3_blocks 31 = .ok (.goto (-27), 3) := by decide +kernel
theorem dX3_blocks_34 : decode cX3_blocks 34 = .ok (.iload_n 1, 1) := by decide +kernel
theorem dX3_blocks_35 : decode cX3_blocks 35 = .ok (.ireturn, 1) := by decide +kernel
abbrev mX3_blocks : XM := (cX3_blocks, 3, RX3, (some .int), shw_3, 1)
noncomputable def rg_X3_blocks_0 (k4 : XK) : XK :=
 o_iconst 0 <|
 o_istore 1 <|
 o_iconst 0 <|
 o_istore 2 <|
 o_cut [] k4
def en_X3_blocks_0 (h0 : Ob) (a : Unit) : XSt := ([some (.inr (.inl (0, 0))), none, none], [], [h0])
noncomputable def rg_X3_blocks_4 (k4 : XK) : XK :=
 o_iload 2 <|
 o_aload 0 <|
 o_get shw_3 3 9 <|
 o_icmp_ge (o_iload 1 <|
 o_ireturn)
 (o_iinc 1 1 <|
 o_iload 2 <|
 o_iconst 1 <|
 o_iadd <|
 o_aload 0 <|
 o_iload 2 <|
 o_aload 0 <|
 o_get shw_3 3 9 <|
 o_callV 3 1 [0] f_X3_endAt <|
 o_max <|
 o_istore 2 <|
 o_cut [] k4)
def en_X3_blocks_4 (h0 : Ob) (a : Int × Int) : XSt := ([some (.inr (.inl (0, 0))), some (.inl a.1), some (.inl a.2)], [], [h0])
noncomputable def mg_X3_blocks_0 (h0 : Ob) (k4 : (Int × Int) → Option Rt) (a : Unit) : Option Rt :=
 k4 (0, 0)
set_option maxRecDepth 100000 in
set_option maxHeartbeats 4000000 in
theorem rq_X3_blocks_0 (h0 : Ob) (k4 : XK) (a : Unit) : rg_X3_blocks_0 k4 (en_X3_blocks_0 h0 a) = mg_X3_blocks_0 h0 (fun b => k4 (en_X3_blocks_4 h0 b)) a := rfl
set_option maxRecDepth 100000 in
set_option maxHeartbeats 4000000 in
theorem sg_X3_blocks_0 {X : XDyn} {r0 : Rt} (C : XO X mX3_blocks) {k4 : XK} (q4 : XS X mX3_blocks r0 4 k4) : XS X mX3_blocks r0 0 (rg_X3_blocks_0 k4) := by
 unfold rg_X3_blocks_0
 exact s_iconst (pc := 0) C dX3_blocks_0 <|
    s_istore_n (pc := 1) C dX3_blocks_1 rfl <|
    s_iconst (pc := 2) C dX3_blocks_2 <|
    s_istore_n (pc := 3) C dX3_blocks_3 rfl <|
    s_cut q4
noncomputable def mg_X3_blocks_4 (h0 : Ob) (k4 : (Int × Int) → Option Rt) (a : Int × Int) : Option Rt :=
 if xw a.2 ≥ xw (h0 0 9) then (RI a.1 [h0])
 else (k4 ((a.1 + 1), (xmax (a.2 + 1) (nxt h0 a.2 (h0 0 9)))))
set_option maxRecDepth 100000 in
set_option maxHeartbeats 4000000 in
theorem rq_X3_blocks_4 (h0 : Ob) (k4 : XK) (a : Int × Int) : rg_X3_blocks_4 k4 (en_X3_blocks_4 h0 a) = mg_X3_blocks_4 h0 (fun b => k4 (en_X3_blocks_4 h0 b)) a := rfl
set_option maxRecDepth 100000 in
set_option maxHeartbeats 4000000 in
theorem sg_X3_blocks_4 {X : XDyn} {r0 : Rt} (C : XO X mX3_blocks) {k4 : XK} (q4 : XS X mX3_blocks r0 4 k4) : XS X mX3_blocks r0 4 (rg_X3_blocks_4 k4) := by
 unfold rg_X3_blocks_4
 exact s_iload_n (pc := 4) C dX3_blocks_4 rfl <|
    s_aload_n (pc := 5) C dX3_blocks_5 rfl <|
    s_get (pc := 6) C (ci := 3) (kf := 9) rfl inX3 (by decide) wd_127 dX3_blocks_6 <|
    s_icmp_ge (pc := 9) C dX3_blocks_9 (by decide) (s_iload_n (pc := 34) C dX3_blocks_34 rfl <|
    s_ireturn (pc := 35) C rfl dX3_blocks_35)
    (s_iinc (pc := 12) C dX3_blocks_12 <|
    s_iload_n (pc := 15) C dX3_blocks_15 rfl <|
    s_iconst (pc := 16) C dX3_blocks_16 <|
    s_iadd (pc := 17) C dX3_blocks_17 <|
    s_aload_n (pc := 18) C dX3_blocks_18 rfl <|
    s_iload_n (pc := 19) C dX3_blocks_19 rfl <|
    s_aload_n (pc := 20) C dX3_blocks_20 rfl <|
    s_get (pc := 21) C (ci := 3) (kf := 9) rfl inX3 (by decide) wd_127 dX3_blocks_21 <|
    s_callV (pc := 24) C ct_X3_endAt (n := 3) (rk := 1) (mp := [0]) ⟨rfl, by decide, rfl⟩ (ci := 3) rfl rfl (by decide) (by decide) yi_X3_endAt (by decide) wd_397 wd_398 wd_399 wd_74 wd_400 dX3_blocks_24 <|
    s_max (pc := 27) C (by decide) wd_401 wd_402 wd_82 wd_403 dX3_blocks_27 <|
    s_istore_n (pc := 30) C dX3_blocks_30 rfl <|
    s_goto (pc := 31) C dX3_blocks_31 (by decide) <|
    s_cut q4)
noncomputable def rw_X3_blocks_4 (f : Nat) : XK := tlp (fun k4 => rg_X3_blocks_4 k4) f
noncomputable def lb_X3_blocks_4 (h0 : Ob) (f : Nat) : ((Int × Int) → Option Rt) → Int × Int → Option Rt := fun k4 => mg_X3_blocks_4 h0 k4
noncomputable def md_X3_blocks_4 (h0 : Ob) (f : Nat) : Int × Int → Option Rt := tlp (lb_X3_blocks_4 h0 f) f
theorem eq_X3_blocks_4 (h0 : Ob) (f : Nat) (a : Int × Int) : rw_X3_blocks_4 f (en_X3_blocks_4 h0 a) = md_X3_blocks_4 h0 f a :=
 tlp_enc (en_X3_blocks_4 h0) (fun k4 a => (rq_X3_blocks_4 h0 k4 a).trans (congrFun (congr (rfl : mg_X3_blocks_4 h0 = mg_X3_blocks_4 h0) rfl) a)) f a
theorem sd_X3_blocks_4 (f : Nat) {X : XDyn} {r0 : Rt} (C : XO X mX3_blocks) : XS X mX3_blocks r0 4 (rw_X3_blocks_4 f) := s_lp (fun k4 q4 => sg_X3_blocks_4 C q4) f
noncomputable def rw_X3_blocks_0 (f : Nat) : XK := rg_X3_blocks_0 (rw_X3_blocks_4 f)
noncomputable def md_X3_blocks_0 (h0 : Ob) (f : Nat) : Unit → Option Rt := mg_X3_blocks_0 h0 (md_X3_blocks_4 h0 f)
theorem eq_X3_blocks_0 (h0 : Ob) (f : Nat) (a : Unit) : rw_X3_blocks_0 f (en_X3_blocks_0 h0 a) = md_X3_blocks_0 h0 f a :=
 (rq_X3_blocks_0 h0 (rw_X3_blocks_4 f) a).trans (congrFun (congr (rfl : mg_X3_blocks_0 h0 = mg_X3_blocks_0 h0) (funext (eq_X3_blocks_4 h0 f))) a)
theorem sd_X3_blocks_0 (f : Nat) {X : XDyn} {r0 : Rt} (C : XO X mX3_blocks) : XS X mX3_blocks r0 0 (rw_X3_blocks_0 f) := sg_X3_blocks_0 C (sd_X3_blocks_4 f C)
theorem ctr_X3_blocks (f : Nat) : XCt yX3_blocks mX3_blocks (xF mX3_blocks (rw_X3_blocks_0 f)) := xMet (by decide +kernel) rfl (fun _ _ C => sd_X3_blocks_0 f C)
theorem eqf_X3_blocks (f : Nat) (h0 : Ob) : xF mX3_blocks (rw_X3_blocks_0 f) [.inr (.inl (0, 0))] [h0] = md_X3_blocks_0 h0 f () := eq_X3_blocks_0 h0 f ()
theorem yi_X3_blocks : yX3_blocks.cls = RX3 ∧ yX3_blocks.cls ≠ "java/lang/invoke/MethodHandle" ∧ yX3_blocks.cls ≠ "java/lang/invoke/VarHandle" ∧ (parseMethodDescriptor yX3_blocks.desc).map (fun d => d.parameters.length) = some 0 := ⟨rfl, by decide +kernel, by decide +kernel, by decide +kernel⟩
theorem sp_X3_blocks (f : Nat) (hf : 1000 ≤ f) (h0 : Ob) (hg : pd (LW h0) = true) : md_X3_blocks_0 h0 f () = RI ((wls h0 (h0 0 9)).length : Int) [h0] := by
  have hL := pd_of hg
  obtain ⟨z1, z2, z3, -⟩ := id hL
  rw [wls_e]
  show md_X3_blocks_4 h0 f (0, 0) = _
  have := loop_walk (B := lb_X3_blocks_4 h0 f) (h := h0) (e := h0 0 9) (fun k (s : Nat) => ((s : Int), k)) (fun s k => .inl (s + 1)) (fun s => RI (s : Int) [h0]) (fun _ _ => True) (fun k a b => ⟨(hL.nxc a b (by omega) (by omega)).1, (hL.nxc a b (by omega) (by omega)).2.1⟩)
    (fun kk k s a b _ => ⟨by
      simp only [md_X3_blocks_0, mg_X3_blocks_0, lb_X3_blocks_4, mg_X3_blocks_4, xw_id (x := k) (by omega) (by omega), hL.xsz]
      rw [if_neg (by omega)]
      rfl, fun _ _ => trivial⟩)
    (fun kk s _ => by
      simp only [md_X3_blocks_0, mg_X3_blocks_0, lb_X3_blocks_4, mg_X3_blocks_4, hL.xsz]
      rw [if_pos (by omega)]) wfu f 0 0 (by omega) (by omega) (by rw [wfu_e]; omega) (by rw [wfu_e]; omega) trivial
  refine this.trans ?_
  have key : ∀ (l : List Int) (s : Nat), wrun (fun (s : Nat) k => .inl (s + 1)) (fun s => RI (s : Int) [h0]) l s = RI ((l.length + s : Nat) : Int) [h0] := by
    intro l
    induction l with
    | nil => intro s; simp [wrun]
    | cons a l ih => intro s; simp only [wrun]; rw [ih, List.length_cons, show l.length + (s + 1) = l.length + 1 + s by omega]
  exact key _ 0
noncomputable def g_X3_blocks : List AV → List Ob → Bool
  | [.inr (.inl (0, 0))], [h0] => pd (LW h0)
  | _, _ => false
noncomputable def v_X3_blocks : List AV → List Ob → Rt
  | [.inr (.inl (0, 0))], [h0] => (some (.inl (((wls h0 (h0 0 9)).length : Int))), [h0])
  | _, _ => (none, [])
theorem ct_X3_blocks : XCt yX3_blocks mX3_blocks (fun as μ => if g_X3_blocks as μ then some (v_X3_blocks as μ) else none) := (ctr_X3_blocks xfu).of (fun as μ r h => by
  split at h
  · rename_i hg
    unfold g_X3_blocks at hg
    split at hg
    · rw [← h]
      exact (eqf_X3_blocks xfu _).trans (sp_X3_blocks xfu (xfu_ge (by decide)) _ hg)
    · cases hg
  · cases h)
theorem dX3_beginOfBlock_0 : decode cX3_beginOfBlock 0 = .ok (.iconst 0, 1) := by decide +kernel
theorem dX3_beginOfBlock_1 : decode cX3_beginOfBlock 1 = .ok (.istore_n 2, 1) := by decide +kernel
theorem dX3_beginOfBlock_2 : decode cX3_beginOfBlock 2 = .ok (.iconst 0, 1) := by decide +kernel
theorem dX3_beginOfBlock_3 : decode cX3_beginOfBlock 3 = .ok (.istore_n 3, 1) := by decide +kernel
theorem dX3_beginOfBlock_4 : decode cX3_beginOfBlock 4 = .ok (.iload_n 3, 1) := by decide +kernel
theorem dX3_beginOfBlock_5 : decode cX3_beginOfBlock 5 = .ok (.aload_n 0, 1) := by decide +kernel
theorem dX3_beginOfBlock_6 : decode cX3_beginOfBlock 6 = .ok (.getfield 40, 3) := by decide +kernel
theorem dX3_beginOfBlock_9 : decode cX3_beginOfBlock 9 = .ok (.if_icmp .ge 32, 3) := by decide +kernel
theorem dX3_beginOfBlock_12 : decode cX3_beginOfBlock 12 = .ok (.iload_n 2, 1) := by decide +kernel
theorem dX3_beginOfBlock_13 : decode cX3_beginOfBlock 13 = .ok (.iload_n 1, 1) := by decide +kernel
theorem dX3_beginOfBlock_14 : decode cX3_beginOfBlock 14 = .ok (.if_icmp .ne 5, 3) := by decide +kernel
theorem dX3_beginOfBlock_17 : decode cX3_beginOfBlock 17 = .ok (.iload_n 3, 1) := by decide +kernel
theorem dX3_beginOfBlock_18 : decode cX3_beginOfBlock 18 = .ok (.ireturn, 1) := by decide +kernel
theorem dX3_beginOfBlock_19 : decode cX3_beginOfBlock 19 = .ok (.iinc 2 1, 3) := by decide +kernel
theorem dX3_beginOfBlock_22 : decode cX3_beginOfBlock 22 = .ok (.iload_n 3, 1) := by decide +kernel
theorem dX3_beginOfBlock_23 : decode cX3_beginOfBlock 23 = .ok (.iconst 1, 1) := by decide +kernel
theorem dX3_beginOfBlock_24 : decode cX3_beginOfBlock 24 = .ok (.iadd, 1) := by decide +kernel
theorem dX3_beginOfBlock_25 : decode cX3_beginOfBlock 25 = .ok (.aload_n 0, 1) := by decide +kernel
theorem dX3_beginOfBlock_26 : decode cX3_beginOfBlock 26 = .ok (.iload_n 3, 1) := by decide +kernel
theorem dX3_beginOfBlock_27 : decode cX3_beginOfBlock 27 = .ok (.aload_n 0, 1) := by decide +kernel
theorem dX3_beginOfBlock_28 : decode cX3_beginOfBlock 28 = .ok (.getfield 40, 3) := by decide +kernel
theorem dX3_beginOfBlock_31 : decode cX3_beginOfBlock 31 = .ok (.invokevirtual 114, 3) := by decide +kernel
theorem dX3_beginOfBlock_34 : decode cX3_beginOfBlock 34 = .ok (.invokestatic 85, 3) := by decide +kernel
theorem dX3_beginOfBlock_37 : decode cX3_beginOfBlock 37 = .ok (.istore_n 3, 1) := by decide +kernel
theorem dX3_beginOfBlock_38 : decode cX3_beginOfBlock 38 = .ok (.goto (-34), 3) := by decide +kernel
theorem dX3_beginOfBlock_41 : decode cX3_beginOfBlock 41 = .ok (.iconst (-1), 1) := by decide +kernel
theorem dX3_beginOfBlock_42 : decode cX3_beginOfBlock 42 = .ok (.ireturn, 1) := by decide +kernel
abbrev mX3_beginOfBlock : XM := (cX3_beginOfBlock, 4, RX3, (some .int), shw_3, 1)
noncomputable def rg_X3_beginOfBlock_0 (k4 : XK) : XK :=
 o_iconst 0 <|
 o_istore 2 <|
 o_iconst 0 <|
 o_istore 3 <|
 o_cut [] k4
def en_X3_beginOfBlock_0 (p1 : Int) (h0 : Ob) (a : Unit) : XSt := ([some (.inr (.inl (0, 0))), some (.inl p1), none, none], [], [h0])
noncomputable def rg_X3_beginOfBlock_4 (k4 : XK) : XK :=
 o_iload 3 <|
 o_aload 0 <|
 o_get shw_3 3 9 <|
 o_icmp_ge (o_iconst (-1) <|
 o_ireturn)
 (o_iload 2 <|
 o_iload 1 <|
 o_icmp_ne (o_iinc 2 1 <|
 o_iload 3 <|
 o_iconst 1 <|
 o_iadd <|
 o_aload 0 <|
 o_iload 3 <|
 o_aload 0 <|
 o_get shw_3 3 9 <|
 o_callV 3 1 [0] f_X3_endAt <|
 o_max <|
 o_istore 3 <|
 o_cut [] k4)
 (o_iload 3 <|
 o_ireturn))
def en_X3_beginOfBlock_4 (p1 : Int) (h0 : Ob) (a : Int × Int) : XSt := ([some (.inr (.inl (0, 0))), some (.inl p1), some (.inl a.1), some (.inl a.2)], [], [h0])
noncomputable def mg_X3_beginOfBlock_0 (p1 : Int) (h0 : Ob) (k4 : (Int × Int) → Option Rt) (a : Unit) : Option Rt :=
 k4 (0, 0)
set_option maxRecDepth 100000 in
set_option maxHeartbeats 4000000 in
theorem rq_X3_beginOfBlock_0 (p1 : Int) (h0 : Ob) (k4 : XK) (a : Unit) : rg_X3_beginOfBlock_0 k4 (en_X3_beginOfBlock_0 p1 h0 a) = mg_X3_beginOfBlock_0 p1 h0 (fun b => k4 (en_X3_beginOfBlock_4 p1 h0 b)) a := rfl
set_option maxRecDepth 100000 in
set_option maxHeartbeats 4000000 in
theorem sg_X3_beginOfBlock_0 {X : XDyn} {r0 : Rt} (C : XO X mX3_beginOfBlock) {k4 : XK} (q4 : XS X mX3_beginOfBlock r0 4 k4) : XS X mX3_beginOfBlock r0 0 (rg_X3_beginOfBlock_0 k4) := by
 unfold rg_X3_beginOfBlock_0
 exact s_iconst (pc := 0) C dX3_beginOfBlock_0 <|
    s_istore_n (pc := 1) C dX3_beginOfBlock_1 rfl <|
    s_iconst (pc := 2) C dX3_beginOfBlock_2 <|
    s_istore_n (pc := 3) C dX3_beginOfBlock_3 rfl <|
    s_cut q4
noncomputable def mg_X3_beginOfBlock_4 (p1 : Int) (h0 : Ob) (k4 : (Int × Int) → Option Rt) (a : Int × Int) : Option Rt :=
 if xw a.2 ≥ xw (h0 0 9) then (RI (-1) [h0])
 else (if xw a.1 = xw p1 then (RI a.2 [h0])
 else (k4 ((a.1 + 1), (xmax (a.2 + 1) (nxt h0 a.2 (h0 0 9))))))
set_option maxRecDepth 100000 in
set_option maxHeartbeats 4000000 in
theorem rq_X3_beginOfBlock_4 (p1 : Int) (h0 : Ob) (k4 : XK) (a : Int × Int) : rg_X3_beginOfBlock_4 k4 (en_X3_beginOfBlock_4 p1 h0 a) = mg_X3_beginOfBlock_4 p1 h0 (fun b => k4 (en_X3_beginOfBlock_4 p1 h0 b)) a := rfl
set_option maxRecDepth 100000 in
set_option maxHeartbeats 4000000 in
theorem sg_X3_beginOfBlock_4 {X : XDyn} {r0 : Rt} (C : XO X mX3_beginOfBlock) {k4 : XK} (q4 : XS X mX3_beginOfBlock r0 4 k4) : XS X mX3_beginOfBlock r0 4 (rg_X3_beginOfBlock_4 k4) := by
 unfold rg_X3_beginOfBlock_4
 exact s_iload_n (pc := 4) C dX3_beginOfBlock_4 rfl <|
    s_aload_n (pc := 5) C dX3_beginOfBlock_5 rfl <|
    s_get (pc := 6) C (ci := 3) (kf := 9) rfl inX3 (by decide) wd_127 dX3_beginOfBlock_6 <|
    s_icmp_ge (pc := 9) C dX3_beginOfBlock_9 (by decide) (s_iconst (pc := 41) C dX3_beginOfBlock_41 <|
    s_ireturn (pc := 42) C rfl dX3_beginOfBlock_42)
    (s_iload_n (pc := 12) C dX3_beginOfBlock_12 rfl <|
    s_iload_n (pc := 13) C dX3_beginOfBlock_13 rfl <|
    s_icmp_ne (pc := 14) C dX3_beginOfBlock_14 (by decide) (s_iinc (pc := 19) C dX3_beginOfBlock_19 <|
    s_iload_n (pc := 22) C dX3_beginOfBlock_22 rfl <|
    s_iconst (pc := 23) C dX3_beginOfBlock_23 <|
    s_iadd (pc := 24) C dX3_beginOfBlock_24 <|
    s_aload_n (pc := 25) C dX3_beginOfBlock_25 rfl <|
    s_iload_n (pc := 26) C dX3_beginOfBlock_26 rfl <|
    s_aload_n (pc := 27) C dX3_beginOfBlock_27 rfl <|
    s_get (pc := 28) C (ci := 3) (kf := 9) rfl inX3 (by decide) wd_127 dX3_beginOfBlock_28 <|
    s_callV (pc := 31) C ct_X3_endAt (n := 3) (rk := 1) (mp := [0]) ⟨rfl, by decide, rfl⟩ (ci := 3) rfl rfl (by decide) (by decide) yi_X3_endAt (by decide) wd_397 wd_398 wd_399 wd_74 wd_400 dX3_beginOfBlock_31 <|
    s_max (pc := 34) C (by decide) wd_401 wd_402 wd_82 wd_403 dX3_beginOfBlock_34 <|
    s_istore_n (pc := 37) C dX3_beginOfBlock_37 rfl <|
    s_goto (pc := 38) C dX3_beginOfBlock_38 (by decide) <|
    s_cut q4)
    (s_iload_n (pc := 17) C dX3_beginOfBlock_17 rfl <|
    s_ireturn (pc := 18) C rfl dX3_beginOfBlock_18))
noncomputable def rw_X3_beginOfBlock_4 (f : Nat) : XK := tlp (fun k4 => rg_X3_beginOfBlock_4 k4) f
noncomputable def lb_X3_beginOfBlock_4 (p1 : Int) (h0 : Ob) (f : Nat) : ((Int × Int) → Option Rt) → Int × Int → Option Rt := fun k4 => mg_X3_beginOfBlock_4 p1 h0 k4
noncomputable def md_X3_beginOfBlock_4 (p1 : Int) (h0 : Ob) (f : Nat) : Int × Int → Option Rt := tlp (lb_X3_beginOfBlock_4 p1 h0 f) f
theorem eq_X3_beginOfBlock_4 (p1 : Int) (h0 : Ob) (f : Nat) (a : Int × Int) : rw_X3_beginOfBlock_4 f (en_X3_beginOfBlock_4 p1 h0 a) = md_X3_beginOfBlock_4 p1 h0 f a :=
 tlp_enc (en_X3_beginOfBlock_4 p1 h0) (fun k4 a => (rq_X3_beginOfBlock_4 p1 h0 k4 a).trans (congrFun (congr (rfl : mg_X3_beginOfBlock_4 p1 h0 = mg_X3_beginOfBlock_4 p1 h0) rfl) a)) f a
theorem sd_X3_beginOfBlock_4 (f : Nat) {X : XDyn} {r0 : Rt} (C : XO X mX3_beginOfBlock) : XS X mX3_beginOfBlock r0 4 (rw_X3_beginOfBlock_4 f) := s_lp (fun k4 q4 => sg_X3_beginOfBlock_4 C q4) f
noncomputable def rw_X3_beginOfBlock_0 (f : Nat) : XK := rg_X3_beginOfBlock_0 (rw_X3_beginOfBlock_4 f)
noncomputable def md_X3_beginOfBlock_0 (p1 : Int) (h0 : Ob) (f : Nat) : Unit → Option Rt := mg_X3_beginOfBlock_0 p1 h0 (md_X3_beginOfBlock_4 p1 h0 f)
theorem eq_X3_beginOfBlock_0 (p1 : Int) (h0 : Ob) (f : Nat) (a : Unit) : rw_X3_beginOfBlock_0 f (en_X3_beginOfBlock_0 p1 h0 a) = md_X3_beginOfBlock_0 p1 h0 f a :=
 (rq_X3_beginOfBlock_0 p1 h0 (rw_X3_beginOfBlock_4 f) a).trans (congrFun (congr (rfl : mg_X3_beginOfBlock_0 p1 h0 = mg_X3_beginOfBlock_0 p1 h0) (funext (eq_X3_beginOfBlock_4 p1 h0 f))) a)
theorem sd_X3_beginOfBlock_0 (f : Nat) {X : XDyn} {r0 : Rt} (C : XO X mX3_beginOfBlock) : XS X mX3_beginOfBlock r0 0 (rw_X3_beginOfBlock_0 f) := sg_X3_beginOfBlock_0 C (sd_X3_beginOfBlock_4 f C)
theorem ctr_X3_beginOfBlock (f : Nat) : XCt yX3_beginOfBlock mX3_beginOfBlock (xF mX3_beginOfBlock (rw_X3_beginOfBlock_0 f)) := xMet (by decide +kernel) rfl (fun _ _ C => sd_X3_beginOfBlock_0 f C)
theorem eqf_X3_beginOfBlock (f : Nat) (p1 : Int) (h0 : Ob) : xF mX3_beginOfBlock (rw_X3_beginOfBlock_0 f) [.inr (.inl (0, 0)), .inl p1] [h0] = md_X3_beginOfBlock_0 p1 h0 f () := eq_X3_beginOfBlock_0 p1 h0 f ()
theorem yi_X3_beginOfBlock : yX3_beginOfBlock.cls = RX3 ∧ yX3_beginOfBlock.cls ≠ "java/lang/invoke/MethodHandle" ∧ yX3_beginOfBlock.cls ≠ "java/lang/invoke/VarHandle" ∧ (parseMethodDescriptor yX3_beginOfBlock.desc).map (fun d => d.parameters.length) = some 1 := ⟨rfl, by decide +kernel, by decide +kernel, by decide +kernel⟩
theorem bob_key (p1 : Int) (h0 : Ob) : ∀ (l : List Int) (s : Nat), l.length + s ≤ 256 → wrun (fun (s : Nat) k => if xw (s : Int) = xw p1 then .inr (RI k [h0]) else .inl (s + 1)) (fun s => RI (-1) [h0]) l s = RI (if (s : Int) ≤ xw p1 then (l[(xw p1).toNat - s]?).getD (-1) else -1) [h0] := by
  intro l
  induction l with
  | nil => intro s _; simp [wrun]
  | cons a l ih =>
    intro s hs
    simp only [List.length_cons] at hs
    have hxs : xw (s : Int) = s := xw_nat (by omega)
    simp only [wrun, hxs]
    by_cases hc : (s : Int) = xw p1
    · simp only [hc, if_true]
      rw [if_pos (by omega), show (xw p1).toNat - s = 0 by omega]
      rfl
    · simp only [hc, if_false]
      rw [ih (s + 1) (by omega)]
      by_cases h2 : (s : Int) ≤ xw p1
      · rw [if_pos h2, if_pos (by omega), show (xw p1).toNat - s = ((xw p1).toNat - (s + 1)) + 1 by omega, List.getElem?_cons_succ]
      · rw [if_neg h2, if_neg (by omega)]
theorem wlk_len (h0 : Ob) (e : Int) : ∀ (t : Nat) (k : Int), (wlk h0 e t k).length ≤ t := by
  intro t
  induction t with
  | zero => intro k; exact Nat.le_refl _
  | succ t ih =>
    intro k
    unfold wlk
    split
    · simp only [List.length_cons]; have := ih (nx h0 e k); omega
    · simp
theorem bob_loop (f : Nat) (hf : 1000 ≤ f) (p1 : Int) (h0 : Ob) (hL : LW h0) : md_X3_beginOfBlock_4 p1 h0 f (0, 0) = wrun (fun (s : Nat) k => if xw (s : Int) = xw p1 then .inr (RI k [h0]) else .inl (s + 1)) (fun s => RI (-1) [h0]) (wlk h0 (h0 0 9) wfu 0) 0 := by
  obtain ⟨z1, z2, z3, -⟩ := id hL
  exact loop_walk (B := lb_X3_beginOfBlock_4 p1 h0 f) (h := h0) (e := h0 0 9) (fun k (s : Nat) => ((s : Int), k)) (fun s k => if xw (s : Int) = xw p1 then .inr (RI k [h0]) else .inl (s + 1)) (fun s => RI (-1) [h0]) (fun _ _ => True) (fun k a b => ⟨(hL.nxc a b (by omega) (by omega)).1, (hL.nxc a b (by omega) (by omega)).2.1⟩)
    (fun kk k s a b _ => ⟨by
      simp only [md_X3_beginOfBlock_0, mg_X3_beginOfBlock_0, lb_X3_beginOfBlock_4, mg_X3_beginOfBlock_4, xw_id (x := k) (by omega) (by omega), hL.xsz]
      rw [if_neg (by omega)]
      by_cases hc : xw (s : Int) = xw p1
      · rw [if_pos hc, if_pos hc]
      · rw [if_neg hc, if_neg hc]
        rfl, fun _ _ => trivial⟩)
    (fun kk s _ => by
      simp only [md_X3_beginOfBlock_0, mg_X3_beginOfBlock_0, lb_X3_beginOfBlock_4, mg_X3_beginOfBlock_4, hL.xsz]
      rw [if_pos (by omega)]) wfu f 0 0 (by omega) (by omega) (by rw [wfu_e]; omega) (by rw [wfu_e]; omega) trivial
theorem sp_X3_beginOfBlock (f : Nat) (hf : 1000 ≤ f) (p1 : Int) (h0 : Ob) (hg : pd (LW h0) = true) : md_X3_beginOfBlock_0 p1 h0 f () = RI (xnth (wls h0 (h0 0 9)) p1) [h0] := by
  have hL := pd_of hg
  have h1 : md_X3_beginOfBlock_0 p1 h0 f () = md_X3_beginOfBlock_4 p1 h0 f (0, 0) := rfl
  rw [h1, bob_loop f hf p1 h0 hL, bob_key p1 h0 _ 0 (Nat.le_trans (wlk_len h0 (h0 0 9) wfu 0) (Nat.le_of_eq wfu_e)), wls_e]
  unfold wlsI xnth
  rfl
noncomputable def g_X3_beginOfBlock : List AV → List Ob → Bool
  | [.inr (.inl (0, 0)), .inl p1], [h0] => pd (LW h0)
  | _, _ => false
noncomputable def v_X3_beginOfBlock : List AV → List Ob → Rt
  | [.inr (.inl (0, 0)), .inl p1], [h0] => (some (.inl (xnth (wls h0 (h0 0 9)) p1)), [h0])
  | _, _ => (none, [])
theorem ct_X3_beginOfBlock : XCt yX3_beginOfBlock mX3_beginOfBlock (fun as μ => if g_X3_beginOfBlock as μ then some (v_X3_beginOfBlock as μ) else none) := (ctr_X3_beginOfBlock xfu).of (fun as μ r h => by
  split at h
  · rename_i hg
    unfold g_X3_beginOfBlock at hg
    split at hg
    · rw [← h]
      exact (eqf_X3_beginOfBlock xfu _ _).trans (sp_X3_beginOfBlock xfu (xfu_ge (by decide)) _ _ hg)
    · cases hg
  · cases h)
theorem dX3_firstFree_0 : decode cX3_firstFree 0 = .ok (.iconst 0, 1) := by decide +kernel
theorem dX3_firstFree_1 : decode cX3_firstFree 1 = .ok (.istore_n 2, 1) := by decide +kernel
theorem dX3_firstFree_2 : decode cX3_firstFree 2 = .ok (.iload_n 2, 1) := by decide +kernel
theorem dX3_firstFree_3 : decode cX3_firstFree 3 = .ok (.aload_n 0, 1) := by decide +kernel
theorem dX3_firstFree_4 : decode cX3_firstFree 4 = .ok (.getfield 40, 3) := by decide +kernel
theorem dX3_firstFree_7 : decode cX3_firstFree 7 = .ok (.if_icmp .ge 48, 3) := by decide +kernel
theorem dX3_firstFree_10 : decode cX3_firstFree 10 = .ok (.aload_n 0, 1) := by decide +kernel
theorem dX3_firstFree_11 : decode cX3_firstFree 11 = .ok (.iload_n 2, 1) := by decide +kernel
theorem dX3_firstFree_12 : decode cX3_firstFree 12 = .ok (.invokevirtual 117, 3) := by decide +kernel
theorem dX3_firstFree_15 : decode cX3_firstFree 15 = .ok (.iconst (-1), 1) := by decide +kernel
theorem dX3_firstFree_16 : decode cX3_firstFree 16 = .ok (.if_icmp .ne 20, 3) := by decide +kernel
theorem dX3_firstFree_19 : decode cX3_firstFree 19 = .ok (.aload_n 0, 1) := by decide +kernel
theorem dX3_firstFree_20 : decode cX3_firstFree 20 = .ok (.iload_n 2, 1) := by decide +kernel
theorem dX3_firstFree_21 : decode cX3_firstFree 21 = .ok (.aload_n 0, 1) := by decide +kernel
theorem dX3_firstFree_22 : decode cX3_firstFree 22 = .ok (.getfield 40, 3) := by decide +kernel
theorem dX3_firstFree_25 : decode cX3_firstFree 25 = .ok (.invokevirtual 114, 3) := by decide +kernel
theorem dX3_firstFree_28 : decode cX3_firstFree 28 = .ok (.iload_n 2, 1) := by decide +kernel
theorem dX3_firstFree_29 : decode cX3_firstFree 29 = .ok (.isub, 1) := by decide +kernel
theorem dX3_firstFree_30 : decode cX3_firstFree 30 = .ok (.iload_n 1, 1) := by decide +kernel
theorem dX3_firstFree_31 : decode cX3_firstFree 31 = .ok (.if_icmp .lt 5, 3) := by decide +kernel
theorem dX3_firstFree_34 : decode cX3_firstFree 34 = .ok (.iload_n 2, 1) := by decide +kernel
theorem dX3_firstFree_35 : decode cX3_firstFree 35 = .ok (.ireturn, 1) := by decide +kernel
theorem dX3_firstFree_36 : decode cX3_firstFree 36 = .ok (.iload_n 2, 1) := by decide +kernel
theorem dX3_firstFree_37 : decode cX3_firstFree 37 = .ok (.iconst 1, 1) := by decide +kernel
theorem dX3_firstFree_38 : decode cX3_firstFree 38 = .ok (.iadd, 1) := by decide +kernel
theorem dX3_firstFree_39 : decode cX3_firstFree 39 = .ok (.aload_n 0, 1) := by decide +kernel
theorem dX3_firstFree_40 : decode cX3_firstFree 40 = .ok (.iload_n 2, 1) := by decide +kernel
theorem dX3_firstFree_41 : decode cX3_firstFree 41 = .ok (.aload_n 0, 1) := by decide +kernel
theorem dX3_firstFree_42 : decode cX3_firstFree 42 = .ok (.getfield 40, 3) := by decide +kernel
theorem dX3_firstFree_45 : decode cX3_firstFree 45 = .ok (.invokevirtual 114, 3) := by decide +kernel
theorem dX3_firstFree_48 : decode cX3_firstFree 48 = .ok (.invokestatic 85, 3) := by decide +kernel
theorem dX3_firstFree_51 : decode cX3_firstFree 51 = .ok (.istore_n 2, 1) := by decide +kernel
theorem dX3_firstFree_52 : decode cX3_firstFree 52 = .ok (.goto (-50), 3) := by decide +kernel
theorem dX3_firstFree_55 : decode cX3_firstFree 55 = .ok (.iconst (-1), 1) := by decide +kernel
theorem dX3_firstFree_56 : decode cX3_firstFree 56 = .ok (.ireturn, 1) := by decide +kernel
abbrev mX3_firstFree : XM := (cX3_firstFree, 3, RX3, (some .int), shw_3, 1)
noncomputable def rg_X3_firstFree_0 (k2 : XK) : XK :=
 o_iconst 0 <|
 o_istore 2 <|
 o_cut [] k2
def en_X3_firstFree_0 (p1 : Int) (h0 : Ob) (a : Unit) : XSt := ([some (.inr (.inl (0, 0))), some (.inl p1), none], [], [h0])
noncomputable def rg_X3_firstFree_2 (k36 : XK) : XK :=
 o_iload 2 <|
 o_aload 0 <|
 o_get shw_3 3 9 <|
 o_icmp_ge (o_iconst (-1) <|
 o_ireturn)
 (o_aload 0 <|
 o_iload 2 <|
 o_callV 2 1 [0] f_X3_holderAt <|
 o_iconst (-1) <|
 o_icmp_ne (o_cut [] k36)
 (o_aload 0 <|
 o_iload 2 <|
 o_aload 0 <|
 o_get shw_3 3 9 <|
 o_callV 3 1 [0] f_X3_endAt <|
 o_iload 2 <|
 o_isub <|
 o_iload 1 <|
 o_icmp_lt (o_cut [] k36)
 (o_iload 2 <|
 o_ireturn)))
def en_X3_firstFree_2 (p1 : Int) (h0 : Ob) (a : Int) : XSt := ([some (.inr (.inl (0, 0))), some (.inl p1), some (.inl a)], [], [h0])
noncomputable def rg_X3_firstFree_36 (k2 : XK) : XK :=
 o_iload 2 <|
 o_iconst 1 <|
 o_iadd <|
 o_aload 0 <|
 o_iload 2 <|
 o_aload 0 <|
 o_get shw_3 3 9 <|
 o_callV 3 1 [0] f_X3_endAt <|
 o_max <|
 o_istore 2 <|
 o_cut [] k2
def en_X3_firstFree_36 (p1 : Int) (h0 : Ob) (a : Int) : XSt := ([some (.inr (.inl (0, 0))), some (.inl p1), some (.inl a)], [], [h0])
noncomputable def mg_X3_firstFree_0 (p1 : Int) (h0 : Ob) (k2 : Int → Option Rt) (a : Unit) : Option Rt :=
 k2 0
set_option maxRecDepth 100000 in
set_option maxHeartbeats 4000000 in
theorem rq_X3_firstFree_0 (p1 : Int) (h0 : Ob) (k2 : XK) (a : Unit) : rg_X3_firstFree_0 k2 (en_X3_firstFree_0 p1 h0 a) = mg_X3_firstFree_0 p1 h0 (fun b => k2 (en_X3_firstFree_2 p1 h0 b)) a := rfl
set_option maxRecDepth 100000 in
set_option maxHeartbeats 4000000 in
theorem sg_X3_firstFree_0 {X : XDyn} {r0 : Rt} (C : XO X mX3_firstFree) {k2 : XK} (q2 : XS X mX3_firstFree r0 2 k2) : XS X mX3_firstFree r0 0 (rg_X3_firstFree_0 k2) := by
 unfold rg_X3_firstFree_0
 exact s_iconst (pc := 0) C dX3_firstFree_0 <|
    s_istore_n (pc := 1) C dX3_firstFree_1 rfl <|
    s_cut q2
noncomputable def mg_X3_firstFree_2 (p1 : Int) (h0 : Ob) (k36 : Int → Option Rt) (a : Int) : Option Rt :=
 if xw a ≥ xw (h0 0 9) then (RI (-1) [h0])
 else (if xw (hol h0 a) = (-1) then (if xw ((nxt h0 a (h0 0 9)) - a) < xw p1 then (k36 a)
 else (RI a [h0]))
 else (k36 a))
set_option maxRecDepth 100000 in
set_option maxHeartbeats 4000000 in
theorem rq_X3_firstFree_2 (p1 : Int) (h0 : Ob) (k36 : XK) (a : Int) : rg_X3_firstFree_2 k36 (en_X3_firstFree_2 p1 h0 a) = mg_X3_firstFree_2 p1 h0 (fun b => k36 (en_X3_firstFree_36 p1 h0 b)) a := rfl
set_option maxRecDepth 100000 in
set_option maxHeartbeats 4000000 in
theorem sg_X3_firstFree_2 {X : XDyn} {r0 : Rt} (C : XO X mX3_firstFree) {k36 : XK} (q36 : XS X mX3_firstFree r0 36 k36) : XS X mX3_firstFree r0 2 (rg_X3_firstFree_2 k36) := by
 unfold rg_X3_firstFree_2
 exact s_iload_n (pc := 2) C dX3_firstFree_2 rfl <|
    s_aload_n (pc := 3) C dX3_firstFree_3 rfl <|
    s_get (pc := 4) C (ci := 3) (kf := 9) rfl inX3 (by decide) wd_127 dX3_firstFree_4 <|
    s_icmp_ge (pc := 7) C dX3_firstFree_7 (by decide) (s_iconst (pc := 55) C dX3_firstFree_55 <|
    s_ireturn (pc := 56) C rfl dX3_firstFree_56)
    (s_aload_n (pc := 10) C dX3_firstFree_10 rfl <|
    s_iload_n (pc := 11) C dX3_firstFree_11 rfl <|
    s_callV (pc := 12) C ct_X3_holderAt (n := 2) (rk := 1) (mp := [0]) ⟨rfl, by decide, rfl⟩ (ci := 3) rfl rfl (by decide) (by decide) yi_X3_holderAt (by decide) wd_393 wd_394 wd_395 wd_74 wd_396 dX3_firstFree_12 <|
    s_iconst (pc := 15) C dX3_firstFree_15 <|
    s_icmp_ne (pc := 16) C dX3_firstFree_16 (by decide) (s_cut q36)
    (s_aload_n (pc := 19) C dX3_firstFree_19 rfl <|
    s_iload_n (pc := 20) C dX3_firstFree_20 rfl <|
    s_aload_n (pc := 21) C dX3_firstFree_21 rfl <|
    s_get (pc := 22) C (ci := 3) (kf := 9) rfl inX3 (by decide) wd_127 dX3_firstFree_22 <|
    s_callV (pc := 25) C ct_X3_endAt (n := 3) (rk := 1) (mp := [0]) ⟨rfl, by decide, rfl⟩ (ci := 3) rfl rfl (by decide) (by decide) yi_X3_endAt (by decide) wd_397 wd_398 wd_399 wd_74 wd_400 dX3_firstFree_25 <|
    s_iload_n (pc := 28) C dX3_firstFree_28 rfl <|
    s_isub (pc := 29) C dX3_firstFree_29 <|
    s_iload_n (pc := 30) C dX3_firstFree_30 rfl <|
    s_icmp_lt (pc := 31) C dX3_firstFree_31 (by decide) (s_cut q36)
    (s_iload_n (pc := 34) C dX3_firstFree_34 rfl <|
    s_ireturn (pc := 35) C rfl dX3_firstFree_35)))
noncomputable def mg_X3_firstFree_36 (p1 : Int) (h0 : Ob) (k2 : Int → Option Rt) (a : Int) : Option Rt :=
 k2 (xmax (a + 1) (nxt h0 a (h0 0 9)))
set_option maxRecDepth 100000 in
set_option maxHeartbeats 4000000 in
theorem rq_X3_firstFree_36 (p1 : Int) (h0 : Ob) (k2 : XK) (a : Int) : rg_X3_firstFree_36 k2 (en_X3_firstFree_36 p1 h0 a) = mg_X3_firstFree_36 p1 h0 (fun b => k2 (en_X3_firstFree_2 p1 h0 b)) a := rfl
set_option maxRecDepth 100000 in
set_option maxHeartbeats 4000000 in
theorem sg_X3_firstFree_36 {X : XDyn} {r0 : Rt} (C : XO X mX3_firstFree) {k2 : XK} (q2 : XS X mX3_firstFree r0 2 k2) : XS X mX3_firstFree r0 36 (rg_X3_firstFree_36 k2) := by
 unfold rg_X3_firstFree_36
 exact s_iload_n (pc := 36) C dX3_firstFree_36 rfl <|
    s_iconst (pc := 37) C dX3_firstFree_37 <|
    s_iadd (pc := 38) C dX3_firstFree_38 <|
    s_aload_n (pc := 39) C dX3_firstFree_39 rfl <|
    s_iload_n (pc := 40) C dX3_firstFree_40 rfl <|
    s_aload_n (pc := 41) C dX3_firstFree_41 rfl <|
    s_get (pc := 42) C (ci := 3) (kf := 9) rfl inX3 (by decide) wd_127 dX3_firstFree_42 <|
    s_callV (pc := 45) C ct_X3_endAt (n := 3) (rk := 1) (mp := [0]) ⟨rfl, by decide, rfl⟩ (ci := 3) rfl rfl (by decide) (by decide) yi_X3_endAt (by decide) wd_397 wd_398 wd_399 wd_74 wd_400 dX3_firstFree_45 <|
    s_max (pc := 48) C (by decide) wd_401 wd_402 wd_82 wd_403 dX3_firstFree_48 <|
    s_istore_n (pc := 51) C dX3_firstFree_51 rfl <|
    s_goto (pc := 52) C dX3_firstFree_52 (by decide) <|
    s_cut q2
noncomputable def rw_X3_firstFree_36 (f : Nat) (k2 : XK) : XK := rg_X3_firstFree_36 k2
noncomputable def md_X3_firstFree_36 (p1 : Int) (h0 : Ob) (f : Nat) (k2 : Int → Option Rt) : Int → Option Rt := mg_X3_firstFree_36 p1 h0 k2
theorem eq_X3_firstFree_36 (p1 : Int) (h0 : Ob) (f : Nat) (k2 : XK) (a : Int) : rw_X3_firstFree_36 f k2 (en_X3_firstFree_36 p1 h0 a) = md_X3_firstFree_36 p1 h0 f (fun b => k2 (en_X3_firstFree_2 p1 h0 b)) a :=
 (rq_X3_firstFree_36 p1 h0 k2 a).trans (congrFun (congr (rfl : mg_X3_firstFree_36 p1 h0 = mg_X3_firstFree_36 p1 h0) rfl) a)
theorem sd_X3_firstFree_36 (f : Nat) {X : XDyn} {r0 : Rt} (C : XO X mX3_firstFree) {k2 : XK} (q2 : XS X mX3_firstFree r0 2 k2) : XS X mX3_firstFree r0 36 (rw_X3_firstFree_36 f k2) := sg_X3_firstFree_36 C q2
noncomputable def rw_X3_firstFree_2 (f : Nat) : XK := tlp (fun k2 => rg_X3_firstFree_2 (rw_X3_firstFree_36 f k2)) f
noncomputable def lb_X3_firstFree_2 (p1 : Int) (h0 : Ob) (f : Nat) : ((Int) → Option Rt) → Int → Option Rt := fun k2 => mg_X3_firstFree_2 p1 h0 (md_X3_firstFree_36 p1 h0 f k2)
noncomputable def md_X3_firstFree_2 (p1 : Int) (h0 : Ob) (f : Nat) : Int → Option Rt := tlp (lb_X3_firstFree_2 p1 h0 f) f
theorem eq_X3_firstFree_2 (p1 : Int) (h0 : Ob) (f : Nat) (a : Int) : rw_X3_firstFree_2 f (en_X3_firstFree_2 p1 h0 a) = md_X3_firstFree_2 p1 h0 f a :=
 tlp_enc (en_X3_firstFree_2 p1 h0) (fun k2 a => (rq_X3_firstFree_2 p1 h0 (rw_X3_firstFree_36 f k2) a).trans (congrFun (congr (rfl : mg_X3_firstFree_2 p1 h0 = mg_X3_firstFree_2 p1 h0) (funext (eq_X3_firstFree_36 p1 h0 f k2))) a)) f a
theorem sd_X3_firstFree_2 (f : Nat) {X : XDyn} {r0 : Rt} (C : XO X mX3_firstFree) : XS X mX3_firstFree r0 2 (rw_X3_firstFree_2 f) := s_lp (fun k2 q2 => sg_X3_firstFree_2 C (sd_X3_firstFree_36 f C q2)) f
noncomputable def rw_X3_firstFree_0 (f : Nat) : XK := rg_X3_firstFree_0 (rw_X3_firstFree_2 f)
noncomputable def md_X3_firstFree_0 (p1 : Int) (h0 : Ob) (f : Nat) : Unit → Option Rt := mg_X3_firstFree_0 p1 h0 (md_X3_firstFree_2 p1 h0 f)
theorem eq_X3_firstFree_0 (p1 : Int) (h0 : Ob) (f : Nat) (a : Unit) : rw_X3_firstFree_0 f (en_X3_firstFree_0 p1 h0 a) = md_X3_firstFree_0 p1 h0 f a :=
 (rq_X3_firstFree_0 p1 h0 (rw_X3_firstFree_2 f) a).trans (congrFun (congr (rfl : mg_X3_firstFree_0 p1 h0 = mg_X3_firstFree_0 p1 h0) (funext (eq_X3_firstFree_2 p1 h0 f))) a)
theorem sd_X3_firstFree_0 (f : Nat) {X : XDyn} {r0 : Rt} (C : XO X mX3_firstFree) : XS X mX3_firstFree r0 0 (rw_X3_firstFree_0 f) := sg_X3_firstFree_0 C (sd_X3_firstFree_2 f C)
theorem ctr_X3_firstFree (f : Nat) : XCt yX3_firstFree mX3_firstFree (xF mX3_firstFree (rw_X3_firstFree_0 f)) := xMet (by decide +kernel) rfl (fun _ _ C => sd_X3_firstFree_0 f C)
theorem eqf_X3_firstFree (f : Nat) (p1 : Int) (h0 : Ob) : xF mX3_firstFree (rw_X3_firstFree_0 f) [.inr (.inl (0, 0)), .inl p1] [h0] = md_X3_firstFree_0 p1 h0 f () := eq_X3_firstFree_0 p1 h0 f ()
theorem yi_X3_firstFree : yX3_firstFree.cls = RX3 ∧ yX3_firstFree.cls ≠ "java/lang/invoke/MethodHandle" ∧ yX3_firstFree.cls ≠ "java/lang/invoke/VarHandle" ∧ (parseMethodDescriptor yX3_firstFree.desc).map (fun d => d.parameters.length) = some 1 := ⟨rfl, by decide +kernel, by decide +kernel, by decide +kernel⟩
theorem sp_X3_firstFree (f : Nat) (hf : 1000 ≤ f) (p1 : Int) (h0 : Ob) (hg : pd (LW h0) = true) : md_X3_firstFree_0 p1 h0 f () = RI (ffr h0 p1) [h0] := by
  have hL := pd_of hg
  obtain ⟨z1, z2, z3, -⟩ := id hL
  rw [ffr_e]
  show md_X3_firstFree_2 p1 h0 f 0 = _
  have := loop_walk (B := lb_X3_firstFree_2 p1 h0 f) (h := h0) (e := h0 0 9) (fun k (s : Unit) => k) (fun s k => if (decide (hol h0 k = -1) && decide (xw p1 ≤ nxt h0 k (h0 0 9) - k)) then .inr (RI k [h0]) else .inl ()) (fun s => RI (-1) [h0]) (fun _ _ => True) (fun k a b => ⟨(hL.nxc a b (by omega) (by omega)).1, (hL.nxc a b (by omega) (by omega)).2.1⟩)
    (fun kk k s a b _ => ⟨by
      have hn := hL.nxc a b (Int.le_refl _) (by omega)
      simp only [md_X3_firstFree_0, mg_X3_firstFree_0, lb_X3_firstFree_2, mg_X3_firstFree_2, md_X3_firstFree_36, mg_X3_firstFree_36, xw_id (x := k) (by omega) (by omega), hL.xsz]
      rw [if_neg (by omega)]
      have hh : xw (hol h0 k) = hol h0 k := by
        rcases hL.holc (k := k) a (by omega) with ⟨i, h1, h2, h3⟩ | ⟨h1, h3⟩ <;> rw [h3]
        · exact xw_nat (by omega)
        · decide
      rw [hh, xw_id (x := nxt h0 k (h0 0 9) - k) (by omega) (by omega)]
      by_cases hc : hol h0 k = -1
      · by_cases hd : xw p1 ≤ nxt h0 k (h0 0 9) - k
        · rw [if_pos hc, if_neg (by omega)]
          simp only [hc, hd, decide_true, Bool.and_self, if_true]
        · rw [if_pos hc, if_pos (by omega)]
          simp only [hc, hd, decide_true, decide_false, Bool.and_false]
          rfl
      · rw [if_neg hc]
        simp only [hc, decide_false, Bool.false_and]
        rfl, fun _ _ => trivial⟩)
    (fun kk s _ => by
      simp only [md_X3_firstFree_0, mg_X3_firstFree_0, lb_X3_firstFree_2, mg_X3_firstFree_2, md_X3_firstFree_36, mg_X3_firstFree_36, hL.xsz]
      rw [if_pos (by omega)]) wfu f 0 () (by omega) (by omega) (by rw [wfu_e]; omega) (by rw [wfu_e]; omega) trivial
  refine this.trans ((wrun_find _ (fun r => RI r [h0]) _).trans ?_)
  rw [show wlk h0 (h0 0 9) wfu 0 = wls h0 (h0 0 9) from (wls_e _ _).symm]
  rfl
noncomputable def g_X3_firstFree : List AV → List Ob → Bool
  | [.inr (.inl (0, 0)), .inl p1], [h0] => pd (LW h0)
  | _, _ => false
noncomputable def v_X3_firstFree : List AV → List Ob → Rt
  | [.inr (.inl (0, 0)), .inl p1], [h0] => (some (.inl (ffr h0 p1)), [h0])
  | _, _ => (none, [])
theorem ct_X3_firstFree : XCt yX3_firstFree mX3_firstFree (fun as μ => if g_X3_firstFree as μ then some (v_X3_firstFree as μ) else none) := (ctr_X3_firstFree xfu).of (fun as μ r h => by
  split at h
  · rename_i hg
    unfold g_X3_firstFree at hg
    split at hg
    · rw [← h]
      exact (eqf_X3_firstFree xfu _ _).trans (sp_X3_firstFree xfu (xfu_ge (by decide)) _ _ hg)
    · cases hg
  · cases h)
theorem dX3_firstFreeAheadOfMovable_0 : decode cX3_firstFreeAheadOfMovable 0 = .ok (.iconst 0, 1) := by decide +kernel
theorem dX3_firstFreeAheadOfMovable_1 : decode cX3_firstFreeAheadOfMovable 1 = .ok (.istore_n 1, 1) := by decide +kernel
theorem dX3_firstFreeAheadOfMovable_2 : decode cX3_firstFreeAheadOfMovable 2 = .ok (.iload_n 1, 1) := by decide +kernel
theorem dX3_firstFreeAheadOfMovable_3 : decode cX3_firstFreeAheadOfMovable 3 = .ok (.aload_n 0, 1) := by decide +kernel
theorem dX3_firstFreeAheadOfMovable_4 : decode cX3_firstFreeAheadOfMovable 4 = .ok (.getfield 40, 3) := by decide +kernel
theorem dX3_firstFreeAheadOfMovable_7 : decode cX3_firstFreeAheadOfMovable 7 = .ok (.if_icmp .ge 53, 3) := by decide +kernel
theorem dX3_firstFreeAheadOfMovable_10 : decode cX3_firstFreeAheadOfMovable 10 = .ok (.aload_n 0, 1) := by decide +kernel
theorem dX3_firstFreeAheadOfMovable_11 : decode cX3_firstFreeAheadOfMovable 11 = .ok (.iload_n 1, 1) := by decide +kernel
theorem dX3_firstFreeAheadOfMovable_12 : decode cX3_firstFreeAheadOfMovable 12 = .ok (.invokevirtual 117, 3) := by decide +kernel
theorem dX3_firstFreeAheadOfMovable_15 : decode cX3_firstFreeAheadOfMovable 15 = .ok (.iconst (-1), 1) := by decide +kernel
theorem dX3_firstFreeAheadOfMovable_16 : decode cX3_firstFreeAheadOfMovable 16 = .ok (.if_icmp .ne 25, 3) := by decide +kernel
theorem dX3_firstFreeAheadOfMovable_19 : decode cX3_firstFreeAheadOfMovable 19 = .ok (.aload_n 0, 1) := by decide +kernel
theorem dX3_firstFreeAheadOfMovable_20 : decode cX3_firstFreeAheadOfMovable 20 = .ok (.aload_n 0, 1) := by decide +kernel
theorem dX3_firstFreeAheadOfMovable_21 : decode cX3_firstFreeAheadOfMovable 21 = .ok (.aload_n 0, 1) := by decide +kernel
theorem dX3_firstFreeAheadOfMovable_22 : decode cX3_firstFreeAheadOfMovable 22 = .ok (.iload_n 1, 1) := by decide +kernel
theorem dX3_firstFreeAheadOfMovable_23 : decode cX3_firstFreeAheadOfMovable 23 = .ok (.aload_n 0, 1) := by decide +kernel
theorem dX3_firstFreeAheadOfMovable_24 : decode cX3_firstFreeAheadOfMovable 24 = .ok (.getfield 40, 3) := by decide +kernel
theorem dX3_firstFreeAheadOfMovable_27 : decode cX3_firstFreeAheadOfMovable 27 = .ok (.invokevirtual 114, 3) := by decide +kernel
theorem dX3_firstFreeAheadOfMovable_30 : decode cX3_firstFreeAheadOfMovable 30 = .ok (.invokevirtual 117, 3) := by decide +kernel
theorem dX3_firstFreeAheadOfMovable_33 : decode cX3_firstFreeAheadOfMovable 33 = .ok (.invokevirtual 75, 3) := by decide +kernel
theorem dX3_firstFreeAheadOfMovable_36 : decode cX3_firstFreeAheadOfMovable 36 = .ok (.ifCond .eq 5, 3) := by decide +kernel
theorem dX3_firstFreeAheadOfMovable_39 : decode cX3_firstFreeAheadOfMovable 39 = .ok (.iload_n 1, 1) := by decide +kernel
theorem dX3_firstFreeAheadOfMovable_40 : decode cX3_firstFreeAheadOfMovable 40 = .ok (.ireturn, 1) := by decide +kernel
theorem dX3_firstFreeAheadOfMovable_41 : decode cX3_firstFreeAheadOfMovable 41 = .ok (.iload_n 1, 1) := by decide +kernel
theorem dX3_firstFreeAheadOfMovable_42 : decode cX3_firstFreeAheadOfMovable 42 = .ok (.iconst 1, 1) := by decide +kernel
theorem dX3_firstFreeAheadOfMovable_43 : decode cX3_firstFreeAheadOfMovable 43 = .ok (.iadd, 1) := by decide +kernel
theorem dX3_firstFreeAheadOfMovable_44 : decode cX3_firstFreeAheadOfMovable 44 = .ok (.aload_n 0, 1) := by decide +kernel
theorem dX3_firstFreeAheadOfMovable_45 : decode cX3_firstFreeAheadOfMovable 45 = .ok (.iload_n 1, 1) := by decide +kernel
theorem dX3_firstFreeAheadOfMovable_46 : decode cX3_firstFreeAheadOfMovable 46 = .ok (.aload_n 0, 1) := by decide +kernel
theorem dX3_firstFreeAheadOfMovable_47 : decode cX3_firstFreeAheadOfMovable 47 = .ok (.getfield 40, 3) := by decide +kernel
theorem dX3_firstFreeAheadOfMovable_50 : decode cX3_firstFreeAheadOfMovable 50 = .ok (.invokevirtual 114, 3) := by decide +kernel
theorem dX3_firstFreeAheadOfMovable_53 : decode cX3_firstFreeAheadOfMovable 53 = .ok (.invokestatic 85, 3) := by decide +kernel
theorem dX3_firstFreeAheadOfMovable_56 : decode cX3_firstFreeAheadOfMovable 56 = .ok (.istore_n 1, 1) := by decide +kernel
theorem dX3_firstFreeAheadOfMovable_57 : decode cX3_firstFreeAheadOfMovable 57 = .ok (.goto (-55), 3) := by decide +kernel
theorem dX3_firstFreeAheadOfMovable_60 : decode cX3_firstFreeAheadOfMovable 60 = .ok (.iconst (-1), 1) := by decide +kernel
theorem dX3_firstFreeAheadOfMovable_61 : decode cX3_firstFreeAheadOfMovable 61 = .ok (.ireturn, 1) := by decide +kernel
abbrev mX3_firstFreeAheadOfMovable : XM := (cX3_firstFreeAheadOfMovable, 2, RX3, (some .int), shw_3, 1)
noncomputable def rg_X3_firstFreeAheadOfMovable_0 (k2 : XK) : XK :=
 o_iconst 0 <|
 o_istore 1 <|
 o_cut [] k2
def en_X3_firstFreeAheadOfMovable_0 (h0 : Ob) (a : Unit) : XSt := ([some (.inr (.inl (0, 0))), none], [], [h0])
noncomputable def rg_X3_firstFreeAheadOfMovable_2 (k41 : XK) : XK :=
 o_iload 1 <|
 o_aload 0 <|
 o_get shw_3 3 9 <|
 o_icmp_ge (o_iconst (-1) <|
 o_ireturn)
 (o_aload 0 <|
 o_iload 1 <|
 o_callV 2 1 [0] f_X3_holderAt <|
 o_iconst (-1) <|
 o_icmp_ne (o_cut [] k41)
 (o_aload 0 <|
 o_aload 0 <|
 o_aload 0 <|
 o_iload 1 <|
 o_aload 0 <|
 o_get shw_3 3 9 <|
 o_callV 3 1 [0] f_X3_endAt <|
 o_callV 2 1 [0] f_X3_holderAt <|
 o_callV 2 1 [0] f_X3_isMovable <|
 o_if_eq (o_cut [] k41)
 (o_iload 1 <|
 o_ireturn)))
def en_X3_firstFreeAheadOfMovable_2 (h0 : Ob) (a : Int) : XSt := ([some (.inr (.inl (0, 0))), some (.inl a)], [], [h0])
noncomputable def rg_X3_firstFreeAheadOfMovable_41 (k2 : XK) : XK :=
 o_iload 1 <|
 o_iconst 1 <|
 o_iadd <|
 o_aload 0 <|
 o_iload 1 <|
 o_aload 0 <|
 o_get shw_3 3 9 <|
 o_callV 3 1 [0] f_X3_endAt <|
 o_max <|
 o_istore 1 <|
 o_cut [] k2
def en_X3_firstFreeAheadOfMovable_41 (h0 : Ob) (a : Int) : XSt := ([some (.inr (.inl (0, 0))), some (.inl a)], [], [h0])
noncomputable def mg_X3_firstFreeAheadOfMovable_0 (h0 : Ob) (k2 : Int → Option Rt) (a : Unit) : Option Rt :=
 k2 0
set_option maxRecDepth 100000 in
set_option maxHeartbeats 4000000 in
theorem rq_X3_firstFreeAheadOfMovable_0 (h0 : Ob) (k2 : XK) (a : Unit) : rg_X3_firstFreeAheadOfMovable_0 k2 (en_X3_firstFreeAheadOfMovable_0 h0 a) = mg_X3_firstFreeAheadOfMovable_0 h0 (fun b => k2 (en_X3_firstFreeAheadOfMovable_2 h0 b)) a := rfl
set_option maxRecDepth 100000 in
set_option maxHeartbeats 4000000 in
theorem sg_X3_firstFreeAheadOfMovable_0 {X : XDyn} {r0 : Rt} (C : XO X mX3_firstFreeAheadOfMovable) {k2 : XK} (q2 : XS X mX3_firstFreeAheadOfMovable r0 2 k2) : XS X mX3_firstFreeAheadOfMovable r0 0 (rg_X3_firstFreeAheadOfMovable_0 k2) := by
 unfold rg_X3_firstFreeAheadOfMovable_0
 exact s_iconst (pc := 0) C dX3_firstFreeAheadOfMovable_0 <|
    s_istore_n (pc := 1) C dX3_firstFreeAheadOfMovable_1 rfl <|
    s_cut q2
noncomputable def mg_X3_firstFreeAheadOfMovable_2 (h0 : Ob) (k41 : Int → Option Rt) (a : Int) : Option Rt :=
 if xw a ≥ xw (h0 0 9) then (RI (-1) [h0])
 else (if xw (hol h0 a) = (-1) then (if xw (bz (mov h0 (hol h0 (nxt h0 a (h0 0 9))))) = 0 then (k41 a)
 else (RI a [h0]))
 else (k41 a))
set_option maxRecDepth 100000 in
set_option maxHeartbeats 4000000 in
theorem rq_X3_firstFreeAheadOfMovable_2 (h0 : Ob) (k41 : XK) (a : Int) : rg_X3_firstFreeAheadOfMovable_2 k41 (en_X3_firstFreeAheadOfMovable_2 h0 a) = mg_X3_firstFreeAheadOfMovable_2 h0 (fun b => k41 (en_X3_firstFreeAheadOfMovable_41 h0 b)) a := rfl
set_option maxRecDepth 100000 in
set_option maxHeartbeats 4000000 in
theorem sg_X3_firstFreeAheadOfMovable_2 {X : XDyn} {r0 : Rt} (C : XO X mX3_firstFreeAheadOfMovable) {k41 : XK} (q41 : XS X mX3_firstFreeAheadOfMovable r0 41 k41) : XS X mX3_firstFreeAheadOfMovable r0 2 (rg_X3_firstFreeAheadOfMovable_2 k41) := by
 unfold rg_X3_firstFreeAheadOfMovable_2
 exact s_iload_n (pc := 2) C dX3_firstFreeAheadOfMovable_2 rfl <|
    s_aload_n (pc := 3) C dX3_firstFreeAheadOfMovable_3 rfl <|
    s_get (pc := 4) C (ci := 3) (kf := 9) rfl inX3 (by decide) wd_127 dX3_firstFreeAheadOfMovable_4 <|
    s_icmp_ge (pc := 7) C dX3_firstFreeAheadOfMovable_7 (by decide) (s_iconst (pc := 60) C dX3_firstFreeAheadOfMovable_60 <|
    s_ireturn (pc := 61) C rfl dX3_firstFreeAheadOfMovable_61)
    (s_aload_n (pc := 10) C dX3_firstFreeAheadOfMovable_10 rfl <|
    s_iload_n (pc := 11) C dX3_firstFreeAheadOfMovable_11 rfl <|
    s_callV (pc := 12) C ct_X3_holderAt (n := 2) (rk := 1) (mp := [0]) ⟨rfl, by decide, rfl⟩ (ci := 3) rfl rfl (by decide) (by decide) yi_X3_holderAt (by decide) wd_393 wd_394 wd_395 wd_74 wd_396 dX3_firstFreeAheadOfMovable_12 <|
    s_iconst (pc := 15) C dX3_firstFreeAheadOfMovable_15 <|
    s_icmp_ne (pc := 16) C dX3_firstFreeAheadOfMovable_16 (by decide) (s_cut q41)
    (s_aload_n (pc := 19) C dX3_firstFreeAheadOfMovable_19 rfl <|
    s_aload_n (pc := 20) C dX3_firstFreeAheadOfMovable_20 rfl <|
    s_aload_n (pc := 21) C dX3_firstFreeAheadOfMovable_21 rfl <|
    s_iload_n (pc := 22) C dX3_firstFreeAheadOfMovable_22 rfl <|
    s_aload_n (pc := 23) C dX3_firstFreeAheadOfMovable_23 rfl <|
    s_get (pc := 24) C (ci := 3) (kf := 9) rfl inX3 (by decide) wd_127 dX3_firstFreeAheadOfMovable_24 <|
    s_callV (pc := 27) C ct_X3_endAt (n := 3) (rk := 1) (mp := [0]) ⟨rfl, by decide, rfl⟩ (ci := 3) rfl rfl (by decide) (by decide) yi_X3_endAt (by decide) wd_397 wd_398 wd_399 wd_74 wd_400 dX3_firstFreeAheadOfMovable_27 <|
    s_callV (pc := 30) C ct_X3_holderAt (n := 2) (rk := 1) (mp := [0]) ⟨rfl, by decide, rfl⟩ (ci := 3) rfl rfl (by decide) (by decide) yi_X3_holderAt (by decide) wd_393 wd_394 wd_395 wd_74 wd_396 dX3_firstFreeAheadOfMovable_30 <|
    s_callV (pc := 33) C ct_X3_isMovable (n := 2) (rk := 1) (mp := [0]) ⟨rfl, by decide, rfl⟩ (ci := 3) rfl rfl (by decide) (by decide) yi_X3_isMovable (by decide) wd_412 wd_413 wd_414 wd_74 wd_415 dX3_firstFreeAheadOfMovable_33 <|
    s_if_eq (pc := 36) C dX3_firstFreeAheadOfMovable_36 (by decide) (s_cut q41)
    (s_iload_n (pc := 39) C dX3_firstFreeAheadOfMovable_39 rfl <|
    s_ireturn (pc := 40) C rfl dX3_firstFreeAheadOfMovable_40)))
noncomputable def mg_X3_firstFreeAheadOfMovable_41 (h0 : Ob) (k2 : Int → Option Rt) (a : Int) : Option Rt :=
 k2 (xmax (a + 1) (nxt h0 a (h0 0 9)))
set_option maxRecDepth 100000 in
set_option maxHeartbeats 4000000 in
theorem rq_X3_firstFreeAheadOfMovable_41 (h0 : Ob) (k2 : XK) (a : Int) : rg_X3_firstFreeAheadOfMovable_41 k2 (en_X3_firstFreeAheadOfMovable_41 h0 a) = mg_X3_firstFreeAheadOfMovable_41 h0 (fun b => k2 (en_X3_firstFreeAheadOfMovable_2 h0 b)) a := rfl
set_option maxRecDepth 100000 in
set_option maxHeartbeats 4000000 in
theorem sg_X3_firstFreeAheadOfMovable_41 {X : XDyn} {r0 : Rt} (C : XO X mX3_firstFreeAheadOfMovable) {k2 : XK} (q2 : XS X mX3_firstFreeAheadOfMovable r0 2 k2) : XS X mX3_firstFreeAheadOfMovable r0 41 (rg_X3_firstFreeAheadOfMovable_41 k2) := by
 unfold rg_X3_firstFreeAheadOfMovable_41
 exact s_iload_n (pc := 41) C dX3_firstFreeAheadOfMovable_41 rfl <|
    s_iconst (pc := 42) C dX3_firstFreeAheadOfMovable_42 <|
    s_iadd (pc := 43) C dX3_firstFreeAheadOfMovable_43 <|
    s_aload_n (pc := 44) C dX3_firstFreeAheadOfMovable_44 rfl <|
    s_iload_n (pc := 45) C dX3_firstFreeAheadOfMovable_45 rfl <|
    s_aload_n (pc := 46) C dX3_firstFreeAheadOfMovable_46 rfl <|
    s_get (pc := 47) C (ci := 3) (kf := 9) rfl inX3 (by decide) wd_127 dX3_firstFreeAheadOfMovable_47 <|
    s_callV (pc := 50) C ct_X3_endAt (n := 3) (rk := 1) (mp := [0]) ⟨rfl, by decide, rfl⟩ (ci := 3) rfl rfl (by decide) (by decide) yi_X3_endAt (by decide) wd_397 wd_398 wd_399 wd_74 wd_400 dX3_firstFreeAheadOfMovable_50 <|
    s_max (pc := 53) C (by decide) wd_401 wd_402 wd_82 wd_403 dX3_firstFreeAheadOfMovable_53 <|
    s_istore_n (pc := 56) C dX3_firstFreeAheadOfMovable_56 rfl <|
    s_goto (pc := 57) C dX3_firstFreeAheadOfMovable_57 (by decide) <|
    s_cut q2
noncomputable def rw_X3_firstFreeAheadOfMovable_41 (f : Nat) (k2 : XK) : XK := rg_X3_firstFreeAheadOfMovable_41 k2
noncomputable def md_X3_firstFreeAheadOfMovable_41 (h0 : Ob) (f : Nat) (k2 : Int → Option Rt) : Int → Option Rt := mg_X3_firstFreeAheadOfMovable_41 h0 k2
theorem eq_X3_firstFreeAheadOfMovable_41 (h0 : Ob) (f : Nat) (k2 : XK) (a : Int) : rw_X3_firstFreeAheadOfMovable_41 f k2 (en_X3_firstFreeAheadOfMovable_41 h0 a) = md_X3_firstFreeAheadOfMovable_41 h0 f (fun b => k2 (en_X3_firstFreeAheadOfMovable_2 h0 b)) a :=
 (rq_X3_firstFreeAheadOfMovable_41 h0 k2 a).trans (congrFun (congr (rfl : mg_X3_firstFreeAheadOfMovable_41 h0 = mg_X3_firstFreeAheadOfMovable_41 h0) rfl) a)
theorem sd_X3_firstFreeAheadOfMovable_41 (f : Nat) {X : XDyn} {r0 : Rt} (C : XO X mX3_firstFreeAheadOfMovable) {k2 : XK} (q2 : XS X mX3_firstFreeAheadOfMovable r0 2 k2) : XS X mX3_firstFreeAheadOfMovable r0 41 (rw_X3_firstFreeAheadOfMovable_41 f k2) := sg_X3_firstFreeAheadOfMovable_41 C q2
noncomputable def rw_X3_firstFreeAheadOfMovable_2 (f : Nat) : XK := tlp (fun k2 => rg_X3_firstFreeAheadOfMovable_2 (rw_X3_firstFreeAheadOfMovable_41 f k2)) f
noncomputable def lb_X3_firstFreeAheadOfMovable_2 (h0 : Ob) (f : Nat) : ((Int) → Option Rt) → Int → Option Rt := fun k2 => mg_X3_firstFreeAheadOfMovable_2 h0 (md_X3_firstFreeAheadOfMovable_41 h0 f k2)
noncomputable def md_X3_firstFreeAheadOfMovable_2 (h0 : Ob) (f : Nat) : Int → Option Rt := tlp (lb_X3_firstFreeAheadOfMovable_2 h0 f) f
theorem eq_X3_firstFreeAheadOfMovable_2 (h0 : Ob) (f : Nat) (a : Int) : rw_X3_firstFreeAheadOfMovable_2 f (en_X3_firstFreeAheadOfMovable_2 h0 a) = md_X3_firstFreeAheadOfMovable_2 h0 f a :=
 tlp_enc (en_X3_firstFreeAheadOfMovable_2 h0) (fun k2 a => (rq_X3_firstFreeAheadOfMovable_2 h0 (rw_X3_firstFreeAheadOfMovable_41 f k2) a).trans (congrFun (congr (rfl : mg_X3_firstFreeAheadOfMovable_2 h0 = mg_X3_firstFreeAheadOfMovable_2 h0) (funext (eq_X3_firstFreeAheadOfMovable_41 h0 f k2))) a)) f a
theorem sd_X3_firstFreeAheadOfMovable_2 (f : Nat) {X : XDyn} {r0 : Rt} (C : XO X mX3_firstFreeAheadOfMovable) : XS X mX3_firstFreeAheadOfMovable r0 2 (rw_X3_firstFreeAheadOfMovable_2 f) := s_lp (fun k2 q2 => sg_X3_firstFreeAheadOfMovable_2 C (sd_X3_firstFreeAheadOfMovable_41 f C q2)) f
noncomputable def rw_X3_firstFreeAheadOfMovable_0 (f : Nat) : XK := rg_X3_firstFreeAheadOfMovable_0 (rw_X3_firstFreeAheadOfMovable_2 f)
noncomputable def md_X3_firstFreeAheadOfMovable_0 (h0 : Ob) (f : Nat) : Unit → Option Rt := mg_X3_firstFreeAheadOfMovable_0 h0 (md_X3_firstFreeAheadOfMovable_2 h0 f)
theorem eq_X3_firstFreeAheadOfMovable_0 (h0 : Ob) (f : Nat) (a : Unit) : rw_X3_firstFreeAheadOfMovable_0 f (en_X3_firstFreeAheadOfMovable_0 h0 a) = md_X3_firstFreeAheadOfMovable_0 h0 f a :=
 (rq_X3_firstFreeAheadOfMovable_0 h0 (rw_X3_firstFreeAheadOfMovable_2 f) a).trans (congrFun (congr (rfl : mg_X3_firstFreeAheadOfMovable_0 h0 = mg_X3_firstFreeAheadOfMovable_0 h0) (funext (eq_X3_firstFreeAheadOfMovable_2 h0 f))) a)
theorem sd_X3_firstFreeAheadOfMovable_0 (f : Nat) {X : XDyn} {r0 : Rt} (C : XO X mX3_firstFreeAheadOfMovable) : XS X mX3_firstFreeAheadOfMovable r0 0 (rw_X3_firstFreeAheadOfMovable_0 f) := sg_X3_firstFreeAheadOfMovable_0 C (sd_X3_firstFreeAheadOfMovable_2 f C)
theorem ctr_X3_firstFreeAheadOfMovable (f : Nat) : XCt yX3_firstFreeAheadOfMovable mX3_firstFreeAheadOfMovable (xF mX3_firstFreeAheadOfMovable (rw_X3_firstFreeAheadOfMovable_0 f)) := xMet (by decide +kernel) rfl (fun _ _ C => sd_X3_firstFreeAheadOfMovable_0 f C)
theorem eqf_X3_firstFreeAheadOfMovable (f : Nat) (h0 : Ob) : xF mX3_firstFreeAheadOfMovable (rw_X3_firstFreeAheadOfMovable_0 f) [.inr (.inl (0, 0))] [h0] = md_X3_firstFreeAheadOfMovable_0 h0 f () := eq_X3_firstFreeAheadOfMovable_0 h0 f ()
theorem yi_X3_firstFreeAheadOfMovable : yX3_firstFreeAheadOfMovable.cls = RX3 ∧ yX3_firstFreeAheadOfMovable.cls ≠ "java/lang/invoke/MethodHandle" ∧ yX3_firstFreeAheadOfMovable.cls ≠ "java/lang/invoke/VarHandle" ∧ (parseMethodDescriptor yX3_firstFreeAheadOfMovable.desc).map (fun d => d.parameters.length) = some 0 := ⟨rfl, by decide +kernel, by decide +kernel, by decide +kernel⟩
theorem sp_X3_firstFreeAheadOfMovable (f : Nat) (hf : 1000 ≤ f) (h0 : Ob) (hg : pd (LW h0) = true) : md_X3_firstFreeAheadOfMovable_0 h0 f () = RI (ffm h0) [h0] := by
  have hL := pd_of hg
  obtain ⟨z1, z2, z3, -⟩ := id hL
  rw [ffm_e]
  show md_X3_firstFreeAheadOfMovable_2 h0 f 0 = _
  have := loop_walk (B := lb_X3_firstFreeAheadOfMovable_2 h0 f) (h := h0) (e := h0 0 9) (fun k (s : Unit) => k) (fun s k => if (decide (hol h0 k = -1) && mov h0 (hol h0 (nxt h0 k (h0 0 9)))) then .inr (RI k [h0]) else .inl ()) (fun s => RI (-1) [h0]) (fun _ _ => True) (fun k a b => ⟨(hL.nxc a b (by omega) (by omega)).1, (hL.nxc a b (by omega) (by omega)).2.1⟩)
    (fun kk k s a b _ => ⟨by
      simp only [md_X3_firstFreeAheadOfMovable_0, mg_X3_firstFreeAheadOfMovable_0, lb_X3_firstFreeAheadOfMovable_2, mg_X3_firstFreeAheadOfMovable_2, md_X3_firstFreeAheadOfMovable_41, mg_X3_firstFreeAheadOfMovable_41, xw_id (x := k) (by omega) (by omega), hL.xsz, bz_0]
      rw [if_neg (by omega)]
      have hh : xw (hol h0 k) = hol h0 k := by
        rcases hL.holc (k := k) a (by omega) with ⟨i, h1, h2, h3⟩ | ⟨h1, h3⟩ <;> rw [h3]
        · exact xw_nat (by omega)
        · decide
      rw [hh]
      by_cases hc : hol h0 k = -1
      · rw [if_pos hc]
        cases hd : mov h0 (hol h0 (nxt h0 k (h0 0 9)))
        · simp only [hc, decide_true, Bool.and_false]
          rfl
        · simp only [hc, decide_true, Bool.and_self, if_true]
          rfl
      · rw [if_neg hc]
        simp only [hc, decide_false, Bool.false_and]
        rfl, fun _ _ => trivial⟩)
    (fun kk s _ => by
      simp only [md_X3_firstFreeAheadOfMovable_0, mg_X3_firstFreeAheadOfMovable_0, lb_X3_firstFreeAheadOfMovable_2, mg_X3_firstFreeAheadOfMovable_2, md_X3_firstFreeAheadOfMovable_41, mg_X3_firstFreeAheadOfMovable_41, hL.xsz]
      rw [if_pos (by omega)]) wfu f 0 () (by omega) (by omega) (by rw [wfu_e]; omega) (by rw [wfu_e]; omega) trivial
  refine this.trans ((wrun_find _ (fun r => RI r [h0]) _).trans ?_)
  rw [show wlk h0 (h0 0 9) wfu 0 = wls h0 (h0 0 9) from (wls_e _ _).symm]
  rfl
noncomputable def g_X3_firstFreeAheadOfMovable : List AV → List Ob → Bool
  | [.inr (.inl (0, 0))], [h0] => pd (LW h0)
  | _, _ => false
noncomputable def v_X3_firstFreeAheadOfMovable : List AV → List Ob → Rt
  | [.inr (.inl (0, 0))], [h0] => (some (.inl (ffm h0)), [h0])
  | _, _ => (none, [])
theorem ct_X3_firstFreeAheadOfMovable : XCt yX3_firstFreeAheadOfMovable mX3_firstFreeAheadOfMovable (fun as μ => if g_X3_firstFreeAheadOfMovable as μ then some (v_X3_firstFreeAheadOfMovable as μ) else none) := (ctr_X3_firstFreeAheadOfMovable xfu).of (fun as μ r h => by
  split at h
  · rename_i hg
    unfold g_X3_firstFreeAheadOfMovable at hg
    split at hg
    · rw [← h]
      exact (eqf_X3_firstFreeAheadOfMovable xfu _).trans (sp_X3_firstFreeAheadOfMovable xfu (xfu_ge (by decide)) _ hg)
    · cases hg
  · cases h)
