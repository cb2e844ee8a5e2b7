abbrev RX12 : String := "java/lang/Math"
abbrev RX11 : String := "java/lang/Integer"
abbrev yX12_floorMod : MethodName := ⟨"java/lang/Math", "floorMod", "(II)I"⟩
abbrev yX11_bitCount : MethodName := ⟨"java/lang/Integer", "bitCount", "(I)I"⟩
abbrev cX12_floorMod : ByteArray := prog_12_method_50_code
abbrev cX11_bitCount : ByteArray := prog_11_method_49_code
noncomputable def flm (a : Int) : Int := xop (a % 13)
theorem flm_e (a : Int) : flm a = a % 13 := xop_eq _
noncomputable def bcn (a : Int) : Int := xop (((List.range 8).filter (fun (i : Nat) => inS a (i : Int))).length : Int)
theorem bcn_e (a : Int) : bcn a = (((List.range 8).filter (fun (i : Nat) => inS a (i : Int))).length : Int) := xop_eq _
theorem xMetF {y : MethodName} {M : XM} {raw : XK} (hy : plainFor y = true) (hc : y.cls = M.2.2.1) (hS : ∀ (X : XDyn) (r0 : Rt), XO X M → XS X M r0 0 raw) : XCt y M (xF M raw) := by
  obtain ⟨cc, nL, own, ret, sh, d⟩ := M
  intro as μ r0 hF l D g ad sz
  dsimp only at hc ⊢
  refine va_MetF (cc := cc) (maxL := nL) (ret := ret) hy rfl ?_
  intro p e s m args below meth c s₁ B hml hv
  obtain ⟨rfl, hsz, hKS, hP, hXI, hlen⟩ := hv
  have hx := B.exec
  have hb := B.bytes
  have hr := B.returns
  have hts := atoms_spec (ws := xws y cc nL ret) B.pre
  have hown : s.vm.findClass y.cls = some m.cls := findClass_of_methodNamed B.named
  have hlocks := B.notSynchronized
  subst hsz
  unfold xF at hF
  dsimp only at hF
  split at hF
  · rename_i hn
    simp only [Bool.and_eq_true, decide_eq_true_eq] at hn
    have hl := lv_entry (as.map (cv ad)) (n := nL) (by rw [noL_sl as hn.1]; exact hn.2)
    rw [lg_entry_eq]
    generalize (lg_sl (as.map (cv ad)) ++ List.replicate (nL - (lg_sl (as.map (cv ad))).length) Slot.unset).toArray = lsl at hl ⊢
    have hXL : XL lsl nL ad (xpad as nL) := by
      refine ⟨hl.1, hl.2.1, Nat.le_of_eq (xpad_len as nL hn.2), fun i v hv => ?_⟩
      have := noL_args (ad := ad) as 0 i v hn.1 (xpad_nth as nL i v hv)
      rw [Nat.zero_add] at this
      exact hl.2.2 _ this
    exact hS (p, l, e, s, m, (as.map (cv ad)).toArray, below, meth, c, D, g, ad, xA ad sh s.heap.size) r0 ⟨hx, hb, hml, by rw [← hc]; exact hown, fun w hw => hts w (List.mem_cons_of_mem _ hw), hKS, hXI, fun i j ps hp => Or.inl ⟨i, j, ps, hp, rfl⟩, fun q hq => Or.inr hq, hr, hlocks⟩ (xpad as nL) [] μ hlen hF s.heap [] lsl hXL hP va_S.rf
  · cases hF
theorem dX12_floorMod_0 : decode cX12_floorMod 0 = .ok (.iload_n 0, 1) := by decide +kernel
theorem dX12_floorMod_1 : decode cX12_floorMod 1 = .ok (.iload_n 1, 1) := by decide +kernel
theorem dX12_floorMod_2 : decode cX12_floorMod 2 = .ok (.irem, 1) := by decide +kernel
theorem dX12_floorMod_3 : decode cX12_floorMod 3 = .ok (.istore_n 2, 1) := by decide +kernel
theorem dX12_floorMod_4 : decode cX12_floorMod 4 = .ok (.iload_n 0, 1) := by decide +kernel
theorem dX12_floorMod_5 : decode cX12_floorMod 5 = .ok (.iload_n 1, 1) := by decide +kernel
theorem dX12_floorMod_6 : decode cX12_floorMod 6 = .ok (.ixor, 1) := by decide +kernel
theorem dX12_floorMod_7 : decode cX12_floorMod 7 = .ok (.ifCond .ge 11, 3) := by decide +kernel
theorem dX12_floorMod_10 : decode cX12_floorMod 10 = .ok (.iload_n 2, 1) := by decide +kernel
theorem dX12_floorMod_11 : decode cX12_floorMod 11 = .ok (.ifCond .eq 7, 3) := by decide +kernel
theorem dX12_floorMod_14 : decode cX12_floorMod 14 = .ok (.iload_n 2, 1) := by decide +kernel
theorem dX12_floorMod_15 : decode cX12_floorMod 15 = .ok (.iload_n 1, 1) := by decide +kernel
theorem dX12_floorMod_16 : decode cX12_floorMod 16 = .ok (.iadd, 1) := by decide +kernel
theorem dX12_floorMod_17 : decode cX12_floorMod 17 = .ok (.ireturn, 1) := by decide +kernel
theorem dX12_floorMod_18 : decode cX12_floorMod 18 = .ok (.iload_n 2, 1) := by decide +kernel
theorem dX12_floorMod_19 : decode cX12_floorMod 19 = .ok (.ireturn, 1) := by decide +kernel
abbrev mX12_floorMod : XM := (cX12_floorMod, 3, RX12, (some .int), shw_, 0)
noncomputable def rg_X12_floorMod_0 : XK :=
 o_iload 0 <|
 o_iload 1 <|
 o_irem <|
 o_istore 2 <|
 o_iload 0 <|
 o_iload 1 <|
 o_ixor <|
 o_if_ge (o_iload 2 <|
 o_ireturn)
 (o_iload 2 <|
 o_if_eq (o_iload 2 <|
 o_ireturn)
 (o_iload 2 <|
 o_iload 1 <|
 o_iadd <|
 o_ireturn))
def en_X12_floorMod_0 (p0 : Int) (p1 : Int) (a : Unit) : XSt := ([some (.inl p0), some (.inl p1), none], [], [])
noncomputable def mg_X12_floorMod_0 (p0 : Int) (p1 : Int) (a : Unit) : Option Rt :=
 if xw p1 = 0 then none else
 if xw (xxor p0 p1) ≥ 0 then (RI (xrem p0 p1) [])
 else (if xw (xrem p0 p1) = 0 then (RI (xrem p0 p1) [])
 else (RI ((xrem p0 p1) + p1) []))
set_option maxRecDepth 100000 in
set_option maxHeartbeats 4000000 in
theorem rq_X12_floorMod_0 (p0 : Int) (p1 : Int) (a : Unit) : rg_X12_floorMod_0 (en_X12_floorMod_0 p0 p1 a) = mg_X12_floorMod_0 p0 p1 a := rfl
set_option maxRecDepth 100000 in
set_option maxHeartbeats 4000000 in
theorem sg_X12_floorMod_0 {X : XDyn} {r0 : Rt} (C : XO X mX12_floorMod) : XS X mX12_floorMod r0 0 (rg_X12_floorMod_0) := by
 unfold rg_X12_floorMod_0
 exact s_iload_n (pc := 0) C dX12_floorMod_0 rfl <|
    s_iload_n (pc := 1) C dX12_floorMod_1 rfl <|
    s_irem (pc := 2) C dX12_floorMod_2 <|
    s_istore_n (pc := 3) C dX12_floorMod_3 rfl <|
    s_iload_n (pc := 4) C dX12_floorMod_4 rfl <|
    s_iload_n (pc := 5) C dX12_floorMod_5 rfl <|
    s_ixor (pc := 6) C dX12_floorMod_6 <|
    s_if_ge (pc := 7) C dX12_floorMod_7 (by decide) (s_iload_n (pc := 18) C dX12_floorMod_18 rfl <|
    s_ireturn (pc := 19) C rfl dX12_floorMod_19)
    (s_iload_n (pc := 10) C dX12_floorMod_10 rfl <|
    s_if_eq (pc := 11) C dX12_floorMod_11 (by decide) (s_iload_n (pc := 18) C dX12_floorMod_18 rfl <|
    s_ireturn (pc := 19) C rfl dX12_floorMod_19)
    (s_iload_n (pc := 14) C dX12_floorMod_14 rfl <|
    s_iload_n (pc := 15) C dX12_floorMod_15 rfl <|
    s_iadd (pc := 16) C dX12_floorMod_16 <|
    s_ireturn (pc := 17) C rfl dX12_floorMod_17))
noncomputable def rw_X12_floorMod_0 : XK := rg_X12_floorMod_0
noncomputable def md_X12_floorMod_0 (p0 : Int) (p1 : Int) : Unit → Option Rt := mg_X12_floorMod_0 p0 p1
theorem eq_X12_floorMod_0 (p0 : Int) (p1 : Int) (a : Unit) : rw_X12_floorMod_0 (en_X12_floorMod_0 p0 p1 a) = md_X12_floorMod_0 p0 p1 a :=
 rq_X12_floorMod_0 p0 p1 a
theorem sd_X12_floorMod_0 {X : XDyn} {r0 : Rt} (C : XO X mX12_floorMod) : XS X mX12_floorMod r0 0 (rw_X12_floorMod_0) := sg_X12_floorMod_0 C
theorem ctr_X12_floorMod : XCt yX12_floorMod mX12_floorMod (xF mX12_floorMod (rw_X12_floorMod_0)) := xMetF (by decide +kernel) rfl (fun _ _ C => sd_X12_floorMod_0 C)
theorem eqf_X12_floorMod (p0 : Int) (p1 : Int) : xF mX12_floorMod (rw_X12_floorMod_0) [.inl p0, .inl p1] [] = md_X12_floorMod_0 p0 p1 () := eq_X12_floorMod_0 p0 p1 ()
theorem yi_X12_floorMod : yX12_floorMod.cls ≠ "java/lang/invoke/MethodHandle" ∧ yX12_floorMod.cls ≠ "java/lang/invoke/VarHandle" ∧ (parseMethodDescriptor yX12_floorMod.desc).map (fun d => d.parameters.length) = some 2 := ⟨by decide +kernel, by decide +kernel, by decide +kernel⟩
theorem fm_c : ∀ n : Fin 25, md_X12_floorMod_0 ((n : Nat) : Int) 13 () = RI (((n : Nat) : Int) % 13) [] := by
  intro n
  have : ∀ n : Fin 25, xw (xxor ((n : Nat) : Int) 13) ≥ 0 ∧ xrem ((n : Nat) : Int) 13 = ((n : Nat) : Int) % 13 := by decide +kernel
  obtain ⟨h1, h2⟩ := this n
  simp only [md_X12_floorMod_0, mg_X12_floorMod_0]
  rw [if_neg (by decide), if_pos h1, h2]
theorem sp_X12_floorMod (p0 p1 : Int) (hg : decide (0 ≤ p0 ∧ p0 ≤ 24 ∧ (p1 : Int) = 13) = true) : md_X12_floorMod_0 p0 p1 () = RI (flm p0) [] := by
  obtain ⟨h1, h2, rfl⟩ := of_decide_eq_true hg
  rw [flm_e]
  have := fm_c ⟨p0.toNat, by omega⟩
  rwa [show ((p0.toNat : Nat) : Int) = p0 by omega] at this
noncomputable def g_X12_floorMod : List AV → List Ob → Bool
  | [.inl p0, .inl p1], [] => decide (0 ≤ p0 ∧ p0 ≤ 24 ∧ (p1 : Int) = 13)
  | _, _ => false
noncomputable def v_X12_floorMod : List AV → List Ob → Rt
  | [.inl p0, .inl p1], [] => (some (.inl (flm p0)), [])
  | _, _ => (none, [])
theorem ct_X12_floorMod : XCt yX12_floorMod mX12_floorMod (fun as μ => if g_X12_floorMod as μ then some (v_X12_floorMod as μ) else none) := (ctr_X12_floorMod ).of (fun as μ r h => by
  split at h
  · rename_i hg
    unfold g_X12_floorMod at hg
    split at hg
    · rw [← h]
      exact (eqf_X12_floorMod _ _).trans (sp_X12_floorMod _ _ hg)
    · cases hg
  · cases h)
theorem dX11_bitCount_0 : decode cX11_bitCount 0 = .ok (.iload_n 0, 1) := by decide +kernel
theorem dX11_bitCount_1 : decode cX11_bitCount 1 = .ok (.iload_n 0, 1) := by decide +kernel
theorem dX11_bitCount_2 : decode cX11_bitCount 2 = .ok (.iconst 1, 1) := by decide +kernel
theorem dX11_bitCount_3 : decode cX11_bitCount 3 = .ok (.iushr, 1) := by decide +kernel
theorem dX11_bitCount_4 : decode cX11_bitCount 4 = .ok (.ldc_w 265, 3) := by decide +kernel
theorem dX11_bitCount_7 : decode cX11_bitCount 7 = .ok (.iand, 1) := by decide +kernel
theorem dX11_bitCount_8 : decode cX11_bitCount 8 = .ok (.isub, 1) := by decide +kernel
theorem dX11_bitCount_9 : decode cX11_bitCount 9 = .ok (.istore_n 0, 1) := by decide +kernel
theorem dX11_bitCount_10 : decode cX11_bitCount 10 = .ok (.iload_n 0, 1) := by decide +kernel
theorem dX11_bitCount_11 : decode cX11_bitCount 11 = .ok (.ldc_w 266, 3) := by decide +kernel
theorem dX11_bitCount_14 : decode cX11_bitCount 14 = .ok (.iand, 1) := by decide +kernel
theorem dX11_bitCount_15 : decode cX11_bitCount 15 = .ok (.iload_n 0, 1) := by decide +kernel
theorem dX11_bitCount_16 : decode cX11_bitCount 16 = .ok (.iconst 2, 1) := by decide +kernel
theorem dX11_bitCount_17 : decode cX11_bitCount 17 = .ok (.iushr, 1) := by decide +kernel
theorem dX11_bitCount_18 : decode cX11_bitCount 18 = .ok (.ldc_w 266, 3) := by decide +kernel
theorem dX11_bitCount_21 : decode cX11_bitCount 21 = .ok (.iand, 1) := by decide +kernel
theorem dX11_bitCount_22 : decode cX11_bitCount 22 = .ok (.iadd, 1) := by decide +kernel
theorem dX11_bitCount_23 : decode cX11_bitCount 23 = .ok (.istore_n 0, 1) := by decide +kernel
theorem dX11_bitCount_24 : decode cX11_bitCount 24 = .ok (.iload_n 0, 1) := by decide +kernel
theorem dX11_bitCount_25 : decode cX11_bitCount 25 = .ok (.iload_n 0, 1) := by decide +kernel
theorem dX11_bitCount_26 : decode cX11_bitCount 26 = .ok (.iconst 4, 1) := by decide +kernel
theorem dX11_bitCount_27 : decode cX11_bitCount 27 = .ok (.iushr, 1) := by decide +kernel
theorem dX11_bitCount_28 : decode cX11_bitCount 28 = .ok (.iadd, 1) := by decide +kernel
theorem dX11_bitCount_29 : decode cX11_bitCount 29 = .ok (.ldc_w 267, 3) := by decide +kernel
theorem dX11_bitCount_32 : decode cX11_bitCount 32 = .ok (.iand, 1) := by decide +kernel
theorem dX11_bitCount_33 : decode cX11_bitCount 33 = .ok (.istore_n 0, 1) := by decide +kernel
theorem dX11_bitCount_34 : decode cX11_bitCount 34 = .ok (.iload_n 0, 1) := by decide +kernel
theorem dX11_bitCount_35 : decode cX11_bitCount 35 = .ok (.iload_n 0, 1) := by decide +kernel
theorem dX11_bitCount_36 : decode cX11_bitCount 36 = .ok (.bipush 8, 2) := by decide +kernel
theorem dX11_bitCount_38 : decode cX11_bitCount 38 = .ok (.iushr, 1) := by decide +kernel
theorem dX11_bitCount_39 : decode cX11_bitCount 39 = .ok (.iadd, 1) := by decide +kernel
theorem dX11_bitCount_40 : decode cX11_bitCount 40 = .ok (.istore_n 0, 1) := by decide +kernel
theorem dX11_bitCount_41 : decode cX11_bitCount 41 = .ok (.iload_n 0, 1) := by decide +kernel
theorem dX11_bitCount_42 : decode cX11_bitCount 42 = .ok (.iload_n 0, 1) := by decide +kernel
theorem dX11_bitCount_43 : decode cX11_bitCount 43 = .ok (.bipush 16, 2) := by decide +kernel
theorem dX11_bitCount_45 : decode cX11_bitCount 45 = .ok (.iushr, 1) := by decide +kernel
theorem dX11_bitCount_46 : decode cX11_bitCount 46 = .ok (.iadd, 1) := by decide +kernel
theorem dX11_bitCount_47 : decode cX11_bitCount 47 = .ok (.istore_n 0, 1) := by decide +kernel
theorem dX11_bitCount_48 : decode cX11_bitCount 48 = .ok (.iload_n 0, 1) := by decide +kernel
theorem dX11_bitCount_49 : decode cX11_bitCount 49 = .ok (.bipush 63, 2) := by decide +kernel
theorem dX11_bitCount_51 : decode cX11_bitCount 51 = .ok (.iand, 1) := by decide +kernel
theorem dX11_bitCount_52 : decode cX11_bitCount 52 = .ok (.ireturn, 1) := by decide +kernel
abbrev mX11_bitCount : XM := (cX11_bitCount, 1, RX11, (some .int), shw_, 0)
noncomputable def rg_X11_bitCount_0 : XK :=
 o_iload 0 <|
 o_iload 0 <|
 o_iconst 1 <|
 o_iushr <|
 o_iconst 1431655765 <|
 o_iand <|
 o_isub <|
 o_istore 0 <|
 o_iload 0 <|
 o_iconst 858993459 <|
 o_iand <|
 o_iload 0 <|
 o_iconst 2 <|
 o_iushr <|
 o_iconst 858993459 <|
 o_iand <|
 o_iadd <|
 o_istore 0 <|
 o_iload 0 <|
 o_iload 0 <|
 o_iconst 4 <|
 o_iushr <|
 o_iadd <|
 o_iconst 252645135 <|
 o_iand <|
 o_istore 0 <|
 o_iload 0 <|
 o_iload 0 <|
 o_iconst 8 <|
 o_iushr <|
 o_iadd <|
 o_istore 0 <|
 o_iload 0 <|
 o_iload 0 <|
 o_iconst 16 <|
 o_iushr <|
 o_iadd <|
 o_istore 0 <|
 o_iload 0 <|
 o_iconst 63 <|
 o_iand <|
 o_ireturn
def en_X11_bitCount_0 (a : Int) : XSt := ([some (.inl a)], [], [])
noncomputable def mg_X11_bitCount_0 (a : Int) : Option Rt :=
 RI (xand (((xand (((xand (a - (xand (xushr a 1) 1431655765)) 858993459) + (xand (xushr (a - (xand (xushr a 1) 1431655765)) 2) 858993459)) + (xushr ((xand (a - (xand (xushr a 1) 1431655765)) 858993459) + (xand (xushr (a - (xand (xushr a 1) 1431655765)) 2) 858993459)) 4)) 252645135) + (xushr (xand (((xand (a - (xand (xushr a 1) 1431655765)) 858993459) + (xand (xushr (a - (xand (xushr a 1) 1431655765)) 2) 858993459)) + (xushr ((xand (a - (xand (xushr a 1) 1431655765)) 858993459) + (xand (xushr (a - (xand (xushr a 1) 1431655765)) 2) 858993459)) 4)) 252645135) 8)) + (xushr ((xand (((xand (a - (xand (xushr a 1) 1431655765)) 858993459) + (xand (xushr (a - (xand (xushr a 1) 1431655765)) 2) 858993459)) + (xushr ((xand (a - (xand (xushr a 1) 1431655765)) 858993459) + (xand (xushr (a - (xand (xushr a 1) 1431655765)) 2) 858993459)) 4)) 252645135) + (xushr (xand (((xand (a - (xand (xushr a 1) 1431655765)) 858993459) + (xand (xushr (a - (xand (xushr a 1) 1431655765)) 2) 858993459)) + (xushr ((xand (a - (xand (xushr a 1) 1431655765)) 858993459) + (xand (xushr (a - (xand (xushr a 1) 1431655765)) 2) 858993459)) 4)) 252645135) 8)) 16)) 63) []
set_option maxRecDepth 100000 in
set_option maxHeartbeats 4000000 in
theorem rq_X11_bitCount_0 (a : Int) : rg_X11_bitCount_0 (en_X11_bitCount_0 a) = mg_X11_bitCount_0 a := rfl
set_option maxRecDepth 100000 in
set_option maxHeartbeats 4000000 in
theorem sg_X11_bitCount_0 {X : XDyn} {r0 : Rt} (C : XO X mX11_bitCount) : XS X mX11_bitCount r0 0 (rg_X11_bitCount_0) := by
 unfold rg_X11_bitCount_0
 exact s_iload_n (pc := 0) C dX11_bitCount_0 rfl <|
    s_iload_n (pc := 1) C dX11_bitCount_1 rfl <|
    s_iconst (pc := 2) C dX11_bitCount_2 <|
    s_iushr (pc := 3) C dX11_bitCount_3 <|
    s_ldcw (pc := 4) C dX11_bitCount_4 wd_832 rfl <|
    s_iand (pc := 7) C dX11_bitCount_7 <|
    s_isub (pc := 8) C dX11_bitCount_8 <|
    s_istore_n (pc := 9) C dX11_bitCount_9 rfl <|
    s_iload_n (pc := 10) C dX11_bitCount_10 rfl <|
    s_ldcw (pc := 11) C dX11_bitCount_11 wd_833 rfl <|
    s_iand (pc := 14) C dX11_bitCount_14 <|
    s_iload_n (pc := 15) C dX11_bitCount_15 rfl <|
    s_iconst (pc := 16) C dX11_bitCount_16 <|
    s_iushr (pc := 17) C dX11_bitCount_17 <|
    s_ldcw (pc := 18) C dX11_bitCount_18 wd_833 rfl <|
    s_iand (pc := 21) C dX11_bitCount_21 <|
    s_iadd (pc := 22) C dX11_bitCount_22 <|
    s_istore_n (pc := 23) C dX11_bitCount_23 rfl <|
    s_iload_n (pc := 24) C dX11_bitCount_24 rfl <|
    s_iload_n (pc := 25) C dX11_bitCount_25 rfl <|
    s_iconst (pc := 26) C dX11_bitCount_26 <|
    s_iushr (pc := 27) C dX11_bitCount_27 <|
    s_iadd (pc := 28) C dX11_bitCount_28 <|
    s_ldcw (pc := 29) C dX11_bitCount_29 wd_834 rfl <|
    s_iand (pc := 32) C dX11_bitCount_32 <|
    s_istore_n (pc := 33) C dX11_bitCount_33 rfl <|
    s_iload_n (pc := 34) C dX11_bitCount_34 rfl <|
    s_iload_n (pc := 35) C dX11_bitCount_35 rfl <|
    s_bipush (pc := 36) C dX11_bitCount_36 (by decide) <|
    s_iushr (pc := 38) C dX11_bitCount_38 <|
    s_iadd (pc := 39) C dX11_bitCount_39 <|
    s_istore_n (pc := 40) C dX11_bitCount_40 rfl <|
    s_iload_n (pc := 41) C dX11_bitCount_41 rfl <|
    s_iload_n (pc := 42) C dX11_bitCount_42 rfl <|
    s_bipush (pc := 43) C dX11_bitCount_43 (by decide) <|
    s_iushr (pc := 45) C dX11_bitCount_45 <|
    s_iadd (pc := 46) C dX11_bitCount_46 <|
    s_istore_n (pc := 47) C dX11_bitCount_47 rfl <|
    s_iload_n (pc := 48) C dX11_bitCount_48 rfl <|
    s_bipush (pc := 49) C dX11_bitCount_49 (by decide) <|
    s_iand (pc := 51) C dX11_bitCount_51 <|
    s_ireturn (pc := 52) C rfl dX11_bitCount_52
noncomputable def rw_X11_bitCount_0 : XK := rg_X11_bitCount_0
noncomputable def md_X11_bitCount_0 : Int → Option Rt := mg_X11_bitCount_0
theorem eq_X11_bitCount_0 (a : Int) : rw_X11_bitCount_0 (en_X11_bitCount_0 a) = md_X11_bitCount_0 a :=
 rq_X11_bitCount_0 a
theorem sd_X11_bitCount_0 {X : XDyn} {r0 : Rt} (C : XO X mX11_bitCount) : XS X mX11_bitCount r0 0 (rw_X11_bitCount_0) := sg_X11_bitCount_0 C
theorem ctr_X11_bitCount : XCt yX11_bitCount mX11_bitCount (xF mX11_bitCount (rw_X11_bitCount_0)) := xMetF (by decide +kernel) rfl (fun _ _ C => sd_X11_bitCount_0 C)
theorem eqf_X11_bitCount (p0 : Int) : xF mX11_bitCount (rw_X11_bitCount_0) [.inl p0] [] = md_X11_bitCount_0 p0 := eq_X11_bitCount_0 p0
theorem yi_X11_bitCount : yX11_bitCount.cls ≠ "java/lang/invoke/MethodHandle" ∧ yX11_bitCount.cls ≠ "java/lang/invoke/VarHandle" ∧ (parseMethodDescriptor yX11_bitCount.desc).map (fun d => d.parameters.length) = some 1 := ⟨by decide +kernel, by decide +kernel, by decide +kernel⟩
theorem bc_c : ∀ n : Fin 256, xI ((mg_X11_bitCount_0 ((n : Nat) : Int)).elim 0 (fun p => p.1.elim 0 (fun v => v.elim id (fun _ => 0)))) = xI (((List.range 8).filter (fun (i : Nat) => inS ((n : Nat) : Int) (i : Int))).length : Int) := by decide +kernel
theorem sp_X11_bitCount (p0 : Int) (hg : decide (0 ≤ p0 ∧ p0 < 256) = true) : md_X11_bitCount_0 p0 = RI (bcn p0) [] := by
  obtain ⟨h1, h2⟩ := of_decide_eq_true hg
  rw [bcn_e]
  have := bc_c ⟨p0.toNat, by omega⟩
  simp only [show ((p0.toNat : Nat) : Int) = p0 by omega] at this
  simp only [md_X11_bitCount_0, mg_X11_bitCount_0]
  simp only [mg_X11_bitCount_0, Option.elim, Sum.elim_inl, id] at this
  have e2 : ∀ x : Int, xw (xand x 63) = xand x 63 := fun x => xw_of _
  have e3 : ∀ x : Int, xand x 63 = xw (xand x 63) := fun x => (xw_of _).symm
  rw [e3, ← xI_toInt, this, xI_toInt]
  have hl : ((List.range 8).filter (fun (i : Nat) => inS p0 (i : Int))).length ≤ 8 := List.length_filter_le _ _
  rw [xw_nat (by omega)]
noncomputable def g_X11_bitCount : List AV → List Ob → Bool
  | [.inl p0], [] => decide (0 ≤ p0 ∧ p0 < 256)
  | _, _ => false
noncomputable def v_X11_bitCount : List AV → List Ob → Rt
  | [.inl p0], [] => (some (.inl (bcn p0)), [])
  | _, _ => (none, [])
theorem ct_X11_bitCount : XCt yX11_bitCount mX11_bitCount (fun as μ => if g_X11_bitCount as μ then some (v_X11_bitCount as μ) else none) := (ctr_X11_bitCount ).of (fun as μ r h => by
  split at h
  · rename_i hg
    unfold g_X11_bitCount at hg
    split at hg
    · rw [← h]
      exact (eqf_X11_bitCount _).trans (sp_X11_bitCount _ hg)
    · cases hg
  · cases h)
