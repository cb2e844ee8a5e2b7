theorem dX8_mostThen_0 : decode cX8_mostThen 0 = .ok (.aload_n 0, 1) := by decide +kernel
theorem dX8_mostThen_1 : decode cX8_mostThen 1 = .ok (.invokevirtual 109, 3) := by decide +kernel
theorem dX8_mostThen_4 : decode cX8_mostThen 4 = .ok (.aload_n 0, 1) := by decide +kernel
theorem dX8_mostThen_5 : decode cX8_mostThen 5 = .ok (.aload_n 0, 1) := by decide +kernel
theorem dX8_mostThen_6 : decode cX8_mostThen 6 = .ok (.getfield 7, 3) := by decide +kernel
theorem dX8_mostThen_9 : decode cX8_mostThen 9 = .ok (.iconst 1, 1) := by decide +kernel
theorem dX8_mostThen_10 : decode cX8_mostThen 10 = .ok (.iaload, 1) := by decide +kernel
theorem dX8_mostThen_11 : decode cX8_mostThen 11 = .ok (.invokevirtual 139, 3) := by decide +kernel
theorem dX8_mostThen_14 : decode cX8_mostThen 14 = .ok (.aload_n 0, 1) := by decide +kernel
theorem dX8_mostThen_15 : decode cX8_mostThen 15 = .ok (.iload_n 1, 1) := by decide +kernel
theorem dX8_mostThen_16 : decode cX8_mostThen 16 = .ok (.invokevirtual 142, 3) := by decide +kernel
theorem dX8_mostThen_19 : decode cX8_mostThen 19 = .ok (.ireturn, 1) := by decide +kernel
abbrev mX8_mostThen : XM := (cX8_mostThen, 2, RX8, (some .int), shw_8, 3)
noncomputable def rg_X8_mostThen_0 : XK :=
 o_aload 0 <|
 o_callVg 1 0 [0] g_X8_fillsOwners v_X8_fillsOwners <|
 o_aload 0 <|
 o_aload 0 <|
 o_get shw_8 8 0 <|
 o_iconst 1 <|
 o_iald shw_8 <|
 o_callVg 2 0 [0] g_X8_fillsGaps v_X8_fillsGaps <|
 o_aload 0 <|
 o_iload 1 <|
 o_callVg 2 1 [0] g_X8_mostLeft v_X8_mostLeft <|
 o_ireturn
def en_X8_mostThen_0 (p1 : Int) (a : Ob) : XSt := ([some (.inr (.inl (0, 0))), some (.inl p1)], [], [a])
noncomputable def mg_X8_mostThen_0 (p1 : Int) (a : Ob) : Option Rt :=
 if oqV (ov_X8_fillsOwners a) then (
 if oqV (ov_X8_fillsGaps ((oqO (ov_X8_fillsOwners a) 0) 1 1) (oqO (ov_X8_fillsOwners a) 0)) then (
 if oqI (ov_X8_mostLeft p1 (oqO (ov_X8_fillsGaps ((oqO (ov_X8_fillsOwners a) 0) 1 1) (oqO (ov_X8_fillsOwners a) 0)) 0)) then (
 RI (oqR (ov_X8_mostLeft p1 (oqO (ov_X8_fillsGaps ((oqO (ov_X8_fillsOwners a) 0) 1 1) (oqO (ov_X8_fillsOwners a) 0)) 0))) [(oqO (ov_X8_mostLeft p1 (oqO (ov_X8_fillsGaps ((oqO (ov_X8_fillsOwners a) 0) 1 1) (oqO (ov_X8_fillsOwners a) 0)) 0)) 0)]) else none) else none) else none
set_option maxRecDepth 100000 in
set_option maxHeartbeats 4000000 in
theorem rq_X8_mostThen_0 (p1 : Int) (a : Ob) : rg_X8_mostThen_0 (en_X8_mostThen_0 p1 a) = mg_X8_mostThen_0 p1 a := rfl
set_option maxRecDepth 100000 in
set_option maxHeartbeats 4000000 in
theorem sg_X8_mostThen_0 {X : XDyn} {r0 : Rt} (C : XO X mX8_mostThen) : XS X mX8_mostThen r0 0 (rg_X8_mostThen_0) := by
 unfold rg_X8_mostThen_0
 exact s_aload_n (pc := 0) C dX8_mostThen_0 rfl <|
    s_callVg (pc := 1) C ct_X8_fillsOwners (n := 1) (rk := 0) (mp := [0]) ⟨rfl, by decide, rfl⟩ (ci := 8) rfl rfl (by decide) (by decide) yi_X8_fillsOwners (by decide) wd_979 wd_981 wd_22 wd_81 wd_982 dX8_mostThen_1 <|
    s_aload_n (pc := 4) C dX8_mostThen_4 rfl <|
    s_aload_n (pc := 5) C dX8_mostThen_5 rfl <|
    s_get (pc := 6) C (ci := 8) (kf := 0) rfl inX8 (by decide) wd_871 dX8_mostThen_6 <|
    s_iconst (pc := 9) C dX8_mostThen_9 <|
    s_iald (pc := 10) C dX8_mostThen_10 <|
    s_callVg (pc := 11) C ct_X8_fillsGaps (n := 2) (rk := 0) (mp := [0]) ⟨rfl, by decide, rfl⟩ (ci := 8) rfl rfl (by decide) (by decide) yi_X8_fillsGaps (by decide) wd_1038 wd_1040 wd_36 wd_81 wd_1041 dX8_mostThen_11 <|
    s_aload_n (pc := 14) C dX8_mostThen_14 rfl <|
    s_iload_n (pc := 15) C dX8_mostThen_15 rfl <|
    s_callVg (pc := 16) C ct_X8_mostLeft (n := 2) (rk := 1) (mp := [0]) ⟨rfl, by decide, rfl⟩ (ci := 8) rfl rfl (by decide) (by decide) yi_X8_mostLeft (by decide) wd_1042 wd_1044 wd_37 wd_81 wd_1045 dX8_mostThen_16 <|
    s_ireturn (pc := 19) C rfl dX8_mostThen_19
noncomputable def rw_X8_mostThen_0 : XK := rg_X8_mostThen_0
noncomputable def md_X8_mostThen_0 (p1 : Int) : Ob → Option Rt := mg_X8_mostThen_0 p1
theorem eq_X8_mostThen_0 (p1 : Int) (a : Ob) : rw_X8_mostThen_0 (en_X8_mostThen_0 p1 a) = md_X8_mostThen_0 p1 a :=
 rq_X8_mostThen_0 p1 a
theorem sd_X8_mostThen_0 {X : XDyn} {r0 : Rt} (C : XO X mX8_mostThen) : XS X mX8_mostThen r0 0 (rw_X8_mostThen_0) := sg_X8_mostThen_0 C
theorem ctr_X8_mostThen : XCt yX8_mostThen mX8_mostThen (xF mX8_mostThen (rw_X8_mostThen_0)) := xMet (by decide +kernel) rfl (fun _ _ C => sd_X8_mostThen_0 C)
theorem eqf_X8_mostThen (p1 : Int) (h0 : Ob) : xF mX8_mostThen (rw_X8_mostThen_0) [.inr (.inl (0, 0)), .inl p1] [h0] = md_X8_mostThen_0 p1 h0 := eq_X8_mostThen_0 p1 h0
theorem yi_X8_mostThen : yX8_mostThen.cls = RX8 ∧ yX8_mostThen.cls ≠ "java/lang/invoke/MethodHandle" ∧ yX8_mostThen.cls ≠ "java/lang/invoke/VarHandle" ∧ (parseMethodDescriptor yX8_mostThen.desc).map (fun d => d.parameters.length) = some 1 := ⟨rfl, by decide +kernel, by decide +kernel, by decide +kernel⟩
noncomputable def ov_X8_mostThen (p1 : Int) (h0 : Ob) : Option Rt := xop (md_X8_mostThen_0 p1 h0)
theorem ov_X8_mostThen_e (p1 : Int) (h0 : Ob) : ov_X8_mostThen p1 h0 = md_X8_mostThen_0 p1 h0 := xop_eq _
theorem sp_X8_mostThen (p1 : Int) (h0 : Ob) (hg : oqI (ov_X8_mostThen p1 h0) = true) : md_X8_mostThen_0 p1 h0 = RI (oqR (ov_X8_mostThen p1 h0)) [(oqO (ov_X8_mostThen p1 h0) 0)] := (ov_X8_mostThen_e p1 h0).symm.trans (oqI_eq hg)
noncomputable def g_X8_mostThen : List AV → List Ob → Bool
  | [.inr (.inl (0, 0)), .inl p1], [h0] => oqI (ov_X8_mostThen p1 h0)
  | _, _ => false
noncomputable def v_X8_mostThen : List AV → List Ob → Rt
  | [.inr (.inl (0, 0)), .inl p1], [h0] => (some (.inl (oqR (ov_X8_mostThen p1 h0))), [(oqO (ov_X8_mostThen p1 h0) 0)])
  | _, _ => (none, [])
theorem ct_X8_mostThen : XCt yX8_mostThen mX8_mostThen (fun as μ => if g_X8_mostThen as μ then some (v_X8_mostThen as μ) else none) := (ctr_X8_mostThen ).of (fun as μ r h => by
  split at h
  · rename_i hg
    unfold g_X8_mostThen at hg
    split at hg
    · rw [← h]
      exact (eqf_X8_mostThen _ _).trans (sp_X8_mostThen _ _ hg)
    · cases hg
  · cases h)
theorem dX8_greatest_0 : decode cX8_greatest 0 = .ok (.iload_n 1, 1) := by decide +kernel
theorem dX8_greatest_1 : decode cX8_greatest 1 = .ok (.i2l, 1) := by decide +kernel
theorem dX8_greatest_2 : decode cX8_greatest 2 = .ok (.lconst 0, 1) := by decide +kernel
theorem dX8_greatest_3 : decode cX8_greatest 3 = .ok (.ldc2_w 260, 3) := by decide +kernel
theorem dX8_greatest_6 : decode cX8_greatest 6 = .ok (.invokestatic 75, 3) := by decide +kernel
theorem dX8_greatest_9 : decode cX8_greatest 9 = .ok (.ifCond .ne 5, 3) := by decide +kernel
theorem dX8_greatest_12 : decode cX8_greatest 12 = .ok (.iconst (-1), 1) := by decide +kernel
theorem dX8_greatest_13 : decode cX8_greatest 13 = .ok (.ireturn, 1) := by decide +kernel
theorem dX8_greatest_14 : decode cX8_greatest 14 = .ok (.aload_n 0, 1) := by decide +kernel
theorem dX8_greatest_15 : decode cX8_greatest 15 = .ok (.invokevirtual 208, 3) := by decide +kernel
theorem dX8_greatest_18 : decode cX8_greatest 18 = .ok (.sipush 255, 3) := by decide +kernel
theorem dX8_greatest_21 : decode cX8_greatest 21 = .ok (.istore_n 2, 1) := by decide +kernel
theorem dX8_greatest_22 : decode cX8_greatest 22 = .ok (.iconst 0, 1) := by decide +kernel
theorem dX8_greatest_23 : decode cX8_greatest 23 = .ok (.istore_n 3, 1) := by decide +kernel
theorem dX8_greatest_24 : decode cX8_greatest 24 = .ok (.iload_n 3, 1) := by decide +kernel
theorem dX8_greatest_25 : decode cX8_greatest 25 = .ok (.bipush 8, 2) := by decide +kernel
theorem dX8_greatest_27 : decode cX8_greatest 27 = .ok (.if_icmp .ge 26, 3) := by decide +kernel
theorem dX8_greatest_30 : decode cX8_greatest 30 = .ok (.iload_n 1, 1) := by decide +kernel
theorem dX8_greatest_31 : decode cX8_greatest 31 = .ok (.ifCond .le 22, 3) := by decide +kernel
theorem dX8_greatest_34 : decode cX8_greatest 34 = .ok (.aload_n 0, 1) := by decide +kernel
theorem dX8_greatest_35 : decode cX8_greatest 35 = .ok (.iload_n 3, 1) := by decide +kernel
theorem dX8_greatest_36 : decode cX8_greatest 36 = .ok (.invokevirtual 155, 3) := by decide +kernel
theorem dX8_greatest_39 : decode cX8_greatest 39 = .ok (.ifCond .eq 8, 3) := by decide +kernel
theorem dX8_greatest_42 : decode cX8_greatest 42 = .ok (.aload_n 0, 1) := by decide +kernel
theorem dX8_greatest_43 : decode cX8_greatest 43 = .ok (.iload_n 3, 1) := by decide +kernel
theorem dX8_greatest_44 : decode cX8_greatest 44 = .ok (.invokevirtual 192, 3) := by decide +kernel
theorem dX8_greatest_47 : decode cX8_greatest 47 = .ok (.iinc 3 1, 3) := by decide +kernel
theorem dX8_greatest_50 : decode cX8_greatest 50 = .ok (.goto (-26), 3) := by decide +kernel
theorem dX8_greatest_53 : decode cX8_greatest 53 = .ok (.iconst 0, 1) := by decide +kernel
theorem dX8_greatest_54 : decode cX8_greatest 54 = .ok (.istore_n 3, 1) := by decide +kernel
theorem dX8_greatest_55 : decode cX8_greatest 55 = .ok (.iload_n 3, 1) := by decide +kernel
theorem dX8_greatest_56 : decode cX8_greatest 56 = .ok (.bipush 8, 2) := by decide +kernel
theorem dX8_greatest_58 : decode cX8_greatest 58 = .ok (.if_icmp .ge 30, 3) := by decide +kernel
theorem dX8_greatest_61 : decode cX8_greatest 61 = .ok (.iload_n 1, 1) := by decide +kernel
theorem dX8_greatest_62 : decode cX8_greatest 62 = .ok (.iconst 2, 1) := by decide +kernel
theorem dX8_greatest_63 : decode cX8_greatest 63 = .ok (.if_icmp .ne 19, 3) := by decide +kernel
theorem dX8_greatest_66 : decode cX8_greatest 66 = .ok (.aload_n 0, 1) := by decide +kernel
theorem dX8_greatest_67 : decode cX8_greatest 67 = .ok (.iload_n 3, 1) := by decide +kernel
theorem dX8_greatest_68 : decode cX8_greatest 68 = .ok (.invokevirtual 158, 3) := by decide +kernel
theorem dX8_greatest_71 : decode cX8_greatest 71 = .ok (.ifCond .eq 11, 3) := by decide +kernel
theorem dX8_greatest_74 : decode cX8_greatest 74 = .ok (.iload_n 2, 1) := by decide +kernel
theorem dX8_greatest_75 : decode cX8_greatest 75 = .ok (.iconst 1, 1) := by decide +kernel
theorem dX8_greatest_76 : decode cX8_greatest 76 = .ok (.iload_n 3, 1) := by decide +kernel
theorem dX8_greatest_77 : decode cX8_greatest 77 = .ok (.ishl, 1) := by decide +kernel
theorem dX8_greatest_78 : decode cX8_greatest 78 = .ok (.iconst (-1), 1) := by decide +kernel
theorem dX8_greatest_79 : decode cX8_greatest 79 = .ok (.ixor, 1) := by decide +kernel
theorem dX8_greatest_80 : decode cX8_greatest 80 = .ok (.iand, 1) := by decide +kernel
theorem dX8_greatest_81 : decode cX8_greatest 81 = .ok (.istore_n 2, 1) := by decide +kernel
theorem dX8_greatest_82 : decode cX8_greatest 82 = .ok (.iinc 3 1, 3) := by decide +kernel
theorem dX8_greatest_85 : decode cX8_greatest 85 = .ok (.goto (-30), 3) := by decide +kernel
theorem dX8_greatest_88 : decode cX8_greatest 88 = .ok (.aload_n 0, 1) := by decide +kernel
theorem dX8_greatest_89 : decode cX8_greatest 89 = .ok (.iload_n 2, 1) := by decide +kernel
theorem dX8_greatest_90 : decode cX8_greatest 90 = .ok (.invokevirtual 266, 3) := by decide +kernel
theorem dX8_greatest_93 : decode cX8_greatest 93 = .ok (.iconst 1, 1) := by decide +kernel
theorem dX8_greatest_94 : decode cX8_greatest 94 = .ok (.isub, 1) := by decide +kernel
theorem dX8_greatest_95 : decode cX8_greatest 95 = .ok (.istore_n 3, 1) := by decide +kernel
theorem dX8_greatest_96 : decode cX8_greatest 96 = .ok (.aload_n 0, 1) := by decide +kernel
theorem dX8_greatest_97 : decode cX8_greatest 97 = .ok (.invokevirtual 215, 3) := by decide +kernel
theorem dX8_greatest_100 : decode cX8_greatest 100 = .ok (.iload_n 3, 1) := by decide +kernel
theorem dX8_greatest_101 : decode cX8_greatest 101 = .ok (.sipush 199, 3) := by decide +kernel
theorem dX8_greatest_104 : decode cX8_greatest 104 = .ok (.if_icmp .le 9, 3) := by decide +kernel
theorem dX8_greatest_107 : decode cX8_greatest 107 = .ok (.sipush 199, 3) := by decide +kernel
theorem dX8_greatest_110 : decode cX8_greatest 110 = .ok (.goto 12, 3) := by decide +kernel
theorem dX8_greatest_113 : decode cX8_greatest 113 = .ok (.iload_n 3, 1) := by decide +kernel
theorem dX8_greatest_114 : decode cX8_greatest 114 = .ok (.ifCond .le 7, 3) := by decide +kernel
theorem dX8_greatest_117 : decode cX8_greatest 117 = .ok (.iload_n 3, 1) := by decide +kernel
theorem dX8_greatest_118 : decode cX8_greatest 118 = .ok (.goto 4, 3) := by decide +kernel
theorem dX8_greatest_121 : decode cX8_greatest 121 = .ok (.iconst 0, 1) := by decide +kernel
theorem dX8_greatest_122 : decode cX8_greatest 122 = .ok (.ireturn, 1) := by decide +kernel
abbrev mX8_greatest : XM := (cX8_greatest, 4, RX8, (some .int), shw_8, 4)
noncomputable def rg_X8_greatest_0 (k24 : XK) : XK :=
 o_iload 1 <|
 o_i2l <|
 o_lconst 0 <|
 o_lconst 2 <|
 o_callSg 3 1 [] g_X8_in v_X8_in <|
 o_if_ne (o_aload 0 <|
 o_callVg 1 0 [0] g_X8_keepsAside v_X8_keepsAside <|
 o_iconst 255 <|
 o_istore 2 <|
 o_iconst 0 <|
 o_istore 3 <|
 o_cut [] k24)
 (o_iconst (-1) <|
 o_ireturn)
def en_X8_greatest_0 (p1 : Int) (a : Ob) : XSt := ([some (.inr (.inl (0, 0))), some (.inl p1), none, none], [], [a])
noncomputable def rg_X8_greatest_24 (k53 : XK) (k47 : XK) : XK :=
 o_iload 3 <|
 o_iconst 8 <|
 o_icmp_ge (o_cut [3] k53)
 (o_iload 1 <|
 o_if_le (o_cut [3] k53)
 (o_aload 0 <|
 o_iload 3 <|
 o_callV 2 1 [0] f_X8_canBeLess <|
 o_if_eq (o_cut [] k47)
 (o_aload 0 <|
 o_iload 3 <|
 o_callVg 2 0 [0] g_X8_squeezes v_X8_squeezes <|
 o_cut [] k47)))
def en_X8_greatest_24 (p1 : Int) (a : Int × Int × Ob) : XSt := ([some (.inr (.inl (0, 0))), some (.inl p1), some (.inl a.1), some (.inl a.2.1)], [], [a.2.2])
noncomputable def rg_X8_greatest_47 (k24 : XK) : XK :=
 o_iinc 3 1 <|
 o_cut [] k24
def en_X8_greatest_47 (p1 : Int) (a : Int × Int × Ob) : XSt := ([some (.inr (.inl (0, 0))), some (.inl p1), some (.inl a.1), some (.inl a.2.1)], [], [a.2.2])
noncomputable def rg_X8_greatest_53 (k55 : XK) : XK :=
 o_iconst 0 <|
 o_istore 3 <|
 o_cut [] k55
def en_X8_greatest_53 (p1 : Int) (a : Int × Ob) : XSt := ([some (.inr (.inl (0, 0))), some (.inl p1), some (.inl a.1), none], [], [a.2])
noncomputable def rg_X8_greatest_55 (k82 : XK) : XK :=
 o_iload 3 <|
 o_iconst 8 <|
 o_icmp_ge (o_aload 0 <|
 o_iload 2 <|
 o_callVg 2 1 [0] g_X8_mostThen v_X8_mostThen <|
 o_iconst 1 <|
 o_isub <|
 o_istore 3 <|
 o_aload 0 <|
 o_callVg 1 0 [0] g_X8_laysBack v_X8_laysBack <|
 o_iload 3 <|
 o_iconst 199 <|
 o_icmp_le (o_iload 3 <|
 o_if_le (o_iconst 0 <|
 o_ireturn)
 (o_iload 3 <|
 o_ireturn))
 (o_iconst 199 <|
 o_ireturn))
 (o_iload 1 <|
 o_iconst 2 <|
 o_icmp_ne (o_cut [] k82)
 (o_aload 0 <|
 o_iload 3 <|
 o_callV 2 1 [0] f_X8_canGo <|
 o_if_eq (o_cut [] k82)
 (o_iload 2 <|
 o_iconst 1 <|
 o_iload 3 <|
 o_ishl <|
 o_iconst (-1) <|
 o_ixor <|
 o_iand <|
 o_istore 2 <|
 o_cut [] k82)))
def en_X8_greatest_55 (p1 : Int) (a : Int × Int × Ob) : XSt := ([some (.inr (.inl (0, 0))), some (.inl p1), some (.inl a.1), some (.inl a.2.1)], [], [a.2.2])
noncomputable def rg_X8_greatest_82 (k55 : XK) : XK :=
 o_iinc 3 1 <|
 o_cut [] k55
def en_X8_greatest_82 (p1 : Int) (a : Int × Int × Ob) : XSt := ([some (.inr (.inl (0, 0))), some (.inl p1), some (.inl a.1), some (.inl a.2.1)], [], [a.2.2])
noncomputable def mg_X8_greatest_0 (p1 : Int) (k24 : (Int × Int × Ob) → Option Rt) (a : Ob) : Option Rt :=
 if xlr (xw p1) && (xlr (0 : Int) && xlr (2 : Int)) then (
 if xw (bz (inn (xw p1) (0 : Int) (2 : Int))) = 0 then (RI (-1) [a])
 else (if oqV (ov_X8_keepsAside a) then (
 k24 (255, 0, (oqO (ov_X8_keepsAside a) 0))) else none)) else none
set_option maxRecDepth 100000 in
set_option maxHeartbeats 4000000 in
theorem rq_X8_greatest_0 (p1 : Int) (k24 : XK) (a : Ob) : rg_X8_greatest_0 k24 (en_X8_greatest_0 p1 a) = mg_X8_greatest_0 p1 (fun b => k24 (en_X8_greatest_24 p1 b)) a := rfl
set_option maxRecDepth 100000 in
set_option maxHeartbeats 4000000 in
theorem sg_X8_greatest_0 {X : XDyn} {r0 : Rt} (C : XO X mX8_greatest) {k24 : XK} (q24 : XS X mX8_greatest r0 24 k24) : XS X mX8_greatest r0 0 (rg_X8_greatest_0 k24) := by
 unfold rg_X8_greatest_0
 exact s_iload_n (pc := 0) C dX8_greatest_0 rfl <|
    s_i2l (pc := 1) C dX8_greatest_1 <|
    s_lconst (pc := 2) C dX8_greatest_2 rfl <|
    s_ldc2 (pc := 3) C dX8_greatest_3 wd_1250 rfl <|
    s_callSg (pc := 6) C ct_X8_in (n := 3) (rk := 1) (mp := []) ⟨rfl, by decide, rfl⟩ (by decide) (by decide) ⟨rfl, yi_X8_in⟩ wd_954 wd_955 wd_81 wd_956 dX8_greatest_6 <|
    s_if_ne (pc := 9) C dX8_greatest_9 (by decide) (s_aload_n (pc := 14) C dX8_greatest_14 rfl <|
    s_callVg (pc := 15) C ct_X8_keepsAside (n := 1) (rk := 0) (mp := [0]) ⟨rfl, by decide, rfl⟩ (ci := 8) rfl rfl (by decide) (by decide) yi_X8_keepsAside (by decide) wd_967 wd_969 wd_19 wd_81 wd_970 dX8_greatest_15 <|
    s_sipush (pc := 18) C dX8_greatest_18 (by decide) <|
    s_istore_n (pc := 21) C dX8_greatest_21 rfl <|
    s_iconst (pc := 22) C dX8_greatest_22 <|
    s_istore_n (pc := 23) C dX8_greatest_23 rfl <|
    s_cut q24)
    (s_iconst (pc := 12) C dX8_greatest_12 <|
    s_ireturn (pc := 13) C rfl dX8_greatest_13)
noncomputable def mg_X8_greatest_24 (p1 : Int) (k53 : (Int × Ob) → Option Rt) (k47 : (Int × Int × Ob) → Option Rt) (a : Int × Int × Ob) : Option Rt :=
 if xw a.2.1 ≥ 8 then (k53 (a.1, a.2.2))
 else (if xw p1 ≤ 0 then (k53 (a.1, a.2.2))
 else (if xw (bz (cblM a.2.2 a.2.1)) = 0 then (k47 (a.1, a.2.1, a.2.2))
 else (if oqV (ov_X8_squeezes a.2.1 a.2.2) then (
 k47 (a.1, a.2.1, (oqO (ov_X8_squeezes a.2.1 a.2.2) 0))) else none)))
set_option maxRecDepth 100000 in
set_option maxHeartbeats 4000000 in
theorem rq_X8_greatest_24 (p1 : Int) (k53 : XK) (k47 : XK) (a : Int × Int × Ob) : rg_X8_greatest_24 k53 k47 (en_X8_greatest_24 p1 a) = mg_X8_greatest_24 p1 (fun b => k53 (en_X8_greatest_53 p1 b)) (fun b => k47 (en_X8_greatest_47 p1 b)) a := rfl
set_option maxRecDepth 100000 in
set_option maxHeartbeats 4000000 in
theorem sg_X8_greatest_24 {X : XDyn} {r0 : Rt} (C : XO X mX8_greatest) {k53 : XK} (q53 : XS X mX8_greatest r0 53 k53) {k47 : XK} (q47 : XS X mX8_greatest r0 47 k47) : XS X mX8_greatest r0 24 (rg_X8_greatest_24 k53 k47) := by
 unfold rg_X8_greatest_24
 exact s_iload_n (pc := 24) C dX8_greatest_24 rfl <|
    s_bipush (pc := 25) C dX8_greatest_25 (by decide) <|
    s_icmp_ge (pc := 27) C dX8_greatest_27 (by decide) (s_cut q53)
    (s_iload_n (pc := 30) C dX8_greatest_30 rfl <|
    s_if_le (pc := 31) C dX8_greatest_31 (by decide) (s_cut q53)
    (s_aload_n (pc := 34) C dX8_greatest_34 rfl <|
    s_iload_n (pc := 35) C dX8_greatest_35 rfl <|
    s_callV (pc := 36) C ct_X8_canBeLess (n := 2) (rk := 1) (mp := [0]) ⟨rfl, by decide, rfl⟩ (ci := 8) rfl rfl (by decide) (by decide) yi_X8_canBeLess (by decide) wd_1077 wd_1079 wd_45 wd_81 wd_1080 dX8_greatest_36 <|
    s_if_eq (pc := 39) C dX8_greatest_39 (by decide) (s_cut q47)
    (s_aload_n (pc := 42) C dX8_greatest_42 rfl <|
    s_iload_n (pc := 43) C dX8_greatest_43 rfl <|
    s_callVg (pc := 44) C ct_X8_squeezes (n := 2) (rk := 0) (mp := [0]) ⟨rfl, by decide, rfl⟩ (ci := 8) rfl rfl (by decide) (by decide) yi_X8_squeezes (by decide) wd_1093 wd_1095 wd_49 wd_81 wd_1096 dX8_greatest_44 <|
    s_cut q47)))
noncomputable def mg_X8_greatest_47 (p1 : Int) (k24 : (Int × Int × Ob) → Option Rt) (a : Int × Int × Ob) : Option Rt :=
 k24 (a.1, (a.2.1 + 1), a.2.2)
set_option maxRecDepth 100000 in
set_option maxHeartbeats 4000000 in
theorem rq_X8_greatest_47 (p1 : Int) (k24 : XK) (a : Int × Int × Ob) : rg_X8_greatest_47 k24 (en_X8_greatest_47 p1 a) = mg_X8_greatest_47 p1 (fun b => k24 (en_X8_greatest_24 p1 b)) a := rfl
set_option maxRecDepth 100000 in
set_option maxHeartbeats 4000000 in
theorem sg_X8_greatest_47 {X : XDyn} {r0 : Rt} (C : XO X mX8_greatest) {k24 : XK} (q24 : XS X mX8_greatest r0 24 k24) : XS X mX8_greatest r0 47 (rg_X8_greatest_47 k24) := by
 unfold rg_X8_greatest_47
 exact s_iinc (pc := 47) C dX8_greatest_47 <|
    s_goto (pc := 50) C dX8_greatest_50 (by decide) <|
    s_cut q24
noncomputable def mg_X8_greatest_53 (p1 : Int) (k55 : (Int × Int × Ob) → Option Rt) (a : Int × Ob) : Option Rt :=
 k55 (a.1, 0, a.2)
set_option maxRecDepth 100000 in
set_option maxHeartbeats 4000000 in
theorem rq_X8_greatest_53 (p1 : Int) (k55 : XK) (a : Int × Ob) : rg_X8_greatest_53 k55 (en_X8_greatest_53 p1 a) = mg_X8_greatest_53 p1 (fun b => k55 (en_X8_greatest_55 p1 b)) a := rfl
set_option maxRecDepth 100000 in
set_option maxHeartbeats 4000000 in
theorem sg_X8_greatest_53 {X : XDyn} {r0 : Rt} (C : XO X mX8_greatest) {k55 : XK} (q55 : XS X mX8_greatest r0 55 k55) : XS X mX8_greatest r0 53 (rg_X8_greatest_53 k55) := by
 unfold rg_X8_greatest_53
 exact s_iconst (pc := 53) C dX8_greatest_53 <|
    s_istore_n (pc := 54) C dX8_greatest_54 rfl <|
    s_cut q55
noncomputable def mg_X8_greatest_55 (p1 : Int) (k82 : (Int × Int × Ob) → Option Rt) (a : Int × Int × Ob) : Option Rt :=
 if xw a.2.1 ≥ 8 then (if oqI (ov_X8_mostThen a.1 a.2.2) then (
 if oqV (ov_X8_laysBack (oqO (ov_X8_mostThen a.1 a.2.2) 0)) then (
 if xw ((oqR (ov_X8_mostThen a.1 a.2.2)) - 1) ≤ 199 then (if xw ((oqR (ov_X8_mostThen a.1 a.2.2)) - 1) ≤ 0 then (RI 0 [(oqO (ov_X8_laysBack (oqO (ov_X8_mostThen a.1 a.2.2) 0)) 0)])
 else (RI ((oqR (ov_X8_mostThen a.1 a.2.2)) - 1) [(oqO (ov_X8_laysBack (oqO (ov_X8_mostThen a.1 a.2.2) 0)) 0)]))
 else (RI 199 [(oqO (ov_X8_laysBack (oqO (ov_X8_mostThen a.1 a.2.2) 0)) 0)])) else none) else none)
 else (if xw p1 = 2 then (if xw (bz (cgoM a.2.2 a.2.1)) = 0 then (k82 (a.1, a.2.1, a.2.2))
 else (k82 ((xand a.1 (xxor (xshl 1 a.2.1) (-1))), a.2.1, a.2.2)))
 else (k82 (a.1, a.2.1, a.2.2)))
set_option maxRecDepth 100000 in
set_option maxHeartbeats 4000000 in
theorem rq_X8_greatest_55 (p1 : Int) (k82 : XK) (a : Int × Int × Ob) : rg_X8_greatest_55 k82 (en_X8_greatest_55 p1 a) = mg_X8_greatest_55 p1 (fun b => k82 (en_X8_greatest_82 p1 b)) a := rfl
set_option maxRecDepth 100000 in
set_option maxHeartbeats 4000000 in
theorem sg_X8_greatest_55 {X : XDyn} {r0 : Rt} (C : XO X mX8_greatest) {k82 : XK} (q82 : XS X mX8_greatest r0 82 k82) : XS X mX8_greatest r0 55 (rg_X8_greatest_55 k82) := by
 unfold rg_X8_greatest_55
 exact s_iload_n (pc := 55) C dX8_greatest_55 rfl <|
    s_bipush (pc := 56) C dX8_greatest_56 (by decide) <|
    s_icmp_ge (pc := 58) C dX8_greatest_58 (by decide) (s_aload_n (pc := 88) C dX8_greatest_88 rfl <|
    s_iload_n (pc := 89) C dX8_greatest_89 rfl <|
    s_callVg (pc := 90) C ct_X8_mostThen (n := 2) (rk := 1) (mp := [0]) ⟨rfl, by decide, rfl⟩ (ci := 8) rfl rfl (by decide) (by decide) yi_X8_mostThen (by decide) wd_1265 wd_1267 wd_66 wd_81 wd_1268 dX8_greatest_90 <|
    s_iconst (pc := 93) C dX8_greatest_93 <|
    s_isub (pc := 94) C dX8_greatest_94 <|
    s_istore_n (pc := 95) C dX8_greatest_95 rfl <|
    s_aload_n (pc := 96) C dX8_greatest_96 rfl <|
    s_callVg (pc := 97) C ct_X8_laysBack (n := 1) (rk := 0) (mp := [0]) ⟨rfl, by decide, rfl⟩ (ci := 8) rfl rfl (by decide) (by decide) yi_X8_laysBack (by decide) wd_1101 wd_1103 wd_51 wd_81 wd_1104 dX8_greatest_97 <|
    s_iload_n (pc := 100) C dX8_greatest_100 rfl <|
    s_sipush (pc := 101) C dX8_greatest_101 (by decide) <|
    s_icmp_le (pc := 104) C dX8_greatest_104 (by decide) (s_iload_n (pc := 113) C dX8_greatest_113 rfl <|
    s_if_le (pc := 114) C dX8_greatest_114 (by decide) (s_iconst (pc := 121) C dX8_greatest_121 <|
    s_ireturn (pc := 122) C rfl dX8_greatest_122)
    (s_iload_n (pc := 117) C dX8_greatest_117 rfl <|
    s_goto (pc := 118) C dX8_greatest_118 (by decide) <|
    s_ireturn (pc := 122) C rfl dX8_greatest_122))
    (s_sipush (pc := 107) C dX8_greatest_107 (by decide) <|
    s_goto (pc := 110) C dX8_greatest_110 (by decide) <|
    s_ireturn (pc := 122) C rfl dX8_greatest_122))
    (s_iload_n (pc := 61) C dX8_greatest_61 rfl <|
    s_iconst (pc := 62) C dX8_greatest_62 <|
    s_icmp_ne (pc := 63) C dX8_greatest_63 (by decide) (s_cut q82)
    (s_aload_n (pc := 66) C dX8_greatest_66 rfl <|
    s_iload_n (pc := 67) C dX8_greatest_67 rfl <|
    s_callV (pc := 68) C ct_X8_canGo (n := 2) (rk := 1) (mp := [0]) ⟨rfl, by decide, rfl⟩ (ci := 8) rfl rfl (by decide) (by decide) yi_X8_canGo (by decide) wd_1085 wd_1087 wd_47 wd_81 wd_1088 dX8_greatest_68 <|
    s_if_eq (pc := 71) C dX8_greatest_71 (by decide) (s_cut q82)
    (s_iload_n (pc := 74) C dX8_greatest_74 rfl <|
    s_iconst (pc := 75) C dX8_greatest_75 <|
    s_iload_n (pc := 76) C dX8_greatest_76 rfl <|
    s_ishl (pc := 77) C dX8_greatest_77 <|
    s_iconst (pc := 78) C dX8_greatest_78 <|
    s_ixor (pc := 79) C dX8_greatest_79 <|
    s_iand (pc := 80) C dX8_greatest_80 <|
    s_istore_n (pc := 81) C dX8_greatest_81 rfl <|
    s_cut q82)))
noncomputable def mg_X8_greatest_82 (p1 : Int) (k55 : (Int × Int × Ob) → Option Rt) (a : Int × Int × Ob) : Option Rt :=
 k55 (a.1, (a.2.1 + 1), a.2.2)
set_option maxRecDepth 100000 in
set_option maxHeartbeats 4000000 in
theorem rq_X8_greatest_82 (p1 : Int) (k55 : XK) (a : Int × Int × Ob) : rg_X8_greatest_82 k55 (en_X8_greatest_82 p1 a) = mg_X8_greatest_82 p1 (fun b => k55 (en_X8_greatest_55 p1 b)) a := rfl
set_option maxRecDepth 100000 in
set_option maxHeartbeats 4000000 in
theorem sg_X8_greatest_82 {X : XDyn} {r0 : Rt} (C : XO X mX8_greatest) {k55 : XK} (q55 : XS X mX8_greatest r0 55 k55) : XS X mX8_greatest r0 82 (rg_X8_greatest_82 k55) := by
 unfold rg_X8_greatest_82
 exact s_iinc (pc := 82) C dX8_greatest_82 <|
    s_goto (pc := 85) C dX8_greatest_85 (by decide) <|
    s_cut q55
noncomputable def rw_X8_greatest_82 (f : Nat) (k55 : XK) : XK := rg_X8_greatest_82 k55
noncomputable def md_X8_greatest_82 (p1 : Int) (f : Nat) (k55 : (Int × Int × Ob) → Option Rt) : Int × Int × Ob → Option Rt := mg_X8_greatest_82 p1 k55
theorem eq_X8_greatest_82 (p1 : Int) (f : Nat) (k55 : XK) (a : Int × Int × Ob) : rw_X8_greatest_82 f k55 (en_X8_greatest_82 p1 a) = md_X8_greatest_82 p1 f (fun b => k55 (en_X8_greatest_55 p1 b)) a :=
 (rq_X8_greatest_82 p1 k55 a).trans (congrFun (congr (rfl : mg_X8_greatest_82 p1 = mg_X8_greatest_82 p1) rfl) a)
theorem sd_X8_greatest_82 (f : Nat) {X : XDyn} {r0 : Rt} (C : XO X mX8_greatest) {k55 : XK} (q55 : XS X mX8_greatest r0 55 k55) : XS X mX8_greatest r0 82 (rw_X8_greatest_82 f k55) := sg_X8_greatest_82 C q55
noncomputable def rw_X8_greatest_55 (f : Nat) : XK := tlp (fun k55 => rg_X8_greatest_55 (rw_X8_greatest_82 f k55)) f
noncomputable def lb_X8_greatest_55 (p1 : Int) (f : Nat) : ((Int × Int × Ob) → Option Rt) → Int × Int × Ob → Option Rt := fun k55 => mg_X8_greatest_55 p1 (md_X8_greatest_82 p1 f k55)
noncomputable def md_X8_greatest_55 (p1 : Int) (f : Nat) : Int × Int × Ob → Option Rt := tlp (lb_X8_greatest_55 p1 f) f
theorem eq_X8_greatest_55 (p1 : Int) (f : Nat) (a : Int × Int × Ob) : rw_X8_greatest_55 f (en_X8_greatest_55 p1 a) = md_X8_greatest_55 p1 f a :=
 tlp_enc (en_X8_greatest_55 p1) (fun k55 a => (rq_X8_greatest_55 p1 (rw_X8_greatest_82 f k55) a).trans (congrFun (congr (rfl : mg_X8_greatest_55 p1 = mg_X8_greatest_55 p1) (funext (eq_X8_greatest_82 p1 f k55))) a)) f a
theorem sd_X8_greatest_55 (f : Nat) {X : XDyn} {r0 : Rt} (C : XO X mX8_greatest) : XS X mX8_greatest r0 55 (rw_X8_greatest_55 f) := s_lp (fun k55 q55 => sg_X8_greatest_55 C (sd_X8_greatest_82 f C q55)) f
noncomputable def rw_X8_greatest_53 (f : Nat) : XK := rg_X8_greatest_53 (rw_X8_greatest_55 f)
noncomputable def md_X8_greatest_53 (p1 : Int) (f : Nat) : Int × Ob → Option Rt := mg_X8_greatest_53 p1 (md_X8_greatest_55 p1 f)
theorem eq_X8_greatest_53 (p1 : Int) (f : Nat) (a : Int × Ob) : rw_X8_greatest_53 f (en_X8_greatest_53 p1 a) = md_X8_greatest_53 p1 f a :=
 (rq_X8_greatest_53 p1 (rw_X8_greatest_55 f) a).trans (congrFun (congr (rfl : mg_X8_greatest_53 p1 = mg_X8_greatest_53 p1) (funext (eq_X8_greatest_55 p1 f))) a)
theorem sd_X8_greatest_53 (f : Nat) {X : XDyn} {r0 : Rt} (C : XO X mX8_greatest) : XS X mX8_greatest r0 53 (rw_X8_greatest_53 f) := sg_X8_greatest_53 C (sd_X8_greatest_55 f C)
noncomputable def rw_X8_greatest_47 (f : Nat) (k24 : XK) : XK := rg_X8_greatest_47 k24
noncomputable def md_X8_greatest_47 (p1 : Int) (f : Nat) (k24 : (Int × Int × Ob) → Option Rt) : Int × Int × Ob → Option Rt := mg_X8_greatest_47 p1 k24
theorem eq_X8_greatest_47 (p1 : Int) (f : Nat) (k24 : XK) (a : Int × Int × Ob) : rw_X8_greatest_47 f k24 (en_X8_greatest_47 p1 a) = md_X8_greatest_47 p1 f (fun b => k24 (en_X8_greatest_24 p1 b)) a :=
 (rq_X8_greatest_47 p1 k24 a).trans (congrFun (congr (rfl : mg_X8_greatest_47 p1 = mg_X8_greatest_47 p1) rfl) a)
theorem sd_X8_greatest_47 (f : Nat) {X : XDyn} {r0 : Rt} (C : XO X mX8_greatest) {k24 : XK} (q24 : XS X mX8_greatest r0 24 k24) : XS X mX8_greatest r0 47 (rw_X8_greatest_47 f k24) := sg_X8_greatest_47 C q24
noncomputable def rw_X8_greatest_24 (f : Nat) : XK := tlp (fun k24 => rg_X8_greatest_24 (rw_X8_greatest_53 f) (rw_X8_greatest_47 f k24)) f
noncomputable def lb_X8_greatest_24 (p1 : Int) (f : Nat) : ((Int × Int × Ob) → Option Rt) → Int × Int × Ob → Option Rt := fun k24 => mg_X8_greatest_24 p1 (md_X8_greatest_53 p1 f) (md_X8_greatest_47 p1 f k24)
noncomputable def md_X8_greatest_24 (p1 : Int) (f : Nat) : Int × Int × Ob → Option Rt := tlp (lb_X8_greatest_24 p1 f) f
theorem eq_X8_greatest_24 (p1 : Int) (f : Nat) (a : Int × Int × Ob) : rw_X8_greatest_24 f (en_X8_greatest_24 p1 a) = md_X8_greatest_24 p1 f a :=
 tlp_enc (en_X8_greatest_24 p1) (fun k24 a => (rq_X8_greatest_24 p1 (rw_X8_greatest_53 f) (rw_X8_greatest_47 f k24) a).trans (congrFun (congr (congr (rfl : mg_X8_greatest_24 p1 = mg_X8_greatest_24 p1) (funext (eq_X8_greatest_53 p1 f))) (funext (eq_X8_greatest_47 p1 f k24))) a)) f a
theorem sd_X8_greatest_24 (f : Nat) {X : XDyn} {r0 : Rt} (C : XO X mX8_greatest) : XS X mX8_greatest r0 24 (rw_X8_greatest_24 f) := s_lp (fun k24 q24 => sg_X8_greatest_24 C (sd_X8_greatest_53 f C) (sd_X8_greatest_47 f C q24)) f
noncomputable def rw_X8_greatest_0 (f : Nat) : XK := rg_X8_greatest_0 (rw_X8_greatest_24 f)
noncomputable def md_X8_greatest_0 (p1 : Int) (f : Nat) : Ob → Option Rt := mg_X8_greatest_0 p1 (md_X8_greatest_24 p1 f)
theorem eq_X8_greatest_0 (p1 : Int) (f : Nat) (a : Ob) : rw_X8_greatest_0 f (en_X8_greatest_0 p1 a) = md_X8_greatest_0 p1 f a :=
 (rq_X8_greatest_0 p1 (rw_X8_greatest_24 f) a).trans (congrFun (congr (rfl : mg_X8_greatest_0 p1 = mg_X8_greatest_0 p1) (funext (eq_X8_greatest_24 p1 f))) a)
theorem sd_X8_greatest_0 (f : Nat) {X : XDyn} {r0 : Rt} (C : XO X mX8_greatest) : XS X mX8_greatest r0 0 (rw_X8_greatest_0 f) := sg_X8_greatest_0 C (sd_X8_greatest_24 f C)
theorem ctr_X8_greatest (f : Nat) : XCt yX8_greatest mX8_greatest (xF mX8_greatest (rw_X8_greatest_0 f)) := xMet (by decide +kernel) rfl (fun _ _ C => sd_X8_greatest_0 f C)
theorem eqf_X8_greatest (f : Nat) (p1 : Int) (h0 : Ob) : xF mX8_greatest (rw_X8_greatest_0 f) [.inr (.inl (0, 0)), .inl p1] [h0] = md_X8_greatest_0 p1 f h0 := eq_X8_greatest_0 p1 f h0
theorem yi_X8_greatest : yX8_greatest.cls = RX8 ∧ yX8_greatest.cls ≠ "java/lang/invoke/MethodHandle" ∧ yX8_greatest.cls ≠ "java/lang/invoke/VarHandle" ∧ (parseMethodDescriptor yX8_greatest.desc).map (fun d => d.parameters.length) = some 1 := ⟨rfl, by decide +kernel, by decide +kernel, by decide +kernel⟩
theorem dX8_fewest_0 : decode cX8_fewest 0 = .ok (.iload_n 1, 1) := by decide +kernel
theorem dX8_fewest_1 : decode cX8_fewest 1 = .ok (.i2l, 1) := by decide +kernel
theorem dX8_fewest_2 : decode cX8_fewest 2 = .ok (.lconst 1, 1) := by decide +kernel
theorem dX8_fewest_3 : decode cX8_fewest 3 = .ok (.ldc2_w 264, 3) := by decide +kernel
theorem dX8_fewest_6 : decode cX8_fewest 6 = .ok (.invokestatic 75, 3) := by decide +kernel
theorem dX8_fewest_9 : decode cX8_fewest 9 = .ok (.ifCond .eq 13, 3) := by decide +kernel
theorem dX8_fewest_12 : decode cX8_fewest 12 = .ok (.iload_n 2, 1) := by decide +kernel
theorem dX8_fewest_13 : decode cX8_fewest 13 = .ok (.i2l, 1) := by decide +kernel
theorem dX8_fewest_14 : decode cX8_fewest 14 = .ok (.lconst 0, 1) := by decide +kernel
theorem dX8_fewest_15 : decode cX8_fewest 15 = .ok (.lconst 1, 1) := by decide +kernel
theorem dX8_fewest_16 : decode cX8_fewest 16 = .ok (.invokestatic 75, 3) := by decide +kernel
theorem dX8_fewest_19 : decode cX8_fewest 19 = .ok (.ifCond .ne 5, 3) := by decide +kernel
theorem dX8_fewest_22 : decode cX8_fewest 22 = .ok (.iconst (-1), 1) := by decide +kernel
theorem dX8_fewest_23 : decode cX8_fewest 23 = .ok (.ireturn, 1) := by decide +kernel
theorem dX8_fewest_24 : decode cX8_fewest 24 = .ok (.iconst 0, 1) := by decide +kernel
theorem dX8_fewest_25 : decode cX8_fewest 25 = .ok (.istore_n 3, 1) := by decide +kernel
theorem dX8_fewest_26 : decode cX8_fewest 26 = .ok (.iconst 0, 1) := by decide +kernel
theorem dX8_fewest_27 : decode cX8_fewest 27 = .ok (.istore 4, 2) := by decide +kernel
theorem dX8_fewest_29 : decode cX8_fewest 29 = .ok (.iload 4, 2) := by decide +kernel
theorem dX8_fewest_31 : decode cX8_fewest 31 = .ok (.bipush 8, 2) := by decide +kernel
theorem dX8_fewest_33 : decode cX8_fewest 33 = .ok (.if_icmp .ge 29, 3) := by decide +kernel
theorem dX8_fewest_36 : decode cX8_fewest 36 = .ok (.iload_n 3, 1) := by decide +kernel
theorem dX8_fewest_37 : decode cX8_fewest 37 = .ok (.aload_n 0, 1) := by decide +kernel
theorem dX8_fewest_38 : decode cX8_fewest 38 = .ok (.iload 4, 2) := by decide +kernel
theorem dX8_fewest_40 : decode cX8_fewest 40 = .ok (.invokevirtual 158, 3) := by decide +kernel
theorem dX8_fewest_43 : decode cX8_fewest 43 = .ok (.ifCond .eq 10, 3) := by decide +kernel
theorem dX8_fewest_46 : decode cX8_fewest 46 = .ok (.iconst 1, 1) := by decide +kernel
theorem dX8_fewest_47 : decode cX8_fewest 47 = .ok (.iload 4, 2) := by decide +kernel
theorem dX8_fewest_49 : decode cX8_fewest 49 = .ok (.ishl, 1) := by decide +kernel
theorem dX8_fewest_50 : decode cX8_fewest 50 = .ok (.goto 4, 3) := by decide +kernel
theorem dX8_fewest_53 : decode cX8_fewest 53 = .ok (.iconst 0, 1) := by decide +kernel
theorem dX8_fewest_54 : decode cX8_fewest 54 = .ok (.ior, 1) := by decide +kernel
theorem dX8_fewest_55 : decode cX8_fewest 55 = .ok (.istore_n 3, 1) := by decide +kernel
theorem dX8_fewest_56 : decode cX8_fewest 56 = .ok (.iinc 4 1, 3) := by decide +kernel
theorem dX8_fewest_59 : decode cX8_fewest 59 = .ok (.goto (-30), 3) := by decide +kernel
theorem dX8_fewest_62 : decode cX8_fewest 62 = .ok (.bipush (-2), 2) := by decide +kernel
theorem dX8_fewest_64 : decode cX8_fewest 64 = .ok (.istore 4, 2) := by decide +kernel
theorem dX8_fewest_66 : decode cX8_fewest 66 = .ok (.iconst 0, 1) := by decide +kernel
theorem dX8_fewest_67 : decode cX8_fewest 67 = .ok (.istore 5, 2) := by decide +kernel
theorem dX8_fewest_69 : decode cX8_fewest 69 = .ok (.iload 5, 2) := by decide +kernel
theorem dX8_fewest_71 : decode cX8_fewest 71 = .ok (.iload_n 3, 1) := by decide +kernel
theorem dX8_fewest_72 : decode cX8_fewest 72 = .ok (.if_icmp .gt 61, 3) := by decide +kernel
theorem dX8_fewest_75 : decode cX8_fewest 75 = .ok (.iload 5, 2) := by decide +kernel
theorem dX8_fewest_77 : decode cX8_fewest 77 = .ok (.iload_n 3, 1) := by decide +kernel
theorem dX8_fewest_78 : decode cX8_fewest 78 = .ok (.iconst (-1), 1) := by decide +kernel
theorem dX8_fewest_79 : decode cX8_fewest 79 = .ok (.ixor, 1) := by decide +kernel
theorem dX8_fewest_80 : decode cX8_fewest 80 = .ok (.iand, 1) := by decide +kernel
theorem dX8_fewest_81 : decode cX8_fewest 81 = .ok (.ifCond .ne 46, 3) := by decide +kernel
theorem dX8_fewest_84 : decode cX8_fewest 84 = .ok (.iload 4, 2) := by decide +kernel
theorem dX8_fewest_86 : decode cX8_fewest 86 = .ok (.ifCond .lt 16, 3) := by decide +kernel
theorem dX8_fewest_89 : decode cX8_fewest 89 = .ok (.iload 5, 2) := by decide +kernel
theorem dX8_fewest_91 : decode cX8_fewest 91 = .ok (.invokestatic 269, 3) := by decide +kernel
theorem dX8_fewest_94 : decode cX8_fewest 94 = .ok (.iload 4, 2) := by decide +kernel
theorem dX8_fewest_96 : decode cX8_fewest 96 = .ok (.invokestatic 269, 3) := by decide +kernel
theorem dX8_fewest_99 : decode cX8_fewest 99 = .ok (.if_icmp .ge 28, 3) := by decide +kernel
theorem dX8_fewest_102 : decode cX8_fewest 102 = .ok (.aload_n 0, 1) := by decide +kernel
theorem dX8_fewest_103 : decode cX8_fewest 103 = .ok (.sipush 255, 3) := by decide +kernel
theorem dX8_fewest_106 : decode cX8_fewest 106 = .ok (.iload 5, 2) := by decide +kernel
theorem dX8_fewest_108 : decode cX8_fewest 108 = .ok (.iconst (-1), 1) := by decide +kernel
theorem dX8_fewest_109 : decode cX8_fewest 109 = .ok (.ixor, 1) := by decide +kernel
theorem dX8_fewest_110 : decode cX8_fewest 110 = .ok (.iand, 1) := by decide +kernel
theorem dX8_fewest_111 : decode cX8_fewest 111 = .ok (.invokevirtual 266, 3) := by decide +kernel
theorem dX8_fewest_114 : decode cX8_fewest 114 = .ok (.iload_n 1, 1) := by decide +kernel
theorem dX8_fewest_115 : decode cX8_fewest 115 = .ok (.iconst 1, 1) := by decide +kernel
theorem dX8_fewest_116 : decode cX8_fewest 116 = .ok (.iadd, 1) := by decide +kernel
theorem dX8_fewest_117 : decode cX8_fewest 117 = .ok (.if_icmp .ge 6, 3) := by decide +kernel
theorem dX8_fewest_120 : decode cX8_fewest 120 = .ok (.goto 7, 3) := by decide +kernel
theorem dX8_fewest_123 : decode cX8_fewest 123 = .ok (.iload 5, 2) := by decide +kernel
theorem dX8_fewest_125 : decode cX8_fewest 125 = .ok (.istore 4, 2) := by decide +kernel
theorem dX8_fewest_127 : decode cX8_fewest 127 = .ok (.iinc 5 1, 3) := by decide +kernel
theorem dX8_fewest_130 : decode cX8_fewest 130 = .ok (.goto (-61), 3) := by decide +kernel
theorem dX8_fewest_133 : decode cX8_fewest 133 = .ok (.iload 4, 2) := by decide +kernel
theorem dX8_fewest_135 : decode cX8_fewest 135 = .ok (.ifCond .ge 8, 3) := by decide +kernel
theorem dX8_fewest_138 : decode cX8_fewest 138 = .ok (.bipush (-2), 2) := by decide +kernel
theorem dX8_fewest_140 : decode cX8_fewest 140 = .ok (.goto 17, 3) := by decide +kernel
theorem dX8_fewest_143 : decode cX8_fewest 143 = .ok (.iload_n 2, 1) := by decide +kernel
theorem dX8_fewest_144 : decode cX8_fewest 144 = .ok (.ifCond .ne 11, 3) := by decide +kernel
theorem dX8_fewest_147 : decode cX8_fewest 147 = .ok (.iload 4, 2) := by decide +kernel
theorem dX8_fewest_149 : decode cX8_fewest 149 = .ok (.invokestatic 269, 3) := by decide +kernel
theorem dX8_fewest_152 : decode cX8_fewest 152 = .ok (.goto 5, 3) := by decide +kernel
theorem dX8_fewest_155 : decode cX8_fewest 155 = .ok (.iload 4, 2) := by decide +kernel
theorem dX8_fewest_157 : decode cX8_fewest 157 = .ok (.ireturn, 1) := by decide +kernel
abbrev mX8_fewest : XM := (cX8_fewest, 6, RX8, (some .int), shw_8, 4)
noncomputable def rg_X8_fewest_0 (k29 : XK) : XK :=
 o_iload 1 <|
 o_i2l <|
 o_lconst 1 <|
 o_lconst 199 <|
 o_callSg 3 1 [] g_X8_in v_X8_in <|
 o_if_eq (o_iconst (-1) <|
 o_ireturn)
 (o_iload 2 <|
 o_i2l <|
 o_lconst 0 <|
 o_lconst 1 <|
 o_callSg 3 1 [] g_X8_in v_X8_in <|
 o_if_ne (o_iconst 0 <|
 o_istore 3 <|
 o_iconst 0 <|
 o_istore 4 <|
 o_cut [] k29)
 (o_iconst (-1) <|
 o_ireturn))
def en_X8_fewest_0 (p1 : Int) (p2 : Int) (a : Ob) : XSt := ([some (.inr (.inl (0, 0))), some (.inl p1), some (.inl p2), none, none, none], [], [a])
noncomputable def rg_X8_fewest_29 (k69 : XK) (k54 : XK) : XK :=
 o_iload 4 <|
 o_iconst 8 <|
 o_icmp_ge (o_iconst (-2) <|
 o_istore 4 <|
 o_iconst 0 <|
 o_istore 5 <|
 o_cut [] k69)
 (o_iload 3 <|
 o_aload 0 <|
 o_iload 4 <|
 o_callV 2 1 [0] f_X8_canGo <|
 o_if_eq (o_iconst 0 <|
 o_cut [3] k54)
 (o_iconst 1 <|
 o_iload 4 <|
 o_ishl <|
 o_cut [3] k54))
def en_X8_fewest_29 (p1 : Int) (p2 : Int) (a : Int × Int × Ob) : XSt := ([some (.inr (.inl (0, 0))), some (.inl p1), some (.inl p2), some (.inl a.1), some (.inl a.2.1), none], [], [a.2.2])
noncomputable def rg_X8_fewest_54 (k29 : XK) : XK :=
 o_ior <|
 o_istore 3 <|
 o_iinc 4 1 <|
 o_cut [] k29
def en_X8_fewest_54 (p1 : Int) (p2 : Int) (a : Int × Int × Int × Ob) : XSt := ([some (.inr (.inl (0, 0))), some (.inl p1), some (.inl p2), none, some (.inl a.1), none], [.inl a.2.2.1, .inl a.2.1], [a.2.2.2])
noncomputable def rg_X8_fewest_69 (k127 : XK) (k102 : XK) : XK :=
 o_iload 5 <|
 o_iload 3 <|
 o_icmp_gt (o_iload 4 <|
 o_if_ge (o_iload 2 <|
 o_if_ne (o_iload 4 <|
 o_ireturn)
 (o_iload 4 <|
 o_callSg 1 1 [] g_X8_bits v_X8_bits <|
 o_ireturn))
 (o_iconst (-2) <|
 o_ireturn))
 (o_iload 5 <|
 o_iload 3 <|
 o_iconst (-1) <|
 o_ixor <|
 o_iand <|
 o_if_ne (o_cut [] k127)
 (o_iload 4 <|
 o_if_lt (o_cut [] k102)
 (o_iload 5 <|
 o_callSg 1 1 [] g_X8_bits v_X8_bits <|
 o_iload 4 <|
 o_callSg 1 1 [] g_X8_bits v_X8_bits <|
 o_icmp_ge (o_cut [] k127)
 (o_cut [] k102))))
def en_X8_fewest_69 (p1 : Int) (p2 : Int) (a : Int × Int × Int × Ob) : XSt := ([some (.inr (.inl (0, 0))), some (.inl p1), some (.inl p2), some (.inl a.1), some (.inl a.2.1), some (.inl a.2.2.1)], [], [a.2.2.2])
noncomputable def rg_X8_fewest_102 (k127 : XK) : XK :=
 o_aload 0 <|
 o_iconst 255 <|
 o_iload 5 <|
 o_iconst (-1) <|
 o_ixor <|
 o_iand <|
 o_callVg 2 1 [0] g_X8_mostThen v_X8_mostThen <|
 o_iload 1 <|
 o_iconst 1 <|
 o_iadd <|
 o_icmp_ge (o_iload 5 <|
 o_istore 4 <|
 o_cut [] k127)
 (o_cut [] k127)
def en_X8_fewest_102 (p1 : Int) (p2 : Int) (a : Int × Int × Int × Ob) : XSt := ([some (.inr (.inl (0, 0))), some (.inl p1), some (.inl p2), some (.inl a.1), some (.inl a.2.1), some (.inl a.2.2.1)], [], [a.2.2.2])
noncomputable def rg_X8_fewest_127 (k69 : XK) : XK :=
 o_iinc 5 1 <|
 o_cut [] k69
def en_X8_fewest_127 (p1 : Int) (p2 : Int) (a : Int × Int × Int × Ob) : XSt := ([some (.inr (.inl (0, 0))), some (.inl p1), some (.inl p2), some (.inl a.1), some (.inl a.2.1), some (.inl a.2.2.1)], [], [a.2.2.2])
noncomputable def mg_X8_fewest_0 (p1 : Int) (p2 : Int) (k29 : (Int × Int × Ob) → Option Rt) (a : Ob) : Option Rt :=
 if xlr (xw p1) && (xlr (1 : Int) && xlr (199 : Int)) then (
 if xw (bz (inn (xw p1) (1 : Int) (199 : Int))) = 0 then (RI (-1) [a])
 else (if xlr (xw p2) && (xlr (0 : Int) && xlr (1 : Int)) then (
 if xw (bz (inn (xw p2) (0 : Int) (1 : Int))) = 0 then (RI (-1) [a])
 else (k29 (0, 0, a))) else none)) else none
set_option maxRecDepth 100000 in
set_option maxHeartbeats 4000000 in
theorem rq_X8_fewest_0 (p1 : Int) (p2 : Int) (k29 : XK) (a : Ob) : rg_X8_fewest_0 k29 (en_X8_fewest_0 p1 p2 a) = mg_X8_fewest_0 p1 p2 (fun b => k29 (en_X8_fewest_29 p1 p2 b)) a := rfl
set_option maxRecDepth 100000 in
set_option maxHeartbeats 4000000 in
theorem sg_X8_fewest_0 {X : XDyn} {r0 : Rt} (C : XO X mX8_fewest) {k29 : XK} (q29 : XS X mX8_fewest r0 29 k29) : XS X mX8_fewest r0 0 (rg_X8_fewest_0 k29) := by
 unfold rg_X8_fewest_0
 exact s_iload_n (pc := 0) C dX8_fewest_0 rfl <|
    s_i2l (pc := 1) C dX8_fewest_1 <|
    s_lconst (pc := 2) C dX8_fewest_2 rfl <|
    s_ldc2 (pc := 3) C dX8_fewest_3 wd_1260 rfl <|
    s_callSg (pc := 6) C ct_X8_in (n := 3) (rk := 1) (mp := []) ⟨rfl, by decide, rfl⟩ (by decide) (by decide) ⟨rfl, yi_X8_in⟩ wd_954 wd_955 wd_81 wd_956 dX8_fewest_6 <|
    s_if_eq (pc := 9) C dX8_fewest_9 (by decide) (s_iconst (pc := 22) C dX8_fewest_22 <|
    s_ireturn (pc := 23) C rfl dX8_fewest_23)
    (s_iload_n (pc := 12) C dX8_fewest_12 rfl <|
    s_i2l (pc := 13) C dX8_fewest_13 <|
    s_lconst (pc := 14) C dX8_fewest_14 rfl <|
    s_lconst (pc := 15) C dX8_fewest_15 rfl <|
    s_callSg (pc := 16) C ct_X8_in (n := 3) (rk := 1) (mp := []) ⟨rfl, by decide, rfl⟩ (by decide) (by decide) ⟨rfl, yi_X8_in⟩ wd_954 wd_955 wd_81 wd_956 dX8_fewest_16 <|
    s_if_ne (pc := 19) C dX8_fewest_19 (by decide) (s_iconst (pc := 24) C dX8_fewest_24 <|
    s_istore_n (pc := 25) C dX8_fewest_25 rfl <|
    s_iconst (pc := 26) C dX8_fewest_26 <|
    s_istore (pc := 27) C dX8_fewest_27 <|
    s_cut q29)
    (s_iconst (pc := 22) C dX8_fewest_22 <|
    s_ireturn (pc := 23) C rfl dX8_fewest_23))
noncomputable def mg_X8_fewest_29 (p1 : Int) (p2 : Int) (k69 : (Int × Int × Int × Ob) → Option Rt) (k54 : (Int × Int × Int × Ob) → Option Rt) (a : Int × Int × Ob) : Option Rt :=
 if xw a.2.1 ≥ 8 then (k69 (a.1, (-2), 0, a.2.2))
 else (if xw (bz (cgoM a.2.2 a.2.1)) = 0 then (k54 (a.2.1, a.1, 0, a.2.2))
 else (k54 (a.2.1, a.1, (xshl 1 a.2.1), a.2.2)))
set_option maxRecDepth 100000 in
set_option maxHeartbeats 4000000 in
theorem rq_X8_fewest_29 (p1 : Int) (p2 : Int) (k69 : XK) (k54 : XK) (a : Int × Int × Ob) : rg_X8_fewest_29 k69 k54 (en_X8_fewest_29 p1 p2 a) = mg_X8_fewest_29 p1 p2 (fun b => k69 (en_X8_fewest_69 p1 p2 b)) (fun b => k54 (en_X8_fewest_54 p1 p2 b)) a := rfl
set_option maxRecDepth 100000 in
set_option maxHeartbeats 4000000 in
theorem sg_X8_fewest_29 {X : XDyn} {r0 : Rt} (C : XO X mX8_fewest) {k69 : XK} (q69 : XS X mX8_fewest r0 69 k69) {k54 : XK} (q54 : XS X mX8_fewest r0 54 k54) : XS X mX8_fewest r0 29 (rg_X8_fewest_29 k69 k54) := by
 unfold rg_X8_fewest_29
 exact s_iload (pc := 29) C dX8_fewest_29 <|
    s_bipush (pc := 31) C dX8_fewest_31 (by decide) <|
    s_icmp_ge (pc := 33) C dX8_fewest_33 (by decide) (s_bipush (pc := 62) C dX8_fewest_62 (by decide) <|
    s_istore (pc := 64) C dX8_fewest_64 <|
    s_iconst (pc := 66) C dX8_fewest_66 <|
    s_istore (pc := 67) C dX8_fewest_67 <|
    s_cut q69)
    (s_iload_n (pc := 36) C dX8_fewest_36 rfl <|
    s_aload_n (pc := 37) C dX8_fewest_37 rfl <|
    s_iload (pc := 38) C dX8_fewest_38 <|
    s_callV (pc := 40) C ct_X8_canGo (n := 2) (rk := 1) (mp := [0]) ⟨rfl, by decide, rfl⟩ (ci := 8) rfl rfl (by decide) (by decide) yi_X8_canGo (by decide) wd_1085 wd_1087 wd_47 wd_81 wd_1088 dX8_fewest_40 <|
    s_if_eq (pc := 43) C dX8_fewest_43 (by decide) (s_iconst (pc := 53) C dX8_fewest_53 <|
    s_cut q54)
    (s_iconst (pc := 46) C dX8_fewest_46 <|
    s_iload (pc := 47) C dX8_fewest_47 <|
    s_ishl (pc := 49) C dX8_fewest_49 <|
    s_goto (pc := 50) C dX8_fewest_50 (by decide) <|
    s_cut q54))
noncomputable def mg_X8_fewest_54 (p1 : Int) (p2 : Int) (k29 : (Int × Int × Ob) → Option Rt) (a : Int × Int × Int × Ob) : Option Rt :=
 k29 ((xor_ a.2.1 a.2.2.1), (a.1 + 1), a.2.2.2)
set_option maxRecDepth 100000 in
set_option maxHeartbeats 4000000 in
theorem rq_X8_fewest_54 (p1 : Int) (p2 : Int) (k29 : XK) (a : Int × Int × Int × Ob) : rg_X8_fewest_54 k29 (en_X8_fewest_54 p1 p2 a) = mg_X8_fewest_54 p1 p2 (fun b => k29 (en_X8_fewest_29 p1 p2 b)) a := rfl
set_option maxRecDepth 100000 in
set_option maxHeartbeats 4000000 in
theorem sg_X8_fewest_54 {X : XDyn} {r0 : Rt} (C : XO X mX8_fewest) {k29 : XK} (q29 : XS X mX8_fewest r0 29 k29) : XS X mX8_fewest r0 54 (rg_X8_fewest_54 k29) := by
 unfold rg_X8_fewest_54
 exact s_ior (pc := 54) C dX8_fewest_54 <|
    s_istore_n (pc := 55) C dX8_fewest_55 rfl <|
    s_iinc (pc := 56) C dX8_fewest_56 <|
    s_goto (pc := 59) C dX8_fewest_59 (by decide) <|
    s_cut q29
noncomputable def mg_X8_fewest_69 (p1 : Int) (p2 : Int) (k127 : (Int × Int × Int × Ob) → Option Rt) (k102 : (Int × Int × Int × Ob) → Option Rt) (a : Int × Int × Int × Ob) : Option Rt :=
 if xw a.2.2.1 > xw a.1 then (if xw a.2.1 ≥ 0 then (if xw p2 = 0 then (if decide (0 ≤ a.2.1 ∧ a.2.1 < 256) then (
 RI (bcn a.2.1) [a.2.2.2]) else none)
 else (RI a.2.1 [a.2.2.2]))
 else (RI (-2) [a.2.2.2]))
 else (if xw (xand a.2.2.1 (xxor a.1 (-1))) = 0 then (if xw a.2.1 < 0 then (k102 (a.1, a.2.1, a.2.2.1, a.2.2.2))
 else (if decide (0 ≤ a.2.2.1 ∧ a.2.2.1 < 256) then (
 if decide (0 ≤ a.2.1 ∧ a.2.1 < 256) then (
 if xw (bcn a.2.2.1) ≥ xw (bcn a.2.1) then (k127 (a.1, a.2.1, a.2.2.1, a.2.2.2))
 else (k102 (a.1, a.2.1, a.2.2.1, a.2.2.2))) else none) else none))
 else (k127 (a.1, a.2.1, a.2.2.1, a.2.2.2)))
set_option maxRecDepth 100000 in
set_option maxHeartbeats 4000000 in
theorem rq_X8_fewest_69 (p1 : Int) (p2 : Int) (k127 : XK) (k102 : XK) (a : Int × Int × Int × Ob) : rg_X8_fewest_69 k127 k102 (en_X8_fewest_69 p1 p2 a) = mg_X8_fewest_69 p1 p2 (fun b => k127 (en_X8_fewest_127 p1 p2 b)) (fun b => k102 (en_X8_fewest_102 p1 p2 b)) a := rfl
set_option maxRecDepth 100000 in
set_option maxHeartbeats 4000000 in
theorem sg_X8_fewest_69 {X : XDyn} {r0 : Rt} (C : XO X mX8_fewest) {k127 : XK} (q127 : XS X mX8_fewest r0 127 k127) {k102 : XK} (q102 : XS X mX8_fewest r0 102 k102) : XS X mX8_fewest r0 69 (rg_X8_fewest_69 k127 k102) := by
 unfold rg_X8_fewest_69
 exact s_iload (pc := 69) C dX8_fewest_69 <|
    s_iload_n (pc := 71) C dX8_fewest_71 rfl <|
    s_icmp_gt (pc := 72) C dX8_fewest_72 (by decide) (s_iload (pc := 133) C dX8_fewest_133 <|
    s_if_ge (pc := 135) C dX8_fewest_135 (by decide) (s_iload_n (pc := 143) C dX8_fewest_143 rfl <|
    s_if_ne (pc := 144) C dX8_fewest_144 (by decide) (s_iload (pc := 155) C dX8_fewest_155 <|
    s_ireturn (pc := 157) C rfl dX8_fewest_157)
    (s_iload (pc := 147) C dX8_fewest_147 <|
    s_callSg (pc := 149) C ct_X8_bits (n := 1) (rk := 1) (mp := []) ⟨rfl, by decide, rfl⟩ (by decide) (by decide) ⟨rfl, yi_X8_bits⟩ wd_1273 wd_1274 wd_81 wd_1275 dX8_fewest_149 <|
    s_goto (pc := 152) C dX8_fewest_152 (by decide) <|
    s_ireturn (pc := 157) C rfl dX8_fewest_157))
    (s_bipush (pc := 138) C dX8_fewest_138 (by decide) <|
    s_goto (pc := 140) C dX8_fewest_140 (by decide) <|
    s_ireturn (pc := 157) C rfl dX8_fewest_157))
    (s_iload (pc := 75) C dX8_fewest_75 <|
    s_iload_n (pc := 77) C dX8_fewest_77 rfl <|
    s_iconst (pc := 78) C dX8_fewest_78 <|
    s_ixor (pc := 79) C dX8_fewest_79 <|
    s_iand (pc := 80) C dX8_fewest_80 <|
    s_if_ne (pc := 81) C dX8_fewest_81 (by decide) (s_cut q127)
    (s_iload (pc := 84) C dX8_fewest_84 <|
    s_if_lt (pc := 86) C dX8_fewest_86 (by decide) (s_cut q102)
    (s_iload (pc := 89) C dX8_fewest_89 <|
    s_callSg (pc := 91) C ct_X8_bits (n := 1) (rk := 1) (mp := []) ⟨rfl, by decide, rfl⟩ (by decide) (by decide) ⟨rfl, yi_X8_bits⟩ wd_1273 wd_1274 wd_81 wd_1275 dX8_fewest_91 <|
    s_iload (pc := 94) C dX8_fewest_94 <|
    s_callSg (pc := 96) C ct_X8_bits (n := 1) (rk := 1) (mp := []) ⟨rfl, by decide, rfl⟩ (by decide) (by decide) ⟨rfl, yi_X8_bits⟩ wd_1273 wd_1274 wd_81 wd_1275 dX8_fewest_96 <|
    s_icmp_ge (pc := 99) C dX8_fewest_99 (by decide) (s_cut q127)
    (s_cut q102))))
noncomputable def mg_X8_fewest_102 (p1 : Int) (p2 : Int) (k127 : (Int × Int × Int × Ob) → Option Rt) (a : Int × Int × Int × Ob) : Option Rt :=
 if oqI (ov_X8_mostThen (xand 255 (xxor a.2.2.1 (-1))) a.2.2.2) then (
 if xw (oqR (ov_X8_mostThen (xand 255 (xxor a.2.2.1 (-1))) a.2.2.2)) ≥ xw (p1 + 1) then (k127 (a.1, a.2.2.1, a.2.2.1, (oqO (ov_X8_mostThen (xand 255 (xxor a.2.2.1 (-1))) a.2.2.2) 0)))
 else (k127 (a.1, a.2.1, a.2.2.1, (oqO (ov_X8_mostThen (xand 255 (xxor a.2.2.1 (-1))) a.2.2.2) 0)))) else none
set_option maxRecDepth 100000 in
set_option maxHeartbeats 4000000 in
theorem rq_X8_fewest_102 (p1 : Int) (p2 : Int) (k127 : XK) (a : Int × Int × Int × Ob) : rg_X8_fewest_102 k127 (en_X8_fewest_102 p1 p2 a) = mg_X8_fewest_102 p1 p2 (fun b => k127 (en_X8_fewest_127 p1 p2 b)) a := rfl
set_option maxRecDepth 100000 in
set_option maxHeartbeats 4000000 in
theorem sg_X8_fewest_102 {X : XDyn} {r0 : Rt} (C : XO X mX8_fewest) {k127 : XK} (q127 : XS X mX8_fewest r0 127 k127) : XS X mX8_fewest r0 102 (rg_X8_fewest_102 k127) := by
 unfold rg_X8_fewest_102
 exact s_aload_n (pc := 102) C dX8_fewest_102 rfl <|
    s_sipush (pc := 103) C dX8_fewest_103 (by decide) <|
    s_iload (pc := 106) C dX8_fewest_106 <|
    s_iconst (pc := 108) C dX8_fewest_108 <|
    s_ixor (pc := 109) C dX8_fewest_109 <|
    s_iand (pc := 110) C dX8_fewest_110 <|
    s_callVg (pc := 111) C ct_X8_mostThen (n := 2) (rk := 1) (mp := [0]) ⟨rfl, by decide, rfl⟩ (ci := 8) rfl rfl (by decide) (by decide) yi_X8_mostThen (by decide) wd_1265 wd_1267 wd_66 wd_81 wd_1268 dX8_fewest_111 <|
    s_iload_n (pc := 114) C dX8_fewest_114 rfl <|
    s_iconst (pc := 115) C dX8_fewest_115 <|
    s_iadd (pc := 116) C dX8_fewest_116 <|
    s_icmp_ge (pc := 117) C dX8_fewest_117 (by decide) (s_iload (pc := 123) C dX8_fewest_123 <|
    s_istore (pc := 125) C dX8_fewest_125 <|
    s_cut q127)
    (s_goto (pc := 120) C dX8_fewest_120 (by decide) <|
    s_cut q127)
noncomputable def mg_X8_fewest_127 (p1 : Int) (p2 : Int) (k69 : (Int × Int × Int × Ob) → Option Rt) (a : Int × Int × Int × Ob) : Option Rt :=
 k69 (a.1, a.2.1, (a.2.2.1 + 1), a.2.2.2)
set_option maxRecDepth 100000 in
set_option maxHeartbeats 4000000 in
theorem rq_X8_fewest_127 (p1 : Int) (p2 : Int) (k69 : XK) (a : Int × Int × Int × Ob) : rg_X8_fewest_127 k69 (en_X8_fewest_127 p1 p2 a) = mg_X8_fewest_127 p1 p2 (fun b => k69 (en_X8_fewest_69 p1 p2 b)) a := rfl
set_option maxRecDepth 100000 in
set_option maxHeartbeats 4000000 in
theorem sg_X8_fewest_127 {X : XDyn} {r0 : Rt} (C : XO X mX8_fewest) {k69 : XK} (q69 : XS X mX8_fewest r0 69 k69) : XS X mX8_fewest r0 127 (rg_X8_fewest_127 k69) := by
 unfold rg_X8_fewest_127
 exact s_iinc (pc := 127) C dX8_fewest_127 <|
    s_goto (pc := 130) C dX8_fewest_130 (by decide) <|
    s_cut q69
noncomputable def rw_X8_fewest_127 (f : Nat) (k69 : XK) : XK := rg_X8_fewest_127 k69
noncomputable def md_X8_fewest_127 (p1 : Int) (p2 : Int) (f : Nat) (k69 : (Int × Int × Int × Ob) → Option Rt) : Int × Int × Int × Ob → Option Rt := mg_X8_fewest_127 p1 p2 k69
theorem eq_X8_fewest_127 (p1 : Int) (p2 : Int) (f : Nat) (k69 : XK) (a : Int × Int × Int × Ob) : rw_X8_fewest_127 f k69 (en_X8_fewest_127 p1 p2 a) = md_X8_fewest_127 p1 p2 f (fun b => k69 (en_X8_fewest_69 p1 p2 b)) a :=
 (rq_X8_fewest_127 p1 p2 k69 a).trans (congrFun (congr (rfl : mg_X8_fewest_127 p1 p2 = mg_X8_fewest_127 p1 p2) rfl) a)
theorem sd_X8_fewest_127 (f : Nat) {X : XDyn} {r0 : Rt} (C : XO X mX8_fewest) {k69 : XK} (q69 : XS X mX8_fewest r0 69 k69) : XS X mX8_fewest r0 127 (rw_X8_fewest_127 f k69) := sg_X8_fewest_127 C q69
noncomputable def rw_X8_fewest_102 (f : Nat) (k69 : XK) : XK := rg_X8_fewest_102 (rw_X8_fewest_127 f k69)
noncomputable def md_X8_fewest_102 (p1 : Int) (p2 : Int) (f : Nat) (k69 : (Int × Int × Int × Ob) → Option Rt) : Int × Int × Int × Ob → Option Rt := mg_X8_fewest_102 p1 p2 (md_X8_fewest_127 p1 p2 f k69)
theorem eq_X8_fewest_102 (p1 : Int) (p2 : Int) (f : Nat) (k69 : XK) (a : Int × Int × Int × Ob) : rw_X8_fewest_102 f k69 (en_X8_fewest_102 p1 p2 a) = md_X8_fewest_102 p1 p2 f (fun b => k69 (en_X8_fewest_69 p1 p2 b)) a :=
 (rq_X8_fewest_102 p1 p2 (rw_X8_fewest_127 f k69) a).trans (congrFun (congr (rfl : mg_X8_fewest_102 p1 p2 = mg_X8_fewest_102 p1 p2) (funext (eq_X8_fewest_127 p1 p2 f k69))) a)
theorem sd_X8_fewest_102 (f : Nat) {X : XDyn} {r0 : Rt} (C : XO X mX8_fewest) {k69 : XK} (q69 : XS X mX8_fewest r0 69 k69) : XS X mX8_fewest r0 102 (rw_X8_fewest_102 f k69) := sg_X8_fewest_102 C (sd_X8_fewest_127 f C q69)
noncomputable def rw_X8_fewest_69 (f : Nat) : XK := tlp (fun k69 => rg_X8_fewest_69 (rw_X8_fewest_127 f k69) (rw_X8_fewest_102 f k69)) f
noncomputable def lb_X8_fewest_69 (p1 : Int) (p2 : Int) (f : Nat) : ((Int × Int × Int × Ob) → Option Rt) → Int × Int × Int × Ob → Option Rt := fun k69 => mg_X8_fewest_69 p1 p2 (md_X8_fewest_127 p1 p2 f k69) (md_X8_fewest_102 p1 p2 f k69)
noncomputable def md_X8_fewest_69 (p1 : Int) (p2 : Int) (f : Nat) : Int × Int × Int × Ob → Option Rt := tlp (lb_X8_fewest_69 p1 p2 f) f
theorem eq_X8_fewest_69 (p1 : Int) (p2 : Int) (f : Nat) (a : Int × Int × Int × Ob) : rw_X8_fewest_69 f (en_X8_fewest_69 p1 p2 a) = md_X8_fewest_69 p1 p2 f a :=
 tlp_enc (en_X8_fewest_69 p1 p2) (fun k69 a => (rq_X8_fewest_69 p1 p2 (rw_X8_fewest_127 f k69) (rw_X8_fewest_102 f k69) a).trans (congrFun (congr (congr (rfl : mg_X8_fewest_69 p1 p2 = mg_X8_fewest_69 p1 p2) (funext (eq_X8_fewest_127 p1 p2 f k69))) (funext (eq_X8_fewest_102 p1 p2 f k69))) a)) f a
theorem sd_X8_fewest_69 (f : Nat) {X : XDyn} {r0 : Rt} (C : XO X mX8_fewest) : XS X mX8_fewest r0 69 (rw_X8_fewest_69 f) := s_lp (fun k69 q69 => sg_X8_fewest_69 C (sd_X8_fewest_127 f C q69) (sd_X8_fewest_102 f C q69)) f
noncomputable def rw_X8_fewest_54 (f : Nat) (k29 : XK) : XK := rg_X8_fewest_54 k29
noncomputable def md_X8_fewest_54 (p1 : Int) (p2 : Int) (f : Nat) (k29 : (Int × Int × Ob) → Option Rt) : Int × Int × Int × Ob → Option Rt := mg_X8_fewest_54 p1 p2 k29
theorem eq_X8_fewest_54 (p1 : Int) (p2 : Int) (f : Nat) (k29 : XK) (a : Int × Int × Int × Ob) : rw_X8_fewest_54 f k29 (en_X8_fewest_54 p1 p2 a) = md_X8_fewest_54 p1 p2 f (fun b => k29 (en_X8_fewest_29 p1 p2 b)) a :=
 (rq_X8_fewest_54 p1 p2 k29 a).trans (congrFun (congr (rfl : mg_X8_fewest_54 p1 p2 = mg_X8_fewest_54 p1 p2) rfl) a)
theorem sd_X8_fewest_54 (f : Nat) {X : XDyn} {r0 : Rt} (C : XO X mX8_fewest) {k29 : XK} (q29 : XS X mX8_fewest r0 29 k29) : XS X mX8_fewest r0 54 (rw_X8_fewest_54 f k29) := sg_X8_fewest_54 C q29
noncomputable def rw_X8_fewest_29 (f : Nat) : XK := tlp (fun k29 => rg_X8_fewest_29 (rw_X8_fewest_69 f) (rw_X8_fewest_54 f k29)) f
noncomputable def lb_X8_fewest_29 (p1 : Int) (p2 : Int) (f : Nat) : ((Int × Int × Ob) → Option Rt) → Int × Int × Ob → Option Rt := fun k29 => mg_X8_fewest_29 p1 p2 (md_X8_fewest_69 p1 p2 f) (md_X8_fewest_54 p1 p2 f k29)
noncomputable def md_X8_fewest_29 (p1 : Int) (p2 : Int) (f : Nat) : Int × Int × Ob → Option Rt := tlp (lb_X8_fewest_29 p1 p2 f) f
theorem eq_X8_fewest_29 (p1 : Int) (p2 : Int) (f : Nat) (a : Int × Int × Ob) : rw_X8_fewest_29 f (en_X8_fewest_29 p1 p2 a) = md_X8_fewest_29 p1 p2 f a :=
 tlp_enc (en_X8_fewest_29 p1 p2) (fun k29 a => (rq_X8_fewest_29 p1 p2 (rw_X8_fewest_69 f) (rw_X8_fewest_54 f k29) a).trans (congrFun (congr (congr (rfl : mg_X8_fewest_29 p1 p2 = mg_X8_fewest_29 p1 p2) (funext (eq_X8_fewest_69 p1 p2 f))) (funext (eq_X8_fewest_54 p1 p2 f k29))) a)) f a
theorem sd_X8_fewest_29 (f : Nat) {X : XDyn} {r0 : Rt} (C : XO X mX8_fewest) : XS X mX8_fewest r0 29 (rw_X8_fewest_29 f) := s_lp (fun k29 q29 => sg_X8_fewest_29 C (sd_X8_fewest_69 f C) (sd_X8_fewest_54 f C q29)) f
noncomputable def rw_X8_fewest_0 (f : Nat) : XK := rg_X8_fewest_0 (rw_X8_fewest_29 f)
noncomputable def md_X8_fewest_0 (p1 : Int) (p2 : Int) (f : Nat) : Ob → Option Rt := mg_X8_fewest_0 p1 p2 (md_X8_fewest_29 p1 p2 f)
theorem eq_X8_fewest_0 (p1 : Int) (p2 : Int) (f : Nat) (a : Ob) : rw_X8_fewest_0 f (en_X8_fewest_0 p1 p2 a) = md_X8_fewest_0 p1 p2 f a :=
 (rq_X8_fewest_0 p1 p2 (rw_X8_fewest_29 f) a).trans (congrFun (congr (rfl : mg_X8_fewest_0 p1 p2 = mg_X8_fewest_0 p1 p2) (funext (eq_X8_fewest_29 p1 p2 f))) a)
theorem sd_X8_fewest_0 (f : Nat) {X : XDyn} {r0 : Rt} (C : XO X mX8_fewest) : XS X mX8_fewest r0 0 (rw_X8_fewest_0 f) := sg_X8_fewest_0 C (sd_X8_fewest_29 f C)
theorem ctr_X8_fewest (f : Nat) : XCt yX8_fewest mX8_fewest (xF mX8_fewest (rw_X8_fewest_0 f)) := xMet (by decide +kernel) rfl (fun _ _ C => sd_X8_fewest_0 f C)
theorem eqf_X8_fewest (f : Nat) (p1 : Int) (p2 : Int) (h0 : Ob) : xF mX8_fewest (rw_X8_fewest_0 f) [.inr (.inl (0, 0)), .inl p1, .inl p2] [h0] = md_X8_fewest_0 p1 p2 f h0 := eq_X8_fewest_0 p1 p2 f h0
theorem yi_X8_fewest : yX8_fewest.cls = RX8 ∧ yX8_fewest.cls ≠ "java/lang/invoke/MethodHandle" ∧ yX8_fewest.cls ≠ "java/lang/invoke/VarHandle" ∧ (parseMethodDescriptor yX8_fewest.desc).map (fun d => d.parameters.length) = some 2 := ⟨rfl, by decide +kernel, by decide +kernel, by decide +kernel⟩
theorem dX8_takes_0 : decode cX8_takes 0 = .ok (.aload_n 0, 1) := by decide +kernel
theorem dX8_takes_1 : decode cX8_takes 1 = .ok (.getfield 34, 3) := by decide +kernel
theorem dX8_takes_4 : decode cX8_takes 4 = .ok (.aload_n 0, 1) := by decide +kernel
theorem dX8_takes_5 : decode cX8_takes 5 = .ok (.getfield 272, 3) := by decide +kernel
theorem dX8_takes_8 : decode cX8_takes 8 = .ok (.iload_n 1, 1) := by decide +kernel
theorem dX8_takes_9 : decode cX8_takes 9 = .ok (.iastore, 1) := by decide +kernel
theorem dX8_takes_10 : decode cX8_takes 10 = .ok (.aload_n 0, 1) := by decide +kernel
theorem dX8_takes_11 : decode cX8_takes 11 = .ok (.dup, 1) := by decide +kernel
theorem dX8_takes_12 : decode cX8_takes 12 = .ok (.getfield 272, 3) := by decide +kernel
theorem dX8_takes_15 : decode cX8_takes 15 = .ok (.iconst 1, 1) := by decide +kernel
theorem dX8_takes_16 : decode cX8_takes 16 = .ok (.iadd, 1) := by decide +kernel
theorem dX8_takes_17 : decode cX8_takes 17 = .ok (.putfield 272, 3) := by decide +kernel
theorem dX8_takes_20 : decode cX8_takes 20 = .ok (.return_, 1) := by decide +kernel
abbrev mX8_takes : XM := (cX8_takes, 2, RX8, none, shw_8, 0)
noncomputable def rg_X8_takes_0 : XK :=
 o_aload 0 <|
 o_get shw_8 8 12 <|
 o_aload 0 <|
 o_get shw_8 8 24 <|
 o_iload 1 <|
 o_iast shw_8 <|
 o_aload 0 <|
 o_dup <|
 o_get shw_8 8 24 <|
 o_iconst 1 <|
 o_iadd <|
 o_put shw_8 8 24 false <|
 o_return
def en_X8_takes_0 (p1 : Int) (a : Ob) : XSt := ([some (.inr (.inl (0, 0))), some (.inl p1)], [], [a])
noncomputable def mg_X8_takes_0 (p1 : Int) (a : Ob) : Option Rt :=
 if xin (a 0 24) 12 then (
 RV [(xset (xset a 9 (xw (a 0 24)).toNat p1) 0 24 (((xset a 9 (xw (a 0 24)).toNat p1) 0 24) + 1))]) else none
set_option maxRecDepth 100000 in
set_option maxHeartbeats 4000000 in
theorem rq_X8_takes_0 (p1 : Int) (a : Ob) : rg_X8_takes_0 (en_X8_takes_0 p1 a) = mg_X8_takes_0 p1 a := rfl
set_option maxRecDepth 100000 in
set_option maxHeartbeats 4000000 in
theorem sg_X8_takes_0 {X : XDyn} {r0 : Rt} (C : XO X mX8_takes) : XS X mX8_takes r0 0 (rg_X8_takes_0) := by
 unfold rg_X8_takes_0
 exact s_aload_n (pc := 0) C dX8_takes_0 rfl <|
    s_get (pc := 1) C (ci := 8) (kf := 12) rfl inX8 (by decide) wd_883 dX8_takes_1 <|
    s_aload_n (pc := 4) C dX8_takes_4 rfl <|
    s_get (pc := 5) C (ci := 8) (kf := 24) rfl inX8 (by decide) wd_895 dX8_takes_5 <|
    s_iload_n (pc := 8) C dX8_takes_8 rfl <|
    s_iast (pc := 9) C dX8_takes_9 <|
    s_aload_n (pc := 10) C dX8_takes_10 rfl <|
    s_dup (pc := 11) C dX8_takes_11 <|
    s_get (pc := 12) C (ci := 8) (kf := 24) rfl inX8 (by decide) wd_895 dX8_takes_12 <|
    s_iconst (pc := 15) C dX8_takes_15 <|
    s_iadd (pc := 16) C dX8_takes_16 <|
    s_put (pc := 17) (z := false) C (ci := 8) (kf := 24) rfl inX8 tyX8_ok nmX8 (by decide) wd_895 rfl rfl dX8_takes_17 <|
    s_return (pc := 20) C rfl dX8_takes_20
noncomputable def rw_X8_takes_0 : XK := rg_X8_takes_0
noncomputable def md_X8_takes_0 (p1 : Int) : Ob → Option Rt := mg_X8_takes_0 p1
theorem eq_X8_takes_0 (p1 : Int) (a : Ob) : rw_X8_takes_0 (en_X8_takes_0 p1 a) = md_X8_takes_0 p1 a :=
 rq_X8_takes_0 p1 a
theorem sd_X8_takes_0 {X : XDyn} {r0 : Rt} (C : XO X mX8_takes) : XS X mX8_takes r0 0 (rw_X8_takes_0) := sg_X8_takes_0 C
theorem ctr_X8_takes : XCt yX8_takes mX8_takes (xF mX8_takes (rw_X8_takes_0)) := xMet (by decide +kernel) rfl (fun _ _ C => sd_X8_takes_0 C)
theorem eqf_X8_takes (p1 : Int) (h0 : Ob) : xF mX8_takes (rw_X8_takes_0) [.inr (.inl (0, 0)), .inl p1] [h0] = md_X8_takes_0 p1 h0 := eq_X8_takes_0 p1 h0
theorem yi_X8_takes : yX8_takes.cls = RX8 ∧ yX8_takes.cls ≠ "java/lang/invoke/MethodHandle" ∧ yX8_takes.cls ≠ "java/lang/invoke/VarHandle" ∧ (parseMethodDescriptor yX8_takes.desc).map (fun d => d.parameters.length) = some 1 := ⟨rfl, by decide +kernel, by decide +kernel, by decide +kernel⟩
noncomputable def ov_X8_takes (p1 : Int) (h0 : Ob) : Option Rt := xop (md_X8_takes_0 p1 h0)
theorem ov_X8_takes_e (p1 : Int) (h0 : Ob) : ov_X8_takes p1 h0 = md_X8_takes_0 p1 h0 := xop_eq _
theorem sp_X8_takes (p1 : Int) (h0 : Ob) (hg : oqV (ov_X8_takes p1 h0) = true) : md_X8_takes_0 p1 h0 = RV [(oqO (ov_X8_takes p1 h0) 0)] := (ov_X8_takes_e p1 h0).symm.trans (oqV_eq hg)
noncomputable def g_X8_takes : List AV → List Ob → Bool
  | [.inr (.inl (0, 0)), .inl p1], [h0] => oqV (ov_X8_takes p1 h0)
  | _, _ => false
noncomputable def v_X8_takes : List AV → List Ob → Rt
  | [.inr (.inl (0, 0)), .inl p1], [h0] => (none, [(oqO (ov_X8_takes p1 h0) 0)])
  | _, _ => (none, [])
theorem ct_X8_takes : XCt yX8_takes mX8_takes (fun as μ => if g_X8_takes as μ then some (v_X8_takes as μ) else none) := (ctr_X8_takes ).of (fun as μ r h => by
  split at h
  · rename_i hg
    unfold g_X8_takes at hg
    split at hg
    · rw [← h]
      exact (eqf_X8_takes _ _).trans (sp_X8_takes _ _ hg)
    · cases hg
  · cases h)
theorem dX8_three_0 : decode cX8_three 0 = .ok (.iload_n 1, 1) := by decide +kernel
theorem dX8_three_1 : decode cX8_three 1 = .ok (.i2l, 1) := by decide +kernel
theorem dX8_three_2 : decode cX8_three 2 = .ok (.lconst 0, 1) := by decide +kernel
theorem dX8_three_3 : decode cX8_three 3 = .ok (.ldc2_w 264, 3) := by decide +kernel
theorem dX8_three_6 : decode cX8_three 6 = .ok (.invokestatic 75, 3) := by decide +kernel
theorem dX8_three_9 : decode cX8_three 9 = .ok (.ifCond .eq 27, 3) := by decide +kernel
theorem dX8_three_12 : decode cX8_three 12 = .ok (.iload_n 2, 1) := by decide +kernel
theorem dX8_three_13 : decode cX8_three 13 = .ok (.i2l, 1) := by decide +kernel
theorem dX8_three_14 : decode cX8_three 14 = .ok (.lconst 0, 1) := by decide +kernel
theorem dX8_three_15 : decode cX8_three 15 = .ok (.ldc2_w 264, 3) := by decide +kernel
theorem dX8_three_18 : decode cX8_three 18 = .ok (.invokestatic 75, 3) := by decide +kernel
theorem dX8_three_21 : decode cX8_three 21 = .ok (.ifCond .eq 15, 3) := by decide +kernel
theorem dX8_three_24 : decode cX8_three 24 = .ok (.iload_n 3, 1) := by decide +kernel
theorem dX8_three_25 : decode cX8_three 25 = .ok (.i2l, 1) := by decide +kernel
theorem dX8_three_26 : decode cX8_three 26 = .ok (.lconst 0, 1) := by decide +kernel
theorem dX8_three_27 : decode cX8_three 27 = .ok (.ldc2_w 264, 3) := by decide +kernel
theorem dX8_three_30 : decode cX8_three 30 = .ok (.invokestatic 75, 3) := by decide +kernel
theorem dX8_three_33 : decode cX8_three 33 = .ok (.ifCond .ne 5, 3) := by decide +kernel
theorem dX8_three_36 : decode cX8_three 36 = .ok (.iconst 0, 1) := by decide +kernel
theorem dX8_three_37 : decode cX8_three 37 = .ok (.ireturn, 1) := by decide +kernel
theorem dX8_three_38 : decode cX8_three 38 = .ok (.aload_n 0, 1) := by decide +kernel
theorem dX8_three_39 : decode cX8_three 39 = .ok (.invokevirtual 109, 3) := by decide +kernel
theorem dX8_three_42 : decode cX8_three 42 = .ok (.aload_n 0, 1) := by decide +kernel
theorem dX8_three_43 : decode cX8_three 43 = .ok (.aload_n 0, 1) := by decide +kernel
theorem dX8_three_44 : decode cX8_three 44 = .ok (.getfield 7, 3) := by decide +kernel
theorem dX8_three_47 : decode cX8_three 47 = .ok (.iconst 1, 1) := by decide +kernel
theorem dX8_three_48 : decode cX8_three 48 = .ok (.iaload, 1) := by decide +kernel
theorem dX8_three_49 : decode cX8_three 49 = .ok (.invokevirtual 139, 3) := by decide +kernel
theorem dX8_three_52 : decode cX8_three 52 = .ok (.aload_n 0, 1) := by decide +kernel
theorem dX8_three_53 : decode cX8_three 53 = .ok (.iconst 0, 1) := by decide +kernel
theorem dX8_three_54 : decode cX8_three 54 = .ok (.putfield 272, 3) := by decide +kernel
theorem dX8_three_57 : decode cX8_three 57 = .ok (.iconst 0, 1) := by decide +kernel
theorem dX8_three_58 : decode cX8_three 58 = .ok (.istore 4, 2) := by decide +kernel
theorem dX8_three_60 : decode cX8_three 60 = .ok (.iload 4, 2) := by decide +kernel
theorem dX8_three_62 : decode cX8_three 62 = .ok (.aload_n 0, 1) := by decide +kernel
theorem dX8_three_63 : decode cX8_three 63 = .ok (.getfield 122, 3) := by decide +kernel
theorem dX8_three_66 : decode cX8_three 66 = .ok (.if_icmp .ge 24, 3) := by decide +kernel
theorem dX8_three_69 : decode cX8_three 69 = .ok (.aload_n 0, 1) := by decide +kernel
theorem dX8_three_70 : decode cX8_three 70 = .ok (.aload_n 0, 1) := by decide +kernel
theorem dX8_three_71 : decode cX8_three 71 = .ok (.aload_n 0, 1) := by decide +kernel
theorem dX8_three_72 : decode cX8_three 72 = .ok (.getfield 28, 3) := by decide +kernel
theorem dX8_three_75 : decode cX8_three 75 = .ok (.iload 4, 2) := by decide +kernel
theorem dX8_three_77 : decode cX8_three 77 = .ok (.iaload, 1) := by decide +kernel
theorem dX8_three_78 : decode cX8_three 78 = .ok (.invokevirtual 93, 3) := by decide +kernel
theorem dX8_three_81 : decode cX8_three 81 = .ok (.invokevirtual 275, 3) := by decide +kernel
theorem dX8_three_84 : decode cX8_three 84 = .ok (.iinc 4 1, 3) := by decide +kernel
theorem dX8_three_87 : decode cX8_three 87 = .ok (.goto (-27), 3) := by decide +kernel
theorem dX8_three_90 : decode cX8_three 90 = .ok (.iload_n 1, 1) := by decide +kernel
theorem dX8_three_91 : decode cX8_three 91 = .ok (.ifCond .le 10, 3) := by decide +kernel
theorem dX8_three_94 : decode cX8_three 94 = .ok (.aload_n 0, 1) := by decide +kernel
theorem dX8_three_95 : decode cX8_three 95 = .ok (.iload_n 1, 1) := by decide +kernel
theorem dX8_three_96 : decode cX8_three 96 = .ok (.iconst 1, 1) := by decide +kernel
theorem dX8_three_97 : decode cX8_three 97 = .ok (.iadd, 1) := by decide +kernel
theorem dX8_three_98 : decode cX8_three 98 = .ok (.invokevirtual 275, 3) := by decide +kernel
theorem dX8_three_101 : decode cX8_three 101 = .ok (.iload_n 2, 1) := by decide +kernel
theorem dX8_three_102 : decode cX8_three 102 = .ok (.ifCond .le 10, 3) := by decide +kernel
theorem dX8_three_105 : decode cX8_three 105 = .ok (.aload_n 0, 1) := by decide +kernel
theorem dX8_three_106 : decode cX8_three 106 = .ok (.iload_n 2, 1) := by decide +kernel
theorem dX8_three_107 : decode cX8_three 107 = .ok (.iconst 1, 1) := by decide +kernel
theorem dX8_three_108 : decode cX8_three 108 = .ok (.iadd, 1) := by decide +kernel
theorem dX8_three_109 : decode cX8_three 109 = .ok (.invokevirtual 275, 3) := by decide +kernel
theorem dX8_three_112 : decode cX8_three 112 = .ok (.iload_n 3, 1) := by decide +kernel
theorem dX8_three_113 : decode cX8_three 113 = .ok (.ifCond .le 10, 3) := by decide +kernel
theorem dX8_three_116 : decode cX8_three 116 = .ok (.aload_n 0, 1) := by decide +kernel
theorem dX8_three_117 : decode cX8_three 117 = .ok (.iload_n 3, 1) := by decide +kernel
theorem dX8_three_118 : decode cX8_three 118 = .ok (.iconst 1, 1) := by decide +kernel
theorem dX8_three_119 : decode cX8_three 119 = .ok (.iadd, 1) := by decide +kernel
theorem dX8_three_120 : decode cX8_three 120 = .ok (.invokevirtual 275, 3) := by decide +kernel
theorem dX8_three_123 : decode cX8_three 123 = .ok (.aload_n 0, 1) := by decide +kernel
theorem dX8_three_124 : decode cX8_three 124 = .ok (.aload_n 0, 1) := by decide +kernel
theorem dX8_three_125 : decode cX8_three 125 = .ok (.getfield 272, 3) := by decide +kernel
theorem dX8_three_128 : decode cX8_three 128 = .ok (.invokevirtual 129, 3) := by decide +kernel
theorem dX8_three_131 : decode cX8_three 131 = .ok (.aload_n 0, 1) := by decide +kernel
theorem dX8_three_132 : decode cX8_three 132 = .ok (.aload_n 0, 1) := by decide +kernel
theorem dX8_three_133 : decode cX8_three 133 = .ok (.getfield 272, 3) := by decide +kernel
theorem dX8_three_136 : decode cX8_three 136 = .ok (.invokevirtual 133, 3) := by decide +kernel
theorem dX8_three_139 : decode cX8_three 139 = .ok (.iconst 0, 1) := by decide +kernel
theorem dX8_three_140 : decode cX8_three 140 = .ok (.istore 4, 2) := by decide +kernel
theorem dX8_three_142 : decode cX8_three 142 = .ok (.iload 4, 2) := by decide +kernel
theorem dX8_three_144 : decode cX8_three 144 = .ok (.aload_n 0, 1) := by decide +kernel
theorem dX8_three_145 : decode cX8_three 145 = .ok (.getfield 119, 3) := by decide +kernel
theorem dX8_three_148 : decode cX8_three 148 = .ok (.if_icmp .ge 24, 3) := by decide +kernel
theorem dX8_three_151 : decode cX8_three 151 = .ok (.aload_n 0, 1) := by decide +kernel
theorem dX8_three_152 : decode cX8_three 152 = .ok (.aload_n 0, 1) := by decide +kernel
theorem dX8_three_153 : decode cX8_three 153 = .ok (.getfield 25, 3) := by decide +kernel
theorem dX8_three_156 : decode cX8_three 156 = .ok (.iload 4, 2) := by decide +kernel
theorem dX8_three_158 : decode cX8_three 158 = .ok (.iaload, 1) := by decide +kernel
theorem dX8_three_159 : decode cX8_three 159 = .ok (.aload_n 0, 1) := by decide +kernel
theorem dX8_three_160 : decode cX8_three 160 = .ok (.getfield 272, 3) := by decide +kernel
theorem dX8_three_163 : decode cX8_three 163 = .ok (.invokevirtual 136, 3) := by decide +kernel
theorem dX8_three_166 : decode cX8_three 166 = .ok (.iinc 4 1, 3) := by decide +kernel
theorem dX8_three_169 : decode cX8_three 169 = .ok (.goto (-27), 3) := by decide +kernel
theorem dX8_three_172 : decode cX8_three 172 = .ok (.aload_n 0, 1) := by decide +kernel
theorem dX8_three_173 : decode cX8_three 173 = .ok (.getfield 40, 3) := by decide +kernel
theorem dX8_three_176 : decode cX8_three 176 = .ok (.iconst 1, 1) := by decide +kernel
theorem dX8_three_177 : decode cX8_three 177 = .ok (.aload_n 0, 1) := by decide +kernel
theorem dX8_three_178 : decode cX8_three 178 = .ok (.getfield 272, 3) := by decide +kernel
theorem dX8_three_181 : decode cX8_three 181 = .ok (.ishl, 1) := by decide +kernel
theorem dX8_three_182 : decode cX8_three 182 = .ok (.iconst 1, 1) := by decide +kernel
theorem dX8_three_183 : decode cX8_three 183 = .ok (.isub, 1) := by decide +kernel
theorem dX8_three_184 : decode cX8_three 184 = .ok (.baload, 1) := by decide +kernel
theorem dX8_three_185 : decode cX8_three 185 = .ok (.ireturn, 1) := by decide +kernel
abbrev mX8_three : XM := (cX8_three, 5, RX8, (some .boolean), shw_8, 3)
noncomputable def rg_X8_three_0 (k60 : XK) : XK :=
 o_iload 1 <|
 o_i2l <|
 o_lconst 0 <|
 o_lconst 199 <|
 o_callSg 3 1 [] g_X8_in v_X8_in <|
 o_if_eq (o_iconst 0 <|
 o_zreturn)
 (o_iload 2 <|
 o_i2l <|
 o_lconst 0 <|
 o_lconst 199 <|
 o_callSg 3 1 [] g_X8_in v_X8_in <|
 o_if_eq (o_iconst 0 <|
 o_zreturn)
 (o_iload 3 <|
 o_i2l <|
 o_lconst 0 <|
 o_lconst 199 <|
 o_callSg 3 1 [] g_X8_in v_X8_in <|
 o_if_ne (o_aload 0 <|
 o_callVg 1 0 [0] g_X8_fillsOwners v_X8_fillsOwners <|
 o_aload 0 <|
 o_aload 0 <|
 o_get shw_8 8 0 <|
 o_iconst 1 <|
 o_iald shw_8 <|
 o_callVg 2 0 [0] g_X8_fillsGaps v_X8_fillsGaps <|
 o_aload 0 <|
 o_iconst 0 <|
 o_put shw_8 8 24 false <|
 o_iconst 0 <|
 o_istore 4 <|
 o_cut [] k60)
 (o_iconst 0 <|
 o_zreturn)))
def en_X8_three_0 (p1 : Int) (p2 : Int) (p3 : Int) (a : Ob) : XSt := ([some (.inr (.inl (0, 0))), some (.inl p1), some (.inl p2), some (.inl p3), none], [], [a])
noncomputable def rg_X8_three_60 (k101 : XK) (k60 : XK) : XK :=
 o_iload 4 <|
 o_aload 0 <|
 o_get shw_8 8 11 <|
 o_icmp_ge (o_iload 1 <|
 o_if_le (o_cut [4] k101)
 (o_aload 0 <|
 o_iload 1 <|
 o_iconst 1 <|
 o_iadd <|
 o_callVg 2 0 [0] g_X8_takes v_X8_takes <|
 o_cut [4] k101))
 (o_aload 0 <|
 o_aload 0 <|
 o_aload 0 <|
 o_get shw_8 8 9 <|
 o_iload 4 <|
 o_iald shw_8 <|
 o_callVg 2 1 [0] g_X8_lengthOf v_X8_lengthOf <|
 o_callVg 2 0 [0] g_X8_takes v_X8_takes <|
 o_iinc 4 1 <|
 o_cut [] k60)
def en_X8_three_60 (p1 : Int) (p2 : Int) (p3 : Int) (a : Int × Ob) : XSt := ([some (.inr (.inl (0, 0))), some (.inl p1), some (.inl p2), some (.inl p3), some (.inl a.1)], [], [a.2])
noncomputable def rg_X8_three_101 (k112 : XK) : XK :=
 o_iload 2 <|
 o_if_le (o_cut [] k112)
 (o_aload 0 <|
 o_iload 2 <|
 o_iconst 1 <|
 o_iadd <|
 o_callVg 2 0 [0] g_X8_takes v_X8_takes <|
 o_cut [] k112)
def en_X8_three_101 (p1 : Int) (p2 : Int) (p3 : Int) (a : Ob) : XSt := ([some (.inr (.inl (0, 0))), some (.inl p1), some (.inl p2), some (.inl p3), none], [], [a])
noncomputable def rg_X8_three_112 (k123 : XK) : XK :=
 o_iload 3 <|
 o_if_le (o_cut [] k123)
 (o_aload 0 <|
 o_iload 3 <|
 o_iconst 1 <|
 o_iadd <|
 o_callVg 2 0 [0] g_X8_takes v_X8_takes <|
 o_cut [] k123)
def en_X8_three_112 (p1 : Int) (p2 : Int) (p3 : Int) (a : Ob) : XSt := ([some (.inr (.inl (0, 0))), some (.inl p1), some (.inl p2), some (.inl p3), none], [], [a])
noncomputable def rg_X8_three_123 (k142 : XK) : XK :=
 o_aload 0 <|
 o_aload 0 <|
 o_get shw_8 8 24 <|
 o_callVg 2 0 [0] g_X8_fillsLong v_X8_fillsLong <|
 o_aload 0 <|
 o_aload 0 <|
 o_get shw_8 8 24 <|
 o_callVg 2 0 [0] g_X8_packsNothing v_X8_packsNothing <|
 o_iconst 0 <|
 o_istore 4 <|
 o_cut [] k142
def en_X8_three_123 (p1 : Int) (p2 : Int) (p3 : Int) (a : Ob) : XSt := ([some (.inr (.inl (0, 0))), some (.inl p1), some (.inl p2), some (.inl p3), none], [], [a])
noncomputable def rg_X8_three_142 (k142 : XK) : XK :=
 o_iload 4 <|
 o_aload 0 <|
 o_get shw_8 8 8 <|
 o_icmp_ge (o_aload 0 <|
 o_get shw_8 8 14 <|
 o_iconst 1 <|
 o_aload 0 <|
 o_get shw_8 8 24 <|
 o_ishl <|
 o_iconst 1 <|
 o_isub <|
 o_bald shw_8 <|
 o_zreturn)
 (o_aload 0 <|
 o_aload 0 <|
 o_get shw_8 8 7 <|
 o_iload 4 <|
 o_iald shw_8 <|
 o_aload 0 <|
 o_get shw_8 8 24 <|
 o_callVg 3 0 [0] g_X8_packsInto v_X8_packsInto <|
 o_iinc 4 1 <|
 o_cut [] k142)
def en_X8_three_142 (p1 : Int) (p2 : Int) (p3 : Int) (a : Int × Ob) : XSt := ([some (.inr (.inl (0, 0))), some (.inl p1), some (.inl p2), some (.inl p3), some (.inl a.1)], [], [a.2])
noncomputable def mg_X8_three_0 (p1 : Int) (p2 : Int) (p3 : Int) (k60 : (Int × Ob) → Option Rt) (a : Ob) : Option Rt :=
 if xlr (xw p1) && (xlr (0 : Int) && xlr (199 : Int)) then (
 if xw (bz (inn (xw p1) (0 : Int) (199 : Int))) = 0 then (RI 0 [a])
 else (if xlr (xw p2) && (xlr (0 : Int) && xlr (199 : Int)) then (
 if xw (bz (inn (xw p2) (0 : Int) (199 : Int))) = 0 then (RI 0 [a])
 else (if xlr (xw p3) && (xlr (0 : Int) && xlr (199 : Int)) then (
 if xw (bz (inn (xw p3) (0 : Int) (199 : Int))) = 0 then (RI 0 [a])
 else (if oqV (ov_X8_fillsOwners a) then (
 if oqV (ov_X8_fillsGaps ((oqO (ov_X8_fillsOwners a) 0) 1 1) (oqO (ov_X8_fillsOwners a) 0)) then (
 k60 (0, (xset (oqO (ov_X8_fillsGaps ((oqO (ov_X8_fillsOwners a) 0) 1 1) (oqO (ov_X8_fillsOwners a) 0)) 0) 0 24 0))) else none) else none)) else none)) else none)) else none
set_option maxRecDepth 100000 in
set_option maxHeartbeats 4000000 in
theorem rq_X8_three_0 (p1 : Int) (p2 : Int) (p3 : Int) (k60 : XK) (a : Ob) : rg_X8_three_0 k60 (en_X8_three_0 p1 p2 p3 a) = mg_X8_three_0 p1 p2 p3 (fun b => k60 (en_X8_three_60 p1 p2 p3 b)) a := rfl
set_option maxRecDepth 100000 in
set_option maxHeartbeats 4000000 in
theorem sg_X8_three_0 {X : XDyn} {r0 : Rt} (C : XO X mX8_three) {k60 : XK} (q60 : XS X mX8_three r0 60 k60) : XS X mX8_three r0 0 (rg_X8_three_0 k60) := by
 unfold rg_X8_three_0
 exact s_iload_n (pc := 0) C dX8_three_0 rfl <|
    s_i2l (pc := 1) C dX8_three_1 <|
    s_lconst (pc := 2) C dX8_three_2 rfl <|
    s_ldc2 (pc := 3) C dX8_three_3 wd_1260 rfl <|
    s_callSg (pc := 6) C ct_X8_in (n := 3) (rk := 1) (mp := []) ⟨rfl, by decide, rfl⟩ (by decide) (by decide) ⟨rfl, yi_X8_in⟩ wd_954 wd_955 wd_81 wd_956 dX8_three_6 <|
    s_if_eq (pc := 9) C dX8_three_9 (by decide) (s_iconst (pc := 36) C dX8_three_36 <|
    s_zreturn (pc := 37) C rfl dX8_three_37)
    (s_iload_n (pc := 12) C dX8_three_12 rfl <|
    s_i2l (pc := 13) C dX8_three_13 <|
    s_lconst (pc := 14) C dX8_three_14 rfl <|
    s_ldc2 (pc := 15) C dX8_three_15 wd_1260 rfl <|
    s_callSg (pc := 18) C ct_X8_in (n := 3) (rk := 1) (mp := []) ⟨rfl, by decide, rfl⟩ (by decide) (by decide) ⟨rfl, yi_X8_in⟩ wd_954 wd_955 wd_81 wd_956 dX8_three_18 <|
    s_if_eq (pc := 21) C dX8_three_21 (by decide) (s_iconst (pc := 36) C dX8_three_36 <|
    s_zreturn (pc := 37) C rfl dX8_three_37)
    (s_iload_n (pc := 24) C dX8_three_24 rfl <|
    s_i2l (pc := 25) C dX8_three_25 <|
    s_lconst (pc := 26) C dX8_three_26 rfl <|
    s_ldc2 (pc := 27) C dX8_three_27 wd_1260 rfl <|
    s_callSg (pc := 30) C ct_X8_in (n := 3) (rk := 1) (mp := []) ⟨rfl, by decide, rfl⟩ (by decide) (by decide) ⟨rfl, yi_X8_in⟩ wd_954 wd_955 wd_81 wd_956 dX8_three_30 <|
    s_if_ne (pc := 33) C dX8_three_33 (by decide) (s_aload_n (pc := 38) C dX8_three_38 rfl <|
    s_callVg (pc := 39) C ct_X8_fillsOwners (n := 1) (rk := 0) (mp := [0]) ⟨rfl, by decide, rfl⟩ (ci := 8) rfl rfl (by decide) (by decide) yi_X8_fillsOwners (by decide) wd_979 wd_981 wd_22 wd_81 wd_982 dX8_three_39 <|
    s_aload_n (pc := 42) C dX8_three_42 rfl <|
    s_aload_n (pc := 43) C dX8_three_43 rfl <|
    s_get (pc := 44) C (ci := 8) (kf := 0) rfl inX8 (by decide) wd_871 dX8_three_44 <|
    s_iconst (pc := 47) C dX8_three_47 <|
    s_iald (pc := 48) C dX8_three_48 <|
    s_callVg (pc := 49) C ct_X8_fillsGaps (n := 2) (rk := 0) (mp := [0]) ⟨rfl, by decide, rfl⟩ (ci := 8) rfl rfl (by decide) (by decide) yi_X8_fillsGaps (by decide) wd_1038 wd_1040 wd_36 wd_81 wd_1041 dX8_three_49 <|
    s_aload_n (pc := 52) C dX8_three_52 rfl <|
    s_iconst (pc := 53) C dX8_three_53 <|
    s_put (pc := 54) (z := false) C (ci := 8) (kf := 24) rfl inX8 tyX8_ok nmX8 (by decide) wd_895 rfl rfl dX8_three_54 <|
    s_iconst (pc := 57) C dX8_three_57 <|
    s_istore (pc := 58) C dX8_three_58 <|
    s_cut q60)
    (s_iconst (pc := 36) C dX8_three_36 <|
    s_zreturn (pc := 37) C rfl dX8_three_37)))
noncomputable def mg_X8_three_60 (p1 : Int) (p2 : Int) (p3 : Int) (k101 : Ob → Option Rt) (k60 : (Int × Ob) → Option Rt) (a : Int × Ob) : Option Rt :=
 if xw a.1 ≥ xw (a.2 0 11) then (if xw p1 ≤ 0 then (k101 a.2)
 else (if oqV (ov_X8_takes (p1 + 1) a.2) then (
 k101 (oqO (ov_X8_takes (p1 + 1) a.2) 0)) else none))
 else (if xin a.1 8 then (
 if hdl (a.2 7 (xw a.1).toNat) then (
 if oqV (ov_X8_takes (lenM a.2 (a.2 7 (xw a.1).toNat)) a.2) then (
 k60 ((a.1 + 1), (oqO (ov_X8_takes (lenM a.2 (a.2 7 (xw a.1).toNat)) a.2) 0))) else none) else none) else none)
set_option maxRecDepth 100000 in
set_option maxHeartbeats 4000000 in
theorem rq_X8_three_60 (p1 : Int) (p2 : Int) (p3 : Int) (k101 : XK) (k60 : XK) (a : Int × Ob) : rg_X8_three_60 k101 k60 (en_X8_three_60 p1 p2 p3 a) = mg_X8_three_60 p1 p2 p3 (fun b => k101 (en_X8_three_101 p1 p2 p3 b)) (fun b => k60 (en_X8_three_60 p1 p2 p3 b)) a := rfl
set_option maxRecDepth 100000 in
set_option maxHeartbeats 4000000 in
theorem sg_X8_three_60 {X : XDyn} {r0 : Rt} (C : XO X mX8_three) {k101 : XK} (q101 : XS X mX8_three r0 101 k101) {k60 : XK} (q60 : XS X mX8_three r0 60 k60) : XS X mX8_three r0 60 (rg_X8_three_60 k101 k60) := by
 unfold rg_X8_three_60
 exact s_iload (pc := 60) C dX8_three_60 <|
    s_aload_n (pc := 62) C dX8_three_62 rfl <|
    s_get (pc := 63) C (ci := 8) (kf := 11) rfl inX8 (by decide) wd_882 dX8_three_63 <|
    s_icmp_ge (pc := 66) C dX8_three_66 (by decide) (s_iload_n (pc := 90) C dX8_three_90 rfl <|
    s_if_le (pc := 91) C dX8_three_91 (by decide) (s_cut q101)
    (s_aload_n (pc := 94) C dX8_three_94 rfl <|
    s_iload_n (pc := 95) C dX8_three_95 rfl <|
    s_iconst (pc := 96) C dX8_three_96 <|
    s_iadd (pc := 97) C dX8_three_97 <|
    s_callVg (pc := 98) C ct_X8_takes (n := 2) (rk := 0) (mp := [0]) ⟨rfl, by decide, rfl⟩ (ci := 8) rfl rfl (by decide) (by decide) yi_X8_takes (by decide) wd_1280 wd_1282 wd_67 wd_81 wd_1283 dX8_three_98 <|
    s_cut q101))
    (s_aload_n (pc := 69) C dX8_three_69 rfl <|
    s_aload_n (pc := 70) C dX8_three_70 rfl <|
    s_aload_n (pc := 71) C dX8_three_71 rfl <|
    s_get (pc := 72) C (ci := 8) (kf := 9) rfl inX8 (by decide) wd_880 dX8_three_72 <|
    s_iload (pc := 75) C dX8_three_75 <|
    s_iald (pc := 77) C dX8_three_77 <|
    s_callVg (pc := 78) C ct_X8_lengthOf (n := 2) (rk := 1) (mp := [0]) ⟨rfl, by decide, rfl⟩ (ci := 8) rfl rfl (by decide) (by decide) yi_X8_lengthOf (by decide) wd_994 wd_996 wd_25 wd_81 wd_997 dX8_three_78 <|
    s_callVg (pc := 81) C ct_X8_takes (n := 2) (rk := 0) (mp := [0]) ⟨rfl, by decide, rfl⟩ (ci := 8) rfl rfl (by decide) (by decide) yi_X8_takes (by decide) wd_1280 wd_1282 wd_67 wd_81 wd_1283 dX8_three_81 <|
    s_iinc (pc := 84) C dX8_three_84 <|
    s_goto (pc := 87) C dX8_three_87 (by decide) <|
    s_cut q60)
noncomputable def mg_X8_three_101 (p1 : Int) (p2 : Int) (p3 : Int) (k112 : Ob → Option Rt) (a : Ob) : Option Rt :=
 if xw p2 ≤ 0 then (k112 a)
 else (if oqV (ov_X8_takes (p2 + 1) a) then (
 k112 (oqO (ov_X8_takes (p2 + 1) a) 0)) else none)
set_option maxRecDepth 100000 in
set_option maxHeartbeats 4000000 in
theorem rq_X8_three_101 (p1 : Int) (p2 : Int) (p3 : Int) (k112 : XK) (a : Ob) : rg_X8_three_101 k112 (en_X8_three_101 p1 p2 p3 a) = mg_X8_three_101 p1 p2 p3 (fun b => k112 (en_X8_three_112 p1 p2 p3 b)) a := rfl
set_option maxRecDepth 100000 in
set_option maxHeartbeats 4000000 in
theorem sg_X8_three_101 {X : XDyn} {r0 : Rt} (C : XO X mX8_three) {k112 : XK} (q112 : XS X mX8_three r0 112 k112) : XS X mX8_three r0 101 (rg_X8_three_101 k112) := by
 unfold rg_X8_three_101
 exact s_iload_n (pc := 101) C dX8_three_101 rfl <|
    s_if_le (pc := 102) C dX8_three_102 (by decide) (s_cut q112)
    (s_aload_n (pc := 105) C dX8_three_105 rfl <|
    s_iload_n (pc := 106) C dX8_three_106 rfl <|
    s_iconst (pc := 107) C dX8_three_107 <|
    s_iadd (pc := 108) C dX8_three_108 <|
    s_callVg (pc := 109) C ct_X8_takes (n := 2) (rk := 0) (mp := [0]) ⟨rfl, by decide, rfl⟩ (ci := 8) rfl rfl (by decide) (by decide) yi_X8_takes (by decide) wd_1280 wd_1282 wd_67 wd_81 wd_1283 dX8_three_109 <|
    s_cut q112)
noncomputable def mg_X8_three_112 (p1 : Int) (p2 : Int) (p3 : Int) (k123 : Ob → Option Rt) (a : Ob) : Option Rt :=
 if xw p3 ≤ 0 then (k123 a)
 else (if oqV (ov_X8_takes (p3 + 1) a) then (
 k123 (oqO (ov_X8_takes (p3 + 1) a) 0)) else none)
set_option maxRecDepth 100000 in
set_option maxHeartbeats 4000000 in
theorem rq_X8_three_112 (p1 : Int) (p2 : Int) (p3 : Int) (k123 : XK) (a : Ob) : rg_X8_three_112 k123 (en_X8_three_112 p1 p2 p3 a) = mg_X8_three_112 p1 p2 p3 (fun b => k123 (en_X8_three_123 p1 p2 p3 b)) a := rfl
set_option maxRecDepth 100000 in
set_option maxHeartbeats 4000000 in
theorem sg_X8_three_112 {X : XDyn} {r0 : Rt} (C : XO X mX8_three) {k123 : XK} (q123 : XS X mX8_three r0 123 k123) : XS X mX8_three r0 112 (rg_X8_three_112 k123) := by
 unfold rg_X8_three_112
 exact s_iload_n (pc := 112) C dX8_three_112 rfl <|
    s_if_le (pc := 113) C dX8_three_113 (by decide) (s_cut q123)
    (s_aload_n (pc := 116) C dX8_three_116 rfl <|
    s_iload_n (pc := 117) C dX8_three_117 rfl <|
    s_iconst (pc := 118) C dX8_three_118 <|
    s_iadd (pc := 119) C dX8_three_119 <|
    s_callVg (pc := 120) C ct_X8_takes (n := 2) (rk := 0) (mp := [0]) ⟨rfl, by decide, rfl⟩ (ci := 8) rfl rfl (by decide) (by decide) yi_X8_takes (by decide) wd_1280 wd_1282 wd_67 wd_81 wd_1283 dX8_three_120 <|
    s_cut q123)
noncomputable def mg_X8_three_123 (p1 : Int) (p2 : Int) (p3 : Int) (k142 : (Int × Ob) → Option Rt) (a : Ob) : Option Rt :=
 if oqV (ov_X8_fillsLong (a 0 24) a) then (
 if oqV (ov_X8_packsNothing ((oqO (ov_X8_fillsLong (a 0 24) a) 0) 0 24) (oqO (ov_X8_fillsLong (a 0 24) a) 0)) then (
 k142 (0, (oqO (ov_X8_packsNothing ((oqO (ov_X8_fillsLong (a 0 24) a) 0) 0 24) (oqO (ov_X8_fillsLong (a 0 24) a) 0)) 0))) else none) else none
set_option maxRecDepth 100000 in
set_option maxHeartbeats 4000000 in
theorem rq_X8_three_123 (p1 : Int) (p2 : Int) (p3 : Int) (k142 : XK) (a : Ob) : rg_X8_three_123 k142 (en_X8_three_123 p1 p2 p3 a) = mg_X8_three_123 p1 p2 p3 (fun b => k142 (en_X8_three_142 p1 p2 p3 b)) a := rfl
set_option maxRecDepth 100000 in
set_option maxHeartbeats 4000000 in
theorem sg_X8_three_123 {X : XDyn} {r0 : Rt} (C : XO X mX8_three) {k142 : XK} (q142 : XS X mX8_three r0 142 k142) : XS X mX8_three r0 123 (rg_X8_three_123 k142) := by
 unfold rg_X8_three_123
 exact s_aload_n (pc := 123) C dX8_three_123 rfl <|
    s_aload_n (pc := 124) C dX8_three_124 rfl <|
    s_get (pc := 125) C (ci := 8) (kf := 24) rfl inX8 (by decide) wd_895 dX8_three_125 <|
    s_callVg (pc := 128) C ct_X8_fillsLong (n := 2) (rk := 0) (mp := [0]) ⟨rfl, by decide, rfl⟩ (ci := 8) rfl rfl (by decide) (by decide) yi_X8_fillsLong (by decide) wd_1049 wd_1051 wd_38 wd_81 wd_1052 dX8_three_128 <|
    s_aload_n (pc := 131) C dX8_three_131 rfl <|
    s_aload_n (pc := 132) C dX8_three_132 rfl <|
    s_get (pc := 133) C (ci := 8) (kf := 24) rfl inX8 (by decide) wd_895 dX8_three_133 <|
    s_callVg (pc := 136) C ct_X8_packsNothing (n := 2) (rk := 0) (mp := [0]) ⟨rfl, by decide, rfl⟩ (ci := 8) rfl rfl (by decide) (by decide) yi_X8_packsNothing (by decide) wd_1053 wd_1055 wd_39 wd_81 wd_1056 dX8_three_136 <|
    s_iconst (pc := 139) C dX8_three_139 <|
    s_istore (pc := 140) C dX8_three_140 <|
    s_cut q142
noncomputable def mg_X8_three_142 (p1 : Int) (p2 : Int) (p3 : Int) (k142 : (Int × Ob) → Option Rt) (a : Int × Ob) : Option Rt :=
 if xw a.1 ≥ xw (a.2 0 8) then (if xin ((xshl 1 (a.2 0 24)) - 1) 4096 then (
 if xb (a.2 11 (xw ((xshl 1 (a.2 0 24)) - 1)).toNat) then RI (a.2 11 (xw ((xshl 1 (a.2 0 24)) - 1)).toNat) [a.2] else none) else none)
 else (if xin a.1 16 then (
 if oqV (ov_X8_packsInto (a.2 6 (xw a.1).toNat) (a.2 0 24) a.2) then (
 k142 ((a.1 + 1), (oqO (ov_X8_packsInto (a.2 6 (xw a.1).toNat) (a.2 0 24) a.2) 0))) else none) else none)
set_option maxRecDepth 100000 in
set_option maxHeartbeats 4000000 in
theorem rq_X8_three_142 (p1 : Int) (p2 : Int) (p3 : Int) (k142 : XK) (a : Int × Ob) : rg_X8_three_142 k142 (en_X8_three_142 p1 p2 p3 a) = mg_X8_three_142 p1 p2 p3 (fun b => k142 (en_X8_three_142 p1 p2 p3 b)) a := rfl
set_option maxRecDepth 100000 in
set_option maxHeartbeats 4000000 in
theorem sg_X8_three_142 {X : XDyn} {r0 : Rt} (C : XO X mX8_three) {k142 : XK} (q142 : XS X mX8_three r0 142 k142) : XS X mX8_three r0 142 (rg_X8_three_142 k142) := by
 unfold rg_X8_three_142
 exact s_iload (pc := 142) C dX8_three_142 <|
    s_aload_n (pc := 144) C dX8_three_144 rfl <|
    s_get (pc := 145) C (ci := 8) (kf := 8) rfl inX8 (by decide) wd_879 dX8_three_145 <|
    s_icmp_ge (pc := 148) C dX8_three_148 (by decide) (s_aload_n (pc := 172) C dX8_three_172 rfl <|
    s_get (pc := 173) C (ci := 8) (kf := 14) rfl inX8 (by decide) wd_885 dX8_three_173 <|
    s_iconst (pc := 176) C dX8_three_176 <|
    s_aload_n (pc := 177) C dX8_three_177 rfl <|
    s_get (pc := 178) C (ci := 8) (kf := 24) rfl inX8 (by decide) wd_895 dX8_three_178 <|
    s_ishl (pc := 181) C dX8_three_181 <|
    s_iconst (pc := 182) C dX8_three_182 <|
    s_isub (pc := 183) C dX8_three_183 <|
    s_bald (pc := 184) C dX8_three_184 <|
    s_zreturn (pc := 185) C rfl dX8_three_185)
    (s_aload_n (pc := 151) C dX8_three_151 rfl <|
    s_aload_n (pc := 152) C dX8_three_152 rfl <|
    s_get (pc := 153) C (ci := 8) (kf := 7) rfl inX8 (by decide) wd_878 dX8_three_153 <|
    s_iload (pc := 156) C dX8_three_156 <|
    s_iald (pc := 158) C dX8_three_158 <|
    s_aload_n (pc := 159) C dX8_three_159 rfl <|
    s_get (pc := 160) C (ci := 8) (kf := 24) rfl inX8 (by decide) wd_895 dX8_three_160 <|
    s_callVg (pc := 163) C ct_X8_packsInto (n := 3) (rk := 0) (mp := [0]) ⟨rfl, by decide, rfl⟩ (ci := 8) rfl rfl (by decide) (by decide) yi_X8_packsInto (by decide) wd_1057 wd_1059 wd_40 wd_81 wd_1060 dX8_three_163 <|
    s_iinc (pc := 166) C dX8_three_166 <|
    s_goto (pc := 169) C dX8_three_169 (by decide) <|
    s_cut q142)
noncomputable def rw_X8_three_142 (f : Nat) : XK := tlp (fun k142 => rg_X8_three_142 k142) f
noncomputable def lb_X8_three_142 (p1 : Int) (p2 : Int) (p3 : Int) (f : Nat) : ((Int × Ob) → Option Rt) → Int × Ob → Option Rt := fun k142 => mg_X8_three_142 p1 p2 p3 k142
noncomputable def md_X8_three_142 (p1 : Int) (p2 : Int) (p3 : Int) (f : Nat) : Int × Ob → Option Rt := tlp (lb_X8_three_142 p1 p2 p3 f) f
theorem eq_X8_three_142 (p1 : Int) (p2 : Int) (p3 : Int) (f : Nat) (a : Int × Ob) : rw_X8_three_142 f (en_X8_three_142 p1 p2 p3 a) = md_X8_three_142 p1 p2 p3 f a :=
 tlp_enc (en_X8_three_142 p1 p2 p3) (fun k142 a => (rq_X8_three_142 p1 p2 p3 k142 a).trans (congrFun (congr (rfl : mg_X8_three_142 p1 p2 p3 = mg_X8_three_142 p1 p2 p3) rfl) a)) f a
theorem sd_X8_three_142 (f : Nat) {X : XDyn} {r0 : Rt} (C : XO X mX8_three) : XS X mX8_three r0 142 (rw_X8_three_142 f) := s_lp (fun k142 q142 => sg_X8_three_142 C q142) f
noncomputable def rw_X8_three_123 (f : Nat) : XK := rg_X8_three_123 (rw_X8_three_142 f)
noncomputable def md_X8_three_123 (p1 : Int) (p2 : Int) (p3 : Int) (f : Nat) : Ob → Option Rt := mg_X8_three_123 p1 p2 p3 (md_X8_three_142 p1 p2 p3 f)
theorem eq_X8_three_123 (p1 : Int) (p2 : Int) (p3 : Int) (f : Nat) (a : Ob) : rw_X8_three_123 f (en_X8_three_123 p1 p2 p3 a) = md_X8_three_123 p1 p2 p3 f a :=
 (rq_X8_three_123 p1 p2 p3 (rw_X8_three_142 f) a).trans (congrFun (congr (rfl : mg_X8_three_123 p1 p2 p3 = mg_X8_three_123 p1 p2 p3) (funext (eq_X8_three_142 p1 p2 p3 f))) a)
theorem sd_X8_three_123 (f : Nat) {X : XDyn} {r0 : Rt} (C : XO X mX8_three) : XS X mX8_three r0 123 (rw_X8_three_123 f) := sg_X8_three_123 C (sd_X8_three_142 f C)
noncomputable def rw_X8_three_112 (f : Nat) : XK := rg_X8_three_112 (rw_X8_three_123 f)
noncomputable def md_X8_three_112 (p1 : Int) (p2 : Int) (p3 : Int) (f : Nat) : Ob → Option Rt := mg_X8_three_112 p1 p2 p3 (md_X8_three_123 p1 p2 p3 f)
theorem eq_X8_three_112 (p1 : Int) (p2 : Int) (p3 : Int) (f : Nat) (a : Ob) : rw_X8_three_112 f (en_X8_three_112 p1 p2 p3 a) = md_X8_three_112 p1 p2 p3 f a :=
 (rq_X8_three_112 p1 p2 p3 (rw_X8_three_123 f) a).trans (congrFun (congr (rfl : mg_X8_three_112 p1 p2 p3 = mg_X8_three_112 p1 p2 p3) (funext (eq_X8_three_123 p1 p2 p3 f))) a)
theorem sd_X8_three_112 (f : Nat) {X : XDyn} {r0 : Rt} (C : XO X mX8_three) : XS X mX8_three r0 112 (rw_X8_three_112 f) := sg_X8_three_112 C (sd_X8_three_123 f C)
noncomputable def rw_X8_three_101 (f : Nat) : XK := rg_X8_three_101 (rw_X8_three_112 f)
noncomputable def md_X8_three_101 (p1 : Int) (p2 : Int) (p3 : Int) (f : Nat) : Ob → Option Rt := mg_X8_three_101 p1 p2 p3 (md_X8_three_112 p1 p2 p3 f)
theorem eq_X8_three_101 (p1 : Int) (p2 : Int) (p3 : Int) (f : Nat) (a : Ob) : rw_X8_three_101 f (en_X8_three_101 p1 p2 p3 a) = md_X8_three_101 p1 p2 p3 f a :=
 (rq_X8_three_101 p1 p2 p3 (rw_X8_three_112 f) a).trans (congrFun (congr (rfl : mg_X8_three_101 p1 p2 p3 = mg_X8_three_101 p1 p2 p3) (funext (eq_X8_three_112 p1 p2 p3 f))) a)
theorem sd_X8_three_101 (f : Nat) {X : XDyn} {r0 : Rt} (C : XO X mX8_three) : XS X mX8_three r0 101 (rw_X8_three_101 f) := sg_X8_three_101 C (sd_X8_three_112 f C)
noncomputable def rw_X8_three_60 (f : Nat) : XK := tlp (fun k60 => rg_X8_three_60 (rw_X8_three_101 f) k60) f
noncomputable def lb_X8_three_60 (p1 : Int) (p2 : Int) (p3 : Int) (f : Nat) : ((Int × Ob) → Option Rt) → Int × Ob → Option Rt := fun k60 => mg_X8_three_60 p1 p2 p3 (md_X8_three_101 p1 p2 p3 f) k60
noncomputable def md_X8_three_60 (p1 : Int) (p2 : Int) (p3 : Int) (f : Nat) : Int × Ob → Option Rt := tlp (lb_X8_three_60 p1 p2 p3 f) f
theorem eq_X8_three_60 (p1 : Int) (p2 : Int) (p3 : Int) (f : Nat) (a : Int × Ob) : rw_X8_three_60 f (en_X8_three_60 p1 p2 p3 a) = md_X8_three_60 p1 p2 p3 f a :=
 tlp_enc (en_X8_three_60 p1 p2 p3) (fun k60 a => (rq_X8_three_60 p1 p2 p3 (rw_X8_three_101 f) k60 a).trans (congrFun (congr (congr (rfl : mg_X8_three_60 p1 p2 p3 = mg_X8_three_60 p1 p2 p3) (funext (eq_X8_three_101 p1 p2 p3 f))) rfl) a)) f a
theorem sd_X8_three_60 (f : Nat) {X : XDyn} {r0 : Rt} (C : XO X mX8_three) : XS X mX8_three r0 60 (rw_X8_three_60 f) := s_lp (fun k60 q60 => sg_X8_three_60 C (sd_X8_three_101 f C) q60) f
noncomputable def rw_X8_three_0 (f : Nat) : XK := rg_X8_three_0 (rw_X8_three_60 f)
noncomputable def md_X8_three_0 (p1 : Int) (p2 : Int) (p3 : Int) (f : Nat) : Ob → Option Rt := mg_X8_three_0 p1 p2 p3 (md_X8_three_60 p1 p2 p3 f)
theorem eq_X8_three_0 (p1 : Int) (p2 : Int) (p3 : Int) (f : Nat) (a : Ob) : rw_X8_three_0 f (en_X8_three_0 p1 p2 p3 a) = md_X8_three_0 p1 p2 p3 f a :=
 (rq_X8_three_0 p1 p2 p3 (rw_X8_three_60 f) a).trans (congrFun (congr (rfl : mg_X8_three_0 p1 p2 p3 = mg_X8_three_0 p1 p2 p3) (funext (eq_X8_three_60 p1 p2 p3 f))) a)
theorem sd_X8_three_0 (f : Nat) {X : XDyn} {r0 : Rt} (C : XO X mX8_three) : XS X mX8_three r0 0 (rw_X8_three_0 f) := sg_X8_three_0 C (sd_X8_three_60 f C)
theorem ctr_X8_three (f : Nat) : XCt yX8_three mX8_three (xF mX8_three (rw_X8_three_0 f)) := xMet (by decide +kernel) rfl (fun _ _ C => sd_X8_three_0 f C)
theorem eqf_X8_three (f : Nat) (p1 : Int) (p2 : Int) (p3 : Int) (h0 : Ob) : xF mX8_three (rw_X8_three_0 f) [.inr (.inl (0, 0)), .inl p1, .inl p2, .inl p3] [h0] = md_X8_three_0 p1 p2 p3 f h0 := eq_X8_three_0 p1 p2 p3 f h0
theorem yi_X8_three : yX8_three.cls = RX8 ∧ yX8_three.cls ≠ "java/lang/invoke/MethodHandle" ∧ yX8_three.cls ≠ "java/lang/invoke/VarHandle" ∧ (parseMethodDescriptor yX8_three.desc).map (fun d => d.parameters.length) = some 3 := ⟨rfl, by decide +kernel, by decide +kernel, by decide +kernel⟩
theorem dX8_findPlaces_0 : decode cX8_findPlaces 0 = .ok (.aload_n 0, 1) := by decide +kernel
theorem dX8_findPlaces_1 : decode cX8_findPlaces 1 = .ok (.invokevirtual 109, 3) := by decide +kernel
theorem dX8_findPlaces_4 : decode cX8_findPlaces 4 = .ok (.aload_n 0, 1) := by decide +kernel
theorem dX8_findPlaces_5 : decode cX8_findPlaces 5 = .ok (.iconst 0, 1) := by decide +kernel
theorem dX8_findPlaces_6 : decode cX8_findPlaces 6 = .ok (.putfield 272, 3) := by decide +kernel
theorem dX8_findPlaces_9 : decode cX8_findPlaces 9 = .ok (.iconst 0, 1) := by decide +kernel
theorem dX8_findPlaces_10 : decode cX8_findPlaces 10 = .ok (.istore_n 3, 1) := by decide +kernel
theorem dX8_findPlaces_11 : decode cX8_findPlaces 11 = .ok (.iload_n 3, 1) := by decide +kernel
theorem dX8_findPlaces_12 : decode cX8_findPlaces 12 = .ok (.bipush 8, 2) := by decide +kernel
theorem dX8_findPlaces_14 : decode cX8_findPlaces 14 = .ok (.if_icmp .ge 48, 3) := by decide +kernel
theorem dX8_findPlaces_17 : decode cX8_findPlaces 17 = .ok (.iload_n 1, 1) := by decide +kernel
theorem dX8_findPlaces_18 : decode cX8_findPlaces 18 = .ok (.iload_n 3, 1) := by decide +kernel
theorem dX8_findPlaces_19 : decode cX8_findPlaces 19 = .ok (.invokestatic 125, 3) := by decide +kernel
theorem dX8_findPlaces_22 : decode cX8_findPlaces 22 = .ok (.ifCond .ne 6, 3) := by decide +kernel
theorem dX8_findPlaces_25 : decode cX8_findPlaces 25 = .ok (.goto 31, 3) := by decide +kernel
theorem dX8_findPlaces_28 : decode cX8_findPlaces 28 = .ok (.aload_n 0, 1) := by decide +kernel
theorem dX8_findPlaces_29 : decode cX8_findPlaces 29 = .ok (.aload_n 0, 1) := by decide +kernel
theorem dX8_findPlaces_30 : decode cX8_findPlaces 30 = .ok (.iload_n 3, 1) := by decide +kernel
theorem dX8_findPlaces_31 : decode cX8_findPlaces 31 = .ok (.invokevirtual 93, 3) := by decide +kernel
theorem dX8_findPlaces_34 : decode cX8_findPlaces 34 = .ok (.invokevirtual 275, 3) := by decide +kernel
theorem dX8_findPlaces_37 : decode cX8_findPlaces 37 = .ok (.aload_n 0, 1) := by decide +kernel
theorem dX8_findPlaces_38 : decode cX8_findPlaces 38 = .ok (.aload_n 0, 1) := by decide +kernel
theorem dX8_findPlaces_39 : decode cX8_findPlaces 39 = .ok (.getfield 7, 3) := by decide +kernel
theorem dX8_findPlaces_42 : decode cX8_findPlaces 42 = .ok (.bipush 13, 2) := by decide +kernel
theorem dX8_findPlaces_44 : decode cX8_findPlaces 44 = .ok (.iload_n 3, 1) := by decide +kernel
theorem dX8_findPlaces_45 : decode cX8_findPlaces 45 = .ok (.iadd, 1) := by decide +kernel
theorem dX8_findPlaces_46 : decode cX8_findPlaces 46 = .ok (.iaload, 1) := by decide +kernel
theorem dX8_findPlaces_47 : decode cX8_findPlaces 47 = .ok (.aload_n 0, 1) := by decide +kernel
theorem dX8_findPlaces_48 : decode cX8_findPlaces 48 = .ok (.iload_n 3, 1) := by decide +kernel
theorem dX8_findPlaces_49 : decode cX8_findPlaces 49 = .ok (.invokevirtual 93, 3) := by decide +kernel
theorem dX8_findPlaces_52 : decode cX8_findPlaces 52 = .ok (.iconst 0, 1) := by decide +kernel
theorem dX8_findPlaces_53 : decode cX8_findPlaces 53 = .ok (.invokevirtual 89, 3) := by decide +kernel
theorem dX8_findPlaces_56 : decode cX8_findPlaces 56 = .ok (.iinc 3 1, 3) := by decide +kernel
theorem dX8_findPlaces_59 : decode cX8_findPlaces 59 = .ok (.goto (-48), 3) := by decide +kernel
theorem dX8_findPlaces_62 : decode cX8_findPlaces 62 = .ok (.aload_n 0, 1) := by decide +kernel
theorem dX8_findPlaces_63 : decode cX8_findPlaces 63 = .ok (.iload_n 2, 1) := by decide +kernel
theorem dX8_findPlaces_64 : decode cX8_findPlaces 64 = .ok (.invokevirtual 275, 3) := by decide +kernel
theorem dX8_findPlaces_67 : decode cX8_findPlaces 67 = .ok (.aload_n 0, 1) := by decide +kernel
theorem dX8_findPlaces_68 : decode cX8_findPlaces 68 = .ok (.aload_n 0, 1) := by decide +kernel
theorem dX8_findPlaces_69 : decode cX8_findPlaces 69 = .ok (.getfield 272, 3) := by decide +kernel
theorem dX8_findPlaces_72 : decode cX8_findPlaces 72 = .ok (.invokevirtual 129, 3) := by decide +kernel
theorem dX8_findPlaces_75 : decode cX8_findPlaces 75 = .ok (.aload_n 0, 1) := by decide +kernel
theorem dX8_findPlaces_76 : decode cX8_findPlaces 76 = .ok (.aload_n 0, 1) := by decide +kernel
theorem dX8_findPlaces_77 : decode cX8_findPlaces 77 = .ok (.getfield 272, 3) := by decide +kernel
theorem dX8_findPlaces_80 : decode cX8_findPlaces 80 = .ok (.invokevirtual 133, 3) := by decide +kernel
theorem dX8_findPlaces_83 : decode cX8_findPlaces 83 = .ok (.iconst 0, 1) := by decide +kernel
theorem dX8_findPlaces_84 : decode cX8_findPlaces 84 = .ok (.istore_n 3, 1) := by decide +kernel
theorem dX8_findPlaces_85 : decode cX8_findPlaces 85 = .ok (.iconst 0, 1) := by decide +kernel
theorem dX8_findPlaces_86 : decode cX8_findPlaces 86 = .ok (.istore 4, 2) := by decide +kernel
theorem dX8_findPlaces_88 : decode cX8_findPlaces 88 = .ok (.iload 4, 2) := by decide +kernel
theorem dX8_findPlaces_90 : decode cX8_findPlaces 90 = .ok (.aload_n 0, 1) := by decide +kernel
theorem dX8_findPlaces_91 : decode cX8_findPlaces 91 = .ok (.getfield 7, 3) := by decide +kernel
theorem dX8_findPlaces_94 : decode cX8_findPlaces 94 = .ok (.iconst 1, 1) := by decide +kernel
theorem dX8_findPlaces_95 : decode cX8_findPlaces 95 = .ok (.iaload, 1) := by decide +kernel
theorem dX8_findPlaces_96 : decode cX8_findPlaces 96 = .ok (.if_icmp .gt 79, 3) := by decide +kernel
theorem dX8_findPlaces_99 : decode cX8_findPlaces 99 = .ok (.iload 4, 2) := by decide +kernel
theorem dX8_findPlaces_101 : decode cX8_findPlaces 101 = .ok (.aload_n 0, 1) := by decide +kernel
theorem dX8_findPlaces_102 : decode cX8_findPlaces 102 = .ok (.getfield 7, 3) := by decide +kernel
theorem dX8_findPlaces_105 : decode cX8_findPlaces 105 = .ok (.iconst 1, 1) := by decide +kernel
theorem dX8_findPlaces_106 : decode cX8_findPlaces 106 = .ok (.iaload, 1) := by decide +kernel
theorem dX8_findPlaces_107 : decode cX8_findPlaces 107 = .ok (.if_icmp .ge 28, 3) := by decide +kernel
theorem dX8_findPlaces_110 : decode cX8_findPlaces 110 = .ok (.iload 4, 2) := by decide +kernel
theorem dX8_findPlaces_112 : decode cX8_findPlaces 112 = .ok (.aload_n 0, 1) := by decide +kernel
theorem dX8_findPlaces_113 : decode cX8_findPlaces 113 = .ok (.getfield 7, 3) := by decide +kernel
theorem dX8_findPlaces_116 : decode cX8_findPlaces 116 = .ok (.iconst 0, 1) := by decide +kernel
theorem dX8_findPlaces_117 : decode cX8_findPlaces 117 = .ok (.iaload, 1) := by decide +kernel
theorem dX8_findPlaces_118 : decode cX8_findPlaces 118 = .ok (.if_icmp .ge 13, 3) := by decide +kernel
theorem dX8_findPlaces_121 : decode cX8_findPlaces 121 = .ok (.aload_n 0, 1) := by decide +kernel
theorem dX8_findPlaces_122 : decode cX8_findPlaces 122 = .ok (.getfield 19, 3) := by decide +kernel
theorem dX8_findPlaces_125 : decode cX8_findPlaces 125 = .ok (.iload 4, 2) := by decide +kernel
theorem dX8_findPlaces_127 : decode cX8_findPlaces 127 = .ok (.iaload, 1) := by decide +kernel
theorem dX8_findPlaces_128 : decode cX8_findPlaces 128 = .ok (.ifCond .ne 7, 3) := by decide +kernel
theorem dX8_findPlaces_131 : decode cX8_findPlaces 131 = .ok (.iconst 1, 1) := by decide +kernel
theorem dX8_findPlaces_132 : decode cX8_findPlaces 132 = .ok (.goto 4, 3) := by decide +kernel
theorem dX8_findPlaces_135 : decode cX8_findPlaces 135 = .ok (.iconst 0, 1) := by decide +kernel
theorem dX8_findPlaces_136 : decode cX8_findPlaces 136 = .ok (.istore 5, 2) := by decide +kernel
theorem dX8_findPlaces_138 : decode cX8_findPlaces 138 = .ok (.iload 5, 2) := by decide +kernel
theorem dX8_findPlaces_140 : decode cX8_findPlaces 140 = .ok (.ifCond .ne 16, 3) := by decide +kernel
theorem dX8_findPlaces_143 : decode cX8_findPlaces 143 = .ok (.iload_n 3, 1) := by decide +kernel
theorem dX8_findPlaces_144 : decode cX8_findPlaces 144 = .ok (.ifCond .le 12, 3) := by decide +kernel
theorem dX8_findPlaces_147 : decode cX8_findPlaces 147 = .ok (.aload_n 0, 1) := by decide +kernel
theorem dX8_findPlaces_148 : decode cX8_findPlaces 148 = .ok (.iload_n 3, 1) := by decide +kernel
theorem dX8_findPlaces_149 : decode cX8_findPlaces 149 = .ok (.aload_n 0, 1) := by decide +kernel
theorem dX8_findPlaces_150 : decode cX8_findPlaces 150 = .ok (.getfield 272, 3) := by decide +kernel
theorem dX8_findPlaces_153 : decode cX8_findPlaces 153 = .ok (.invokevirtual 136, 3) := by decide +kernel
theorem dX8_findPlaces_156 : decode cX8_findPlaces 156 = .ok (.iload 5, 2) := by decide +kernel
theorem dX8_findPlaces_158 : decode cX8_findPlaces 158 = .ok (.ifCond .eq 9, 3) := by decide +kernel
theorem dX8_findPlaces_161 : decode cX8_findPlaces 161 = .ok (.iload_n 3, 1) := by decide +kernel
theorem dX8_findPlaces_162 : decode cX8_findPlaces 162 = .ok (.iconst 1, 1) := by decide +kernel
theorem dX8_findPlaces_163 : decode cX8_findPlaces 163 = .ok (.iadd, 1) := by decide +kernel
theorem dX8_findPlaces_164 : decode cX8_findPlaces 164 = .ok (.goto 4, 3) := by decide +kernel
theorem dX8_findPlaces_167 : decode cX8_findPlaces 167 = .ok (.iconst 0, 1) := by decide +kernel
theorem dX8_findPlaces_168 : decode cX8_findPlaces 168 = .ok (.istore_n 3, 1) := by decide +kernel
theorem dX8_findPlaces_169 : decode cX8_findPlaces 169 = .ok (.iinc 4 1, 3) := by decide +kernel
theorem dX8_findPlaces_172 : decode cX8_findPlaces 172 = .ok (.goto (-84), 3) := by decide +kernel
theorem dX8_findPlaces_175 : decode cX8_findPlaces 175 = .ok (.aload_n 0, 1) := by decide +kernel
theorem dX8_findPlaces_176 : decode cX8_findPlaces 176 = .ok (.getfield 40, 3) := by decide +kernel
theorem dX8_findPlaces_179 : decode cX8_findPlaces 179 = .ok (.iconst 1, 1) := by decide +kernel
theorem dX8_findPlaces_180 : decode cX8_findPlaces 180 = .ok (.aload_n 0, 1) := by decide +kernel
theorem dX8_findPlaces_181 : decode cX8_findPlaces 181 = .ok (.getfield 272, 3) := by decide +kernel
theorem dX8_findPlaces_184 : decode cX8_findPlaces 184 = .ok (.ishl, 1) := by decide +kernel
theorem dX8_findPlaces_185 : decode cX8_findPlaces 185 = .ok (.iconst 1, 1) := by decide +kernel
theorem dX8_findPlaces_186 : decode cX8_findPlaces 186 = .ok (.isub, 1) := by decide +kernel
theorem dX8_findPlaces_187 : decode cX8_findPlaces 187 = .ok (.baload, 1) := by decide +kernel
theorem dX8_findPlaces_188 : decode cX8_findPlaces 188 = .ok (.ireturn, 1) := by decide +kernel
abbrev mX8_findPlaces : XM := (cX8_findPlaces, 6, RX8, (some .boolean), shw_8, 3)
noncomputable def rg_X8_findPlaces_0 (k11 : XK) : XK :=
 o_aload 0 <|
 o_callVg 1 0 [0] g_X8_fillsOwners v_X8_fillsOwners <|
 o_aload 0 <|
 o_iconst 0 <|
 o_put shw_8 8 24 false <|
 o_iconst 0 <|
 o_istore 3 <|
 o_cut [] k11
def en_X8_findPlaces_0 (p1 : Int) (p2 : Int) (a : Ob) : XSt := ([some (.inr (.inl (0, 0))), some (.inl p1), some (.inl p2), none, none, none], [], [a])
noncomputable def rg_X8_findPlaces_11 (k88 : XK) (k56 : XK) : XK :=
 o_iload 3 <|
 o_iconst 8 <|
 o_icmp_ge (o_aload 0 <|
 o_iload 2 <|
 o_callVg 2 0 [0] g_X8_takes v_X8_takes <|
 o_aload 0 <|
 o_aload 0 <|
 o_get shw_8 8 24 <|
 o_callVg 2 0 [0] g_X8_fillsLong v_X8_fillsLong <|
 o_aload 0 <|
 o_aload 0 <|
 o_get shw_8 8 24 <|
 o_callVg 2 0 [0] g_X8_packsNothing v_X8_packsNothing <|
 o_iconst 0 <|
 o_istore 3 <|
 o_iconst 0 <|
 o_istore 4 <|
 o_cut [] k88)
 (o_iload 1 <|
 o_iload 3 <|
 o_callS 2 1 [] f_X8_isOf <|
 o_if_ne (o_aload 0 <|
 o_aload 0 <|
 o_iload 3 <|
 o_callVg 2 1 [0] g_X8_lengthOf v_X8_lengthOf <|
 o_callVg 2 0 [0] g_X8_takes v_X8_takes <|
 o_aload 0 <|
 o_aload 0 <|
 o_get shw_8 8 0 <|
 o_iconst 13 <|
 o_iload 3 <|
 o_iadd <|
 o_iald shw_8 <|
 o_aload 0 <|
 o_iload 3 <|
 o_callVg 2 1 [0] g_X8_lengthOf v_X8_lengthOf <|
 o_iconst 0 <|
 o_callVg 4 0 [0] g_X8_lays v_X8_lays <|
 o_cut [] k56)
 (o_cut [] k56))
def en_X8_findPlaces_11 (p1 : Int) (p2 : Int) (a : Int × Ob) : XSt := ([some (.inr (.inl (0, 0))), some (.inl p1), some (.inl p2), some (.inl a.1), none, none], [], [a.2])
noncomputable def rg_X8_findPlaces_56 (k11 : XK) : XK :=
 o_iinc 3 1 <|
 o_cut [] k11
def en_X8_findPlaces_56 (p1 : Int) (p2 : Int) (a : Int × Ob) : XSt := ([some (.inr (.inl (0, 0))), some (.inl p1), some (.inl p2), some (.inl a.1), none, none], [], [a.2])
noncomputable def rg_X8_findPlaces_88 (k135 : XK) (k131 : XK) : XK :=
 o_iload 4 <|
 o_aload 0 <|
 o_get shw_8 8 0 <|
 o_iconst 1 <|
 o_iald shw_8 <|
 o_icmp_gt (o_aload 0 <|
 o_get shw_8 8 14 <|
 o_iconst 1 <|
 o_aload 0 <|
 o_get shw_8 8 24 <|
 o_ishl <|
 o_iconst 1 <|
 o_isub <|
 o_bald shw_8 <|
 o_zreturn)
 (o_iload 4 <|
 o_aload 0 <|
 o_get shw_8 8 0 <|
 o_iconst 1 <|
 o_iald shw_8 <|
 o_icmp_ge (o_cut [] k135)
 (o_iload 4 <|
 o_aload 0 <|
 o_get shw_8 8 0 <|
 o_iconst 0 <|
 o_iald shw_8 <|
 o_icmp_ge (o_cut [] k131)
 (o_aload 0 <|
 o_get shw_8 8 5 <|
 o_iload 4 <|
 o_iald shw_8 <|
 o_if_ne (o_cut [] k135)
 (o_cut [] k131))))
def en_X8_findPlaces_88 (p1 : Int) (p2 : Int) (a : Int × Int × Ob) : XSt := ([some (.inr (.inl (0, 0))), some (.inl p1), some (.inl p2), some (.inl a.1), some (.inl a.2.1), none], [], [a.2.2])
noncomputable def rg_X8_findPlaces_131 (k136 : XK) : XK :=
 o_iconst 1 <|
 o_cut [] k136
def en_X8_findPlaces_131 (p1 : Int) (p2 : Int) (a : Int × Int × Ob) : XSt := ([some (.inr (.inl (0, 0))), some (.inl p1), some (.inl p2), some (.inl a.1), some (.inl a.2.1), none], [], [a.2.2])
noncomputable def rg_X8_findPlaces_135 (k136 : XK) : XK :=
 o_iconst 0 <|
 o_cut [] k136
def en_X8_findPlaces_135 (p1 : Int) (p2 : Int) (a : Int × Int × Ob) : XSt := ([some (.inr (.inl (0, 0))), some (.inl p1), some (.inl p2), some (.inl a.1), some (.inl a.2.1), none], [], [a.2.2])
noncomputable def rg_X8_findPlaces_136 (k156 : XK) : XK :=
 o_istore 5 <|
 o_iload 5 <|
 o_if_ne (o_cut [] k156)
 (o_iload 3 <|
 o_if_le (o_cut [] k156)
 (o_aload 0 <|
 o_iload 3 <|
 o_aload 0 <|
 o_get shw_8 8 24 <|
 o_callVg 3 0 [0] g_X8_packsInto v_X8_packsInto <|
 o_cut [] k156))
def en_X8_findPlaces_136 (p1 : Int) (p2 : Int) (a : Int × Int × Int × Ob) : XSt := ([some (.inr (.inl (0, 0))), some (.inl p1), some (.inl p2), some (.inl a.1), some (.inl a.2.1), none], [.inl a.2.2.1], [a.2.2.2])
noncomputable def rg_X8_findPlaces_156 (k168 : XK) : XK :=
 o_iload 5 <|
 o_if_eq (o_iconst 0 <|
 o_cut [3, 5] k168)
 (o_iload 3 <|
 o_iconst 1 <|
 o_iadd <|
 o_cut [3, 5] k168)
def en_X8_findPlaces_156 (p1 : Int) (p2 : Int) (a : Int × Int × Int × Ob) : XSt := ([some (.inr (.inl (0, 0))), some (.inl p1), some (.inl p2), some (.inl a.1), some (.inl a.2.1), some (.inl a.2.2.1)], [], [a.2.2.2])
noncomputable def rg_X8_findPlaces_168 (k88 : XK) : XK :=
 o_istore 3 <|
 o_iinc 4 1 <|
 o_cut [] k88
def en_X8_findPlaces_168 (p1 : Int) (p2 : Int) (a : Int × Int × Ob) : XSt := ([some (.inr (.inl (0, 0))), some (.inl p1), some (.inl p2), none, some (.inl a.1), none], [.inl a.2.1], [a.2.2])
noncomputable def mg_X8_findPlaces_0 (p1 : Int) (p2 : Int) (k11 : (Int × Ob) → Option Rt) (a : Ob) : Option Rt :=
 if oqV (ov_X8_fillsOwners a) then (
 k11 (0, (xset (oqO (ov_X8_fillsOwners a) 0) 0 24 0))) else none
set_option maxRecDepth 100000 in
set_option maxHeartbeats 4000000 in
theorem rq_X8_findPlaces_0 (p1 : Int) (p2 : Int) (k11 : XK) (a : Ob) : rg_X8_findPlaces_0 k11 (en_X8_findPlaces_0 p1 p2 a) = mg_X8_findPlaces_0 p1 p2 (fun b => k11 (en_X8_findPlaces_11 p1 p2 b)) a := rfl
set_option maxRecDepth 100000 in
set_option maxHeartbeats 4000000 in
theorem sg_X8_findPlaces_0 {X : XDyn} {r0 : Rt} (C : XO X mX8_findPlaces) {k11 : XK} (q11 : XS X mX8_findPlaces r0 11 k11) : XS X mX8_findPlaces r0 0 (rg_X8_findPlaces_0 k11) := by
 unfold rg_X8_findPlaces_0
 exact s_aload_n (pc := 0) C dX8_findPlaces_0 rfl <|
    s_callVg (pc := 1) C ct_X8_fillsOwners (n := 1) (rk := 0) (mp := [0]) ⟨rfl, by decide, rfl⟩ (ci := 8) rfl rfl (by decide) (by decide) yi_X8_fillsOwners (by decide) wd_979 wd_981 wd_22 wd_81 wd_982 dX8_findPlaces_1 <|
    s_aload_n (pc := 4) C dX8_findPlaces_4 rfl <|
    s_iconst (pc := 5) C dX8_findPlaces_5 <|
    s_put (pc := 6) (z := false) C (ci := 8) (kf := 24) rfl inX8 tyX8_ok nmX8 (by decide) wd_895 rfl rfl dX8_findPlaces_6 <|
    s_iconst (pc := 9) C dX8_findPlaces_9 <|
    s_istore_n (pc := 10) C dX8_findPlaces_10 rfl <|
    s_cut q11
noncomputable def mg_X8_findPlaces_11 (p1 : Int) (p2 : Int) (k88 : (Int × Int × Ob) → Option Rt) (k56 : (Int × Ob) → Option Rt) (a : Int × Ob) : Option Rt :=
 if xw a.1 ≥ 8 then (if oqV (ov_X8_takes p2 a.2) then (
 if oqV (ov_X8_fillsLong ((oqO (ov_X8_takes p2 a.2) 0) 0 24) (oqO (ov_X8_takes p2 a.2) 0)) then (
 if oqV (ov_X8_packsNothing ((oqO (ov_X8_fillsLong ((oqO (ov_X8_takes p2 a.2) 0) 0 24) (oqO (ov_X8_takes p2 a.2) 0)) 0) 0 24) (oqO (ov_X8_fillsLong ((oqO (ov_X8_takes p2 a.2) 0) 0 24) (oqO (ov_X8_takes p2 a.2) 0)) 0)) then (
 k88 (0, 0, (oqO (ov_X8_packsNothing ((oqO (ov_X8_fillsLong ((oqO (ov_X8_takes p2 a.2) 0) 0 24) (oqO (ov_X8_takes p2 a.2) 0)) 0) 0 24) (oqO (ov_X8_fillsLong ((oqO (ov_X8_takes p2 a.2) 0) 0 24) (oqO (ov_X8_takes p2 a.2) 0)) 0)) 0))) else none) else none) else none)
 else (if xw (bz (isO p1 a.1)) = 0 then (k56 (a.1, a.2))
 else (if hdl a.1 then (
 if oqV (ov_X8_takes (lenM a.2 a.1) a.2) then (
 if xin (13 + a.1) 735 then (
 if hdl a.1 then (
 if decide (0 ≤ xw ((oqO (ov_X8_takes (lenM a.2 a.1) a.2) 0) 1 (xw (13 + a.1)).toNat) ∧ 0 ≤ xw (lenM (oqO (ov_X8_takes (lenM a.2 a.1) a.2) 0) a.1) ∧ xw ((oqO (ov_X8_takes (lenM a.2 a.1) a.2) 0) 1 (xw (13 + a.1)).toNat) + xw (lenM (oqO (ov_X8_takes (lenM a.2 a.1) a.2) 0) a.1) ≤ 200) then (
 k56 (a.1, (laM (oqO (ov_X8_takes (lenM a.2 a.1) a.2) 0) ((oqO (ov_X8_takes (lenM a.2 a.1) a.2) 0) 1 (xw (13 + a.1)).toNat) (lenM (oqO (ov_X8_takes (lenM a.2 a.1) a.2) 0) a.1) (0 : Int)))) else none) else none) else none) else none) else none))
set_option maxRecDepth 100000 in
set_option maxHeartbeats 4000000 in
theorem rq_X8_findPlaces_11 (p1 : Int) (p2 : Int) (k88 : XK) (k56 : XK) (a : Int × Ob) : rg_X8_findPlaces_11 k88 k56 (en_X8_findPlaces_11 p1 p2 a) = mg_X8_findPlaces_11 p1 p2 (fun b => k88 (en_X8_findPlaces_88 p1 p2 b)) (fun b => k56 (en_X8_findPlaces_56 p1 p2 b)) a := rfl
set_option maxRecDepth 100000 in
set_option maxHeartbeats 4000000 in
theorem sg_X8_findPlaces_11 {X : XDyn} {r0 : Rt} (C : XO X mX8_findPlaces) {k88 : XK} (q88 : XS X mX8_findPlaces r0 88 k88) {k56 : XK} (q56 : XS X mX8_findPlaces r0 56 k56) : XS X mX8_findPlaces r0 11 (rg_X8_findPlaces_11 k88 k56) := by
 unfold rg_X8_findPlaces_11
 exact s_iload_n (pc := 11) C dX8_findPlaces_11 rfl <|
    s_bipush (pc := 12) C dX8_findPlaces_12 (by decide) <|
    s_icmp_ge (pc := 14) C dX8_findPlaces_14 (by decide) (s_aload_n (pc := 62) C dX8_findPlaces_62 rfl <|
    s_iload_n (pc := 63) C dX8_findPlaces_63 rfl <|
    s_callVg (pc := 64) C ct_X8_takes (n := 2) (rk := 0) (mp := [0]) ⟨rfl, by decide, rfl⟩ (ci := 8) rfl rfl (by decide) (by decide) yi_X8_takes (by decide) wd_1280 wd_1282 wd_67 wd_81 wd_1283 dX8_findPlaces_64 <|
    s_aload_n (pc := 67) C dX8_findPlaces_67 rfl <|
    s_aload_n (pc := 68) C dX8_findPlaces_68 rfl <|
    s_get (pc := 69) C (ci := 8) (kf := 24) rfl inX8 (by decide) wd_895 dX8_findPlaces_69 <|
    s_callVg (pc := 72) C ct_X8_fillsLong (n := 2) (rk := 0) (mp := [0]) ⟨rfl, by decide, rfl⟩ (ci := 8) rfl rfl (by decide) (by decide) yi_X8_fillsLong (by decide) wd_1049 wd_1051 wd_38 wd_81 wd_1052 dX8_findPlaces_72 <|
    s_aload_n (pc := 75) C dX8_findPlaces_75 rfl <|
    s_aload_n (pc := 76) C dX8_findPlaces_76 rfl <|
    s_get (pc := 77) C (ci := 8) (kf := 24) rfl inX8 (by decide) wd_895 dX8_findPlaces_77 <|
    s_callVg (pc := 80) C ct_X8_packsNothing (n := 2) (rk := 0) (mp := [0]) ⟨rfl, by decide, rfl⟩ (ci := 8) rfl rfl (by decide) (by decide) yi_X8_packsNothing (by decide) wd_1053 wd_1055 wd_39 wd_81 wd_1056 dX8_findPlaces_80 <|
    s_iconst (pc := 83) C dX8_findPlaces_83 <|
    s_istore_n (pc := 84) C dX8_findPlaces_84 rfl <|
    s_iconst (pc := 85) C dX8_findPlaces_85 <|
    s_istore (pc := 86) C dX8_findPlaces_86 <|
    s_cut q88)
    (s_iload_n (pc := 17) C dX8_findPlaces_17 rfl <|
    s_iload_n (pc := 18) C dX8_findPlaces_18 rfl <|
    s_callS (pc := 19) C ct_X8_isOf (n := 2) (rk := 1) (mp := []) ⟨rfl, by decide, rfl⟩ (by decide) (by decide) ⟨rfl, yi_X8_isOf⟩ wd_1046 wd_1047 wd_81 wd_1048 dX8_findPlaces_19 <|
    s_if_ne (pc := 22) C dX8_findPlaces_22 (by decide) (s_aload_n (pc := 28) C dX8_findPlaces_28 rfl <|
    s_aload_n (pc := 29) C dX8_findPlaces_29 rfl <|
    s_iload_n (pc := 30) C dX8_findPlaces_30 rfl <|
    s_callVg (pc := 31) C ct_X8_lengthOf (n := 2) (rk := 1) (mp := [0]) ⟨rfl, by decide, rfl⟩ (ci := 8) rfl rfl (by decide) (by decide) yi_X8_lengthOf (by decide) wd_994 wd_996 wd_25 wd_81 wd_997 dX8_findPlaces_31 <|
    s_callVg (pc := 34) C ct_X8_takes (n := 2) (rk := 0) (mp := [0]) ⟨rfl, by decide, rfl⟩ (ci := 8) rfl rfl (by decide) (by decide) yi_X8_takes (by decide) wd_1280 wd_1282 wd_67 wd_81 wd_1283 dX8_findPlaces_34 <|
    s_aload_n (pc := 37) C dX8_findPlaces_37 rfl <|
    s_aload_n (pc := 38) C dX8_findPlaces_38 rfl <|
    s_get (pc := 39) C (ci := 8) (kf := 0) rfl inX8 (by decide) wd_871 dX8_findPlaces_39 <|
    s_bipush (pc := 42) C dX8_findPlaces_42 (by decide) <|
    s_iload_n (pc := 44) C dX8_findPlaces_44 rfl <|
    s_iadd (pc := 45) C dX8_findPlaces_45 <|
    s_iald (pc := 46) C dX8_findPlaces_46 <|
    s_aload_n (pc := 47) C dX8_findPlaces_47 rfl <|
    s_iload_n (pc := 48) C dX8_findPlaces_48 rfl <|
    s_callVg (pc := 49) C ct_X8_lengthOf (n := 2) (rk := 1) (mp := [0]) ⟨rfl, by decide, rfl⟩ (ci := 8) rfl rfl (by decide) (by decide) yi_X8_lengthOf (by decide) wd_994 wd_996 wd_25 wd_81 wd_997 dX8_findPlaces_49 <|
    s_iconst (pc := 52) C dX8_findPlaces_52 <|
    s_callVg (pc := 53) C ct_X8_lays (n := 4) (rk := 0) (mp := [0]) ⟨rfl, by decide, rfl⟩ (ci := 8) rfl rfl (by decide) (by decide) yi_X8_lays (by decide) wd_983 wd_985 wd_23 wd_81 wd_986 dX8_findPlaces_53 <|
    s_cut q56)
    (s_goto (pc := 25) C dX8_findPlaces_25 (by decide) <|
    s_cut q56))
noncomputable def mg_X8_findPlaces_56 (p1 : Int) (p2 : Int) (k11 : (Int × Ob) → Option Rt) (a : Int × Ob) : Option Rt :=
 k11 ((a.1 + 1), a.2)
set_option maxRecDepth 100000 in
set_option maxHeartbeats 4000000 in
theorem rq_X8_findPlaces_56 (p1 : Int) (p2 : Int) (k11 : XK) (a : Int × Ob) : rg_X8_findPlaces_56 k11 (en_X8_findPlaces_56 p1 p2 a) = mg_X8_findPlaces_56 p1 p2 (fun b => k11 (en_X8_findPlaces_11 p1 p2 b)) a := rfl
set_option maxRecDepth 100000 in
set_option maxHeartbeats 4000000 in
theorem sg_X8_findPlaces_56 {X : XDyn} {r0 : Rt} (C : XO X mX8_findPlaces) {k11 : XK} (q11 : XS X mX8_findPlaces r0 11 k11) : XS X mX8_findPlaces r0 56 (rg_X8_findPlaces_56 k11) := by
 unfold rg_X8_findPlaces_56
 exact s_iinc (pc := 56) C dX8_findPlaces_56 <|
    s_goto (pc := 59) C dX8_findPlaces_59 (by decide) <|
    s_cut q11
noncomputable def mg_X8_findPlaces_88 (p1 : Int) (p2 : Int) (k135 : (Int × Int × Ob) → Option Rt) (k131 : (Int × Int × Ob) → Option Rt) (a : Int × Int × Ob) : Option Rt :=
 if xw a.2.1 > xw (a.2.2 1 1) then (if xin ((xshl 1 (a.2.2 0 24)) - 1) 4096 then (
 if xb (a.2.2 11 (xw ((xshl 1 (a.2.2 0 24)) - 1)).toNat) then RI (a.2.2 11 (xw ((xshl 1 (a.2.2 0 24)) - 1)).toNat) [a.2.2] else none) else none)
 else (if xw a.2.1 ≥ xw (a.2.2 1 1) then (k135 (a.1, a.2.1, a.2.2))
 else (if xw a.2.1 ≥ xw (a.2.2 1 0) then (k131 (a.1, a.2.1, a.2.2))
 else (if xin a.2.1 200 then (
 if xw (a.2.2 4 (xw a.2.1).toNat) = 0 then (k131 (a.1, a.2.1, a.2.2))
 else (k135 (a.1, a.2.1, a.2.2))) else none)))
set_option maxRecDepth 100000 in
set_option maxHeartbeats 4000000 in
theorem rq_X8_findPlaces_88 (p1 : Int) (p2 : Int) (k135 : XK) (k131 : XK) (a : Int × Int × Ob) : rg_X8_findPlaces_88 k135 k131 (en_X8_findPlaces_88 p1 p2 a) = mg_X8_findPlaces_88 p1 p2 (fun b => k135 (en_X8_findPlaces_135 p1 p2 b)) (fun b => k131 (en_X8_findPlaces_131 p1 p2 b)) a := rfl
set_option maxRecDepth 100000 in
set_option maxHeartbeats 4000000 in
theorem sg_X8_findPlaces_88 {X : XDyn} {r0 : Rt} (C : XO X mX8_findPlaces) {k135 : XK} (q135 : XS X mX8_findPlaces r0 135 k135) {k131 : XK} (q131 : XS X mX8_findPlaces r0 131 k131) : XS X mX8_findPlaces r0 88 (rg_X8_findPlaces_88 k135 k131) := by
 unfold rg_X8_findPlaces_88
 exact s_iload (pc := 88) C dX8_findPlaces_88 <|
    s_aload_n (pc := 90) C dX8_findPlaces_90 rfl <|
    s_get (pc := 91) C (ci := 8) (kf := 0) rfl inX8 (by decide) wd_871 dX8_findPlaces_91 <|
    s_iconst (pc := 94) C dX8_findPlaces_94 <|
    s_iald (pc := 95) C dX8_findPlaces_95 <|
    s_icmp_gt (pc := 96) C dX8_findPlaces_96 (by decide) (s_aload_n (pc := 175) C dX8_findPlaces_175 rfl <|
    s_get (pc := 176) C (ci := 8) (kf := 14) rfl inX8 (by decide) wd_885 dX8_findPlaces_176 <|
    s_iconst (pc := 179) C dX8_findPlaces_179 <|
    s_aload_n (pc := 180) C dX8_findPlaces_180 rfl <|
    s_get (pc := 181) C (ci := 8) (kf := 24) rfl inX8 (by decide) wd_895 dX8_findPlaces_181 <|
    s_ishl (pc := 184) C dX8_findPlaces_184 <|
    s_iconst (pc := 185) C dX8_findPlaces_185 <|
    s_isub (pc := 186) C dX8_findPlaces_186 <|
    s_bald (pc := 187) C dX8_findPlaces_187 <|
    s_zreturn (pc := 188) C rfl dX8_findPlaces_188)
    (s_iload (pc := 99) C dX8_findPlaces_99 <|
    s_aload_n (pc := 101) C dX8_findPlaces_101 rfl <|
    s_get (pc := 102) C (ci := 8) (kf := 0) rfl inX8 (by decide) wd_871 dX8_findPlaces_102 <|
    s_iconst (pc := 105) C dX8_findPlaces_105 <|
    s_iald (pc := 106) C dX8_findPlaces_106 <|
    s_icmp_ge (pc := 107) C dX8_findPlaces_107 (by decide) (s_cut q135)
    (s_iload (pc := 110) C dX8_findPlaces_110 <|
    s_aload_n (pc := 112) C dX8_findPlaces_112 rfl <|
    s_get (pc := 113) C (ci := 8) (kf := 0) rfl inX8 (by decide) wd_871 dX8_findPlaces_113 <|
    s_iconst (pc := 116) C dX8_findPlaces_116 <|
    s_iald (pc := 117) C dX8_findPlaces_117 <|
    s_icmp_ge (pc := 118) C dX8_findPlaces_118 (by decide) (s_cut q131)
    (s_aload_n (pc := 121) C dX8_findPlaces_121 rfl <|
    s_get (pc := 122) C (ci := 8) (kf := 5) rfl inX8 (by decide) wd_876 dX8_findPlaces_122 <|
    s_iload (pc := 125) C dX8_findPlaces_125 <|
    s_iald (pc := 127) C dX8_findPlaces_127 <|
    s_if_ne (pc := 128) C dX8_findPlaces_128 (by decide) (s_cut q135)
    (s_cut q131))))
noncomputable def mg_X8_findPlaces_131 (p1 : Int) (p2 : Int) (k136 : (Int × Int × Int × Ob) → Option Rt) (a : Int × Int × Ob) : Option Rt :=
 k136 (a.1, a.2.1, 1, a.2.2)
set_option maxRecDepth 100000 in
set_option maxHeartbeats 4000000 in
theorem rq_X8_findPlaces_131 (p1 : Int) (p2 : Int) (k136 : XK) (a : Int × Int × Ob) : rg_X8_findPlaces_131 k136 (en_X8_findPlaces_131 p1 p2 a) = mg_X8_findPlaces_131 p1 p2 (fun b => k136 (en_X8_findPlaces_136 p1 p2 b)) a := rfl
set_option maxRecDepth 100000 in
set_option maxHeartbeats 4000000 in
theorem sg_X8_findPlaces_131 {X : XDyn} {r0 : Rt} (C : XO X mX8_findPlaces) {k136 : XK} (q136 : XS X mX8_findPlaces r0 136 k136) : XS X mX8_findPlaces r0 131 (rg_X8_findPlaces_131 k136) := by
 unfold rg_X8_findPlaces_131
 exact s_iconst (pc := 131) C dX8_findPlaces_131 <|
    s_goto (pc := 132) C dX8_findPlaces_132 (by decide) <|
    s_cut q136
noncomputable def mg_X8_findPlaces_135 (p1 : Int) (p2 : Int) (k136 : (Int × Int × Int × Ob) → Option Rt) (a : Int × Int × Ob) : Option Rt :=
 k136 (a.1, a.2.1, 0, a.2.2)
set_option maxRecDepth 100000 in
set_option maxHeartbeats 4000000 in
theorem rq_X8_findPlaces_135 (p1 : Int) (p2 : Int) (k136 : XK) (a : Int × Int × Ob) : rg_X8_findPlaces_135 k136 (en_X8_findPlaces_135 p1 p2 a) = mg_X8_findPlaces_135 p1 p2 (fun b => k136 (en_X8_findPlaces_136 p1 p2 b)) a := rfl
set_option maxRecDepth 100000 in
set_option maxHeartbeats 4000000 in
theorem sg_X8_findPlaces_135 {X : XDyn} {r0 : Rt} (C : XO X mX8_findPlaces) {k136 : XK} (q136 : XS X mX8_findPlaces r0 136 k136) : XS X mX8_findPlaces r0 135 (rg_X8_findPlaces_135 k136) := by
 unfold rg_X8_findPlaces_135
 exact s_iconst (pc := 135) C dX8_findPlaces_135 <|
    s_cut q136
noncomputable def mg_X8_findPlaces_136 (p1 : Int) (p2 : Int) (k156 : (Int × Int × Int × Ob) → Option Rt) (a : Int × Int × Int × Ob) : Option Rt :=
 if xw a.2.2.1 = 0 then (if xw a.1 ≤ 0 then (k156 (a.1, a.2.1, a.2.2.1, a.2.2.2))
 else (if oqV (ov_X8_packsInto a.1 (a.2.2.2 0 24) a.2.2.2) then (
 k156 (a.1, a.2.1, a.2.2.1, (oqO (ov_X8_packsInto a.1 (a.2.2.2 0 24) a.2.2.2) 0))) else none))
 else (k156 (a.1, a.2.1, a.2.2.1, a.2.2.2))
set_option maxRecDepth 100000 in
set_option maxHeartbeats 4000000 in
theorem rq_X8_findPlaces_136 (p1 : Int) (p2 : Int) (k156 : XK) (a : Int × Int × Int × Ob) : rg_X8_findPlaces_136 k156 (en_X8_findPlaces_136 p1 p2 a) = mg_X8_findPlaces_136 p1 p2 (fun b => k156 (en_X8_findPlaces_156 p1 p2 b)) a := rfl
set_option maxRecDepth 100000 in
set_option maxHeartbeats 4000000 in
theorem sg_X8_findPlaces_136 {X : XDyn} {r0 : Rt} (C : XO X mX8_findPlaces) {k156 : XK} (q156 : XS X mX8_findPlaces r0 156 k156) : XS X mX8_findPlaces r0 136 (rg_X8_findPlaces_136 k156) := by
 unfold rg_X8_findPlaces_136
 exact s_istore (pc := 136) C dX8_findPlaces_136 <|
    s_iload (pc := 138) C dX8_findPlaces_138 <|
    s_if_ne (pc := 140) C dX8_findPlaces_140 (by decide) (s_cut q156)
    (s_iload_n (pc := 143) C dX8_findPlaces_143 rfl <|
    s_if_le (pc := 144) C dX8_findPlaces_144 (by decide) (s_cut q156)
    (s_aload_n (pc := 147) C dX8_findPlaces_147 rfl <|
    s_iload_n (pc := 148) C dX8_findPlaces_148 rfl <|
    s_aload_n (pc := 149) C dX8_findPlaces_149 rfl <|
    s_get (pc := 150) C (ci := 8) (kf := 24) rfl inX8 (by decide) wd_895 dX8_findPlaces_150 <|
    s_callVg (pc := 153) C ct_X8_packsInto (n := 3) (rk := 0) (mp := [0]) ⟨rfl, by decide, rfl⟩ (ci := 8) rfl rfl (by decide) (by decide) yi_X8_packsInto (by decide) wd_1057 wd_1059 wd_40 wd_81 wd_1060 dX8_findPlaces_153 <|
    s_cut q156))
noncomputable def mg_X8_findPlaces_156 (p1 : Int) (p2 : Int) (k168 : (Int × Int × Ob) → Option Rt) (a : Int × Int × Int × Ob) : Option Rt :=
 if xw a.2.2.1 = 0 then (k168 (a.2.1, 0, a.2.2.2))
 else (k168 (a.2.1, (a.1 + 1), a.2.2.2))
set_option maxRecDepth 100000 in
set_option maxHeartbeats 4000000 in
theorem rq_X8_findPlaces_156 (p1 : Int) (p2 : Int) (k168 : XK) (a : Int × Int × Int × Ob) : rg_X8_findPlaces_156 k168 (en_X8_findPlaces_156 p1 p2 a) = mg_X8_findPlaces_156 p1 p2 (fun b => k168 (en_X8_findPlaces_168 p1 p2 b)) a := rfl
set_option maxRecDepth 100000 in
set_option maxHeartbeats 4000000 in
theorem sg_X8_findPlaces_156 {X : XDyn} {r0 : Rt} (C : XO X mX8_findPlaces) {k168 : XK} (q168 : XS X mX8_findPlaces r0 168 k168) : XS X mX8_findPlaces r0 156 (rg_X8_findPlaces_156 k168) := by
 unfold rg_X8_findPlaces_156
 exact s_iload (pc := 156) C dX8_findPlaces_156 <|
    s_if_eq (pc := 158) C dX8_findPlaces_158 (by decide) (s_iconst (pc := 167) C dX8_findPlaces_167 <|
    s_cut q168)
    (s_iload_n (pc := 161) C dX8_findPlaces_161 rfl <|
    s_iconst (pc := 162) C dX8_findPlaces_162 <|
    s_iadd (pc := 163) C dX8_findPlaces_163 <|
    s_goto (pc := 164) C dX8_findPlaces_164 (by decide) <|
    s_cut q168)
noncomputable def mg_X8_findPlaces_168 (p1 : Int) (p2 : Int) (k88 : (Int × Int × Ob) → Option Rt) (a : Int × Int × Ob) : Option Rt :=
 k88 (a.2.1, (a.1 + 1), a.2.2)
set_option maxRecDepth 100000 in
set_option maxHeartbeats 4000000 in
theorem rq_X8_findPlaces_168 (p1 : Int) (p2 : Int) (k88 : XK) (a : Int × Int × Ob) : rg_X8_findPlaces_168 k88 (en_X8_findPlaces_168 p1 p2 a) = mg_X8_findPlaces_168 p1 p2 (fun b => k88 (en_X8_findPlaces_88 p1 p2 b)) a := rfl
set_option maxRecDepth 100000 in
set_option maxHeartbeats 4000000 in
theorem sg_X8_findPlaces_168 {X : XDyn} {r0 : Rt} (C : XO X mX8_findPlaces) {k88 : XK} (q88 : XS X mX8_findPlaces r0 88 k88) : XS X mX8_findPlaces r0 168 (rg_X8_findPlaces_168 k88) := by
 unfold rg_X8_findPlaces_168
 exact s_istore_n (pc := 168) C dX8_findPlaces_168 rfl <|
    s_iinc (pc := 169) C dX8_findPlaces_169 <|
    s_goto (pc := 172) C dX8_findPlaces_172 (by decide) <|
    s_cut q88
noncomputable def rw_X8_findPlaces_168 (f : Nat) (k88 : XK) : XK := rg_X8_findPlaces_168 k88
noncomputable def md_X8_findPlaces_168 (p1 : Int) (p2 : Int) (f : Nat) (k88 : (Int × Int × Ob) → Option Rt) : Int × Int × Ob → Option Rt := mg_X8_findPlaces_168 p1 p2 k88
theorem eq_X8_findPlaces_168 (p1 : Int) (p2 : Int) (f : Nat) (k88 : XK) (a : Int × Int × Ob) : rw_X8_findPlaces_168 f k88 (en_X8_findPlaces_168 p1 p2 a) = md_X8_findPlaces_168 p1 p2 f (fun b => k88 (en_X8_findPlaces_88 p1 p2 b)) a :=
 (rq_X8_findPlaces_168 p1 p2 k88 a).trans (congrFun (congr (rfl : mg_X8_findPlaces_168 p1 p2 = mg_X8_findPlaces_168 p1 p2) rfl) a)
theorem sd_X8_findPlaces_168 (f : Nat) {X : XDyn} {r0 : Rt} (C : XO X mX8_findPlaces) {k88 : XK} (q88 : XS X mX8_findPlaces r0 88 k88) : XS X mX8_findPlaces r0 168 (rw_X8_findPlaces_168 f k88) := sg_X8_findPlaces_168 C q88
noncomputable def rw_X8_findPlaces_156 (f : Nat) (k88 : XK) : XK := rg_X8_findPlaces_156 (rw_X8_findPlaces_168 f k88)
noncomputable def md_X8_findPlaces_156 (p1 : Int) (p2 : Int) (f : Nat) (k88 : (Int × Int × Ob) → Option Rt) : Int × Int × Int × Ob → Option Rt := mg_X8_findPlaces_156 p1 p2 (md_X8_findPlaces_168 p1 p2 f k88)
theorem eq_X8_findPlaces_156 (p1 : Int) (p2 : Int) (f : Nat) (k88 : XK) (a : Int × Int × Int × Ob) : rw_X8_findPlaces_156 f k88 (en_X8_findPlaces_156 p1 p2 a) = md_X8_findPlaces_156 p1 p2 f (fun b => k88 (en_X8_findPlaces_88 p1 p2 b)) a :=
 (rq_X8_findPlaces_156 p1 p2 (rw_X8_findPlaces_168 f k88) a).trans (congrFun (congr (rfl : mg_X8_findPlaces_156 p1 p2 = mg_X8_findPlaces_156 p1 p2) (funext (eq_X8_findPlaces_168 p1 p2 f k88))) a)
theorem sd_X8_findPlaces_156 (f : Nat) {X : XDyn} {r0 : Rt} (C : XO X mX8_findPlaces) {k88 : XK} (q88 : XS X mX8_findPlaces r0 88 k88) : XS X mX8_findPlaces r0 156 (rw_X8_findPlaces_156 f k88) := sg_X8_findPlaces_156 C (sd_X8_findPlaces_168 f C q88)
noncomputable def rw_X8_findPlaces_136 (f : Nat) (k88 : XK) : XK := rg_X8_findPlaces_136 (rw_X8_findPlaces_156 f k88)
noncomputable def md_X8_findPlaces_136 (p1 : Int) (p2 : Int) (f : Nat) (k88 : (Int × Int × Ob) → Option Rt) : Int × Int × Int × Ob → Option Rt := mg_X8_findPlaces_136 p1 p2 (md_X8_findPlaces_156 p1 p2 f k88)
theorem eq_X8_findPlaces_136 (p1 : Int) (p2 : Int) (f : Nat) (k88 : XK) (a : Int × Int × Int × Ob) : rw_X8_findPlaces_136 f k88 (en_X8_findPlaces_136 p1 p2 a) = md_X8_findPlaces_136 p1 p2 f (fun b => k88 (en_X8_findPlaces_88 p1 p2 b)) a :=
 (rq_X8_findPlaces_136 p1 p2 (rw_X8_findPlaces_156 f k88) a).trans (congrFun (congr (rfl : mg_X8_findPlaces_136 p1 p2 = mg_X8_findPlaces_136 p1 p2) (funext (eq_X8_findPlaces_156 p1 p2 f k88))) a)
theorem sd_X8_findPlaces_136 (f : Nat) {X : XDyn} {r0 : Rt} (C : XO X mX8_findPlaces) {k88 : XK} (q88 : XS X mX8_findPlaces r0 88 k88) : XS X mX8_findPlaces r0 136 (rw_X8_findPlaces_136 f k88) := sg_X8_findPlaces_136 C (sd_X8_findPlaces_156 f C q88)
noncomputable def rw_X8_findPlaces_135 (f : Nat) (k88 : XK) : XK := rg_X8_findPlaces_135 (rw_X8_findPlaces_136 f k88)
noncomputable def md_X8_findPlaces_135 (p1 : Int) (p2 : Int) (f : Nat) (k88 : (Int × Int × Ob) → Option Rt) : Int × Int × Ob → Option Rt := mg_X8_findPlaces_135 p1 p2 (md_X8_findPlaces_136 p1 p2 f k88)
theorem eq_X8_findPlaces_135 (p1 : Int) (p2 : Int) (f : Nat) (k88 : XK) (a : Int × Int × Ob) : rw_X8_findPlaces_135 f k88 (en_X8_findPlaces_135 p1 p2 a) = md_X8_findPlaces_135 p1 p2 f (fun b => k88 (en_X8_findPlaces_88 p1 p2 b)) a :=
 (rq_X8_findPlaces_135 p1 p2 (rw_X8_findPlaces_136 f k88) a).trans (congrFun (congr (rfl : mg_X8_findPlaces_135 p1 p2 = mg_X8_findPlaces_135 p1 p2) (funext (eq_X8_findPlaces_136 p1 p2 f k88))) a)
theorem sd_X8_findPlaces_135 (f : Nat) {X : XDyn} {r0 : Rt} (C : XO X mX8_findPlaces) {k88 : XK} (q88 : XS X mX8_findPlaces r0 88 k88) : XS X mX8_findPlaces r0 135 (rw_X8_findPlaces_135 f k88) := sg_X8_findPlaces_135 C (sd_X8_findPlaces_136 f C q88)
noncomputable def rw_X8_findPlaces_131 (f : Nat) (k88 : XK) : XK := rg_X8_findPlaces_131 (rw_X8_findPlaces_136 f k88)
noncomputable def md_X8_findPlaces_131 (p1 : Int) (p2 : Int) (f : Nat) (k88 : (Int × Int × Ob) → Option Rt) : Int × Int × Ob → Option Rt := mg_X8_findPlaces_131 p1 p2 (md_X8_findPlaces_136 p1 p2 f k88)
theorem eq_X8_findPlaces_131 (p1 : Int) (p2 : Int) (f : Nat) (k88 : XK) (a : Int × Int × Ob) : rw_X8_findPlaces_131 f k88 (en_X8_findPlaces_131 p1 p2 a) = md_X8_findPlaces_131 p1 p2 f (fun b => k88 (en_X8_findPlaces_88 p1 p2 b)) a :=
 (rq_X8_findPlaces_131 p1 p2 (rw_X8_findPlaces_136 f k88) a).trans (congrFun (congr (rfl : mg_X8_findPlaces_131 p1 p2 = mg_X8_findPlaces_131 p1 p2) (funext (eq_X8_findPlaces_136 p1 p2 f k88))) a)
theorem sd_X8_findPlaces_131 (f : Nat) {X : XDyn} {r0 : Rt} (C : XO X mX8_findPlaces) {k88 : XK} (q88 : XS X mX8_findPlaces r0 88 k88) : XS X mX8_findPlaces r0 131 (rw_X8_findPlaces_131 f k88) := sg_X8_findPlaces_131 C (sd_X8_findPlaces_136 f C q88)
noncomputable def rw_X8_findPlaces_88 (f : Nat) : XK := tlp (fun k88 => rg_X8_findPlaces_88 (rw_X8_findPlaces_135 f k88) (rw_X8_findPlaces_131 f k88)) f
noncomputable def lb_X8_findPlaces_88 (p1 : Int) (p2 : Int) (f : Nat) : ((Int × Int × Ob) → Option Rt) → Int × Int × Ob → Option Rt := fun k88 => mg_X8_findPlaces_88 p1 p2 (md_X8_findPlaces_135 p1 p2 f k88) (md_X8_findPlaces_131 p1 p2 f k88)
noncomputable def md_X8_findPlaces_88 (p1 : Int) (p2 : Int) (f : Nat) : Int × Int × Ob → Option Rt := tlp (lb_X8_findPlaces_88 p1 p2 f) f
theorem eq_X8_findPlaces_88 (p1 : Int) (p2 : Int) (f : Nat) (a : Int × Int × Ob) : rw_X8_findPlaces_88 f (en_X8_findPlaces_88 p1 p2 a) = md_X8_findPlaces_88 p1 p2 f a :=
 tlp_enc (en_X8_findPlaces_88 p1 p2) (fun k88 a => (rq_X8_findPlaces_88 p1 p2 (rw_X8_findPlaces_135 f k88) (rw_X8_findPlaces_131 f k88) a).trans (congrFun (congr (congr (rfl : mg_X8_findPlaces_88 p1 p2 = mg_X8_findPlaces_88 p1 p2) (funext (eq_X8_findPlaces_135 p1 p2 f k88))) (funext (eq_X8_findPlaces_131 p1 p2 f k88))) a)) f a
theorem sd_X8_findPlaces_88 (f : Nat) {X : XDyn} {r0 : Rt} (C : XO X mX8_findPlaces) : XS X mX8_findPlaces r0 88 (rw_X8_findPlaces_88 f) := s_lp (fun k88 q88 => sg_X8_findPlaces_88 C (sd_X8_findPlaces_135 f C q88) (sd_X8_findPlaces_131 f C q88)) f
noncomputable def rw_X8_findPlaces_56 (f : Nat) (k11 : XK) : XK := rg_X8_findPlaces_56 k11
noncomputable def md_X8_findPlaces_56 (p1 : Int) (p2 : Int) (f : Nat) (k11 : (Int × Ob) → Option Rt) : Int × Ob → Option Rt := mg_X8_findPlaces_56 p1 p2 k11
theorem eq_X8_findPlaces_56 (p1 : Int) (p2 : Int) (f : Nat) (k11 : XK) (a : Int × Ob) : rw_X8_findPlaces_56 f k11 (en_X8_findPlaces_56 p1 p2 a) = md_X8_findPlaces_56 p1 p2 f (fun b => k11 (en_X8_findPlaces_11 p1 p2 b)) a :=
 (rq_X8_findPlaces_56 p1 p2 k11 a).trans (congrFun (congr (rfl : mg_X8_findPlaces_56 p1 p2 = mg_X8_findPlaces_56 p1 p2) rfl) a)
theorem sd_X8_findPlaces_56 (f : Nat) {X : XDyn} {r0 : Rt} (C : XO X mX8_findPlaces) {k11 : XK} (q11 : XS X mX8_findPlaces r0 11 k11) : XS X mX8_findPlaces r0 56 (rw_X8_findPlaces_56 f k11) := sg_X8_findPlaces_56 C q11
noncomputable def rw_X8_findPlaces_11 (f : Nat) : XK := tlp (fun k11 => rg_X8_findPlaces_11 (rw_X8_findPlaces_88 f) (rw_X8_findPlaces_56 f k11)) f
noncomputable def lb_X8_findPlaces_11 (p1 : Int) (p2 : Int) (f : Nat) : ((Int × Ob) → Option Rt) → Int × Ob → Option Rt := fun k11 => mg_X8_findPlaces_11 p1 p2 (md_X8_findPlaces_88 p1 p2 f) (md_X8_findPlaces_56 p1 p2 f k11)
noncomputable def md_X8_findPlaces_11 (p1 : Int) (p2 : Int) (f : Nat) : Int × Ob → Option Rt := tlp (lb_X8_findPlaces_11 p1 p2 f) f
theorem eq_X8_findPlaces_11 (p1 : Int) (p2 : Int) (f : Nat) (a : Int × Ob) : rw_X8_findPlaces_11 f (en_X8_findPlaces_11 p1 p2 a) = md_X8_findPlaces_11 p1 p2 f a :=
 tlp_enc (en_X8_findPlaces_11 p1 p2) (fun k11 a => (rq_X8_findPlaces_11 p1 p2 (rw_X8_findPlaces_88 f) (rw_X8_findPlaces_56 f k11) a).trans (congrFun (congr (congr (rfl : mg_X8_findPlaces_11 p1 p2 = mg_X8_findPlaces_11 p1 p2) (funext (eq_X8_findPlaces_88 p1 p2 f))) (funext (eq_X8_findPlaces_56 p1 p2 f k11))) a)) f a
theorem sd_X8_findPlaces_11 (f : Nat) {X : XDyn} {r0 : Rt} (C : XO X mX8_findPlaces) : XS X mX8_findPlaces r0 11 (rw_X8_findPlaces_11 f) := s_lp (fun k11 q11 => sg_X8_findPlaces_11 C (sd_X8_findPlaces_88 f C) (sd_X8_findPlaces_56 f C q11)) f
noncomputable def rw_X8_findPlaces_0 (f : Nat) : XK := rg_X8_findPlaces_0 (rw_X8_findPlaces_11 f)
noncomputable def md_X8_findPlaces_0 (p1 : Int) (p2 : Int) (f : Nat) : Ob → Option Rt := mg_X8_findPlaces_0 p1 p2 (md_X8_findPlaces_11 p1 p2 f)
theorem eq_X8_findPlaces_0 (p1 : Int) (p2 : Int) (f : Nat) (a : Ob) : rw_X8_findPlaces_0 f (en_X8_findPlaces_0 p1 p2 a) = md_X8_findPlaces_0 p1 p2 f a :=
 (rq_X8_findPlaces_0 p1 p2 (rw_X8_findPlaces_11 f) a).trans (congrFun (congr (rfl : mg_X8_findPlaces_0 p1 p2 = mg_X8_findPlaces_0 p1 p2) (funext (eq_X8_findPlaces_11 p1 p2 f))) a)
theorem sd_X8_findPlaces_0 (f : Nat) {X : XDyn} {r0 : Rt} (C : XO X mX8_findPlaces) : XS X mX8_findPlaces r0 0 (rw_X8_findPlaces_0 f) := sg_X8_findPlaces_0 C (sd_X8_findPlaces_11 f C)
theorem ctr_X8_findPlaces (f : Nat) : XCt yX8_findPlaces mX8_findPlaces (xF mX8_findPlaces (rw_X8_findPlaces_0 f)) := xMet (by decide +kernel) rfl (fun _ _ C => sd_X8_findPlaces_0 f C)
theorem eqf_X8_findPlaces (f : Nat) (p1 : Int) (p2 : Int) (h0 : Ob) : xF mX8_findPlaces (rw_X8_findPlaces_0 f) [.inr (.inl (0, 0)), .inl p1, .inl p2] [h0] = md_X8_findPlaces_0 p1 p2 f h0 := eq_X8_findPlaces_0 p1 p2 f h0
theorem yi_X8_findPlaces : yX8_findPlaces.cls = RX8 ∧ yX8_findPlaces.cls ≠ "java/lang/invoke/MethodHandle" ∧ yX8_findPlaces.cls ≠ "java/lang/invoke/VarHandle" ∧ (parseMethodDescriptor yX8_findPlaces.desc).map (fun d => d.parameters.length) = some 2 := ⟨rfl, by decide +kernel, by decide +kernel, by decide +kernel⟩
noncomputable def ov_X8_findPlaces (p1 p2 : Int) (h0 : Ob) : Option Rt := xop (md_X8_findPlaces_0 p1 p2 xfu h0)
theorem ov_X8_findPlaces_e (p1 p2 : Int) (h0 : Ob) : ov_X8_findPlaces p1 p2 h0 = md_X8_findPlaces_0 p1 p2 xfu h0 := xop_eq _
theorem sp_X8_findPlaces (p1 p2 : Int) (h0 : Ob) (hg : oqI (ov_X8_findPlaces p1 p2 h0) = true) : md_X8_findPlaces_0 p1 p2 xfu h0 = RI (oqR (ov_X8_findPlaces p1 p2 h0)) [(oqO (ov_X8_findPlaces p1 p2 h0) 0)] := (ov_X8_findPlaces_e p1 p2 h0).symm.trans (oqI_eq hg)
noncomputable def g_X8_findPlaces : List AV → List Ob → Bool
  | [.inr (.inl (0, 0)), .inl p1, .inl p2], [h0] => oqI (ov_X8_findPlaces p1 p2 h0)
  | _, _ => false
noncomputable def v_X8_findPlaces : List AV → List Ob → Rt
  | [.inr (.inl (0, 0)), .inl p1, .inl p2], [h0] => (some (.inl (oqR (ov_X8_findPlaces p1 p2 h0))), [(oqO (ov_X8_findPlaces p1 p2 h0) 0)])
  | _, _ => (none, [])
theorem ct_X8_findPlaces : XCt yX8_findPlaces mX8_findPlaces (fun as μ => if g_X8_findPlaces as μ then some (v_X8_findPlaces as μ) else none) := (ctr_X8_findPlaces xfu).of (fun as μ r h => by
  split at h
  · rename_i hg
    unfold g_X8_findPlaces at hg
    split at hg
    · rw [← h]
      exact (eqf_X8_findPlaces xfu _ _ _).trans (sp_X8_findPlaces _ _ _ hg)
    · cases hg
  · cases h)
theorem dX8_lengthsOf_0 : decode cX8_lengthsOf 0 = .ok (.iconst 0, 1) := by decide +kernel
theorem dX8_lengthsOf_1 : decode cX8_lengthsOf 1 = .ok (.istore_n 2, 1) := by decide +kernel
theorem dX8_lengthsOf_2 : decode cX8_lengthsOf 2 = .ok (.iconst 0, 1) := by decide +kernel
theorem dX8_lengthsOf_3 : decode cX8_lengthsOf 3 = .ok (.istore_n 3, 1) := by decide +kernel
theorem dX8_lengthsOf_4 : decode cX8_lengthsOf 4 = .ok (.iload_n 3, 1) := by decide +kernel
theorem dX8_lengthsOf_5 : decode cX8_lengthsOf 5 = .ok (.bipush 8, 2) := by decide +kernel
theorem dX8_lengthsOf_7 : decode cX8_lengthsOf 7 = .ok (.if_icmp .ge 29, 3) := by decide +kernel
theorem dX8_lengthsOf_10 : decode cX8_lengthsOf 10 = .ok (.iload_n 2, 1) := by decide +kernel
theorem dX8_lengthsOf_11 : decode cX8_lengthsOf 11 = .ok (.iload_n 1, 1) := by decide +kernel
theorem dX8_lengthsOf_12 : decode cX8_lengthsOf 12 = .ok (.iload_n 3, 1) := by decide +kernel
theorem dX8_lengthsOf_13 : decode cX8_lengthsOf 13 = .ok (.invokestatic 125, 3) := by decide +kernel
theorem dX8_lengthsOf_16 : decode cX8_lengthsOf 16 = .ok (.ifCond .eq 11, 3) := by decide +kernel
theorem dX8_lengthsOf_19 : decode cX8_lengthsOf 19 = .ok (.aload_n 0, 1) := by decide +kernel
theorem dX8_lengthsOf_20 : decode cX8_lengthsOf 20 = .ok (.iload_n 3, 1) := by decide +kernel
theorem dX8_lengthsOf_21 : decode cX8_lengthsOf 21 = .ok (.invokevirtual 93, 3) := by decide +kernel
theorem dX8_lengthsOf_24 : decode cX8_lengthsOf 24 = .ok (.goto 4, 3) := by decide +kernel
theorem dX8_lengthsOf_27 : decode cX8_lengthsOf 27 = .ok (.iconst 0, 1) := by decide +kernel
theorem dX8_lengthsOf_28 : decode cX8_lengthsOf 28 = .ok (.iadd, 1) := by decide +kernel
theorem dX8_lengthsOf_29 : decode cX8_lengthsOf 29 = .ok (.istore_n 2, 1) := by decide +kernel
theorem dX8_lengthsOf_30 : decode cX8_lengthsOf 30 = .ok (.iinc 3 1, 3) := by decide +kernel
theorem dX8_lengthsOf_33 : decode cX8_lengthsOf 33 = .ok (.goto (-29), 3) := by decide +kernel
theorem dX8_lengthsOf_36 : decode cX8_lengthsOf 36 = .ok (.iload_n 2, 1) := by decide +kernel
theorem dX8_lengthsOf_37 : decode cX8_lengthsOf 37 = .ok (.ireturn, 1) := by decide +kernel
abbrev mX8_lengthsOf : XM := (cX8_lengthsOf, 4, RX8, (some .int), shw_8, 1)
noncomputable def rg_X8_lengthsOf_0 (k4 : XK) : XK :=
 o_iconst 0 <|
 o_istore 2 <|
 o_iconst 0 <|
 o_istore 3 <|
 o_cut [] k4
def en_X8_lengthsOf_0 (p1 : Int) (h0 : Ob) (a : Unit) : XSt := ([some (.inr (.inl (0, 0))), some (.inl p1), none, none], [], [h0])
noncomputable def rg_X8_lengthsOf_4 (k28 : XK) : XK :=
 o_iload 3 <|
 o_iconst 8 <|
 o_icmp_ge (o_iload 2 <|
 o_ireturn)
 (o_iload 2 <|
 o_iload 1 <|
 o_iload 3 <|
 o_callS 2 1 [] f_X8_isOf <|
 o_if_eq (o_iconst 0 <|
 o_cut [2] k28)
 (o_aload 0 <|
 o_iload 3 <|
 o_callVg 2 1 [0] g_X8_lengthOf v_X8_lengthOf <|
 o_cut [2] k28))
def en_X8_lengthsOf_4 (p1 : Int) (h0 : Ob) (a : Int × Int) : XSt := ([some (.inr (.inl (0, 0))), some (.inl p1), some (.inl a.1), some (.inl a.2)], [], [h0])
noncomputable def rg_X8_lengthsOf_28 (k4 : XK) : XK :=
 o_iadd <|
 o_istore 2 <|
 o_iinc 3 1 <|
 o_cut [] k4
def en_X8_lengthsOf_28 (p1 : Int) (h0 : Ob) (a : Int × Int × Int) : XSt := ([some (.inr (.inl (0, 0))), some (.inl p1), none, some (.inl a.1)], [.inl a.2.2, .inl a.2.1], [h0])
noncomputable def mg_X8_lengthsOf_0 (p1 : Int) (h0 : Ob) (k4 : (Int × Int) → Option Rt) (a : Unit) : Option Rt :=
 k4 (0, 0)
set_option maxRecDepth 100000 in
set_option maxHeartbeats 4000000 in
theorem rq_X8_lengthsOf_0 (p1 : Int) (h0 : Ob) (k4 : XK) (a : Unit) : rg_X8_lengthsOf_0 k4 (en_X8_lengthsOf_0 p1 h0 a) = mg_X8_lengthsOf_0 p1 h0 (fun b => k4 (en_X8_lengthsOf_4 p1 h0 b)) a := rfl
set_option maxRecDepth 100000 in
set_option maxHeartbeats 4000000 in
theorem sg_X8_lengthsOf_0 {X : XDyn} {r0 : Rt} (C : XO X mX8_lengthsOf) {k4 : XK} (q4 : XS X mX8_lengthsOf r0 4 k4) : XS X mX8_lengthsOf r0 0 (rg_X8_lengthsOf_0 k4) := by
 unfold rg_X8_lengthsOf_0
 exact s_iconst (pc := 0) C dX8_lengthsOf_0 <|
    s_istore_n (pc := 1) C dX8_lengthsOf_1 rfl <|
    s_iconst (pc := 2) C dX8_lengthsOf_2 <|
    s_istore_n (pc := 3) C dX8_lengthsOf_3 rfl <|
    s_cut q4
noncomputable def mg_X8_lengthsOf_4 (p1 : Int) (h0 : Ob) (k28 : (Int × Int × Int) → Option Rt) (a : Int × Int) : Option Rt :=
 if xw a.2 ≥ 8 then (RI a.1 [h0])
 else (if xw (bz (isO p1 a.2)) = 0 then (k28 (a.2, a.1, 0))
 else (if hdl a.2 then (
 k28 (a.2, a.1, (lenM h0 a.2))) else none))
set_option maxRecDepth 100000 in
set_option maxHeartbeats 4000000 in
theorem rq_X8_lengthsOf_4 (p1 : Int) (h0 : Ob) (k28 : XK) (a : Int × Int) : rg_X8_lengthsOf_4 k28 (en_X8_lengthsOf_4 p1 h0 a) = mg_X8_lengthsOf_4 p1 h0 (fun b => k28 (en_X8_lengthsOf_28 p1 h0 b)) a := rfl
set_option maxRecDepth 100000 in
set_option maxHeartbeats 4000000 in
theorem sg_X8_lengthsOf_4 {X : XDyn} {r0 : Rt} (C : XO X mX8_lengthsOf) {k28 : XK} (q28 : XS X mX8_lengthsOf r0 28 k28) : XS X mX8_lengthsOf r0 4 (rg_X8_lengthsOf_4 k28) := by
 unfold rg_X8_lengthsOf_4
 exact s_iload_n (pc := 4) C dX8_lengthsOf_4 rfl <|
    s_bipush (pc := 5) C dX8_lengthsOf_5 (by decide) <|
    s_icmp_ge (pc := 7) C dX8_lengthsOf_7 (by decide) (s_iload_n (pc := 36) C dX8_lengthsOf_36 rfl <|
    s_ireturn (pc := 37) C rfl dX8_lengthsOf_37)
    (s_iload_n (pc := 10) C dX8_lengthsOf_10 rfl <|
    s_iload_n (pc := 11) C dX8_lengthsOf_11 rfl <|
    s_iload_n (pc := 12) C dX8_lengthsOf_12 rfl <|
    s_callS (pc := 13) C ct_X8_isOf (n := 2) (rk := 1) (mp := []) ⟨rfl, by decide, rfl⟩ (by decide) (by decide) ⟨rfl, yi_X8_isOf⟩ wd_1046 wd_1047 wd_81 wd_1048 dX8_lengthsOf_13 <|
    s_if_eq (pc := 16) C dX8_lengthsOf_16 (by decide) (s_iconst (pc := 27) C dX8_lengthsOf_27 <|
    s_cut q28)
    (s_aload_n (pc := 19) C dX8_lengthsOf_19 rfl <|
    s_iload_n (pc := 20) C dX8_lengthsOf_20 rfl <|
    s_callVg (pc := 21) C ct_X8_lengthOf (n := 2) (rk := 1) (mp := [0]) ⟨rfl, by decide, rfl⟩ (ci := 8) rfl rfl (by decide) (by decide) yi_X8_lengthOf (by decide) wd_994 wd_996 wd_25 wd_81 wd_997 dX8_lengthsOf_21 <|
    s_goto (pc := 24) C dX8_lengthsOf_24 (by decide) <|
    s_cut q28))
noncomputable def mg_X8_lengthsOf_28 (p1 : Int) (h0 : Ob) (k4 : (Int × Int) → Option Rt) (a : Int × Int × Int) : Option Rt :=
 k4 ((a.2.1 + a.2.2), (a.1 + 1))
set_option maxRecDepth 100000 in
set_option maxHeartbeats 4000000 in
theorem rq_X8_lengthsOf_28 (p1 : Int) (h0 : Ob) (k4 : XK) (a : Int × Int × Int) : rg_X8_lengthsOf_28 k4 (en_X8_lengthsOf_28 p1 h0 a) = mg_X8_lengthsOf_28 p1 h0 (fun b => k4 (en_X8_lengthsOf_4 p1 h0 b)) a := rfl
set_option maxRecDepth 100000 in
set_option maxHeartbeats 4000000 in
theorem sg_X8_lengthsOf_28 {X : XDyn} {r0 : Rt} (C : XO X mX8_lengthsOf) {k4 : XK} (q4 : XS X mX8_lengthsOf r0 4 k4) : XS X mX8_lengthsOf r0 28 (rg_X8_lengthsOf_28 k4) := by
 unfold rg_X8_lengthsOf_28
 exact s_iadd (pc := 28) C dX8_lengthsOf_28 <|
    s_istore_n (pc := 29) C dX8_lengthsOf_29 rfl <|
    s_iinc (pc := 30) C dX8_lengthsOf_30 <|
    s_goto (pc := 33) C dX8_lengthsOf_33 (by decide) <|
    s_cut q4
noncomputable def rw_X8_lengthsOf_28 (f : Nat) (k4 : XK) : XK := rg_X8_lengthsOf_28 k4
noncomputable def md_X8_lengthsOf_28 (p1 : Int) (h0 : Ob) (f : Nat) (k4 : (Int × Int) → Option Rt) : Int × Int × Int → Option Rt := mg_X8_lengthsOf_28 p1 h0 k4
theorem eq_X8_lengthsOf_28 (p1 : Int) (h0 : Ob) (f : Nat) (k4 : XK) (a : Int × Int × Int) : rw_X8_lengthsOf_28 f k4 (en_X8_lengthsOf_28 p1 h0 a) = md_X8_lengthsOf_28 p1 h0 f (fun b => k4 (en_X8_lengthsOf_4 p1 h0 b)) a :=
 (rq_X8_lengthsOf_28 p1 h0 k4 a).trans (congrFun (congr (rfl : mg_X8_lengthsOf_28 p1 h0 = mg_X8_lengthsOf_28 p1 h0) rfl) a)
theorem sd_X8_lengthsOf_28 (f : Nat) {X : XDyn} {r0 : Rt} (C : XO X mX8_lengthsOf) {k4 : XK} (q4 : XS X mX8_lengthsOf r0 4 k4) : XS X mX8_lengthsOf r0 28 (rw_X8_lengthsOf_28 f k4) := sg_X8_lengthsOf_28 C q4
noncomputable def rw_X8_lengthsOf_4 (f : Nat) : XK := tlp (fun k4 => rg_X8_lengthsOf_4 (rw_X8_lengthsOf_28 f k4)) f
noncomputable def lb_X8_lengthsOf_4 (p1 : Int) (h0 : Ob) (f : Nat) : ((Int × Int) → Option Rt) → Int × Int → Option Rt := fun k4 => mg_X8_lengthsOf_4 p1 h0 (md_X8_lengthsOf_28 p1 h0 f k4)
noncomputable def md_X8_lengthsOf_4 (p1 : Int) (h0 : Ob) (f : Nat) : Int × Int → Option Rt := tlp (lb_X8_lengthsOf_4 p1 h0 f) f
theorem eq_X8_lengthsOf_4 (p1 : Int) (h0 : Ob) (f : Nat) (a : Int × Int) : rw_X8_lengthsOf_4 f (en_X8_lengthsOf_4 p1 h0 a) = md_X8_lengthsOf_4 p1 h0 f a :=
 tlp_enc (en_X8_lengthsOf_4 p1 h0) (fun k4 a => (rq_X8_lengthsOf_4 p1 h0 (rw_X8_lengthsOf_28 f k4) a).trans (congrFun (congr (rfl : mg_X8_lengthsOf_4 p1 h0 = mg_X8_lengthsOf_4 p1 h0) (funext (eq_X8_lengthsOf_28 p1 h0 f k4))) a)) f a
theorem sd_X8_lengthsOf_4 (f : Nat) {X : XDyn} {r0 : Rt} (C : XO X mX8_lengthsOf) : XS X mX8_lengthsOf r0 4 (rw_X8_lengthsOf_4 f) := s_lp (fun k4 q4 => sg_X8_lengthsOf_4 C (sd_X8_lengthsOf_28 f C q4)) f
noncomputable def rw_X8_lengthsOf_0 (f : Nat) : XK := rg_X8_lengthsOf_0 (rw_X8_lengthsOf_4 f)
noncomputable def md_X8_lengthsOf_0 (p1 : Int) (h0 : Ob) (f : Nat) : Unit → Option Rt := mg_X8_lengthsOf_0 p1 h0 (md_X8_lengthsOf_4 p1 h0 f)
theorem eq_X8_lengthsOf_0 (p1 : Int) (h0 : Ob) (f : Nat) (a : Unit) : rw_X8_lengthsOf_0 f (en_X8_lengthsOf_0 p1 h0 a) = md_X8_lengthsOf_0 p1 h0 f a :=
 (rq_X8_lengthsOf_0 p1 h0 (rw_X8_lengthsOf_4 f) a).trans (congrFun (congr (rfl : mg_X8_lengthsOf_0 p1 h0 = mg_X8_lengthsOf_0 p1 h0) (funext (eq_X8_lengthsOf_4 p1 h0 f))) a)
theorem sd_X8_lengthsOf_0 (f : Nat) {X : XDyn} {r0 : Rt} (C : XO X mX8_lengthsOf) : XS X mX8_lengthsOf r0 0 (rw_X8_lengthsOf_0 f) := sg_X8_lengthsOf_0 C (sd_X8_lengthsOf_4 f C)
theorem ctr_X8_lengthsOf (f : Nat) : XCt yX8_lengthsOf mX8_lengthsOf (xF mX8_lengthsOf (rw_X8_lengthsOf_0 f)) := xMet (by decide +kernel) rfl (fun _ _ C => sd_X8_lengthsOf_0 f C)
theorem eqf_X8_lengthsOf (f : Nat) (p1 : Int) (h0 : Ob) : xF mX8_lengthsOf (rw_X8_lengthsOf_0 f) [.inr (.inl (0, 0)), .inl p1] [h0] = md_X8_lengthsOf_0 p1 h0 f () := eq_X8_lengthsOf_0 p1 h0 f ()
theorem yi_X8_lengthsOf : yX8_lengthsOf.cls = RX8 ∧ yX8_lengthsOf.cls ≠ "java/lang/invoke/MethodHandle" ∧ yX8_lengthsOf.cls ≠ "java/lang/invoke/VarHandle" ∧ (parseMethodDescriptor yX8_lengthsOf.desc).map (fun d => d.parameters.length) = some 1 := ⟨rfl, by decide +kernel, by decide +kernel, by decide +kernel⟩
noncomputable def ov_X8_lengthsOf (p1 : Int) (h0 : Ob) : Option Rt := xop (md_X8_lengthsOf_0 p1 h0 xfu ())
theorem ov_X8_lengthsOf_e (p1 : Int) (h0 : Ob) : ov_X8_lengthsOf p1 h0 = md_X8_lengthsOf_0 p1 h0 xfu () := xop_eq _
theorem sp_X8_lengthsOf (p1 : Int) (h0 : Ob) (hg : pd (ov_X8_lengthsOf p1 h0 = RI (oqR (ov_X8_lengthsOf p1 h0)) [h0]) = true) : md_X8_lengthsOf_0 p1 h0 xfu () = RI (oqR (ov_X8_lengthsOf p1 h0)) [h0] := (ov_X8_lengthsOf_e p1 h0).symm.trans (pd_of hg)
noncomputable def g_X8_lengthsOf : List AV → List Ob → Bool
  | [.inr (.inl (0, 0)), .inl p1], [h0] => pd (ov_X8_lengthsOf p1 h0 = RI (oqR (ov_X8_lengthsOf p1 h0)) [h0])
  | _, _ => false
noncomputable def v_X8_lengthsOf : List AV → List Ob → Rt
  | [.inr (.inl (0, 0)), .inl p1], [h0] => (some (.inl (oqR (ov_X8_lengthsOf p1 h0))), [h0])
  | _, _ => (none, [])
theorem ct_X8_lengthsOf : XCt yX8_lengthsOf mX8_lengthsOf (fun as μ => if g_X8_lengthsOf as μ then some (v_X8_lengthsOf as μ) else none) := (ctr_X8_lengthsOf xfu).of (fun as μ r h => by
  split at h
  · rename_i hg
    unfold g_X8_lengthsOf at hg
    split at hg
    · rw [← h]
      exact (eqf_X8_lengthsOf xfu _ _).trans (sp_X8_lengthsOf _ _ hg)
    · cases hg
  · cases h)
theorem dX8_cheapest_0 : decode cX8_cheapest 0 = .ok (.iload_n 1, 1) := by decide +kernel
theorem dX8_cheapest_1 : decode cX8_cheapest 1 = .ok (.i2l, 1) := by decide +kernel
theorem dX8_cheapest_2 : decode cX8_cheapest 2 = .ok (.lconst 1, 1) := by decide +kernel
theorem dX8_cheapest_3 : decode cX8_cheapest 3 = .ok (.ldc2_w 264, 3) := by decide +kernel
theorem dX8_cheapest_6 : decode cX8_cheapest 6 = .ok (.invokestatic 75, 3) := by decide +kernel
theorem dX8_cheapest_9 : decode cX8_cheapest 9 = .ok (.ifCond .eq 13, 3) := by decide +kernel
theorem dX8_cheapest_12 : decode cX8_cheapest 12 = .ok (.iload_n 2, 1) := by decide +kernel
theorem dX8_cheapest_13 : decode cX8_cheapest 13 = .ok (.i2l, 1) := by decide +kernel
theorem dX8_cheapest_14 : decode cX8_cheapest 14 = .ok (.lconst 0, 1) := by decide +kernel
theorem dX8_cheapest_15 : decode cX8_cheapest 15 = .ok (.lconst 1, 1) := by decide +kernel
theorem dX8_cheapest_16 : decode cX8_cheapest 16 = .ok (.invokestatic 75, 3) := by decide +kernel
theorem dX8_cheapest_19 : decode cX8_cheapest 19 = .ok (.ifCond .ne 5, 3) := by decide +kernel
theorem dX8_cheapest_22 : decode cX8_cheapest 22 = .ok (.iconst (-1), 1) := by decide +kernel
theorem dX8_cheapest_23 : decode cX8_cheapest 23 = .ok (.ireturn, 1) := by decide +kernel
theorem dX8_cheapest_24 : decode cX8_cheapest 24 = .ok (.iconst 0, 1) := by decide +kernel
theorem dX8_cheapest_25 : decode cX8_cheapest 25 = .ok (.istore_n 3, 1) := by decide +kernel
theorem dX8_cheapest_26 : decode cX8_cheapest 26 = .ok (.iconst 0, 1) := by decide +kernel
theorem dX8_cheapest_27 : decode cX8_cheapest 27 = .ok (.istore 4, 2) := by decide +kernel
theorem dX8_cheapest_29 : decode cX8_cheapest 29 = .ok (.iload 4, 2) := by decide +kernel
theorem dX8_cheapest_31 : decode cX8_cheapest 31 = .ok (.bipush 8, 2) := by decide +kernel
theorem dX8_cheapest_33 : decode cX8_cheapest 33 = .ok (.if_icmp .ge 29, 3) := by decide +kernel
theorem dX8_cheapest_36 : decode cX8_cheapest 36 = .ok (.iload_n 3, 1) := by decide +kernel
theorem dX8_cheapest_37 : decode cX8_cheapest 37 = .ok (.aload_n 0, 1) := by decide +kernel
theorem dX8_cheapest_38 : decode cX8_cheapest 38 = .ok (.iload 4, 2) := by decide +kernel
theorem dX8_cheapest_40 : decode cX8_cheapest 40 = .ok (.invokevirtual 86, 3) := by decide +kernel
theorem dX8_cheapest_43 : decode cX8_cheapest 43 = .ok (.ifCond .eq 10, 3) := by decide +kernel
theorem dX8_cheapest_46 : decode cX8_cheapest 46 = .ok (.iconst 1, 1) := by decide +kernel
theorem dX8_cheapest_47 : decode cX8_cheapest 47 = .ok (.iload 4, 2) := by decide +kernel
theorem dX8_cheapest_49 : decode cX8_cheapest 49 = .ok (.ishl, 1) := by decide +kernel
theorem dX8_cheapest_50 : decode cX8_cheapest 50 = .ok (.goto 4, 3) := by decide +kernel
theorem dX8_cheapest_53 : decode cX8_cheapest 53 = .ok (.iconst 0, 1) := by decide +kernel
theorem dX8_cheapest_54 : decode cX8_cheapest 54 = .ok (.ior, 1) := by decide +kernel
theorem dX8_cheapest_55 : decode cX8_cheapest 55 = .ok (.istore_n 3, 1) := by decide +kernel
theorem dX8_cheapest_56 : decode cX8_cheapest 56 = .ok (.iinc 4 1, 3) := by decide +kernel
theorem dX8_cheapest_59 : decode cX8_cheapest 59 = .ok (.goto (-30), 3) := by decide +kernel
theorem dX8_cheapest_62 : decode cX8_cheapest 62 = .ok (.bipush (-2), 2) := by decide +kernel
theorem dX8_cheapest_64 : decode cX8_cheapest 64 = .ok (.istore 4, 2) := by decide +kernel
theorem dX8_cheapest_66 : decode cX8_cheapest 66 = .ok (.iconst 0, 1) := by decide +kernel
theorem dX8_cheapest_67 : decode cX8_cheapest 67 = .ok (.istore 5, 2) := by decide +kernel
theorem dX8_cheapest_69 : decode cX8_cheapest 69 = .ok (.iload 5, 2) := by decide +kernel
theorem dX8_cheapest_71 : decode cX8_cheapest 71 = .ok (.iload_n 3, 1) := by decide +kernel
theorem dX8_cheapest_72 : decode cX8_cheapest 72 = .ok (.if_icmp .gt 57, 3) := by decide +kernel
theorem dX8_cheapest_75 : decode cX8_cheapest 75 = .ok (.iload 5, 2) := by decide +kernel
theorem dX8_cheapest_77 : decode cX8_cheapest 77 = .ok (.iload_n 3, 1) := by decide +kernel
theorem dX8_cheapest_78 : decode cX8_cheapest 78 = .ok (.iconst (-1), 1) := by decide +kernel
theorem dX8_cheapest_79 : decode cX8_cheapest 79 = .ok (.ixor, 1) := by decide +kernel
theorem dX8_cheapest_80 : decode cX8_cheapest 80 = .ok (.iand, 1) := by decide +kernel
theorem dX8_cheapest_81 : decode cX8_cheapest 81 = .ok (.ifCond .ne 42, 3) := by decide +kernel
theorem dX8_cheapest_84 : decode cX8_cheapest 84 = .ok (.iload 4, 2) := by decide +kernel
theorem dX8_cheapest_86 : decode cX8_cheapest 86 = .ok (.ifCond .lt 18, 3) := by decide +kernel
theorem dX8_cheapest_89 : decode cX8_cheapest 89 = .ok (.aload_n 0, 1) := by decide +kernel
theorem dX8_cheapest_90 : decode cX8_cheapest 90 = .ok (.iload 5, 2) := by decide +kernel
theorem dX8_cheapest_92 : decode cX8_cheapest 92 = .ok (.invokevirtual 278, 3) := by decide +kernel
theorem dX8_cheapest_95 : decode cX8_cheapest 95 = .ok (.aload_n 0, 1) := by decide +kernel
theorem dX8_cheapest_96 : decode cX8_cheapest 96 = .ok (.iload 4, 2) := by decide +kernel
theorem dX8_cheapest_98 : decode cX8_cheapest 98 = .ok (.invokevirtual 278, 3) := by decide +kernel
theorem dX8_cheapest_101 : decode cX8_cheapest 101 = .ok (.if_icmp .ge 22, 3) := by decide +kernel
theorem dX8_cheapest_104 : decode cX8_cheapest 104 = .ok (.aload_n 0, 1) := by decide +kernel
theorem dX8_cheapest_105 : decode cX8_cheapest 105 = .ok (.iload 5, 2) := by decide +kernel
theorem dX8_cheapest_107 : decode cX8_cheapest 107 = .ok (.iload_n 1, 1) := by decide +kernel
theorem dX8_cheapest_108 : decode cX8_cheapest 108 = .ok (.iconst 1, 1) := by decide +kernel
theorem dX8_cheapest_109 : decode cX8_cheapest 109 = .ok (.iadd, 1) := by decide +kernel
theorem dX8_cheapest_110 : decode cX8_cheapest 110 = .ok (.invokevirtual 281, 3) := by decide +kernel
theorem dX8_cheapest_113 : decode cX8_cheapest 113 = .ok (.ifCond .ne 6, 3) := by decide +kernel
theorem dX8_cheapest_116 : decode cX8_cheapest 116 = .ok (.goto 7, 3) := by decide +kernel
theorem dX8_cheapest_119 : decode cX8_cheapest 119 = .ok (.iload 5, 2) := by decide +kernel
theorem dX8_cheapest_121 : decode cX8_cheapest 121 = .ok (.istore 4, 2) := by decide +kernel
theorem dX8_cheapest_123 : decode cX8_cheapest 123 = .ok (.iinc 5 1, 3) := by decide +kernel
theorem dX8_cheapest_126 : decode cX8_cheapest 126 = .ok (.goto (-57), 3) := by decide +kernel
theorem dX8_cheapest_129 : decode cX8_cheapest 129 = .ok (.iload 4, 2) := by decide +kernel
theorem dX8_cheapest_131 : decode cX8_cheapest 131 = .ok (.ifCond .ge 8, 3) := by decide +kernel
theorem dX8_cheapest_134 : decode cX8_cheapest 134 = .ok (.bipush (-2), 2) := by decide +kernel
theorem dX8_cheapest_136 : decode cX8_cheapest 136 = .ok (.goto 18, 3) := by decide +kernel
theorem dX8_cheapest_139 : decode cX8_cheapest 139 = .ok (.iload_n 2, 1) := by decide +kernel
theorem dX8_cheapest_140 : decode cX8_cheapest 140 = .ok (.ifCond .ne 12, 3) := by decide +kernel
theorem dX8_cheapest_143 : decode cX8_cheapest 143 = .ok (.aload_n 0, 1) := by decide +kernel
theorem dX8_cheapest_144 : decode cX8_cheapest 144 = .ok (.iload 4, 2) := by decide +kernel
theorem dX8_cheapest_146 : decode cX8_cheapest 146 = .ok (.invokevirtual 278, 3) := by decide +kernel
theorem dX8_cheapest_149 : decode cX8_cheapest 149 = .ok (.goto 5, 3) := by decide +kernel
theorem dX8_cheapest_152 : decode cX8_cheapest 152 = .ok (.iload 4, 2) := by decide +kernel
theorem dX8_cheapest_154 : decode cX8_cheapest 154 = .ok (.ireturn, 1) := by decide +kernel
abbrev mX8_cheapest : XM := (cX8_cheapest, 6, RX8, (some .int), shw_8, 4)
noncomputable def rg_X8_cheapest_0 (k29 : XK) : XK :=
 o_iload 1 <|
 o_i2l <|
 o_lconst 1 <|
 o_lconst 199 <|
 o_callSg 3 1 [] g_X8_in v_X8_in <|
 o_if_eq (o_iconst (-1) <|
 o_ireturn)
 (o_iload 2 <|
 o_i2l <|
 o_lconst 0 <|
 o_lconst 1 <|
 o_callSg 3 1 [] g_X8_in v_X8_in <|
 o_if_ne (o_iconst 0 <|
 o_istore 3 <|
 o_iconst 0 <|
 o_istore 4 <|
 o_cut [] k29)
 (o_iconst (-1) <|
 o_ireturn))
def en_X8_cheapest_0 (p1 : Int) (p2 : Int) (a : Ob) : XSt := ([some (.inr (.inl (0, 0))), some (.inl p1), some (.inl p2), none, none, none], [], [a])
noncomputable def rg_X8_cheapest_29 (k69 : XK) (k54 : XK) : XK :=
 o_iload 4 <|
 o_iconst 8 <|
 o_icmp_ge (o_iconst (-2) <|
 o_istore 4 <|
 o_iconst 0 <|
 o_istore 5 <|
 o_cut [] k69)
 (o_iload 3 <|
 o_aload 0 <|
 o_iload 4 <|
 o_callV 2 1 [0] f_X8_isLoose <|
 o_if_eq (o_iconst 0 <|
 o_cut [3] k54)
 (o_iconst 1 <|
 o_iload 4 <|
 o_ishl <|
 o_cut [3] k54))
def en_X8_cheapest_29 (p1 : Int) (p2 : Int) (a : Int × Int × Ob) : XSt := ([some (.inr (.inl (0, 0))), some (.inl p1), some (.inl p2), some (.inl a.1), some (.inl a.2.1), none], [], [a.2.2])
noncomputable def rg_X8_cheapest_54 (k29 : XK) : XK :=
 o_ior <|
 o_istore 3 <|
 o_iinc 4 1 <|
 o_cut [] k29
def en_X8_cheapest_54 (p1 : Int) (p2 : Int) (a : Int × Int × Int × Ob) : XSt := ([some (.inr (.inl (0, 0))), some (.inl p1), some (.inl p2), none, some (.inl a.1), none], [.inl a.2.2.1, .inl a.2.1], [a.2.2.2])
noncomputable def rg_X8_cheapest_69 (k123 : XK) (k104 : XK) : XK :=
 o_iload 5 <|
 o_iload 3 <|
 o_icmp_gt (o_iload 4 <|
 o_if_ge (o_iload 2 <|
 o_if_ne (o_iload 4 <|
 o_ireturn)
 (o_aload 0 <|
 o_iload 4 <|
 o_callVg 2 1 [0] g_X8_lengthsOf v_X8_lengthsOf <|
 o_ireturn))
 (o_iconst (-2) <|
 o_ireturn))
 (o_iload 5 <|
 o_iload 3 <|
 o_iconst (-1) <|
 o_ixor <|
 o_iand <|
 o_if_ne (o_cut [] k123)
 (o_iload 4 <|
 o_if_lt (o_cut [] k104)
 (o_aload 0 <|
 o_iload 5 <|
 o_callVg 2 1 [0] g_X8_lengthsOf v_X8_lengthsOf <|
 o_aload 0 <|
 o_iload 4 <|
 o_callVg 2 1 [0] g_X8_lengthsOf v_X8_lengthsOf <|
 o_icmp_ge (o_cut [] k123)
 (o_cut [] k104))))
def en_X8_cheapest_69 (p1 : Int) (p2 : Int) (a : Int × Int × Int × Ob) : XSt := ([some (.inr (.inl (0, 0))), some (.inl p1), some (.inl p2), some (.inl a.1), some (.inl a.2.1), some (.inl a.2.2.1)], [], [a.2.2.2])
noncomputable def rg_X8_cheapest_104 (k123 : XK) : XK :=
 o_aload 0 <|
 o_iload 5 <|
 o_iload 1 <|
 o_iconst 1 <|
 o_iadd <|
 o_callVg 3 1 [0] g_X8_findPlaces v_X8_findPlaces <|
 o_if_ne (o_iload 5 <|
 o_istore 4 <|
 o_cut [] k123)
 (o_cut [] k123)
def en_X8_cheapest_104 (p1 : Int) (p2 : Int) (a : Int × Int × Int × Ob) : XSt := ([some (.inr (.inl (0, 0))), some (.inl p1), some (.inl p2), some (.inl a.1), some (.inl a.2.1), some (.inl a.2.2.1)], [], [a.2.2.2])
noncomputable def rg_X8_cheapest_123 (k69 : XK) : XK :=
 o_iinc 5 1 <|
 o_cut [] k69
def en_X8_cheapest_123 (p1 : Int) (p2 : Int) (a : Int × Int × Int × Ob) : XSt := ([some (.inr (.inl (0, 0))), some (.inl p1), some (.inl p2), some (.inl a.1), some (.inl a.2.1), some (.inl a.2.2.1)], [], [a.2.2.2])
noncomputable def mg_X8_cheapest_0 (p1 : Int) (p2 : Int) (k29 : (Int × Int × Ob) → Option Rt) (a : Ob) : Option Rt :=
 if xlr (xw p1) && (xlr (1 : Int) && xlr (199 : Int)) then (
 if xw (bz (inn (xw p1) (1 : Int) (199 : Int))) = 0 then (RI (-1) [a])
 else (if xlr (xw p2) && (xlr (0 : Int) && xlr (1 : Int)) then (
 if xw (bz (inn (xw p2) (0 : Int) (1 : Int))) = 0 then (RI (-1) [a])
 else (k29 (0, 0, a))) else none)) else none
set_option maxRecDepth 100000 in
set_option maxHeartbeats 4000000 in
theorem rq_X8_cheapest_0 (p1 : Int) (p2 : Int) (k29 : XK) (a : Ob) : rg_X8_cheapest_0 k29 (en_X8_cheapest_0 p1 p2 a) = mg_X8_cheapest_0 p1 p2 (fun b => k29 (en_X8_cheapest_29 p1 p2 b)) a := rfl
set_option maxRecDepth 100000 in
set_option maxHeartbeats 4000000 in
theorem sg_X8_cheapest_0 {X : XDyn} {r0 : Rt} (C : XO X mX8_cheapest) {k29 : XK} (q29 : XS X mX8_cheapest r0 29 k29) : XS X mX8_cheapest r0 0 (rg_X8_cheapest_0 k29) := by
 unfold rg_X8_cheapest_0
 exact s_iload_n (pc := 0) C dX8_cheapest_0 rfl <|
    s_i2l (pc := 1) C dX8_cheapest_1 <|
    s_lconst (pc := 2) C dX8_cheapest_2 rfl <|
    s_ldc2 (pc := 3) C dX8_cheapest_3 wd_1260 rfl <|
    s_callSg (pc := 6) C ct_X8_in (n := 3) (rk := 1) (mp := []) ⟨rfl, by decide, rfl⟩ (by decide) (by decide) ⟨rfl, yi_X8_in⟩ wd_954 wd_955 wd_81 wd_956 dX8_cheapest_6 <|
    s_if_eq (pc := 9) C dX8_cheapest_9 (by decide) (s_iconst (pc := 22) C dX8_cheapest_22 <|
    s_ireturn (pc := 23) C rfl dX8_cheapest_23)
    (s_iload_n (pc := 12) C dX8_cheapest_12 rfl <|
    s_i2l (pc := 13) C dX8_cheapest_13 <|
    s_lconst (pc := 14) C dX8_cheapest_14 rfl <|
    s_lconst (pc := 15) C dX8_cheapest_15 rfl <|
    s_callSg (pc := 16) C ct_X8_in (n := 3) (rk := 1) (mp := []) ⟨rfl, by decide, rfl⟩ (by decide) (by decide) ⟨rfl, yi_X8_in⟩ wd_954 wd_955 wd_81 wd_956 dX8_cheapest_16 <|
    s_if_ne (pc := 19) C dX8_cheapest_19 (by decide) (s_iconst (pc := 24) C dX8_cheapest_24 <|
    s_istore_n (pc := 25) C dX8_cheapest_25 rfl <|
    s_iconst (pc := 26) C dX8_cheapest_26 <|
    s_istore (pc := 27) C dX8_cheapest_27 <|
    s_cut q29)
    (s_iconst (pc := 22) C dX8_cheapest_22 <|
    s_ireturn (pc := 23) C rfl dX8_cheapest_23))
noncomputable def mg_X8_cheapest_29 (p1 : Int) (p2 : Int) (k69 : (Int × Int × Int × Ob) → Option Rt) (k54 : (Int × Int × Int × Ob) → Option Rt) (a : Int × Int × Ob) : Option Rt :=
 if xw a.2.1 ≥ 8 then (k69 (a.1, (-2), 0, a.2.2))
 else (if xw (bz (looM a.2.2 a.2.1)) = 0 then (k54 (a.2.1, a.1, 0, a.2.2))
 else (k54 (a.2.1, a.1, (xshl 1 a.2.1), a.2.2)))
set_option maxRecDepth 100000 in
set_option maxHeartbeats 4000000 in
theorem rq_X8_cheapest_29 (p1 : Int) (p2 : Int) (k69 : XK) (k54 : XK) (a : Int × Int × Ob) : rg_X8_cheapest_29 k69 k54 (en_X8_cheapest_29 p1 p2 a) = mg_X8_cheapest_29 p1 p2 (fun b => k69 (en_X8_cheapest_69 p1 p2 b)) (fun b => k54 (en_X8_cheapest_54 p1 p2 b)) a := rfl
set_option maxRecDepth 100000 in
set_option maxHeartbeats 4000000 in
theorem sg_X8_cheapest_29 {X : XDyn} {r0 : Rt} (C : XO X mX8_cheapest) {k69 : XK} (q69 : XS X mX8_cheapest r0 69 k69) {k54 : XK} (q54 : XS X mX8_cheapest r0 54 k54) : XS X mX8_cheapest r0 29 (rg_X8_cheapest_29 k69 k54) := by
 unfold rg_X8_cheapest_29
 exact s_iload (pc := 29) C dX8_cheapest_29 <|
    s_bipush (pc := 31) C dX8_cheapest_31 (by decide) <|
    s_icmp_ge (pc := 33) C dX8_cheapest_33 (by decide) (s_bipush (pc := 62) C dX8_cheapest_62 (by decide) <|
    s_istore (pc := 64) C dX8_cheapest_64 <|
    s_iconst (pc := 66) C dX8_cheapest_66 <|
    s_istore (pc := 67) C dX8_cheapest_67 <|
    s_cut q69)
    (s_iload_n (pc := 36) C dX8_cheapest_36 rfl <|
    s_aload_n (pc := 37) C dX8_cheapest_37 rfl <|
    s_iload (pc := 38) C dX8_cheapest_38 <|
    s_callV (pc := 40) C ct_X8_isLoose (n := 2) (rk := 1) (mp := [0]) ⟨rfl, by decide, rfl⟩ (ci := 8) rfl rfl (by decide) (by decide) yi_X8_isLoose (by decide) wd_1081 wd_1083 wd_46 wd_81 wd_1084 dX8_cheapest_40 <|
    s_if_eq (pc := 43) C dX8_cheapest_43 (by decide) (s_iconst (pc := 53) C dX8_cheapest_53 <|
    s_cut q54)
    (s_iconst (pc := 46) C dX8_cheapest_46 <|
    s_iload (pc := 47) C dX8_cheapest_47 <|
    s_ishl (pc := 49) C dX8_cheapest_49 <|
    s_goto (pc := 50) C dX8_cheapest_50 (by decide) <|
    s_cut q54))
noncomputable def mg_X8_cheapest_54 (p1 : Int) (p2 : Int) (k29 : (Int × Int × Ob) → Option Rt) (a : Int × Int × Int × Ob) : Option Rt :=
 k29 ((xor_ a.2.1 a.2.2.1), (a.1 + 1), a.2.2.2)
set_option maxRecDepth 100000 in
set_option maxHeartbeats 4000000 in
theorem rq_X8_cheapest_54 (p1 : Int) (p2 : Int) (k29 : XK) (a : Int × Int × Int × Ob) : rg_X8_cheapest_54 k29 (en_X8_cheapest_54 p1 p2 a) = mg_X8_cheapest_54 p1 p2 (fun b => k29 (en_X8_cheapest_29 p1 p2 b)) a := rfl
set_option maxRecDepth 100000 in
set_option maxHeartbeats 4000000 in
theorem sg_X8_cheapest_54 {X : XDyn} {r0 : Rt} (C : XO X mX8_cheapest) {k29 : XK} (q29 : XS X mX8_cheapest r0 29 k29) : XS X mX8_cheapest r0 54 (rg_X8_cheapest_54 k29) := by
 unfold rg_X8_cheapest_54
 exact s_ior (pc := 54) C dX8_cheapest_54 <|
    s_istore_n (pc := 55) C dX8_cheapest_55 rfl <|
    s_iinc (pc := 56) C dX8_cheapest_56 <|
    s_goto (pc := 59) C dX8_cheapest_59 (by decide) <|
    s_cut q29
noncomputable def mg_X8_cheapest_69 (p1 : Int) (p2 : Int) (k123 : (Int × Int × Int × Ob) → Option Rt) (k104 : (Int × Int × Int × Ob) → Option Rt) (a : Int × Int × Int × Ob) : Option Rt :=
 if xw a.2.2.1 > xw a.1 then (if xw a.2.1 ≥ 0 then (if xw p2 = 0 then (if pd (ov_X8_lengthsOf a.2.1 a.2.2.2 = RI (oqR (ov_X8_lengthsOf a.2.1 a.2.2.2)) [a.2.2.2]) then (
 RI (oqR (ov_X8_lengthsOf a.2.1 a.2.2.2)) [a.2.2.2]) else none)
 else (RI a.2.1 [a.2.2.2]))
 else (RI (-2) [a.2.2.2]))
 else (if xw (xand a.2.2.1 (xxor a.1 (-1))) = 0 then (if xw a.2.1 < 0 then (k104 (a.1, a.2.1, a.2.2.1, a.2.2.2))
 else (if pd (ov_X8_lengthsOf a.2.2.1 a.2.2.2 = RI (oqR (ov_X8_lengthsOf a.2.2.1 a.2.2.2)) [a.2.2.2]) then (
 if pd (ov_X8_lengthsOf a.2.1 a.2.2.2 = RI (oqR (ov_X8_lengthsOf a.2.1 a.2.2.2)) [a.2.2.2]) then (
 if xw (oqR (ov_X8_lengthsOf a.2.2.1 a.2.2.2)) ≥ xw (oqR (ov_X8_lengthsOf a.2.1 a.2.2.2)) then (k123 (a.1, a.2.1, a.2.2.1, a.2.2.2))
 else (k104 (a.1, a.2.1, a.2.2.1, a.2.2.2))) else none) else none))
 else (k123 (a.1, a.2.1, a.2.2.1, a.2.2.2)))
set_option maxRecDepth 100000 in
set_option maxHeartbeats 4000000 in
theorem rq_X8_cheapest_69 (p1 : Int) (p2 : Int) (k123 : XK) (k104 : XK) (a : Int × Int × Int × Ob) : rg_X8_cheapest_69 k123 k104 (en_X8_cheapest_69 p1 p2 a) = mg_X8_cheapest_69 p1 p2 (fun b => k123 (en_X8_cheapest_123 p1 p2 b)) (fun b => k104 (en_X8_cheapest_104 p1 p2 b)) a := rfl
set_option maxRecDepth 100000 in
set_option maxHeartbeats 4000000 in
theorem sg_X8_cheapest_69 {X : XDyn} {r0 : Rt} (C : XO X mX8_cheapest) {k123 : XK} (q123 : XS X mX8_cheapest r0 123 k123) {k104 : XK} (q104 : XS X mX8_cheapest r0 104 k104) : XS X mX8_cheapest r0 69 (rg_X8_cheapest_69 k123 k104) := by
 unfold rg_X8_cheapest_69
 exact s_iload (pc := 69) C dX8_cheapest_69 <|
    s_iload_n (pc := 71) C dX8_cheapest_71 rfl <|
    s_icmp_gt (pc := 72) C dX8_cheapest_72 (by decide) (s_iload (pc := 129) C dX8_cheapest_129 <|
    s_if_ge (pc := 131) C dX8_cheapest_131 (by decide) (s_iload_n (pc := 139) C dX8_cheapest_139 rfl <|
    s_if_ne (pc := 140) C dX8_cheapest_140 (by decide) (s_iload (pc := 152) C dX8_cheapest_152 <|
    s_ireturn (pc := 154) C rfl dX8_cheapest_154)
    (s_aload_n (pc := 143) C dX8_cheapest_143 rfl <|
    s_iload (pc := 144) C dX8_cheapest_144 <|
    s_callVg (pc := 146) C ct_X8_lengthsOf (n := 2) (rk := 1) (mp := [0]) ⟨rfl, by decide, rfl⟩ (ci := 8) rfl rfl (by decide) (by decide) yi_X8_lengthsOf (by decide) wd_1288 wd_1290 wd_68 wd_81 wd_1291 dX8_cheapest_146 <|
    s_goto (pc := 149) C dX8_cheapest_149 (by decide) <|
    s_ireturn (pc := 154) C rfl dX8_cheapest_154))
    (s_bipush (pc := 134) C dX8_cheapest_134 (by decide) <|
    s_goto (pc := 136) C dX8_cheapest_136 (by decide) <|
    s_ireturn (pc := 154) C rfl dX8_cheapest_154))
    (s_iload (pc := 75) C dX8_cheapest_75 <|
    s_iload_n (pc := 77) C dX8_cheapest_77 rfl <|
    s_iconst (pc := 78) C dX8_cheapest_78 <|
    s_ixor (pc := 79) C dX8_cheapest_79 <|
    s_iand (pc := 80) C dX8_cheapest_80 <|
    s_if_ne (pc := 81) C dX8_cheapest_81 (by decide) (s_cut q123)
    (s_iload (pc := 84) C dX8_cheapest_84 <|
    s_if_lt (pc := 86) C dX8_cheapest_86 (by decide) (s_cut q104)
    (s_aload_n (pc := 89) C dX8_cheapest_89 rfl <|
    s_iload (pc := 90) C dX8_cheapest_90 <|
    s_callVg (pc := 92) C ct_X8_lengthsOf (n := 2) (rk := 1) (mp := [0]) ⟨rfl, by decide, rfl⟩ (ci := 8) rfl rfl (by decide) (by decide) yi_X8_lengthsOf (by decide) wd_1288 wd_1290 wd_68 wd_81 wd_1291 dX8_cheapest_92 <|
    s_aload_n (pc := 95) C dX8_cheapest_95 rfl <|
    s_iload (pc := 96) C dX8_cheapest_96 <|
    s_callVg (pc := 98) C ct_X8_lengthsOf (n := 2) (rk := 1) (mp := [0]) ⟨rfl, by decide, rfl⟩ (ci := 8) rfl rfl (by decide) (by decide) yi_X8_lengthsOf (by decide) wd_1288 wd_1290 wd_68 wd_81 wd_1291 dX8_cheapest_98 <|
    s_icmp_ge (pc := 101) C dX8_cheapest_101 (by decide) (s_cut q123)
    (s_cut q104))))
noncomputable def mg_X8_cheapest_104 (p1 : Int) (p2 : Int) (k123 : (Int × Int × Int × Ob) → Option Rt) (a : Int × Int × Int × Ob) : Option Rt :=
 if oqI (ov_X8_findPlaces a.2.2.1 (p1 + 1) a.2.2.2) then (
 if xw (oqR (ov_X8_findPlaces a.2.2.1 (p1 + 1) a.2.2.2)) = 0 then (k123 (a.1, a.2.1, a.2.2.1, (oqO (ov_X8_findPlaces a.2.2.1 (p1 + 1) a.2.2.2) 0)))
 else (k123 (a.1, a.2.2.1, a.2.2.1, (oqO (ov_X8_findPlaces a.2.2.1 (p1 + 1) a.2.2.2) 0)))) else none
set_option maxRecDepth 100000 in
set_option maxHeartbeats 4000000 in
theorem rq_X8_cheapest_104 (p1 : Int) (p2 : Int) (k123 : XK) (a : Int × Int × Int × Ob) : rg_X8_cheapest_104 k123 (en_X8_cheapest_104 p1 p2 a) = mg_X8_cheapest_104 p1 p2 (fun b => k123 (en_X8_cheapest_123 p1 p2 b)) a := rfl
set_option maxRecDepth 100000 in
set_option maxHeartbeats 4000000 in
theorem sg_X8_cheapest_104 {X : XDyn} {r0 : Rt} (C : XO X mX8_cheapest) {k123 : XK} (q123 : XS X mX8_cheapest r0 123 k123) : XS X mX8_cheapest r0 104 (rg_X8_cheapest_104 k123) := by
 unfold rg_X8_cheapest_104
 exact s_aload_n (pc := 104) C dX8_cheapest_104 rfl <|
    s_iload (pc := 105) C dX8_cheapest_105 <|
    s_iload_n (pc := 107) C dX8_cheapest_107 rfl <|
    s_iconst (pc := 108) C dX8_cheapest_108 <|
    s_iadd (pc := 109) C dX8_cheapest_109 <|
    s_callVg (pc := 110) C ct_X8_findPlaces (n := 3) (rk := 1) (mp := [0]) ⟨rfl, by decide, rfl⟩ (ci := 8) rfl rfl (by decide) (by decide) yi_X8_findPlaces (by decide) wd_1292 wd_1294 wd_69 wd_81 wd_1295 dX8_cheapest_110 <|
    s_if_ne (pc := 113) C dX8_cheapest_113 (by decide) (s_iload (pc := 119) C dX8_cheapest_119 <|
    s_istore (pc := 121) C dX8_cheapest_121 <|
    s_cut q123)
    (s_goto (pc := 116) C dX8_cheapest_116 (by decide) <|
    s_cut q123)
noncomputable def mg_X8_cheapest_123 (p1 : Int) (p2 : Int) (k69 : (Int × Int × Int × Ob) → Option Rt) (a : Int × Int × Int × Ob) : Option Rt :=
 k69 (a.1, a.2.1, (a.2.2.1 + 1), a.2.2.2)
set_option maxRecDepth 100000 in
set_option maxHeartbeats 4000000 in
theorem rq_X8_cheapest_123 (p1 : Int) (p2 : Int) (k69 : XK) (a : Int × Int × Int × Ob) : rg_X8_cheapest_123 k69 (en_X8_cheapest_123 p1 p2 a) = mg_X8_cheapest_123 p1 p2 (fun b => k69 (en_X8_cheapest_69 p1 p2 b)) a := rfl
set_option maxRecDepth 100000 in
set_option maxHeartbeats 4000000 in
theorem sg_X8_cheapest_123 {X : XDyn} {r0 : Rt} (C : XO X mX8_cheapest) {k69 : XK} (q69 : XS X mX8_cheapest r0 69 k69) : XS X mX8_cheapest r0 123 (rg_X8_cheapest_123 k69) := by
 unfold rg_X8_cheapest_123
 exact s_iinc (pc := 123) C dX8_cheapest_123 <|
    s_goto (pc := 126) C dX8_cheapest_126 (by decide) <|
    s_cut q69
noncomputable def rw_X8_cheapest_123 (f : Nat) (k69 : XK) : XK := rg_X8_cheapest_123 k69
noncomputable def md_X8_cheapest_123 (p1 : Int) (p2 : Int) (f : Nat) (k69 : (Int × Int × Int × Ob) → Option Rt) : Int × Int × Int × Ob → Option Rt := mg_X8_cheapest_123 p1 p2 k69
theorem eq_X8_cheapest_123 (p1 : Int) (p2 : Int) (f : Nat) (k69 : XK) (a : Int × Int × Int × Ob) : rw_X8_cheapest_123 f k69 (en_X8_cheapest_123 p1 p2 a) = md_X8_cheapest_123 p1 p2 f (fun b => k69 (en_X8_cheapest_69 p1 p2 b)) a :=
 (rq_X8_cheapest_123 p1 p2 k69 a).trans (congrFun (congr (rfl : mg_X8_cheapest_123 p1 p2 = mg_X8_cheapest_123 p1 p2) rfl) a)
theorem sd_X8_cheapest_123 (f : Nat) {X : XDyn} {r0 : Rt} (C : XO X mX8_cheapest) {k69 : XK} (q69 : XS X mX8_cheapest r0 69 k69) : XS X mX8_cheapest r0 123 (rw_X8_cheapest_123 f k69) := sg_X8_cheapest_123 C q69
noncomputable def rw_X8_cheapest_104 (f : Nat) (k69 : XK) : XK := rg_X8_cheapest_104 (rw_X8_cheapest_123 f k69)
noncomputable def md_X8_cheapest_104 (p1 : Int) (p2 : Int) (f : Nat) (k69 : (Int × Int × Int × Ob) → Option Rt) : Int × Int × Int × Ob → Option Rt := mg_X8_cheapest_104 p1 p2 (md_X8_cheapest_123 p1 p2 f k69)
theorem eq_X8_cheapest_104 (p1 : Int) (p2 : Int) (f : Nat) (k69 : XK) (a : Int × Int × Int × Ob) : rw_X8_cheapest_104 f k69 (en_X8_cheapest_104 p1 p2 a) = md_X8_cheapest_104 p1 p2 f (fun b => k69 (en_X8_cheapest_69 p1 p2 b)) a :=
 (rq_X8_cheapest_104 p1 p2 (rw_X8_cheapest_123 f k69) a).trans (congrFun (congr (rfl : mg_X8_cheapest_104 p1 p2 = mg_X8_cheapest_104 p1 p2) (funext (eq_X8_cheapest_123 p1 p2 f k69))) a)
theorem sd_X8_cheapest_104 (f : Nat) {X : XDyn} {r0 : Rt} (C : XO X mX8_cheapest) {k69 : XK} (q69 : XS X mX8_cheapest r0 69 k69) : XS X mX8_cheapest r0 104 (rw_X8_cheapest_104 f k69) := sg_X8_cheapest_104 C (sd_X8_cheapest_123 f C q69)
noncomputable def rw_X8_cheapest_69 (f : Nat) : XK := tlp (fun k69 => rg_X8_cheapest_69 (rw_X8_cheapest_123 f k69) (rw_X8_cheapest_104 f k69)) f
noncomputable def lb_X8_cheapest_69 (p1 : Int) (p2 : Int) (f : Nat) : ((Int × Int × Int × Ob) → Option Rt) → Int × Int × Int × Ob → Option Rt := fun k69 => mg_X8_cheapest_69 p1 p2 (md_X8_cheapest_123 p1 p2 f k69) (md_X8_cheapest_104 p1 p2 f k69)
noncomputable def md_X8_cheapest_69 (p1 : Int) (p2 : Int) (f : Nat) : Int × Int × Int × Ob → Option Rt := tlp (lb_X8_cheapest_69 p1 p2 f) f
theorem eq_X8_cheapest_69 (p1 : Int) (p2 : Int) (f : Nat) (a : Int × Int × Int × Ob) : rw_X8_cheapest_69 f (en_X8_cheapest_69 p1 p2 a) = md_X8_cheapest_69 p1 p2 f a :=
 tlp_enc (en_X8_cheapest_69 p1 p2) (fun k69 a => (rq_X8_cheapest_69 p1 p2 (rw_X8_cheapest_123 f k69) (rw_X8_cheapest_104 f k69) a).trans (congrFun (congr (congr (rfl : mg_X8_cheapest_69 p1 p2 = mg_X8_cheapest_69 p1 p2) (funext (eq_X8_cheapest_123 p1 p2 f k69))) (funext (eq_X8_cheapest_104 p1 p2 f k69))) a)) f a
theorem sd_X8_cheapest_69 (f : Nat) {X : XDyn} {r0 : Rt} (C : XO X mX8_cheapest) : XS X mX8_cheapest r0 69 (rw_X8_cheapest_69 f) := s_lp (fun k69 q69 => sg_X8_cheapest_69 C (sd_X8_cheapest_123 f C q69) (sd_X8_cheapest_104 f C q69)) f
noncomputable def rw_X8_cheapest_54 (f : Nat) (k29 : XK) : XK := rg_X8_cheapest_54 k29
noncomputable def md_X8_cheapest_54 (p1 : Int) (p2 : Int) (f : Nat) (k29 : (Int × Int × Ob) → Option Rt) : Int × Int × Int × Ob → Option Rt := mg_X8_cheapest_54 p1 p2 k29
theorem eq_X8_cheapest_54 (p1 : Int) (p2 : Int) (f : Nat) (k29 : XK) (a : Int × Int × Int × Ob) : rw_X8_cheapest_54 f k29 (en_X8_cheapest_54 p1 p2 a) = md_X8_cheapest_54 p1 p2 f (fun b => k29 (en_X8_cheapest_29 p1 p2 b)) a :=
 (rq_X8_cheapest_54 p1 p2 k29 a).trans (congrFun (congr (rfl : mg_X8_cheapest_54 p1 p2 = mg_X8_cheapest_54 p1 p2) rfl) a)
theorem sd_X8_cheapest_54 (f : Nat) {X : XDyn} {r0 : Rt} (C : XO X mX8_cheapest) {k29 : XK} (q29 : XS X mX8_cheapest r0 29 k29) : XS X mX8_cheapest r0 54 (rw_X8_cheapest_54 f k29) := sg_X8_cheapest_54 C q29
noncomputable def rw_X8_cheapest_29 (f : Nat) : XK := tlp (fun k29 => rg_X8_cheapest_29 (rw_X8_cheapest_69 f) (rw_X8_cheapest_54 f k29)) f
noncomputable def lb_X8_cheapest_29 (p1 : Int) (p2 : Int) (f : Nat) : ((Int × Int × Ob) → Option Rt) → Int × Int × Ob → Option Rt := fun k29 => mg_X8_cheapest_29 p1 p2 (md_X8_cheapest_69 p1 p2 f) (md_X8_cheapest_54 p1 p2 f k29)
noncomputable def md_X8_cheapest_29 (p1 : Int) (p2 : Int) (f : Nat) : Int × Int × Ob → Option Rt := tlp (lb_X8_cheapest_29 p1 p2 f) f
theorem eq_X8_cheapest_29 (p1 : Int) (p2 : Int) (f : Nat) (a : Int × Int × Ob) : rw_X8_cheapest_29 f (en_X8_cheapest_29 p1 p2 a) = md_X8_cheapest_29 p1 p2 f a :=
 tlp_enc (en_X8_cheapest_29 p1 p2) (fun k29 a => (rq_X8_cheapest_29 p1 p2 (rw_X8_cheapest_69 f) (rw_X8_cheapest_54 f k29) a).trans (congrFun (congr (congr (rfl : mg_X8_cheapest_29 p1 p2 = mg_X8_cheapest_29 p1 p2) (funext (eq_X8_cheapest_69 p1 p2 f))) (funext (eq_X8_cheapest_54 p1 p2 f k29))) a)) f a
theorem sd_X8_cheapest_29 (f : Nat) {X : XDyn} {r0 : Rt} (C : XO X mX8_cheapest) : XS X mX8_cheapest r0 29 (rw_X8_cheapest_29 f) := s_lp (fun k29 q29 => sg_X8_cheapest_29 C (sd_X8_cheapest_69 f C) (sd_X8_cheapest_54 f C q29)) f
noncomputable def rw_X8_cheapest_0 (f : Nat) : XK := rg_X8_cheapest_0 (rw_X8_cheapest_29 f)
noncomputable def md_X8_cheapest_0 (p1 : Int) (p2 : Int) (f : Nat) : Ob → Option Rt := mg_X8_cheapest_0 p1 p2 (md_X8_cheapest_29 p1 p2 f)
theorem eq_X8_cheapest_0 (p1 : Int) (p2 : Int) (f : Nat) (a : Ob) : rw_X8_cheapest_0 f (en_X8_cheapest_0 p1 p2 a) = md_X8_cheapest_0 p1 p2 f a :=
 (rq_X8_cheapest_0 p1 p2 (rw_X8_cheapest_29 f) a).trans (congrFun (congr (rfl : mg_X8_cheapest_0 p1 p2 = mg_X8_cheapest_0 p1 p2) (funext (eq_X8_cheapest_29 p1 p2 f))) a)
theorem sd_X8_cheapest_0 (f : Nat) {X : XDyn} {r0 : Rt} (C : XO X mX8_cheapest) : XS X mX8_cheapest r0 0 (rw_X8_cheapest_0 f) := sg_X8_cheapest_0 C (sd_X8_cheapest_29 f C)
theorem ctr_X8_cheapest (f : Nat) : XCt yX8_cheapest mX8_cheapest (xF mX8_cheapest (rw_X8_cheapest_0 f)) := xMet (by decide +kernel) rfl (fun _ _ C => sd_X8_cheapest_0 f C)
theorem eqf_X8_cheapest (f : Nat) (p1 : Int) (p2 : Int) (h0 : Ob) : xF mX8_cheapest (rw_X8_cheapest_0 f) [.inr (.inl (0, 0)), .inl p1, .inl p2] [h0] = md_X8_cheapest_0 p1 p2 f h0 := eq_X8_cheapest_0 p1 p2 f h0
theorem yi_X8_cheapest : yX8_cheapest.cls = RX8 ∧ yX8_cheapest.cls ≠ "java/lang/invoke/MethodHandle" ∧ yX8_cheapest.cls ≠ "java/lang/invoke/VarHandle" ∧ (parseMethodDescriptor yX8_cheapest.desc).map (fun d => d.parameters.length) = some 2 := ⟨rfl, by decide +kernel, by decide +kernel, by decide +kernel⟩
theorem dX8_after_0 : decode cX8_after 0 = .ok (.iconst 0, 1) := by decide +kernel
theorem dX8_after_1 : decode cX8_after 1 = .ok (.istore_n 2, 1) := by decide +kernel
theorem dX8_after_2 : decode cX8_after 2 = .ok (.iload_n 2, 1) := by decide +kernel
theorem dX8_after_3 : decode cX8_after 3 = .ok (.bipush 8, 2) := by decide +kernel
theorem dX8_after_5 : decode cX8_after 5 = .ok (.if_icmp .ge 107, 3) := by decide +kernel
theorem dX8_after_8 : decode cX8_after 8 = .ok (.aload_n 0, 1) := by decide +kernel
theorem dX8_after_9 : decode cX8_after 9 = .ok (.getfield 67, 3) := by decide +kernel
theorem dX8_after_12 : decode cX8_after 12 = .ok (.ifCond .eq 100, 3) := by decide +kernel
theorem dX8_after_15 : decode cX8_after 15 = .ok (.iload_n 1, 1) := by decide +kernel
theorem dX8_after_16 : decode cX8_after 16 = .ok (.aload_n 0, 1) := by decide +kernel
theorem dX8_after_17 : decode cX8_after 17 = .ok (.bipush 13, 2) := by decide +kernel
theorem dX8_after_19 : decode cX8_after 19 = .ok (.iload_n 2, 1) := by decide +kernel
theorem dX8_after_20 : decode cX8_after 20 = .ok (.iadd, 1) := by decide +kernel
theorem dX8_after_21 : decode cX8_after 21 = .ok (.invokevirtual 198, 3) := by decide +kernel
theorem dX8_after_24 : decode cX8_after 24 = .ok (.isub, 1) := by decide +kernel
theorem dX8_after_25 : decode cX8_after 25 = .ok (.iconst 1, 1) := by decide +kernel
theorem dX8_after_26 : decode cX8_after 26 = .ok (.isub, 1) := by decide +kernel
theorem dX8_after_27 : decode cX8_after 27 = .ok (.istore_n 3, 1) := by decide +kernel
theorem dX8_after_28 : decode cX8_after 28 = .ok (.aload_n 0, 1) := by decide +kernel
theorem dX8_after_29 : decode cX8_after 29 = .ok (.iconst 5, 1) := by decide +kernel
theorem dX8_after_30 : decode cX8_after 30 = .ok (.iload_n 2, 1) := by decide +kernel
theorem dX8_after_31 : decode cX8_after 31 = .ok (.iadd, 1) := by decide +kernel
theorem dX8_after_32 : decode cX8_after 32 = .ok (.invokevirtual 198, 3) := by decide +kernel
theorem dX8_after_35 : decode cX8_after 35 = .ok (.iconst 1, 1) := by decide +kernel
theorem dX8_after_36 : decode cX8_after 36 = .ok (.if_icmp .ne 70, 3) := by decide +kernel
theorem dX8_after_39 : decode cX8_after 39 = .ok (.iload_n 1, 1) := by decide +kernel
theorem dX8_after_40 : decode cX8_after 40 = .ok (.ifCond .lt 66, 3) := by decide +kernel
theorem dX8_after_43 : decode cX8_after 43 = .ok (.iload_n 3, 1) := by decide +kernel
theorem dX8_after_44 : decode cX8_after 44 = .ok (.i2l, 1) := by decide +kernel
theorem dX8_after_45 : decode cX8_after 45 = .ok (.lconst 0, 1) := by decide +kernel
theorem dX8_after_46 : decode cX8_after 46 = .ok (.aload_n 0, 1) := by decide +kernel
theorem dX8_after_47 : decode cX8_after 47 = .ok (.bipush 21, 2) := by decide +kernel
theorem dX8_after_49 : decode cX8_after 49 = .ok (.iload_n 2, 1) := by decide +kernel
theorem dX8_after_50 : decode cX8_after 50 = .ok (.iadd, 1) := by decide +kernel
theorem dX8_after_51 : decode cX8_after 51 = .ok (.invokevirtual 198, 3) := by decide +kernel
theorem dX8_after_54 : decode cX8_after 54 = .ok (.iconst 1, 1) := by decide +kernel
theorem dX8_after_55 : decode cX8_after 55 = .ok (.isub, 1) := by decide +kernel
theorem dX8_after_56 : decode cX8_after 56 = .ok (.i2l, 1) := by decide +kernel
theorem dX8_after_57 : decode cX8_after 57 = .ok (.invokestatic 75, 3) := by decide +kernel
theorem dX8_after_60 : decode cX8_after 60 = .ok (.ifCond .ne 6, 3) := by decide +kernel
theorem dX8_after_63 : decode cX8_after 63 = .ok (.goto 43, 3) := by decide +kernel
theorem dX8_after_66 : decode cX8_after 66 = .ok (.aload_n 0, 1) := by decide +kernel
theorem dX8_after_67 : decode cX8_after 67 = .ok (.iload_n 2, 1) := by decide +kernel
theorem dX8_after_68 : decode cX8_after 68 = .ok (.invokevirtual 83, 3) := by decide +kernel
theorem dX8_after_71 : decode cX8_after 71 = .ok (.ifCond .eq 32, 3) := by decide +kernel
theorem dX8_after_74 : decode cX8_after 74 = .ok (.iload_n 3, 1) := by decide +kernel
theorem dX8_after_75 : decode cX8_after 75 = .ok (.aload_n 0, 1) := by decide +kernel
theorem dX8_after_76 : decode cX8_after 76 = .ok (.getfield 7, 3) := by decide +kernel
theorem dX8_after_79 : decode cX8_after 79 = .ok (.bipush 21, 2) := by decide +kernel
theorem dX8_after_81 : decode cX8_after 81 = .ok (.iload_n 2, 1) := by decide +kernel
theorem dX8_after_82 : decode cX8_after 82 = .ok (.iadd, 1) := by decide +kernel
theorem dX8_after_83 : decode cX8_after 83 = .ok (.iaload, 1) := by decide +kernel
theorem dX8_after_84 : decode cX8_after 84 = .ok (.if_icmp .ge 19, 3) := by decide +kernel
theorem dX8_after_87 : decode cX8_after 87 = .ok (.aload_n 0, 1) := by decide +kernel
theorem dX8_after_88 : decode cX8_after 88 = .ok (.getfield 7, 3) := by decide +kernel
theorem dX8_after_91 : decode cX8_after 91 = .ok (.bipush 13, 2) := by decide +kernel
theorem dX8_after_93 : decode cX8_after 93 = .ok (.iload_n 2, 1) := by decide +kernel
theorem dX8_after_94 : decode cX8_after 94 = .ok (.iadd, 1) := by decide +kernel
theorem dX8_after_95 : decode cX8_after 95 = .ok (.iaload, 1) := by decide +kernel
theorem dX8_after_96 : decode cX8_after 96 = .ok (.iconst 1, 1) := by decide +kernel
theorem dX8_after_97 : decode cX8_after 97 = .ok (.iadd, 1) := by decide +kernel
theorem dX8_after_98 : decode cX8_after 98 = .ok (.iload_n 3, 1) := by decide +kernel
theorem dX8_after_99 : decode cX8_after 99 = .ok (.iadd, 1) := by decide +kernel
theorem dX8_after_100 : decode cX8_after 100 = .ok (.goto 5, 3) := by decide +kernel
theorem dX8_after_103 : decode cX8_after 103 = .ok (.bipush (-2), 2) := by decide +kernel
theorem dX8_after_105 : decode cX8_after 105 = .ok (.ireturn, 1) := by decide +kernel
theorem dX8_after_106 : decode cX8_after 106 = .ok (.iinc 2 1, 3) := by decide +kernel
theorem dX8_after_109 : decode cX8_after 109 = .ok (.goto (-107), 3) := by decide +kernel
theorem dX8_after_112 : decode cX8_after 112 = .ok (.iconst (-1), 1) := by decide +kernel
theorem dX8_after_113 : decode cX8_after 113 = .ok (.ireturn, 1) := by decide +kernel
abbrev mX8_after : XM := (cX8_after, 4, RX8, (some .int), shw_8, 2)
noncomputable def rg_X8_after_0 (k2 : XK) : XK :=
 o_iconst 0 <|
 o_istore 2 <|
 o_cut [] k2
def en_X8_after_0 (p1 : Int) (h0 : Ob) (a : Unit) : XSt := ([some (.inr (.inl (0, 0))), some (.inl p1), none, none], [], [h0])
noncomputable def rg_X8_after_2 (k106 : XK) : XK :=
 o_iload 2 <|
 o_iconst 8 <|
 o_icmp_ge (o_iconst (-1) <|
 o_ireturn)
 (o_aload 0 <|
 o_get shw_8 8 4 <|
 o_if_eq (o_iconst (-1) <|
 o_ireturn)
 (o_iload 1 <|
 o_aload 0 <|
 o_iconst 13 <|
 o_iload 2 <|
 o_iadd <|
 o_callVg 2 1 [0] g_X8_ahead v_X8_ahead <|
 o_isub <|
 o_iconst 1 <|
 o_isub <|
 o_istore 3 <|
 o_aload 0 <|
 o_iconst 5 <|
 o_iload 2 <|
 o_iadd <|
 o_callVg 2 1 [0] g_X8_ahead v_X8_ahead <|
 o_iconst 1 <|
 o_icmp_ne (o_cut [3] k106)
 (o_iload 1 <|
 o_if_lt (o_cut [3] k106)
 (o_iload 3 <|
 o_i2l <|
 o_lconst 0 <|
 o_aload 0 <|
 o_iconst 21 <|
 o_iload 2 <|
 o_iadd <|
 o_callVg 2 1 [0] g_X8_ahead v_X8_ahead <|
 o_iconst 1 <|
 o_isub <|
 o_i2l <|
 o_callSg 3 1 [] g_X8_in v_X8_in <|
 o_if_ne (o_aload 0 <|
 o_iload 2 <|
 o_callV 2 1 [0] f_X8_isFull <|
 o_if_eq (o_iconst (-2) <|
 o_ireturn)
 (o_iload 3 <|
 o_aload 0 <|
 o_get shw_8 8 0 <|
 o_iconst 21 <|
 o_iload 2 <|
 o_iadd <|
 o_iald shw_8 <|
 o_icmp_ge (o_iconst (-2) <|
 o_ireturn)
 (o_aload 0 <|
 o_get shw_8 8 0 <|
 o_iconst 13 <|
 o_iload 2 <|
 o_iadd <|
 o_iald shw_8 <|
 o_iconst 1 <|
 o_iadd <|
 o_iload 3 <|
 o_iadd <|
 o_ireturn)))
 (o_cut [3] k106)))))
def en_X8_after_2 (p1 : Int) (h0 : Ob) (a : Int) : XSt := ([some (.inr (.inl (0, 0))), some (.inl p1), some (.inl a), none], [], [h0])
noncomputable def rg_X8_after_106 (k2 : XK) : XK :=
 o_iinc 2 1 <|
 o_cut [] k2
def en_X8_after_106 (p1 : Int) (h0 : Ob) (a : Int) : XSt := ([some (.inr (.inl (0, 0))), some (.inl p1), some (.inl a), none], [], [h0])
noncomputable def mg_X8_after_0 (p1 : Int) (h0 : Ob) (k2 : Int → Option Rt) (a : Unit) : Option Rt :=
 k2 0
set_option maxRecDepth 100000 in
set_option maxHeartbeats 4000000 in
theorem rq_X8_after_0 (p1 : Int) (h0 : Ob) (k2 : XK) (a : Unit) : rg_X8_after_0 k2 (en_X8_after_0 p1 h0 a) = mg_X8_after_0 p1 h0 (fun b => k2 (en_X8_after_2 p1 h0 b)) a := rfl
set_option maxRecDepth 100000 in
set_option maxHeartbeats 4000000 in
theorem sg_X8_after_0 {X : XDyn} {r0 : Rt} (C : XO X mX8_after) {k2 : XK} (q2 : XS X mX8_after r0 2 k2) : XS X mX8_after r0 0 (rg_X8_after_0 k2) := by
 unfold rg_X8_after_0
 exact s_iconst (pc := 0) C dX8_after_0 <|
    s_istore_n (pc := 1) C dX8_after_1 rfl <|
    s_cut q2
noncomputable def mg_X8_after_2 (p1 : Int) (h0 : Ob) (k106 : Int → Option Rt) (a : Int) : Option Rt :=
 if xw a ≥ 8 then (RI (-1) [h0])
 else (if xw (h0 0 4) = 0 then (RI (-1) [h0])
 else (if pd (ov_X8_ahead (13 + a) h0 = RI (oqR (ov_X8_ahead (13 + a) h0)) [h0]) then (
 if pd (ov_X8_ahead (5 + a) h0 = RI (oqR (ov_X8_ahead (5 + a) h0)) [h0]) then (
 if xw (oqR (ov_X8_ahead (5 + a) h0)) = 1 then (if xw p1 < 0 then (k106 a)
 else (if pd (ov_X8_ahead (21 + a) h0 = RI (oqR (ov_X8_ahead (21 + a) h0)) [h0]) then (
 if xlr (xw ((p1 - (oqR (ov_X8_ahead (13 + a) h0))) - 1)) && (xlr (0 : Int) && xlr (xw ((oqR (ov_X8_ahead (21 + a) h0)) - 1))) then (
 if xw (bz (inn (xw ((p1 - (oqR (ov_X8_ahead (13 + a) h0))) - 1)) (0 : Int) (xw ((oqR (ov_X8_ahead (21 + a) h0)) - 1)))) = 0 then (k106 a)
 else (if xw (bz (fulM h0 a)) = 0 then (RI (-2) [h0])
 else (if xin (21 + a) 735 then (
 if xw ((p1 - (oqR (ov_X8_ahead (13 + a) h0))) - 1) ≥ xw (h0 1 (xw (21 + a)).toNat) then (RI (-2) [h0])
 else (if xin (13 + a) 735 then (
 RI (((h0 1 (xw (13 + a)).toNat) + 1) + ((p1 - (oqR (ov_X8_ahead (13 + a) h0))) - 1)) [h0]) else none)) else none))) else none) else none))
 else (k106 a)) else none) else none))
set_option maxRecDepth 100000 in
set_option maxHeartbeats 4000000 in
theorem rq_X8_after_2 (p1 : Int) (h0 : Ob) (k106 : XK) (a : Int) : rg_X8_after_2 k106 (en_X8_after_2 p1 h0 a) = mg_X8_after_2 p1 h0 (fun b => k106 (en_X8_after_106 p1 h0 b)) a := rfl
set_option maxRecDepth 100000 in
set_option maxHeartbeats 4000000 in
theorem sg_X8_after_2 {X : XDyn} {r0 : Rt} (C : XO X mX8_after) {k106 : XK} (q106 : XS X mX8_after r0 106 k106) : XS X mX8_after r0 2 (rg_X8_after_2 k106) := by
 unfold rg_X8_after_2
 exact s_iload_n (pc := 2) C dX8_after_2 rfl <|
    s_bipush (pc := 3) C dX8_after_3 (by decide) <|
    s_icmp_ge (pc := 5) C dX8_after_5 (by decide) (s_iconst (pc := 112) C dX8_after_112 <|
    s_ireturn (pc := 113) C rfl dX8_after_113)
    (s_aload_n (pc := 8) C dX8_after_8 rfl <|
    s_get (pc := 9) C (ci := 8) (kf := 4) rfl inX8 (by decide) wd_875 dX8_after_9 <|
    s_if_eq (pc := 12) C dX8_after_12 (by decide) (s_iconst (pc := 112) C dX8_after_112 <|
    s_ireturn (pc := 113) C rfl dX8_after_113)
    (s_iload_n (pc := 15) C dX8_after_15 rfl <|
    s_aload_n (pc := 16) C dX8_after_16 rfl <|
    s_bipush (pc := 17) C dX8_after_17 (by decide) <|
    s_iload_n (pc := 19) C dX8_after_19 rfl <|
    s_iadd (pc := 20) C dX8_after_20 <|
    s_callVg (pc := 21) C ct_X8_ahead (n := 2) (rk := 1) (mp := [0]) ⟨rfl, by decide, rfl⟩ (ci := 8) rfl rfl (by decide) (by decide) yi_X8_ahead (by decide) wd_1217 wd_1219 wd_64 wd_81 wd_1220 dX8_after_21 <|
    s_isub (pc := 24) C dX8_after_24 <|
    s_iconst (pc := 25) C dX8_after_25 <|
    s_isub (pc := 26) C dX8_after_26 <|
    s_istore_n (pc := 27) C dX8_after_27 rfl <|
    s_aload_n (pc := 28) C dX8_after_28 rfl <|
    s_iconst (pc := 29) C dX8_after_29 <|
    s_iload_n (pc := 30) C dX8_after_30 rfl <|
    s_iadd (pc := 31) C dX8_after_31 <|
    s_callVg (pc := 32) C ct_X8_ahead (n := 2) (rk := 1) (mp := [0]) ⟨rfl, by decide, rfl⟩ (ci := 8) rfl rfl (by decide) (by decide) yi_X8_ahead (by decide) wd_1217 wd_1219 wd_64 wd_81 wd_1220 dX8_after_32 <|
    s_iconst (pc := 35) C dX8_after_35 <|
    s_icmp_ne (pc := 36) C dX8_after_36 (by decide) (s_cut q106)
    (s_iload_n (pc := 39) C dX8_after_39 rfl <|
    s_if_lt (pc := 40) C dX8_after_40 (by decide) (s_cut q106)
    (s_iload_n (pc := 43) C dX8_after_43 rfl <|
    s_i2l (pc := 44) C dX8_after_44 <|
    s_lconst (pc := 45) C dX8_after_45 rfl <|
    s_aload_n (pc := 46) C dX8_after_46 rfl <|
    s_bipush (pc := 47) C dX8_after_47 (by decide) <|
    s_iload_n (pc := 49) C dX8_after_49 rfl <|
    s_iadd (pc := 50) C dX8_after_50 <|
    s_callVg (pc := 51) C ct_X8_ahead (n := 2) (rk := 1) (mp := [0]) ⟨rfl, by decide, rfl⟩ (ci := 8) rfl rfl (by decide) (by decide) yi_X8_ahead (by decide) wd_1217 wd_1219 wd_64 wd_81 wd_1220 dX8_after_51 <|
    s_iconst (pc := 54) C dX8_after_54 <|
    s_isub (pc := 55) C dX8_after_55 <|
    s_i2l (pc := 56) C dX8_after_56 <|
    s_callSg (pc := 57) C ct_X8_in (n := 3) (rk := 1) (mp := []) ⟨rfl, by decide, rfl⟩ (by decide) (by decide) ⟨rfl, yi_X8_in⟩ wd_954 wd_955 wd_81 wd_956 dX8_after_57 <|
    s_if_ne (pc := 60) C dX8_after_60 (by decide) (s_aload_n (pc := 66) C dX8_after_66 rfl <|
    s_iload_n (pc := 67) C dX8_after_67 rfl <|
    s_callV (pc := 68) C ct_X8_isFull (n := 2) (rk := 1) (mp := [0]) ⟨rfl, by decide, rfl⟩ (ci := 8) rfl rfl (by decide) (by decide) yi_X8_isFull (by decide) wd_987 wd_989 wd_24 wd_81 wd_990 dX8_after_68 <|
    s_if_eq (pc := 71) C dX8_after_71 (by decide) (s_bipush (pc := 103) C dX8_after_103 (by decide) <|
    s_ireturn (pc := 105) C rfl dX8_after_105)
    (s_iload_n (pc := 74) C dX8_after_74 rfl <|
    s_aload_n (pc := 75) C dX8_after_75 rfl <|
    s_get (pc := 76) C (ci := 8) (kf := 0) rfl inX8 (by decide) wd_871 dX8_after_76 <|
    s_bipush (pc := 79) C dX8_after_79 (by decide) <|
    s_iload_n (pc := 81) C dX8_after_81 rfl <|
    s_iadd (pc := 82) C dX8_after_82 <|
    s_iald (pc := 83) C dX8_after_83 <|
    s_icmp_ge (pc := 84) C dX8_after_84 (by decide) (s_bipush (pc := 103) C dX8_after_103 (by decide) <|
    s_ireturn (pc := 105) C rfl dX8_after_105)
    (s_aload_n (pc := 87) C dX8_after_87 rfl <|
    s_get (pc := 88) C (ci := 8) (kf := 0) rfl inX8 (by decide) wd_871 dX8_after_88 <|
    s_bipush (pc := 91) C dX8_after_91 (by decide) <|
    s_iload_n (pc := 93) C dX8_after_93 rfl <|
    s_iadd (pc := 94) C dX8_after_94 <|
    s_iald (pc := 95) C dX8_after_95 <|
    s_iconst (pc := 96) C dX8_after_96 <|
    s_iadd (pc := 97) C dX8_after_97 <|
    s_iload_n (pc := 98) C dX8_after_98 rfl <|
    s_iadd (pc := 99) C dX8_after_99 <|
    s_goto (pc := 100) C dX8_after_100 (by decide) <|
    s_ireturn (pc := 105) C rfl dX8_after_105)))
    (s_goto (pc := 63) C dX8_after_63 (by decide) <|
    s_cut q106)))))
noncomputable def mg_X8_after_106 (p1 : Int) (h0 : Ob) (k2 : Int → Option Rt) (a : Int) : Option Rt :=
 k2 (a + 1)
set_option maxRecDepth 100000 in
set_option maxHeartbeats 4000000 in
theorem rq_X8_after_106 (p1 : Int) (h0 : Ob) (k2 : XK) (a : Int) : rg_X8_after_106 k2 (en_X8_after_106 p1 h0 a) = mg_X8_after_106 p1 h0 (fun b => k2 (en_X8_after_2 p1 h0 b)) a := rfl
set_option maxRecDepth 100000 in
set_option maxHeartbeats 4000000 in
theorem sg_X8_after_106 {X : XDyn} {r0 : Rt} (C : XO X mX8_after) {k2 : XK} (q2 : XS X mX8_after r0 2 k2) : XS X mX8_after r0 106 (rg_X8_after_106 k2) := by
 unfold rg_X8_after_106
 exact s_iinc (pc := 106) C dX8_after_106 <|
    s_goto (pc := 109) C dX8_after_109 (by decide) <|
    s_cut q2
noncomputable def rw_X8_after_106 (f : Nat) (k2 : XK) : XK := rg_X8_after_106 k2
noncomputable def md_X8_after_106 (p1 : Int) (h0 : Ob) (f : Nat) (k2 : Int → Option Rt) : Int → Option Rt := mg_X8_after_106 p1 h0 k2
theorem eq_X8_after_106 (p1 : Int) (h0 : Ob) (f : Nat) (k2 : XK) (a : Int) : rw_X8_after_106 f k2 (en_X8_after_106 p1 h0 a) = md_X8_after_106 p1 h0 f (fun b => k2 (en_X8_after_2 p1 h0 b)) a :=
 (rq_X8_after_106 p1 h0 k2 a).trans (congrFun (congr (rfl : mg_X8_after_106 p1 h0 = mg_X8_after_106 p1 h0) rfl) a)
theorem sd_X8_after_106 (f : Nat) {X : XDyn} {r0 : Rt} (C : XO X mX8_after) {k2 : XK} (q2 : XS X mX8_after r0 2 k2) : XS X mX8_after r0 106 (rw_X8_after_106 f k2) := sg_X8_after_106 C q2
noncomputable def rw_X8_after_2 (f : Nat) : XK := tlp (fun k2 => rg_X8_after_2 (rw_X8_after_106 f k2)) f
noncomputable def lb_X8_after_2 (p1 : Int) (h0 : Ob) (f : Nat) : ((Int) → Option Rt) → Int → Option Rt := fun k2 => mg_X8_after_2 p1 h0 (md_X8_after_106 p1 h0 f k2)
noncomputable def md_X8_after_2 (p1 : Int) (h0 : Ob) (f : Nat) : Int → Option Rt := tlp (lb_X8_after_2 p1 h0 f) f
theorem eq_X8_after_2 (p1 : Int) (h0 : Ob) (f : Nat) (a : Int) : rw_X8_after_2 f (en_X8_after_2 p1 h0 a) = md_X8_after_2 p1 h0 f a :=
 tlp_enc (en_X8_after_2 p1 h0) (fun k2 a => (rq_X8_after_2 p1 h0 (rw_X8_after_106 f k2) a).trans (congrFun (congr (rfl : mg_X8_after_2 p1 h0 = mg_X8_after_2 p1 h0) (funext (eq_X8_after_106 p1 h0 f k2))) a)) f a
theorem sd_X8_after_2 (f : Nat) {X : XDyn} {r0 : Rt} (C : XO X mX8_after) : XS X mX8_after r0 2 (rw_X8_after_2 f) := s_lp (fun k2 q2 => sg_X8_after_2 C (sd_X8_after_106 f C q2)) f
noncomputable def rw_X8_after_0 (f : Nat) : XK := rg_X8_after_0 (rw_X8_after_2 f)
noncomputable def md_X8_after_0 (p1 : Int) (h0 : Ob) (f : Nat) : Unit → Option Rt := mg_X8_after_0 p1 h0 (md_X8_after_2 p1 h0 f)
theorem eq_X8_after_0 (p1 : Int) (h0 : Ob) (f : Nat) (a : Unit) : rw_X8_after_0 f (en_X8_after_0 p1 h0 a) = md_X8_after_0 p1 h0 f a :=
 (rq_X8_after_0 p1 h0 (rw_X8_after_2 f) a).trans (congrFun (congr (rfl : mg_X8_after_0 p1 h0 = mg_X8_after_0 p1 h0) (funext (eq_X8_after_2 p1 h0 f))) a)
theorem sd_X8_after_0 (f : Nat) {X : XDyn} {r0 : Rt} (C : XO X mX8_after) : XS X mX8_after r0 0 (rw_X8_after_0 f) := sg_X8_after_0 C (sd_X8_after_2 f C)
theorem ctr_X8_after (f : Nat) : XCt yX8_after mX8_after (xF mX8_after (rw_X8_after_0 f)) := xMet (by decide +kernel) rfl (fun _ _ C => sd_X8_after_0 f C)
theorem eqf_X8_after (f : Nat) (p1 : Int) (h0 : Ob) : xF mX8_after (rw_X8_after_0 f) [.inr (.inl (0, 0)), .inl p1] [h0] = md_X8_after_0 p1 h0 f () := eq_X8_after_0 p1 h0 f ()
theorem yi_X8_after : yX8_after.cls = RX8 ∧ yX8_after.cls ≠ "java/lang/invoke/MethodHandle" ∧ yX8_after.cls ≠ "java/lang/invoke/VarHandle" ∧ (parseMethodDescriptor yX8_after.desc).map (fun d => d.parameters.length) = some 1 := ⟨rfl, by decide +kernel, by decide +kernel, by decide +kernel⟩
theorem dX8_order_0 : decode cX8_order 0 = .ok (.iconst 0, 1) := by decide +kernel
theorem dX8_order_1 : decode cX8_order 1 = .ok (.istore_n 2, 1) := by decide +kernel
theorem dX8_order_2 : decode cX8_order 2 = .ok (.iload_n 2, 1) := by decide +kernel
theorem dX8_order_3 : decode cX8_order 3 = .ok (.bipush 8, 2) := by decide +kernel
theorem dX8_order_5 : decode cX8_order 5 = .ok (.if_icmp .ge 96, 3) := by decide +kernel
theorem dX8_order_8 : decode cX8_order 8 = .ok (.aload_n 0, 1) := by decide +kernel
theorem dX8_order_9 : decode cX8_order 9 = .ok (.iload_n 2, 1) := by decide +kernel
theorem dX8_order_10 : decode cX8_order 10 = .ok (.invokevirtual 158, 3) := by decide +kernel
theorem dX8_order_13 : decode cX8_order 13 = .ok (.ifCond .ne 6, 3) := by decide +kernel
theorem dX8_order_16 : decode cX8_order 16 = .ok (.goto 79, 3) := by decide +kernel
theorem dX8_order_19 : decode cX8_order 19 = .ok (.iconst 0, 1) := by decide +kernel
theorem dX8_order_20 : decode cX8_order 20 = .ok (.istore_n 3, 1) := by decide +kernel
theorem dX8_order_21 : decode cX8_order 21 = .ok (.iconst 0, 1) := by decide +kernel
theorem dX8_order_22 : decode cX8_order 22 = .ok (.istore 4, 2) := by decide +kernel
theorem dX8_order_24 : decode cX8_order 24 = .ok (.iload 4, 2) := by decide +kernel
theorem dX8_order_26 : decode cX8_order 26 = .ok (.bipush 8, 2) := by decide +kernel
theorem dX8_order_28 : decode cX8_order 28 = .ok (.if_icmp .ge 60, 3) := by decide +kernel
theorem dX8_order_31 : decode cX8_order 31 = .ok (.iload_n 3, 1) := by decide +kernel
theorem dX8_order_32 : decode cX8_order 32 = .ok (.aload_n 0, 1) := by decide +kernel
theorem dX8_order_33 : decode cX8_order 33 = .ok (.iload 4, 2) := by decide +kernel
theorem dX8_order_35 : decode cX8_order 35 = .ok (.invokevirtual 158, 3) := by decide +kernel
theorem dX8_order_38 : decode cX8_order 38 = .ok (.ifCond .eq 41, 3) := by decide +kernel
theorem dX8_order_41 : decode cX8_order 41 = .ok (.aload_n 0, 1) := by decide +kernel
theorem dX8_order_42 : decode cX8_order 42 = .ok (.iload 4, 2) := by decide +kernel
theorem dX8_order_44 : decode cX8_order 44 = .ok (.invokevirtual 161, 3) := by decide +kernel
theorem dX8_order_47 : decode cX8_order 47 = .ok (.aload_n 0, 1) := by decide +kernel
theorem dX8_order_48 : decode cX8_order 48 = .ok (.iload_n 2, 1) := by decide +kernel
theorem dX8_order_49 : decode cX8_order 49 = .ok (.invokevirtual 161, 3) := by decide +kernel
theorem dX8_order_52 : decode cX8_order 52 = .ok (.if_icmp .lt 23, 3) := by decide +kernel
theorem dX8_order_55 : decode cX8_order 55 = .ok (.aload_n 0, 1) := by decide +kernel
theorem dX8_order_56 : decode cX8_order 56 = .ok (.iload 4, 2) := by decide +kernel
theorem dX8_order_58 : decode cX8_order 58 = .ok (.invokevirtual 161, 3) := by decide +kernel
theorem dX8_order_61 : decode cX8_order 61 = .ok (.aload_n 0, 1) := by decide +kernel
theorem dX8_order_62 : decode cX8_order 62 = .ok (.iload_n 2, 1) := by decide +kernel
theorem dX8_order_63 : decode cX8_order 63 = .ok (.invokevirtual 161, 3) := by decide +kernel
theorem dX8_order_66 : decode cX8_order 66 = .ok (.if_icmp .ne 13, 3) := by decide +kernel
theorem dX8_order_69 : decode cX8_order 69 = .ok (.iload 4, 2) := by decide +kernel
theorem dX8_order_71 : decode cX8_order 71 = .ok (.iload_n 2, 1) := by decide +kernel
theorem dX8_order_72 : decode cX8_order 72 = .ok (.if_icmp .ge 7, 3) := by decide +kernel
theorem dX8_order_75 : decode cX8_order 75 = .ok (.iconst 1, 1) := by decide +kernel
theorem dX8_order_76 : decode cX8_order 76 = .ok (.goto 4, 3) := by decide +kernel
theorem dX8_order_79 : decode cX8_order 79 = .ok (.iconst 0, 1) := by decide +kernel
theorem dX8_order_80 : decode cX8_order 80 = .ok (.iadd, 1) := by decide +kernel
theorem dX8_order_81 : decode cX8_order 81 = .ok (.istore_n 3, 1) := by decide +kernel
theorem dX8_order_82 : decode cX8_order 82 = .ok (.iinc 4 1, 3) := by decide +kernel
theorem dX8_order_85 : decode cX8_order 85 = .ok (.goto (-61), 3) := by decide +kernel
theorem dX8_order_88 : decode cX8_order 88 = .ok (.iload_n 3, 1) := by decide +kernel
theorem dX8_order_89 : decode cX8_order 89 = .ok (.iload_n 1, 1) := by decide +kernel
theorem dX8_order_90 : decode cX8_order 90 = .ok (.if_icmp .ne 5, 3) := by decide +kernel
theorem dX8_order_93 : decode cX8_order 93 = .ok (.iload_n 2, 1) := by decide +kernel
theorem dX8_order_94 : decode cX8_order 94 = .ok (.ireturn, 1) := by decide +kernel
theorem dX8_order_95 : decode cX8_order 95 = .ok (.iinc 2 1, 3) := by decide +kernel
theorem dX8_order_98 : decode cX8_order 98 = .ok (.goto (-96), 3) := by decide +kernel
theorem dX8_order_101 : decode cX8_order 101 = .ok (.iconst (-1), 1) := by decide +kernel
theorem dX8_order_102 : decode cX8_order 102 = .ok (.ireturn, 1) := by decide +kernel
abbrev mX8_order : XM := (cX8_order, 5, RX8, (some .int), shw_8, 4)
noncomputable def rg_X8_order_0 (k2 : XK) : XK :=
 o_iconst 0 <|
 o_istore 2 <|
 o_cut [] k2
def en_X8_order_0 (p1 : Int) (h0 : Ob) (a : Unit) : XSt := ([some (.inr (.inl (0, 0))), some (.inl p1), none, none, none], [], [h0])
noncomputable def rg_X8_order_2 (k24 : XK) (k95 : XK) : XK :=
 o_iload 2 <|
 o_iconst 8 <|
 o_icmp_ge (o_iconst (-1) <|
 o_ireturn)
 (o_aload 0 <|
 o_iload 2 <|
 o_callV 2 1 [0] f_X8_canGo <|
 o_if_ne (o_iconst 0 <|
 o_istore 3 <|
 o_iconst 0 <|
 o_istore 4 <|
 o_cut [] k24)
 (o_cut [] k95))
def en_X8_order_2 (p1 : Int) (h0 : Ob) (a : Int) : XSt := ([some (.inr (.inl (0, 0))), some (.inl p1), some (.inl a), none, none], [], [h0])
noncomputable def rg_X8_order_24 (k95 : XK) (k79 : XK) (k75 : XK) : XK :=
 o_iload 4 <|
 o_iconst 8 <|
 o_icmp_ge (o_iload 3 <|
 o_iload 1 <|
 o_icmp_ne (o_cut [3, 4] k95)
 (o_iload 2 <|
 o_ireturn))
 (o_iload 3 <|
 o_aload 0 <|
 o_iload 4 <|
 o_callV 2 1 [0] f_X8_canGo <|
 o_if_eq (o_cut [3] k79)
 (o_aload 0 <|
 o_iload 4 <|
 o_callVg 2 1 [0] g_X8_worthOf v_X8_worthOf <|
 o_aload 0 <|
 o_iload 2 <|
 o_callVg 2 1 [0] g_X8_worthOf v_X8_worthOf <|
 o_icmp_lt (o_cut [3] k75)
 (o_aload 0 <|
 o_iload 4 <|
 o_callVg 2 1 [0] g_X8_worthOf v_X8_worthOf <|
 o_aload 0 <|
 o_iload 2 <|
 o_callVg 2 1 [0] g_X8_worthOf v_X8_worthOf <|
 o_icmp_ne (o_cut [3] k79)
 (o_iload 4 <|
 o_iload 2 <|
 o_icmp_ge (o_cut [3] k79)
 (o_cut [3] k75)))))
def en_X8_order_24 (p1 : Int) (h0 : Ob) (a : Int × Int × Int) : XSt := ([some (.inr (.inl (0, 0))), some (.inl p1), some (.inl a.1), some (.inl a.2.1), some (.inl a.2.2)], [], [h0])
noncomputable def rg_X8_order_75 (k80 : XK) : XK :=
 o_iconst 1 <|
 o_cut [] k80
def en_X8_order_75 (p1 : Int) (h0 : Ob) (a : Int × Int × Int) : XSt := ([some (.inr (.inl (0, 0))), some (.inl p1), some (.inl a.1), none, some (.inl a.2.1)], [.inl a.2.2], [h0])
noncomputable def rg_X8_order_79 (k80 : XK) : XK :=
 o_iconst 0 <|
 o_cut [] k80
def en_X8_order_79 (p1 : Int) (h0 : Ob) (a : Int × Int × Int) : XSt := ([some (.inr (.inl (0, 0))), some (.inl p1), some (.inl a.1), none, some (.inl a.2.1)], [.inl a.2.2], [h0])
noncomputable def rg_X8_order_80 (k24 : XK) : XK :=
 o_iadd <|
 o_istore 3 <|
 o_iinc 4 1 <|
 o_cut [] k24
def en_X8_order_80 (p1 : Int) (h0 : Ob) (a : Int × Int × Int × Int) : XSt := ([some (.inr (.inl (0, 0))), some (.inl p1), some (.inl a.1), none, some (.inl a.2.1)], [.inl a.2.2.2, .inl a.2.2.1], [h0])
noncomputable def rg_X8_order_95 (k2 : XK) : XK :=
 o_iinc 2 1 <|
 o_cut [] k2
def en_X8_order_95 (p1 : Int) (h0 : Ob) (a : Int) : XSt := ([some (.inr (.inl (0, 0))), some (.inl p1), some (.inl a), none, none], [], [h0])
noncomputable def mg_X8_order_0 (p1 : Int) (h0 : Ob) (k2 : Int → Option Rt) (a : Unit) : Option Rt :=
 k2 0
set_option maxRecDepth 100000 in
set_option maxHeartbeats 4000000 in
theorem rq_X8_order_0 (p1 : Int) (h0 : Ob) (k2 : XK) (a : Unit) : rg_X8_order_0 k2 (en_X8_order_0 p1 h0 a) = mg_X8_order_0 p1 h0 (fun b => k2 (en_X8_order_2 p1 h0 b)) a := rfl
set_option maxRecDepth 100000 in
set_option maxHeartbeats 4000000 in
theorem sg_X8_order_0 {X : XDyn} {r0 : Rt} (C : XO X mX8_order) {k2 : XK} (q2 : XS X mX8_order r0 2 k2) : XS X mX8_order r0 0 (rg_X8_order_0 k2) := by
 unfold rg_X8_order_0
 exact s_iconst (pc := 0) C dX8_order_0 <|
    s_istore_n (pc := 1) C dX8_order_1 rfl <|
    s_cut q2
noncomputable def mg_X8_order_2 (p1 : Int) (h0 : Ob) (k24 : (Int × Int × Int) → Option Rt) (k95 : Int → Option Rt) (a : Int) : Option Rt :=
 if xw a ≥ 8 then (RI (-1) [h0])
 else (if xw (bz (cgoM h0 a)) = 0 then (k95 a)
 else (k24 (a, 0, 0)))
set_option maxRecDepth 100000 in
set_option maxHeartbeats 4000000 in
theorem rq_X8_order_2 (p1 : Int) (h0 : Ob) (k24 : XK) (k95 : XK) (a : Int) : rg_X8_order_2 k24 k95 (en_X8_order_2 p1 h0 a) = mg_X8_order_2 p1 h0 (fun b => k24 (en_X8_order_24 p1 h0 b)) (fun b => k95 (en_X8_order_95 p1 h0 b)) a := rfl
set_option maxRecDepth 100000 in
set_option maxHeartbeats 4000000 in
theorem sg_X8_order_2 {X : XDyn} {r0 : Rt} (C : XO X mX8_order) {k24 : XK} (q24 : XS X mX8_order r0 24 k24) {k95 : XK} (q95 : XS X mX8_order r0 95 k95) : XS X mX8_order r0 2 (rg_X8_order_2 k24 k95) := by
 unfold rg_X8_order_2
 exact s_iload_n (pc := 2) C dX8_order_2 rfl <|
    s_bipush (pc := 3) C dX8_order_3 (by decide) <|
    s_icmp_ge (pc := 5) C dX8_order_5 (by decide) (s_iconst (pc := 101) C dX8_order_101 <|
    s_ireturn (pc := 102) C rfl dX8_order_102)
    (s_aload_n (pc := 8) C dX8_order_8 rfl <|
    s_iload_n (pc := 9) C dX8_order_9 rfl <|
    s_callV (pc := 10) C ct_X8_canGo (n := 2) (rk := 1) (mp := [0]) ⟨rfl, by decide, rfl⟩ (ci := 8) rfl rfl (by decide) (by decide) yi_X8_canGo (by decide) wd_1085 wd_1087 wd_47 wd_81 wd_1088 dX8_order_10 <|
    s_if_ne (pc := 13) C dX8_order_13 (by decide) (s_iconst (pc := 19) C dX8_order_19 <|
    s_istore_n (pc := 20) C dX8_order_20 rfl <|
    s_iconst (pc := 21) C dX8_order_21 <|
    s_istore (pc := 22) C dX8_order_22 <|
    s_cut q24)
    (s_goto (pc := 16) C dX8_order_16 (by decide) <|
    s_cut q95))
noncomputable def mg_X8_order_24 (p1 : Int) (h0 : Ob) (k95 : Int → Option Rt) (k79 : (Int × Int × Int) → Option Rt) (k75 : (Int × Int × Int) → Option Rt) (a : Int × Int × Int) : Option Rt :=
 if xw a.2.2 ≥ 8 then (if xw a.2.1 = xw p1 then (RI a.1 [h0])
 else (k95 a.1))
 else (if xw (bz (cgoM h0 a.2.2)) = 0 then (k79 (a.1, a.2.2, a.2.1))
 else (if pd (hdl a.2.2 = true ∧ (xw (h0 1 2) = 2 → xw (h0 1 (21 + (xw a.2.2).toNat)) ≠ 0)) then (
 if pd (hdl a.1 = true ∧ (xw (h0 1 2) = 2 → xw (h0 1 (21 + (xw a.1).toNat)) ≠ 0)) then (
 if xw (wrM h0 a.2.2) < xw (wrM h0 a.1) then (k75 (a.1, a.2.2, a.2.1))
 else (if pd (hdl a.2.2 = true ∧ (xw (h0 1 2) = 2 → xw (h0 1 (21 + (xw a.2.2).toNat)) ≠ 0)) then (
 if pd (hdl a.1 = true ∧ (xw (h0 1 2) = 2 → xw (h0 1 (21 + (xw a.1).toNat)) ≠ 0)) then (
 if xw (wrM h0 a.2.2) = xw (wrM h0 a.1) then (if xw a.2.2 ≥ xw a.1 then (k79 (a.1, a.2.2, a.2.1))
 else (k75 (a.1, a.2.2, a.2.1)))
 else (k79 (a.1, a.2.2, a.2.1))) else none) else none)) else none) else none))
set_option maxRecDepth 100000 in
set_option maxHeartbeats 4000000 in
theorem rq_X8_order_24 (p1 : Int) (h0 : Ob) (k95 : XK) (k79 : XK) (k75 : XK) (a : Int × Int × Int) : rg_X8_order_24 k95 k79 k75 (en_X8_order_24 p1 h0 a) = mg_X8_order_24 p1 h0 (fun b => k95 (en_X8_order_95 p1 h0 b)) (fun b => k79 (en_X8_order_79 p1 h0 b)) (fun b => k75 (en_X8_order_75 p1 h0 b)) a := rfl
set_option maxRecDepth 100000 in
set_option maxHeartbeats 4000000 in
theorem sg_X8_order_24 {X : XDyn} {r0 : Rt} (C : XO X mX8_order) {k95 : XK} (q95 : XS X mX8_order r0 95 k95) {k79 : XK} (q79 : XS X mX8_order r0 79 k79) {k75 : XK} (q75 : XS X mX8_order r0 75 k75) : XS X mX8_order r0 24 (rg_X8_order_24 k95 k79 k75) := by
 unfold rg_X8_order_24
 exact s_iload (pc := 24) C dX8_order_24 <|
    s_bipush (pc := 26) C dX8_order_26 (by decide) <|
    s_icmp_ge (pc := 28) C dX8_order_28 (by decide) (s_iload_n (pc := 88) C dX8_order_88 rfl <|
    s_iload_n (pc := 89) C dX8_order_89 rfl <|
    s_icmp_ne (pc := 90) C dX8_order_90 (by decide) (s_cut q95)
    (s_iload_n (pc := 93) C dX8_order_93 rfl <|
    s_ireturn (pc := 94) C rfl dX8_order_94))
    (s_iload_n (pc := 31) C dX8_order_31 rfl <|
    s_aload_n (pc := 32) C dX8_order_32 rfl <|
    s_iload (pc := 33) C dX8_order_33 <|
    s_callV (pc := 35) C ct_X8_canGo (n := 2) (rk := 1) (mp := [0]) ⟨rfl, by decide, rfl⟩ (ci := 8) rfl rfl (by decide) (by decide) yi_X8_canGo (by decide) wd_1085 wd_1087 wd_47 wd_81 wd_1088 dX8_order_35 <|
    s_if_eq (pc := 38) C dX8_order_38 (by decide) (s_cut q79)
    (s_aload_n (pc := 41) C dX8_order_41 rfl <|
    s_iload (pc := 42) C dX8_order_42 <|
    s_callVg (pc := 44) C ct_X8_worthOf (n := 2) (rk := 1) (mp := [0]) ⟨rfl, by decide, rfl⟩ (ci := 8) rfl rfl (by decide) (by decide) yi_X8_worthOf (by decide) wd_1089 wd_1091 wd_48 wd_81 wd_1092 dX8_order_44 <|
    s_aload_n (pc := 47) C dX8_order_47 rfl <|
    s_iload_n (pc := 48) C dX8_order_48 rfl <|
    s_callVg (pc := 49) C ct_X8_worthOf (n := 2) (rk := 1) (mp := [0]) ⟨rfl, by decide, rfl⟩ (ci := 8) rfl rfl (by decide) (by decide) yi_X8_worthOf (by decide) wd_1089 wd_1091 wd_48 wd_81 wd_1092 dX8_order_49 <|
    s_icmp_lt (pc := 52) C dX8_order_52 (by decide) (s_cut q75)
    (s_aload_n (pc := 55) C dX8_order_55 rfl <|
    s_iload (pc := 56) C dX8_order_56 <|
    s_callVg (pc := 58) C ct_X8_worthOf (n := 2) (rk := 1) (mp := [0]) ⟨rfl, by decide, rfl⟩ (ci := 8) rfl rfl (by decide) (by decide) yi_X8_worthOf (by decide) wd_1089 wd_1091 wd_48 wd_81 wd_1092 dX8_order_58 <|
    s_aload_n (pc := 61) C dX8_order_61 rfl <|
    s_iload_n (pc := 62) C dX8_order_62 rfl <|
    s_callVg (pc := 63) C ct_X8_worthOf (n := 2) (rk := 1) (mp := [0]) ⟨rfl, by decide, rfl⟩ (ci := 8) rfl rfl (by decide) (by decide) yi_X8_worthOf (by decide) wd_1089 wd_1091 wd_48 wd_81 wd_1092 dX8_order_63 <|
    s_icmp_ne (pc := 66) C dX8_order_66 (by decide) (s_cut q79)
    (s_iload (pc := 69) C dX8_order_69 <|
    s_iload_n (pc := 71) C dX8_order_71 rfl <|
    s_icmp_ge (pc := 72) C dX8_order_72 (by decide) (s_cut q79)
    (s_cut q75)))))
noncomputable def mg_X8_order_75 (p1 : Int) (h0 : Ob) (k80 : (Int × Int × Int × Int) → Option Rt) (a : Int × Int × Int) : Option Rt :=
 k80 (a.1, a.2.1, a.2.2, 1)
set_option maxRecDepth 100000 in
set_option maxHeartbeats 4000000 in
theorem rq_X8_order_75 (p1 : Int) (h0 : Ob) (k80 : XK) (a : Int × Int × Int) : rg_X8_order_75 k80 (en_X8_order_75 p1 h0 a) = mg_X8_order_75 p1 h0 (fun b => k80 (en_X8_order_80 p1 h0 b)) a := rfl
set_option maxRecDepth 100000 in
set_option maxHeartbeats 4000000 in
theorem sg_X8_order_75 {X : XDyn} {r0 : Rt} (C : XO X mX8_order) {k80 : XK} (q80 : XS X mX8_order r0 80 k80) : XS X mX8_order r0 75 (rg_X8_order_75 k80) := by
 unfold rg_X8_order_75
 exact s_iconst (pc := 75) C dX8_order_75 <|
    s_goto (pc := 76) C dX8_order_76 (by decide) <|
    s_cut q80
noncomputable def mg_X8_order_79 (p1 : Int) (h0 : Ob) (k80 : (Int × Int × Int × Int) → Option Rt) (a : Int × Int × Int) : Option Rt :=
 k80 (a.1, a.2.1, a.2.2, 0)
set_option maxRecDepth 100000 in
set_option maxHeartbeats 4000000 in
theorem rq_X8_order_79 (p1 : Int) (h0 : Ob) (k80 : XK) (a : Int × Int × Int) : rg_X8_order_79 k80 (en_X8_order_79 p1 h0 a) = mg_X8_order_79 p1 h0 (fun b => k80 (en_X8_order_80 p1 h0 b)) a := rfl
set_option maxRecDepth 100000 in
set_option maxHeartbeats 4000000 in
theorem sg_X8_order_79 {X : XDyn} {r0 : Rt} (C : XO X mX8_order) {k80 : XK} (q80 : XS X mX8_order r0 80 k80) : XS X mX8_order r0 79 (rg_X8_order_79 k80) := by
 unfold rg_X8_order_79
 exact s_iconst (pc := 79) C dX8_order_79 <|
    s_cut q80
noncomputable def mg_X8_order_80 (p1 : Int) (h0 : Ob) (k24 : (Int × Int × Int) → Option Rt) (a : Int × Int × Int × Int) : Option Rt :=
 k24 (a.1, (a.2.2.1 + a.2.2.2), (a.2.1 + 1))
set_option maxRecDepth 100000 in
set_option maxHeartbeats 4000000 in
theorem rq_X8_order_80 (p1 : Int) (h0 : Ob) (k24 : XK) (a : Int × Int × Int × Int) : rg_X8_order_80 k24 (en_X8_order_80 p1 h0 a) = mg_X8_order_80 p1 h0 (fun b => k24 (en_X8_order_24 p1 h0 b)) a := rfl
set_option maxRecDepth 100000 in
set_option maxHeartbeats 4000000 in
theorem sg_X8_order_80 {X : XDyn} {r0 : Rt} (C : XO X mX8_order) {k24 : XK} (q24 : XS X mX8_order r0 24 k24) : XS X mX8_order r0 80 (rg_X8_order_80 k24) := by
 unfold rg_X8_order_80
 exact s_iadd (pc := 80) C dX8_order_80 <|
    s_istore_n (pc := 81) C dX8_order_81 rfl <|
    s_iinc (pc := 82) C dX8_order_82 <|
    s_goto (pc := 85) C dX8_order_85 (by decide) <|
    s_cut q24
noncomputable def mg_X8_order_95 (p1 : Int) (h0 : Ob) (k2 : Int → Option Rt) (a : Int) : Option Rt :=
 k2 (a + 1)
set_option maxRecDepth 100000 in
set_option maxHeartbeats 4000000 in
theorem rq_X8_order_95 (p1 : Int) (h0 : Ob) (k2 : XK) (a : Int) : rg_X8_order_95 k2 (en_X8_order_95 p1 h0 a) = mg_X8_order_95 p1 h0 (fun b => k2 (en_X8_order_2 p1 h0 b)) a := rfl
set_option maxRecDepth 100000 in
set_option maxHeartbeats 4000000 in
theorem sg_X8_order_95 {X : XDyn} {r0 : Rt} (C : XO X mX8_order) {k2 : XK} (q2 : XS X mX8_order r0 2 k2) : XS X mX8_order r0 95 (rg_X8_order_95 k2) := by
 unfold rg_X8_order_95
 exact s_iinc (pc := 95) C dX8_order_95 <|
    s_goto (pc := 98) C dX8_order_98 (by decide) <|
    s_cut q2
noncomputable def rw_X8_order_95 (f : Nat) (k2 : XK) : XK := rg_X8_order_95 k2
noncomputable def md_X8_order_95 (p1 : Int) (h0 : Ob) (f : Nat) (k2 : Int → Option Rt) : Int → Option Rt := mg_X8_order_95 p1 h0 k2
theorem eq_X8_order_95 (p1 : Int) (h0 : Ob) (f : Nat) (k2 : XK) (a : Int) : rw_X8_order_95 f k2 (en_X8_order_95 p1 h0 a) = md_X8_order_95 p1 h0 f (fun b => k2 (en_X8_order_2 p1 h0 b)) a :=
 (rq_X8_order_95 p1 h0 k2 a).trans (congrFun (congr (rfl : mg_X8_order_95 p1 h0 = mg_X8_order_95 p1 h0) rfl) a)
theorem sd_X8_order_95 (f : Nat) {X : XDyn} {r0 : Rt} (C : XO X mX8_order) {k2 : XK} (q2 : XS X mX8_order r0 2 k2) : XS X mX8_order r0 95 (rw_X8_order_95 f k2) := sg_X8_order_95 C q2
noncomputable def rw_X8_order_80 (f : Nat) (k2 : XK) (k24 : XK) : XK := rg_X8_order_80 k24
noncomputable def md_X8_order_80 (p1 : Int) (h0 : Ob) (f : Nat) (k2 : Int → Option Rt) (k24 : (Int × Int × Int) → Option Rt) : Int × Int × Int × Int → Option Rt := mg_X8_order_80 p1 h0 k24
theorem eq_X8_order_80 (p1 : Int) (h0 : Ob) (f : Nat) (k2 : XK) (k24 : XK) (a : Int × Int × Int × Int) : rw_X8_order_80 f k2 k24 (en_X8_order_80 p1 h0 a) = md_X8_order_80 p1 h0 f (fun b => k2 (en_X8_order_2 p1 h0 b)) (fun b => k24 (en_X8_order_24 p1 h0 b)) a :=
 (rq_X8_order_80 p1 h0 k24 a).trans (congrFun (congr (rfl : mg_X8_order_80 p1 h0 = mg_X8_order_80 p1 h0) rfl) a)
theorem sd_X8_order_80 (f : Nat) {X : XDyn} {r0 : Rt} (C : XO X mX8_order) {k2 : XK} (q2 : XS X mX8_order r0 2 k2) {k24 : XK} (q24 : XS X mX8_order r0 24 k24) : XS X mX8_order r0 80 (rw_X8_order_80 f k2 k24) := sg_X8_order_80 C q24
noncomputable def rw_X8_order_79 (f : Nat) (k2 : XK) (k24 : XK) : XK := rg_X8_order_79 (rw_X8_order_80 f k2 k24)
noncomputable def md_X8_order_79 (p1 : Int) (h0 : Ob) (f : Nat) (k2 : Int → Option Rt) (k24 : (Int × Int × Int) → Option Rt) : Int × Int × Int → Option Rt := mg_X8_order_79 p1 h0 (md_X8_order_80 p1 h0 f k2 k24)
theorem eq_X8_order_79 (p1 : Int) (h0 : Ob) (f : Nat) (k2 : XK) (k24 : XK) (a : Int × Int × Int) : rw_X8_order_79 f k2 k24 (en_X8_order_79 p1 h0 a) = md_X8_order_79 p1 h0 f (fun b => k2 (en_X8_order_2 p1 h0 b)) (fun b => k24 (en_X8_order_24 p1 h0 b)) a :=
 (rq_X8_order_79 p1 h0 (rw_X8_order_80 f k2 k24) a).trans (congrFun (congr (rfl : mg_X8_order_79 p1 h0 = mg_X8_order_79 p1 h0) (funext (eq_X8_order_80 p1 h0 f k2 k24))) a)
theorem sd_X8_order_79 (f : Nat) {X : XDyn} {r0 : Rt} (C : XO X mX8_order) {k2 : XK} (q2 : XS X mX8_order r0 2 k2) {k24 : XK} (q24 : XS X mX8_order r0 24 k24) : XS X mX8_order r0 79 (rw_X8_order_79 f k2 k24) := sg_X8_order_79 C (sd_X8_order_80 f C q2 q24)
noncomputable def rw_X8_order_75 (f : Nat) (k2 : XK) (k24 : XK) : XK := rg_X8_order_75 (rw_X8_order_80 f k2 k24)
noncomputable def md_X8_order_75 (p1 : Int) (h0 : Ob) (f : Nat) (k2 : Int → Option Rt) (k24 : (Int × Int × Int) → Option Rt) : Int × Int × Int → Option Rt := mg_X8_order_75 p1 h0 (md_X8_order_80 p1 h0 f k2 k24)
theorem eq_X8_order_75 (p1 : Int) (h0 : Ob) (f : Nat) (k2 : XK) (k24 : XK) (a : Int × Int × Int) : rw_X8_order_75 f k2 k24 (en_X8_order_75 p1 h0 a) = md_X8_order_75 p1 h0 f (fun b => k2 (en_X8_order_2 p1 h0 b)) (fun b => k24 (en_X8_order_24 p1 h0 b)) a :=
 (rq_X8_order_75 p1 h0 (rw_X8_order_80 f k2 k24) a).trans (congrFun (congr (rfl : mg_X8_order_75 p1 h0 = mg_X8_order_75 p1 h0) (funext (eq_X8_order_80 p1 h0 f k2 k24))) a)
theorem sd_X8_order_75 (f : Nat) {X : XDyn} {r0 : Rt} (C : XO X mX8_order) {k2 : XK} (q2 : XS X mX8_order r0 2 k2) {k24 : XK} (q24 : XS X mX8_order r0 24 k24) : XS X mX8_order r0 75 (rw_X8_order_75 f k2 k24) := sg_X8_order_75 C (sd_X8_order_80 f C q2 q24)
noncomputable def rw_X8_order_24 (f : Nat) (k2 : XK) : XK := tlp (fun k24 => rg_X8_order_24 (rw_X8_order_95 f k2) (rw_X8_order_79 f k2 k24) (rw_X8_order_75 f k2 k24)) f
noncomputable def lb_X8_order_24 (p1 : Int) (h0 : Ob) (f : Nat) (k2 : Int → Option Rt) : ((Int × Int × Int) → Option Rt) → Int × Int × Int → Option Rt := fun k24 => mg_X8_order_24 p1 h0 (md_X8_order_95 p1 h0 f k2) (md_X8_order_79 p1 h0 f k2 k24) (md_X8_order_75 p1 h0 f k2 k24)
noncomputable def md_X8_order_24 (p1 : Int) (h0 : Ob) (f : Nat) (k2 : Int → Option Rt) : Int × Int × Int → Option Rt := tlp (lb_X8_order_24 p1 h0 f k2) f
theorem eq_X8_order_24 (p1 : Int) (h0 : Ob) (f : Nat) (k2 : XK) (a : Int × Int × Int) : rw_X8_order_24 f k2 (en_X8_order_24 p1 h0 a) = md_X8_order_24 p1 h0 f (fun b => k2 (en_X8_order_2 p1 h0 b)) a :=
 tlp_enc (en_X8_order_24 p1 h0) (fun k24 a => (rq_X8_order_24 p1 h0 (rw_X8_order_95 f k2) (rw_X8_order_79 f k2 k24) (rw_X8_order_75 f k2 k24) a).trans (congrFun (congr (congr (congr (rfl : mg_X8_order_24 p1 h0 = mg_X8_order_24 p1 h0) (funext (eq_X8_order_95 p1 h0 f k2))) (funext (eq_X8_order_79 p1 h0 f k2 k24))) (funext (eq_X8_order_75 p1 h0 f k2 k24))) a)) f a
theorem sd_X8_order_24 (f : Nat) {X : XDyn} {r0 : Rt} (C : XO X mX8_order) {k2 : XK} (q2 : XS X mX8_order r0 2 k2) : XS X mX8_order r0 24 (rw_X8_order_24 f k2) := s_lp (fun k24 q24 => sg_X8_order_24 C (sd_X8_order_95 f C q2) (sd_X8_order_79 f C q2 q24) (sd_X8_order_75 f C q2 q24)) f
noncomputable def rw_X8_order_2 (f : Nat) : XK := tlp (fun k2 => rg_X8_order_2 (rw_X8_order_24 f k2) (rw_X8_order_95 f k2)) f
noncomputable def lb_X8_order_2 (p1 : Int) (h0 : Ob) (f : Nat) : ((Int) → Option Rt) → Int → Option Rt := fun k2 => mg_X8_order_2 p1 h0 (md_X8_order_24 p1 h0 f k2) (md_X8_order_95 p1 h0 f k2)
noncomputable def md_X8_order_2 (p1 : Int) (h0 : Ob) (f : Nat) : Int → Option Rt := tlp (lb_X8_order_2 p1 h0 f) f
theorem eq_X8_order_2 (p1 : Int) (h0 : Ob) (f : Nat) (a : Int) : rw_X8_order_2 f (en_X8_order_2 p1 h0 a) = md_X8_order_2 p1 h0 f a :=
 tlp_enc (en_X8_order_2 p1 h0) (fun k2 a => (rq_X8_order_2 p1 h0 (rw_X8_order_24 f k2) (rw_X8_order_95 f k2) a).trans (congrFun (congr (congr (rfl : mg_X8_order_2 p1 h0 = mg_X8_order_2 p1 h0) (funext (eq_X8_order_24 p1 h0 f k2))) (funext (eq_X8_order_95 p1 h0 f k2))) a)) f a
theorem sd_X8_order_2 (f : Nat) {X : XDyn} {r0 : Rt} (C : XO X mX8_order) : XS X mX8_order r0 2 (rw_X8_order_2 f) := s_lp (fun k2 q2 => sg_X8_order_2 C (sd_X8_order_24 f C q2) (sd_X8_order_95 f C q2)) f
noncomputable def rw_X8_order_0 (f : Nat) : XK := rg_X8_order_0 (rw_X8_order_2 f)
noncomputable def md_X8_order_0 (p1 : Int) (h0 : Ob) (f : Nat) : Unit → Option Rt := mg_X8_order_0 p1 h0 (md_X8_order_2 p1 h0 f)
theorem eq_X8_order_0 (p1 : Int) (h0 : Ob) (f : Nat) (a : Unit) : rw_X8_order_0 f (en_X8_order_0 p1 h0 a) = md_X8_order_0 p1 h0 f a :=
 (rq_X8_order_0 p1 h0 (rw_X8_order_2 f) a).trans (congrFun (congr (rfl : mg_X8_order_0 p1 h0 = mg_X8_order_0 p1 h0) (funext (eq_X8_order_2 p1 h0 f))) a)
theorem sd_X8_order_0 (f : Nat) {X : XDyn} {r0 : Rt} (C : XO X mX8_order) : XS X mX8_order r0 0 (rw_X8_order_0 f) := sg_X8_order_0 C (sd_X8_order_2 f C)
theorem ctr_X8_order (f : Nat) : XCt yX8_order mX8_order (xF mX8_order (rw_X8_order_0 f)) := xMet (by decide +kernel) rfl (fun _ _ C => sd_X8_order_0 f C)
theorem eqf_X8_order (f : Nat) (p1 : Int) (h0 : Ob) : xF mX8_order (rw_X8_order_0 f) [.inr (.inl (0, 0)), .inl p1] [h0] = md_X8_order_0 p1 h0 f () := eq_X8_order_0 p1 h0 f ()
theorem yi_X8_order : yX8_order.cls = RX8 ∧ yX8_order.cls ≠ "java/lang/invoke/MethodHandle" ∧ yX8_order.cls ≠ "java/lang/invoke/VarHandle" ∧ (parseMethodDescriptor yX8_order.desc).map (fun d => d.parameters.length) = some 1 := ⟨rfl, by decide +kernel, by decide +kernel, by decide +kernel⟩
theorem dX8_isTorn_0 : decode cX8_isTorn 0 = .ok (.iload_n 2, 1) := by decide +kernel
theorem dX8_isTorn_1 : decode cX8_isTorn 1 = .ok (.bipush 64, 2) := by decide +kernel
theorem dX8_isTorn_3 : decode cX8_isTorn 3 = .ok (.idiv, 1) := by decide +kernel
theorem dX8_isTorn_4 : decode cX8_isTorn 4 = .ok (.istore 4, 2) := by decide +kernel
theorem dX8_isTorn_6 : decode cX8_isTorn 6 = .ok (.iload_n 2, 1) := by decide +kernel
theorem dX8_isTorn_7 : decode cX8_isTorn 7 = .ok (.bipush 64, 2) := by decide +kernel
theorem dX8_isTorn_9 : decode cX8_isTorn 9 = .ok (.irem, 1) := by decide +kernel
theorem dX8_isTorn_10 : decode cX8_isTorn 10 = .ok (.istore 5, 2) := by decide +kernel
theorem dX8_isTorn_12 : decode cX8_isTorn 12 = .ok (.iload_n 2, 1) := by decide +kernel
theorem dX8_isTorn_13 : decode cX8_isTorn 13 = .ok (.bipush 64, 2) := by decide +kernel
theorem dX8_isTorn_15 : decode cX8_isTorn 15 = .ok (.if_icmp .lt 16, 3) := by decide +kernel
theorem dX8_isTorn_18 : decode cX8_isTorn 18 = .ok (.iload 4, 2) := by decide +kernel
theorem dX8_isTorn_20 : decode cX8_isTorn 20 = .ok (.aload_n 0, 1) := by decide +kernel
theorem dX8_isTorn_21 : decode cX8_isTorn 21 = .ok (.getfield 7, 3) := by decide +kernel
theorem dX8_isTorn_24 : decode cX8_isTorn 24 = .ok (.iconst 0, 1) := by decide +kernel
theorem dX8_isTorn_25 : decode cX8_isTorn 25 = .ok (.iaload, 1) := by decide +kernel
theorem dX8_isTorn_26 : decode cX8_isTorn 26 = .ok (.iload_n 1, 1) := by decide +kernel
theorem dX8_isTorn_27 : decode cX8_isTorn 27 = .ok (.isub, 1) := by decide +kernel
theorem dX8_isTorn_28 : decode cX8_isTorn 28 = .ok (.if_icmp .le 5, 3) := by decide +kernel
theorem dX8_isTorn_31 : decode cX8_isTorn 31 = .ok (.iconst 1, 1) := by decide +kernel
theorem dX8_isTorn_32 : decode cX8_isTorn 32 = .ok (.ireturn, 1) := by decide +kernel
theorem dX8_isTorn_33 : decode cX8_isTorn 33 = .ok (.iload 5, 2) := by decide +kernel
theorem dX8_isTorn_35 : decode cX8_isTorn 35 = .ok (.ifCond .ne 5, 3) := by decide +kernel
theorem dX8_isTorn_38 : decode cX8_isTorn 38 = .ok (.iload_n 3, 1) := by decide +kernel
theorem dX8_isTorn_39 : decode cX8_isTorn 39 = .ok (.ireturn, 1) := by decide +kernel
theorem dX8_isTorn_40 : decode cX8_isTorn 40 = .ok (.iload 5, 2) := by decide +kernel
theorem dX8_isTorn_42 : decode cX8_isTorn 42 = .ok (.bipush 8, 2) := by decide +kernel
theorem dX8_isTorn_44 : decode cX8_isTorn 44 = .ok (.if_icmp .gt 49, 3) := by decide +kernel
theorem dX8_isTorn_47 : decode cX8_isTorn 47 = .ok (.aload_n 0, 1) := by decide +kernel
theorem dX8_isTorn_48 : decode cX8_isTorn 48 = .ok (.iload 5, 2) := by decide +kernel
theorem dX8_isTorn_50 : decode cX8_isTorn 50 = .ok (.iconst 1, 1) := by decide +kernel
theorem dX8_isTorn_51 : decode cX8_isTorn 51 = .ok (.isub, 1) := by decide +kernel
theorem dX8_isTorn_52 : decode cX8_isTorn 52 = .ok (.invokevirtual 83, 3) := by decide +kernel
theorem dX8_isTorn_55 : decode cX8_isTorn 55 = .ok (.ifCond .eq 32, 3) := by decide +kernel
theorem dX8_isTorn_58 : decode cX8_isTorn 58 = .ok (.aload_n 0, 1) := by decide +kernel
theorem dX8_isTorn_59 : decode cX8_isTorn 59 = .ok (.getfield 7, 3) := by decide +kernel
theorem dX8_isTorn_62 : decode cX8_isTorn 62 = .ok (.bipush 13, 2) := by decide +kernel
theorem dX8_isTorn_64 : decode cX8_isTorn 64 = .ok (.iload 5, 2) := by decide +kernel
theorem dX8_isTorn_66 : decode cX8_isTorn 66 = .ok (.iadd, 1) := by decide +kernel
theorem dX8_isTorn_67 : decode cX8_isTorn 67 = .ok (.iconst 1, 1) := by decide +kernel
theorem dX8_isTorn_68 : decode cX8_isTorn 68 = .ok (.isub, 1) := by decide +kernel
theorem dX8_isTorn_69 : decode cX8_isTorn 69 = .ok (.iaload, 1) := by decide +kernel
theorem dX8_isTorn_70 : decode cX8_isTorn 70 = .ok (.iload_n 1, 1) := by decide +kernel
theorem dX8_isTorn_71 : decode cX8_isTorn 71 = .ok (.if_icmp .ne 16, 3) := by decide +kernel
theorem dX8_isTorn_74 : decode cX8_isTorn 74 = .ok (.aload_n 0, 1) := by decide +kernel
theorem dX8_isTorn_75 : decode cX8_isTorn 75 = .ok (.iload 5, 2) := by decide +kernel
theorem dX8_isTorn_77 : decode cX8_isTorn 77 = .ok (.iconst 1, 1) := by decide +kernel
theorem dX8_isTorn_78 : decode cX8_isTorn 78 = .ok (.isub, 1) := by decide +kernel
theorem dX8_isTorn_79 : decode cX8_isTorn 79 = .ok (.invokevirtual 93, 3) := by decide +kernel
theorem dX8_isTorn_82 : decode cX8_isTorn 82 = .ok (.iload 4, 2) := by decide +kernel
theorem dX8_isTorn_84 : decode cX8_isTorn 84 = .ok (.if_icmp .eq 7, 3) := by decide +kernel
theorem dX8_isTorn_87 : decode cX8_isTorn 87 = .ok (.iconst 1, 1) := by decide +kernel
theorem dX8_isTorn_88 : decode cX8_isTorn 88 = .ok (.goto 4, 3) := by decide +kernel
theorem dX8_isTorn_91 : decode cX8_isTorn 91 = .ok (.iconst 0, 1) := by decide +kernel
theorem dX8_isTorn_92 : decode cX8_isTorn 92 = .ok (.ireturn, 1) := by decide +kernel
theorem dX8_isTorn_93 : decode cX8_isTorn 93 = .ok (.aload_n 0, 1) := by decide +kernel
theorem dX8_isTorn_94 : decode cX8_isTorn 94 = .ok (.iload 5, 2) := by decide +kernel
theorem dX8_isTorn_96 : decode cX8_isTorn 96 = .ok (.bipush 33, 2) := by decide +kernel
theorem dX8_isTorn_98 : decode cX8_isTorn 98 = .ok (.isub, 1) := by decide +kernel
theorem dX8_isTorn_99 : decode cX8_isTorn 99 = .ok (.invokevirtual 97, 3) := by decide +kernel
theorem dX8_isTorn_102 : decode cX8_isTorn 102 = .ok (.ifCond .eq 40, 3) := by decide +kernel
theorem dX8_isTorn_105 : decode cX8_isTorn 105 = .ok (.aload_n 0, 1) := by decide +kernel
theorem dX8_isTorn_106 : decode cX8_isTorn 106 = .ok (.getfield 7, 3) := by decide +kernel
theorem dX8_isTorn_109 : decode cX8_isTorn 109 = .ok (.bipush 72, 2) := by decide +kernel
theorem dX8_isTorn_111 : decode cX8_isTorn 111 = .ok (.iload 5, 2) := by decide +kernel
theorem dX8_isTorn_113 : decode cX8_isTorn 113 = .ok (.iadd, 1) := by decide +kernel
theorem dX8_isTorn_114 : decode cX8_isTorn 114 = .ok (.bipush 33, 2) := by decide +kernel
theorem dX8_isTorn_116 : decode cX8_isTorn 116 = .ok (.isub, 1) := by decide +kernel
theorem dX8_isTorn_117 : decode cX8_isTorn 117 = .ok (.iaload, 1) := by decide +kernel
theorem dX8_isTorn_118 : decode cX8_isTorn 118 = .ok (.iload_n 1, 1) := by decide +kernel
theorem dX8_isTorn_119 : decode cX8_isTorn 119 = .ok (.if_icmp .ne 23, 3) := by decide +kernel
theorem dX8_isTorn_122 : decode cX8_isTorn 122 = .ok (.aload_n 0, 1) := by decide +kernel
theorem dX8_isTorn_123 : decode cX8_isTorn 123 = .ok (.getfield 7, 3) := by decide +kernel
theorem dX8_isTorn_126 : decode cX8_isTorn 126 = .ok (.bipush 69, 2) := by decide +kernel
theorem dX8_isTorn_128 : decode cX8_isTorn 128 = .ok (.iload 5, 2) := by decide +kernel
theorem dX8_isTorn_130 : decode cX8_isTorn 130 = .ok (.iadd, 1) := by decide +kernel
theorem dX8_isTorn_131 : decode cX8_isTorn 131 = .ok (.bipush 33, 2) := by decide +kernel
theorem dX8_isTorn_133 : decode cX8_isTorn 133 = .ok (.isub, 1) := by decide +kernel
theorem dX8_isTorn_134 : decode cX8_isTorn 134 = .ok (.iaload, 1) := by decide +kernel
theorem dX8_isTorn_135 : decode cX8_isTorn 135 = .ok (.iconst 1, 1) := by decide +kernel
theorem dX8_isTorn_136 : decode cX8_isTorn 136 = .ok (.iadd, 1) := by decide +kernel
theorem dX8_isTorn_137 : decode cX8_isTorn 137 = .ok (.iload 4, 2) := by decide +kernel
theorem dX8_isTorn_139 : decode cX8_isTorn 139 = .ok (.if_icmp .eq 7, 3) := by decide +kernel
theorem dX8_isTorn_142 : decode cX8_isTorn 142 = .ok (.iconst 1, 1) := by decide +kernel
theorem dX8_isTorn_143 : decode cX8_isTorn 143 = .ok (.goto 4, 3) := by decide +kernel
theorem dX8_isTorn_146 : decode cX8_isTorn 146 = .ok (.iconst 0, 1) := by decide +kernel
theorem dX8_isTorn_147 : decode cX8_isTorn 147 = .ok (.ireturn, 1) := by decide +kernel
abbrev mX8_isTorn : XM := (cX8_isTorn, 6, RX8, (some .boolean), shw_8, 2)
noncomputable def rg_X8_isTorn_0 : XK :=
 o_iload 2 <|
 o_iconst 64 <|
 o_idiv <|
 o_istore 4 <|
 o_iload 2 <|
 o_iconst 64 <|
 o_irem <|
 o_istore 5 <|
 o_iload 2 <|
 o_iconst 64 <|
 o_icmp_lt (o_iconst 1 <|
 o_zreturn)
 (o_iload 4 <|
 o_aload 0 <|
 o_get shw_8 8 0 <|
 o_iconst 0 <|
 o_iald shw_8 <|
 o_iload 1 <|
 o_isub <|
 o_icmp_le (o_iload 5 <|
 o_if_ne (o_iload 5 <|
 o_iconst 8 <|
 o_icmp_gt (o_aload 0 <|
 o_iload 5 <|
 o_iconst 33 <|
 o_isub <|
 o_callV 2 1 [0] f_X8_isIsland <|
 o_if_eq (o_iconst 1 <|
 o_zreturn)
 (o_aload 0 <|
 o_get shw_8 8 0 <|
 o_iconst 72 <|
 o_iload 5 <|
 o_iadd <|
 o_iconst 33 <|
 o_isub <|
 o_iald shw_8 <|
 o_iload 1 <|
 o_icmp_ne (o_iconst 1 <|
 o_zreturn)
 (o_aload 0 <|
 o_get shw_8 8 0 <|
 o_iconst 69 <|
 o_iload 5 <|
 o_iadd <|
 o_iconst 33 <|
 o_isub <|
 o_iald shw_8 <|
 o_iconst 1 <|
 o_iadd <|
 o_iload 4 <|
 o_icmp_eq (o_iconst 0 <|
 o_zreturn)
 (o_iconst 1 <|
 o_zreturn))))
 (o_aload 0 <|
 o_iload 5 <|
 o_iconst 1 <|
 o_isub <|
 o_callV 2 1 [0] f_X8_isFull <|
 o_if_eq (o_iconst 1 <|
 o_zreturn)
 (o_aload 0 <|
 o_get shw_8 8 0 <|
 o_iconst 13 <|
 o_iload 5 <|
 o_iadd <|
 o_iconst 1 <|
 o_isub <|
 o_iald shw_8 <|
 o_iload 1 <|
 o_icmp_ne (o_iconst 1 <|
 o_zreturn)
 (o_aload 0 <|
 o_iload 5 <|
 o_iconst 1 <|
 o_isub <|
 o_callVg 2 1 [0] g_X8_lengthOf v_X8_lengthOf <|
 o_iload 4 <|
 o_icmp_eq (o_iconst 0 <|
 o_zreturn)
 (o_iconst 1 <|
 o_zreturn)))))
 (o_iload 3 <|
 o_zreturn))
 (o_iconst 1 <|
 o_zreturn))
def en_X8_isTorn_0 (p1 : Int) (p2 : Int) (p3 : Int) (h0 : Ob) (a : Unit) : XSt := ([some (.inr (.inl (0, 0))), some (.inl p1), some (.inl p2), some (.inl p3), none, none], [], [h0])
noncomputable def mg_X8_isTorn_0 (p1 : Int) (p2 : Int) (p3 : Int) (h0 : Ob) (a : Unit) : Option Rt :=
 if xw p2 < 64 then (RI 1 [h0])
 else (if xw (xdiv p2 64) ≤ xw ((h0 1 0) - p1) then (if xw (xrem p2 64) = 0 then (if xb p3 then RI p3 [h0] else none)
 else (if xw (xrem p2 64) > 8 then (if xw (bz (islM h0 ((xrem p2 64) - 33))) = 0 then (RI 1 [h0])
 else (if xin ((72 + (xrem p2 64)) - 33) 735 then (
 if xw (h0 1 (xw ((72 + (xrem p2 64)) - 33)).toNat) = xw p1 then (if xin ((69 + (xrem p2 64)) - 33) 735 then (
 if xw ((h0 1 (xw ((69 + (xrem p2 64)) - 33)).toNat) + 1) = xw (xdiv p2 64) then (RI 0 [h0])
 else (RI 1 [h0])) else none)
 else (RI 1 [h0])) else none))
 else (if xw (bz (fulM h0 ((xrem p2 64) - 1))) = 0 then (RI 1 [h0])
 else (if xin ((13 + (xrem p2 64)) - 1) 735 then (
 if xw (h0 1 (xw ((13 + (xrem p2 64)) - 1)).toNat) = xw p1 then (if hdl ((xrem p2 64) - 1) then (
 if xw (lenM h0 ((xrem p2 64) - 1)) = xw (xdiv p2 64) then (RI 0 [h0])
 else (RI 1 [h0])) else none)
 else (RI 1 [h0])) else none))))
 else (RI 1 [h0]))
set_option maxRecDepth 100000 in
set_option maxHeartbeats 4000000 in
theorem rq_X8_isTorn_0 (p1 : Int) (p2 : Int) (p3 : Int) (h0 : Ob) (a : Unit) : rg_X8_isTorn_0 (en_X8_isTorn_0 p1 p2 p3 h0 a) = mg_X8_isTorn_0 p1 p2 p3 h0 a := rfl
set_option maxRecDepth 100000 in
set_option maxHeartbeats 4000000 in
theorem sg_X8_isTorn_0 {X : XDyn} {r0 : Rt} (C : XO X mX8_isTorn) : XS X mX8_isTorn r0 0 (rg_X8_isTorn_0) := by
 unfold rg_X8_isTorn_0
 exact s_iload_n (pc := 0) C dX8_isTorn_0 rfl <|
    s_bipush (pc := 1) C dX8_isTorn_1 (by decide) <|
    s_idiv (pc := 3) C dX8_isTorn_3 <|
    s_istore (pc := 4) C dX8_isTorn_4 <|
    s_iload_n (pc := 6) C dX8_isTorn_6 rfl <|
    s_bipush (pc := 7) C dX8_isTorn_7 (by decide) <|
    s_irem (pc := 9) C dX8_isTorn_9 <|
    s_istore (pc := 10) C dX8_isTorn_10 <|
    s_iload_n (pc := 12) C dX8_isTorn_12 rfl <|
    s_bipush (pc := 13) C dX8_isTorn_13 (by decide) <|
    s_icmp_lt (pc := 15) C dX8_isTorn_15 (by decide) (s_iconst (pc := 31) C dX8_isTorn_31 <|
    s_zreturn (pc := 32) C rfl dX8_isTorn_32)
    (s_iload (pc := 18) C dX8_isTorn_18 <|
    s_aload_n (pc := 20) C dX8_isTorn_20 rfl <|
    s_get (pc := 21) C (ci := 8) (kf := 0) rfl inX8 (by decide) wd_871 dX8_isTorn_21 <|
    s_iconst (pc := 24) C dX8_isTorn_24 <|
    s_iald (pc := 25) C dX8_isTorn_25 <|
    s_iload_n (pc := 26) C dX8_isTorn_26 rfl <|
    s_isub (pc := 27) C dX8_isTorn_27 <|
    s_icmp_le (pc := 28) C dX8_isTorn_28 (by decide) (s_iload (pc := 33) C dX8_isTorn_33 <|
    s_if_ne (pc := 35) C dX8_isTorn_35 (by decide) (s_iload (pc := 40) C dX8_isTorn_40 <|
    s_bipush (pc := 42) C dX8_isTorn_42 (by decide) <|
    s_icmp_gt (pc := 44) C dX8_isTorn_44 (by decide) (s_aload_n (pc := 93) C dX8_isTorn_93 rfl <|
    s_iload (pc := 94) C dX8_isTorn_94 <|
    s_bipush (pc := 96) C dX8_isTorn_96 (by decide) <|
    s_isub (pc := 98) C dX8_isTorn_98 <|
    s_callV (pc := 99) C ct_X8_isIsland (n := 2) (rk := 1) (mp := [0]) ⟨rfl, by decide, rfl⟩ (ci := 8) rfl rfl (by decide) (by decide) yi_X8_isIsland (by decide) wd_998 wd_1000 wd_26 wd_81 wd_1001 dX8_isTorn_99 <|
    s_if_eq (pc := 102) C dX8_isTorn_102 (by decide) (s_iconst (pc := 142) C dX8_isTorn_142 <|
    s_goto (pc := 143) C dX8_isTorn_143 (by decide) <|
    s_zreturn (pc := 147) C rfl dX8_isTorn_147)
    (s_aload_n (pc := 105) C dX8_isTorn_105 rfl <|
    s_get (pc := 106) C (ci := 8) (kf := 0) rfl inX8 (by decide) wd_871 dX8_isTorn_106 <|
    s_bipush (pc := 109) C dX8_isTorn_109 (by decide) <|
    s_iload (pc := 111) C dX8_isTorn_111 <|
    s_iadd (pc := 113) C dX8_isTorn_113 <|
    s_bipush (pc := 114) C dX8_isTorn_114 (by decide) <|
    s_isub (pc := 116) C dX8_isTorn_116 <|
    s_iald (pc := 117) C dX8_isTorn_117 <|
    s_iload_n (pc := 118) C dX8_isTorn_118 rfl <|
    s_icmp_ne (pc := 119) C dX8_isTorn_119 (by decide) (s_iconst (pc := 142) C dX8_isTorn_142 <|
    s_goto (pc := 143) C dX8_isTorn_143 (by decide) <|
    s_zreturn (pc := 147) C rfl dX8_isTorn_147)
    (s_aload_n (pc := 122) C dX8_isTorn_122 rfl <|
    s_get (pc := 123) C (ci := 8) (kf := 0) rfl inX8 (by decide) wd_871 dX8_isTorn_123 <|
    s_bipush (pc := 126) C dX8_isTorn_126 (by decide) <|
    s_iload (pc := 128) C dX8_isTorn_128 <|
    s_iadd (pc := 130) C dX8_isTorn_130 <|
    s_bipush (pc := 131) C dX8_isTorn_131 (by decide) <|
    s_isub (pc := 133) C dX8_isTorn_133 <|
    s_iald (pc := 134) C dX8_isTorn_134 <|
    s_iconst (pc := 135) C dX8_isTorn_135 <|
    s_iadd (pc := 136) C dX8_isTorn_136 <|
    s_iload (pc := 137) C dX8_isTorn_137 <|
    s_icmp_eq (pc := 139) C dX8_isTorn_139 (by decide) (s_iconst (pc := 146) C dX8_isTorn_146 <|
    s_zreturn (pc := 147) C rfl dX8_isTorn_147)
    (s_iconst (pc := 142) C dX8_isTorn_142 <|
    s_goto (pc := 143) C dX8_isTorn_143 (by decide) <|
    s_zreturn (pc := 147) C rfl dX8_isTorn_147))))
    (s_aload_n (pc := 47) C dX8_isTorn_47 rfl <|
    s_iload (pc := 48) C dX8_isTorn_48 <|
    s_iconst (pc := 50) C dX8_isTorn_50 <|
    s_isub (pc := 51) C dX8_isTorn_51 <|
    s_callV (pc := 52) C ct_X8_isFull (n := 2) (rk := 1) (mp := [0]) ⟨rfl, by decide, rfl⟩ (ci := 8) rfl rfl (by decide) (by decide) yi_X8_isFull (by decide) wd_987 wd_989 wd_24 wd_81 wd_990 dX8_isTorn_52 <|
    s_if_eq (pc := 55) C dX8_isTorn_55 (by decide) (s_iconst (pc := 87) C dX8_isTorn_87 <|
    s_goto (pc := 88) C dX8_isTorn_88 (by decide) <|
    s_zreturn (pc := 92) C rfl dX8_isTorn_92)
    (s_aload_n (pc := 58) C dX8_isTorn_58 rfl <|
    s_get (pc := 59) C (ci := 8) (kf := 0) rfl inX8 (by decide) wd_871 dX8_isTorn_59 <|
    s_bipush (pc := 62) C dX8_isTorn_62 (by decide) <|
    s_iload (pc := 64) C dX8_isTorn_64 <|
    s_iadd (pc := 66) C dX8_isTorn_66 <|
    s_iconst (pc := 67) C dX8_isTorn_67 <|
    s_isub (pc := 68) C dX8_isTorn_68 <|
    s_iald (pc := 69) C dX8_isTorn_69 <|
    s_iload_n (pc := 70) C dX8_isTorn_70 rfl <|
    s_icmp_ne (pc := 71) C dX8_isTorn_71 (by decide) (s_iconst (pc := 87) C dX8_isTorn_87 <|
    s_goto (pc := 88) C dX8_isTorn_88 (by decide) <|
    s_zreturn (pc := 92) C rfl dX8_isTorn_92)
    (s_aload_n (pc := 74) C dX8_isTorn_74 rfl <|
    s_iload (pc := 75) C dX8_isTorn_75 <|
    s_iconst (pc := 77) C dX8_isTorn_77 <|
    s_isub (pc := 78) C dX8_isTorn_78 <|
    s_callVg (pc := 79) C ct_X8_lengthOf (n := 2) (rk := 1) (mp := [0]) ⟨rfl, by decide, rfl⟩ (ci := 8) rfl rfl (by decide) (by decide) yi_X8_lengthOf (by decide) wd_994 wd_996 wd_25 wd_81 wd_997 dX8_isTorn_79 <|
    s_iload (pc := 82) C dX8_isTorn_82 <|
    s_icmp_eq (pc := 84) C dX8_isTorn_84 (by decide) (s_iconst (pc := 91) C dX8_isTorn_91 <|
    s_zreturn (pc := 92) C rfl dX8_isTorn_92)
    (s_iconst (pc := 87) C dX8_isTorn_87 <|
    s_goto (pc := 88) C dX8_isTorn_88 (by decide) <|
    s_zreturn (pc := 92) C rfl dX8_isTorn_92)))))
    (s_iload_n (pc := 38) C dX8_isTorn_38 rfl <|
    s_zreturn (pc := 39) C rfl dX8_isTorn_39))
    (s_iconst (pc := 31) C dX8_isTorn_31 <|
    s_zreturn (pc := 32) C rfl dX8_isTorn_32))
noncomputable def rw_X8_isTorn_0 : XK := rg_X8_isTorn_0
noncomputable def md_X8_isTorn_0 (p1 : Int) (p2 : Int) (p3 : Int) (h0 : Ob) : Unit → Option Rt := mg_X8_isTorn_0 p1 p2 p3 h0
theorem eq_X8_isTorn_0 (p1 : Int) (p2 : Int) (p3 : Int) (h0 : Ob) (a : Unit) : rw_X8_isTorn_0 (en_X8_isTorn_0 p1 p2 p3 h0 a) = md_X8_isTorn_0 p1 p2 p3 h0 a :=
 rq_X8_isTorn_0 p1 p2 p3 h0 a
theorem sd_X8_isTorn_0 {X : XDyn} {r0 : Rt} (C : XO X mX8_isTorn) : XS X mX8_isTorn r0 0 (rw_X8_isTorn_0) := sg_X8_isTorn_0 C
theorem ctr_X8_isTorn : XCt yX8_isTorn mX8_isTorn (xF mX8_isTorn (rw_X8_isTorn_0)) := xMet (by decide +kernel) rfl (fun _ _ C => sd_X8_isTorn_0 C)
theorem eqf_X8_isTorn (p1 : Int) (p2 : Int) (p3 : Int) (h0 : Ob) : xF mX8_isTorn (rw_X8_isTorn_0) [.inr (.inl (0, 0)), .inl p1, .inl p2, .inl p3] [h0] = md_X8_isTorn_0 p1 p2 p3 h0 () := eq_X8_isTorn_0 p1 p2 p3 h0 ()
theorem yi_X8_isTorn : yX8_isTorn.cls = RX8 ∧ yX8_isTorn.cls ≠ "java/lang/invoke/MethodHandle" ∧ yX8_isTorn.cls ≠ "java/lang/invoke/VarHandle" ∧ (parseMethodDescriptor yX8_isTorn.desc).map (fun d => d.parameters.length) = some 3 := ⟨rfl, by decide +kernel, by decide +kernel, by decide +kernel⟩
noncomputable def ov_X8_isTorn (p1 p2 p3 : Int) (h0 : Ob) : Option Rt := xop (md_X8_isTorn_0 p1 p2 p3 h0 ())
theorem ov_X8_isTorn_e (p1 p2 p3 : Int) (h0 : Ob) : ov_X8_isTorn p1 p2 p3 h0 = md_X8_isTorn_0 p1 p2 p3 h0 () := xop_eq _
theorem sp_X8_isTorn (p1 p2 p3 : Int) (h0 : Ob) (hg : pd (ov_X8_isTorn p1 p2 p3 h0 = RI (oqR (ov_X8_isTorn p1 p2 p3 h0)) [h0]) = true) : md_X8_isTorn_0 p1 p2 p3 h0 () = RI (oqR (ov_X8_isTorn p1 p2 p3 h0)) [h0] := (ov_X8_isTorn_e p1 p2 p3 h0).symm.trans (pd_of hg)
noncomputable def g_X8_isTorn : List AV → List Ob → Bool
  | [.inr (.inl (0, 0)), .inl p1, .inl p2, .inl p3], [h0] => pd (ov_X8_isTorn p1 p2 p3 h0 = RI (oqR (ov_X8_isTorn p1 p2 p3 h0)) [h0])
  | _, _ => false
noncomputable def v_X8_isTorn : List AV → List Ob → Rt
  | [.inr (.inl (0, 0)), .inl p1, .inl p2, .inl p3], [h0] => (some (.inl (oqR (ov_X8_isTorn p1 p2 p3 h0))), [h0])
  | _, _ => (none, [])
theorem ct_X8_isTorn : XCt yX8_isTorn mX8_isTorn (fun as μ => if g_X8_isTorn as μ then some (v_X8_isTorn as μ) else none) := (ctr_X8_isTorn ).of (fun as μ r h => by
  split at h
  · rename_i hg
    unfold g_X8_isTorn at hg
    split at hg
    · rw [← h]
      exact (eqf_X8_isTorn _ _ _ _).trans (sp_X8_isTorn _ _ _ _ hg)
    · cases hg
  · cases h)
theorem dX8_torn_0 : decode cX8_torn 0 = .ok (.iload_n 1, 1) := by decide +kernel
theorem dX8_torn_1 : decode cX8_torn 1 = .ok (.i2l, 1) := by decide +kernel
theorem dX8_torn_2 : decode cX8_torn 2 = .ok (.lconst 0, 1) := by decide +kernel
theorem dX8_torn_3 : decode cX8_torn 3 = .ok (.aload_n 0, 1) := by decide +kernel
theorem dX8_torn_4 : decode cX8_torn 4 = .ok (.getfield 7, 3) := by decide +kernel
theorem dX8_torn_7 : decode cX8_torn 7 = .ok (.iconst 0, 1) := by decide +kernel
theorem dX8_torn_8 : decode cX8_torn 8 = .ok (.iaload, 1) := by decide +kernel
theorem dX8_torn_9 : decode cX8_torn 9 = .ok (.iconst 1, 1) := by decide +kernel
theorem dX8_torn_10 : decode cX8_torn 10 = .ok (.isub, 1) := by decide +kernel
theorem dX8_torn_11 : decode cX8_torn 11 = .ok (.i2l, 1) := by decide +kernel
theorem dX8_torn_12 : decode cX8_torn 12 = .ok (.invokestatic 75, 3) := by decide +kernel
theorem dX8_torn_15 : decode cX8_torn 15 = .ok (.ifCond .ne 6, 3) := by decide +kernel
theorem dX8_torn_18 : decode cX8_torn 18 = .ok (.bipush (-2), 2) := by decide +kernel
theorem dX8_torn_20 : decode cX8_torn 20 = .ok (.ireturn, 1) := by decide +kernel
theorem dX8_torn_21 : decode cX8_torn 21 = .ok (.aload_n 0, 1) := by decide +kernel
theorem dX8_torn_22 : decode cX8_torn 22 = .ok (.invokevirtual 109, 3) := by decide +kernel
theorem dX8_torn_25 : decode cX8_torn 25 = .ok (.iconst 0, 1) := by decide +kernel
theorem dX8_torn_26 : decode cX8_torn 26 = .ok (.istore_n 3, 1) := by decide +kernel
theorem dX8_torn_27 : decode cX8_torn 27 = .ok (.iconst 0, 1) := by decide +kernel
theorem dX8_torn_28 : decode cX8_torn 28 = .ok (.istore 4, 2) := by decide +kernel
theorem dX8_torn_30 : decode cX8_torn 30 = .ok (.iload 4, 2) := by decide +kernel
theorem dX8_torn_32 : decode cX8_torn 32 = .ok (.aload_n 0, 1) := by decide +kernel
theorem dX8_torn_33 : decode cX8_torn 33 = .ok (.getfield 7, 3) := by decide +kernel
theorem dX8_torn_36 : decode cX8_torn 36 = .ok (.iconst 0, 1) := by decide +kernel
theorem dX8_torn_37 : decode cX8_torn 37 = .ok (.iaload, 1) := by decide +kernel
theorem dX8_torn_38 : decode cX8_torn 38 = .ok (.if_icmp .ge 63, 3) := by decide +kernel
theorem dX8_torn_41 : decode cX8_torn 41 = .ok (.iload 4, 2) := by decide +kernel
theorem dX8_torn_43 : decode cX8_torn 43 = .ok (.iload_n 1, 1) := by decide +kernel
theorem dX8_torn_44 : decode cX8_torn 44 = .ok (.if_icmp .ne 7, 3) := by decide +kernel
theorem dX8_torn_47 : decode cX8_torn 47 = .ok (.iload_n 2, 1) := by decide +kernel
theorem dX8_torn_48 : decode cX8_torn 48 = .ok (.goto 9, 3) := by decide +kernel
theorem dX8_torn_51 : decode cX8_torn 51 = .ok (.aload_n 0, 1) := by decide +kernel
theorem dX8_torn_52 : decode cX8_torn 52 = .ok (.iload 4, 2) := by decide +kernel
theorem dX8_torn_54 : decode cX8_torn 54 = .ok (.invokevirtual 257, 3) := by decide +kernel
theorem dX8_torn_57 : decode cX8_torn 57 = .ok (.istore 5, 2) := by decide +kernel
theorem dX8_torn_59 : decode cX8_torn 59 = .ok (.aload_n 0, 1) := by decide +kernel
theorem dX8_torn_60 : decode cX8_torn 60 = .ok (.iload 4, 2) := by decide +kernel
theorem dX8_torn_62 : decode cX8_torn 62 = .ok (.iload 5, 2) := by decide +kernel
theorem dX8_torn_64 : decode cX8_torn 64 = .ok (.iload_n 3, 1) := by decide +kernel
theorem dX8_torn_65 : decode cX8_torn 65 = .ok (.invokevirtual 284, 3) := by decide +kernel
theorem dX8_torn_68 : decode cX8_torn 68 = .ok (.ifCond .eq 6, 3) := by decide +kernel
theorem dX8_torn_71 : decode cX8_torn 71 = .ok (.iload 4, 2) := by decide +kernel
theorem dX8_torn_73 : decode cX8_torn 73 = .ok (.ireturn, 1) := by decide +kernel
theorem dX8_torn_74 : decode cX8_torn 74 = .ok (.iload 5, 2) := by decide +kernel
theorem dX8_torn_76 : decode cX8_torn 76 = .ok (.bipush 64, 2) := by decide +kernel
theorem dX8_torn_78 : decode cX8_torn 78 = .ok (.irem, 1) := by decide +kernel
theorem dX8_torn_79 : decode cX8_torn 79 = .ok (.ifCond .ne 7, 3) := by decide +kernel
theorem dX8_torn_82 : decode cX8_torn 82 = .ok (.iconst 1, 1) := by decide +kernel
theorem dX8_torn_83 : decode cX8_torn 83 = .ok (.goto 4, 3) := by decide +kernel
theorem dX8_torn_86 : decode cX8_torn 86 = .ok (.iconst 0, 1) := by decide +kernel
theorem dX8_torn_87 : decode cX8_torn 87 = .ok (.istore_n 3, 1) := by decide +kernel
theorem dX8_torn_88 : decode cX8_torn 88 = .ok (.iload 4, 2) := by decide +kernel
theorem dX8_torn_90 : decode cX8_torn 90 = .ok (.iload 5, 2) := by decide +kernel
theorem dX8_torn_92 : decode cX8_torn 92 = .ok (.bipush 64, 2) := by decide +kernel
theorem dX8_torn_94 : decode cX8_torn 94 = .ok (.idiv, 1) := by decide +kernel
theorem dX8_torn_95 : decode cX8_torn 95 = .ok (.iadd, 1) := by decide +kernel
theorem dX8_torn_96 : decode cX8_torn 96 = .ok (.istore 4, 2) := by decide +kernel
theorem dX8_torn_98 : decode cX8_torn 98 = .ok (.goto (-68), 3) := by decide +kernel
theorem dX8_torn_101 : decode cX8_torn 101 = .ok (.iconst (-1), 1) := by decide +kernel
theorem dX8_torn_102 : decode cX8_torn 102 = .ok (.ireturn, 1) := by decide +kernel
abbrev mX8_torn : XM := (cX8_torn, 6, RX8, (some .int), shw_8, 3)
noncomputable def rg_X8_torn_0 (k30 : XK) : XK :=
 o_iload 1 <|
 o_i2l <|
 o_lconst 0 <|
 o_aload 0 <|
 o_get shw_8 8 0 <|
 o_iconst 0 <|
 o_iald shw_8 <|
 o_iconst 1 <|
 o_isub <|
 o_i2l <|
 o_callSg 3 1 [] g_X8_in v_X8_in <|
 o_if_ne (o_aload 0 <|
 o_callVg 1 0 [0] g_X8_fillsOwners v_X8_fillsOwners <|
 o_iconst 0 <|
 o_istore 3 <|
 o_iconst 0 <|
 o_istore 4 <|
 o_cut [] k30)
 (o_iconst (-2) <|
 o_ireturn)
def en_X8_torn_0 (p1 : Int) (p2 : Int) (a : Ob) : XSt := ([some (.inr (.inl (0, 0))), some (.inl p1), some (.inl p2), none, none, none], [], [a])
noncomputable def rg_X8_torn_30 (k57 : XK) : XK :=
 o_iload 4 <|
 o_aload 0 <|
 o_get shw_8 8 0 <|
 o_iconst 0 <|
 o_iald shw_8 <|
 o_icmp_ge (o_iconst (-1) <|
 o_ireturn)
 (o_iload 4 <|
 o_iload 1 <|
 o_icmp_ne (o_aload 0 <|
 o_iload 4 <|
 o_callVg 2 1 [0] g_X8_cellAt v_X8_cellAt <|
 o_cut [] k57)
 (o_iload 2 <|
 o_cut [] k57))
def en_X8_torn_30 (p1 : Int) (p2 : Int) (a : Int × Int × Ob) : XSt := ([some (.inr (.inl (0, 0))), some (.inl p1), some (.inl p2), some (.inl a.1), some (.inl a.2.1), none], [], [a.2.2])
noncomputable def rg_X8_torn_57 (k87 : XK) : XK :=
 o_istore 5 <|
 o_aload 0 <|
 o_iload 4 <|
 o_iload 5 <|
 o_iload 3 <|
 o_callVg 4 1 [0] g_X8_isTorn v_X8_isTorn <|
 o_if_eq (o_iload 5 <|
 o_iconst 64 <|
 o_irem <|
 o_if_ne (o_iconst 0 <|
 o_cut [3] k87)
 (o_iconst 1 <|
 o_cut [3] k87))
 (o_iload 4 <|
 o_ireturn)
def en_X8_torn_57 (p1 : Int) (p2 : Int) (a : Int × Int × Int × Ob) : XSt := ([some (.inr (.inl (0, 0))), some (.inl p1), some (.inl p2), some (.inl a.1), some (.inl a.2.1), none], [.inl a.2.2.1], [a.2.2.2])
noncomputable def rg_X8_torn_87 (k30 : XK) : XK :=
 o_istore 3 <|
 o_iload 4 <|
 o_iload 5 <|
 o_iconst 64 <|
 o_idiv <|
 o_iadd <|
 o_istore 4 <|
 o_cut [5] k30
def en_X8_torn_87 (p1 : Int) (p2 : Int) (a : Int × Int × Int × Ob) : XSt := ([some (.inr (.inl (0, 0))), some (.inl p1), some (.inl p2), none, some (.inl a.1), some (.inl a.2.1)], [.inl a.2.2.1], [a.2.2.2])
noncomputable def mg_X8_torn_0 (p1 : Int) (p2 : Int) (k30 : (Int × Int × Ob) → Option Rt) (a : Ob) : Option Rt :=
 if xlr (xw p1) && (xlr (0 : Int) && xlr (xw ((a 1 0) - 1))) then (
 if xw (bz (inn (xw p1) (0 : Int) (xw ((a 1 0) - 1)))) = 0 then (RI (-2) [a])
 else (if oqV (ov_X8_fillsOwners a) then (
 k30 (0, 0, (oqO (ov_X8_fillsOwners a) 0))) else none)) else none
set_option maxRecDepth 100000 in
set_option maxHeartbeats 4000000 in
theorem rq_X8_torn_0 (p1 : Int) (p2 : Int) (k30 : XK) (a : Ob) : rg_X8_torn_0 k30 (en_X8_torn_0 p1 p2 a) = mg_X8_torn_0 p1 p2 (fun b => k30 (en_X8_torn_30 p1 p2 b)) a := rfl
set_option maxRecDepth 100000 in
set_option maxHeartbeats 4000000 in
theorem sg_X8_torn_0 {X : XDyn} {r0 : Rt} (C : XO X mX8_torn) {k30 : XK} (q30 : XS X mX8_torn r0 30 k30) : XS X mX8_torn r0 0 (rg_X8_torn_0 k30) := by
 unfold rg_X8_torn_0
 exact s_iload_n (pc := 0) C dX8_torn_0 rfl <|
    s_i2l (pc := 1) C dX8_torn_1 <|
    s_lconst (pc := 2) C dX8_torn_2 rfl <|
    s_aload_n (pc := 3) C dX8_torn_3 rfl <|
    s_get (pc := 4) C (ci := 8) (kf := 0) rfl inX8 (by decide) wd_871 dX8_torn_4 <|
    s_iconst (pc := 7) C dX8_torn_7 <|
    s_iald (pc := 8) C dX8_torn_8 <|
    s_iconst (pc := 9) C dX8_torn_9 <|
    s_isub (pc := 10) C dX8_torn_10 <|
    s_i2l (pc := 11) C dX8_torn_11 <|
    s_callSg (pc := 12) C ct_X8_in (n := 3) (rk := 1) (mp := []) ⟨rfl, by decide, rfl⟩ (by decide) (by decide) ⟨rfl, yi_X8_in⟩ wd_954 wd_955 wd_81 wd_956 dX8_torn_12 <|
    s_if_ne (pc := 15) C dX8_torn_15 (by decide) (s_aload_n (pc := 21) C dX8_torn_21 rfl <|
    s_callVg (pc := 22) C ct_X8_fillsOwners (n := 1) (rk := 0) (mp := [0]) ⟨rfl, by decide, rfl⟩ (ci := 8) rfl rfl (by decide) (by decide) yi_X8_fillsOwners (by decide) wd_979 wd_981 wd_22 wd_81 wd_982 dX8_torn_22 <|
    s_iconst (pc := 25) C dX8_torn_25 <|
    s_istore_n (pc := 26) C dX8_torn_26 rfl <|
    s_iconst (pc := 27) C dX8_torn_27 <|
    s_istore (pc := 28) C dX8_torn_28 <|
    s_cut q30)
    (s_bipush (pc := 18) C dX8_torn_18 (by decide) <|
    s_ireturn (pc := 20) C rfl dX8_torn_20)
noncomputable def mg_X8_torn_30 (p1 : Int) (p2 : Int) (k57 : (Int × Int × Int × Ob) → Option Rt) (a : Int × Int × Ob) : Option Rt :=
 if xw a.2.1 ≥ xw (a.2.2 1 0) then (RI (-1) [a.2.2])
 else (if xw a.2.1 = xw p1 then (k57 (a.1, a.2.1, p2, a.2.2))
 else (if pd (ov_X8_cellAt a.2.1 a.2.2 = RI (oqR (ov_X8_cellAt a.2.1 a.2.2)) [a.2.2]) then (
 k57 (a.1, a.2.1, (oqR (ov_X8_cellAt a.2.1 a.2.2)), a.2.2)) else none))
set_option maxRecDepth 100000 in
set_option maxHeartbeats 4000000 in
theorem rq_X8_torn_30 (p1 : Int) (p2 : Int) (k57 : XK) (a : Int × Int × Ob) : rg_X8_torn_30 k57 (en_X8_torn_30 p1 p2 a) = mg_X8_torn_30 p1 p2 (fun b => k57 (en_X8_torn_57 p1 p2 b)) a := rfl
set_option maxRecDepth 100000 in
set_option maxHeartbeats 4000000 in
theorem sg_X8_torn_30 {X : XDyn} {r0 : Rt} (C : XO X mX8_torn) {k57 : XK} (q57 : XS X mX8_torn r0 57 k57) : XS X mX8_torn r0 30 (rg_X8_torn_30 k57) := by
 unfold rg_X8_torn_30
 exact s_iload (pc := 30) C dX8_torn_30 <|
    s_aload_n (pc := 32) C dX8_torn_32 rfl <|
    s_get (pc := 33) C (ci := 8) (kf := 0) rfl inX8 (by decide) wd_871 dX8_torn_33 <|
    s_iconst (pc := 36) C dX8_torn_36 <|
    s_iald (pc := 37) C dX8_torn_37 <|
    s_icmp_ge (pc := 38) C dX8_torn_38 (by decide) (s_iconst (pc := 101) C dX8_torn_101 <|
    s_ireturn (pc := 102) C rfl dX8_torn_102)
    (s_iload (pc := 41) C dX8_torn_41 <|
    s_iload_n (pc := 43) C dX8_torn_43 rfl <|
    s_icmp_ne (pc := 44) C dX8_torn_44 (by decide) (s_aload_n (pc := 51) C dX8_torn_51 rfl <|
    s_iload (pc := 52) C dX8_torn_52 <|
    s_callVg (pc := 54) C ct_X8_cellAt (n := 2) (rk := 1) (mp := [0]) ⟨rfl, by decide, rfl⟩ (ci := 8) rfl rfl (by decide) (by decide) yi_X8_cellAt (by decide) wd_1242 wd_1244 wd_65 wd_81 wd_1245 dX8_torn_54 <|
    s_cut q57)
    (s_iload_n (pc := 47) C dX8_torn_47 rfl <|
    s_goto (pc := 48) C dX8_torn_48 (by decide) <|
    s_cut q57))
noncomputable def mg_X8_torn_57 (p1 : Int) (p2 : Int) (k87 : (Int × Int × Int × Ob) → Option Rt) (a : Int × Int × Int × Ob) : Option Rt :=
 if pd (ov_X8_isTorn a.2.1 a.2.2.1 a.1 a.2.2.2 = RI (oqR (ov_X8_isTorn a.2.1 a.2.2.1 a.1 a.2.2.2)) [a.2.2.2]) then (
 if xw (oqR (ov_X8_isTorn a.2.1 a.2.2.1 a.1 a.2.2.2)) = 0 then (if xw (xrem a.2.2.1 64) = 0 then (k87 (a.2.1, a.2.2.1, 1, a.2.2.2))
 else (k87 (a.2.1, a.2.2.1, 0, a.2.2.2)))
 else (RI a.2.1 [a.2.2.2])) else none
set_option maxRecDepth 100000 in
set_option maxHeartbeats 4000000 in
theorem rq_X8_torn_57 (p1 : Int) (p2 : Int) (k87 : XK) (a : Int × Int × Int × Ob) : rg_X8_torn_57 k87 (en_X8_torn_57 p1 p2 a) = mg_X8_torn_57 p1 p2 (fun b => k87 (en_X8_torn_87 p1 p2 b)) a := rfl
set_option maxRecDepth 100000 in
set_option maxHeartbeats 4000000 in
theorem sg_X8_torn_57 {X : XDyn} {r0 : Rt} (C : XO X mX8_torn) {k87 : XK} (q87 : XS X mX8_torn r0 87 k87) : XS X mX8_torn r0 57 (rg_X8_torn_57 k87) := by
 unfold rg_X8_torn_57
 exact s_istore (pc := 57) C dX8_torn_57 <|
    s_aload_n (pc := 59) C dX8_torn_59 rfl <|
    s_iload (pc := 60) C dX8_torn_60 <|
    s_iload (pc := 62) C dX8_torn_62 <|
    s_iload_n (pc := 64) C dX8_torn_64 rfl <|
    s_callVg (pc := 65) C ct_X8_isTorn (n := 4) (rk := 1) (mp := [0]) ⟨rfl, by decide, rfl⟩ (ci := 8) rfl rfl (by decide) (by decide) yi_X8_isTorn (by decide) wd_1308 wd_1310 wd_70 wd_81 wd_1311 dX8_torn_65 <|
    s_if_eq (pc := 68) C dX8_torn_68 (by decide) (s_iload (pc := 74) C dX8_torn_74 <|
    s_bipush (pc := 76) C dX8_torn_76 (by decide) <|
    s_irem (pc := 78) C dX8_torn_78 <|
    s_if_ne (pc := 79) C dX8_torn_79 (by decide) (s_iconst (pc := 86) C dX8_torn_86 <|
    s_cut q87)
    (s_iconst (pc := 82) C dX8_torn_82 <|
    s_goto (pc := 83) C dX8_torn_83 (by decide) <|
    s_cut q87))
    (s_iload (pc := 71) C dX8_torn_71 <|
    s_ireturn (pc := 73) C rfl dX8_torn_73)
noncomputable def mg_X8_torn_87 (p1 : Int) (p2 : Int) (k30 : (Int × Int × Ob) → Option Rt) (a : Int × Int × Int × Ob) : Option Rt :=
 k30 (a.2.2.1, (a.1 + (xdiv a.2.1 64)), a.2.2.2)
set_option maxRecDepth 100000 in
set_option maxHeartbeats 4000000 in
theorem rq_X8_torn_87 (p1 : Int) (p2 : Int) (k30 : XK) (a : Int × Int × Int × Ob) : rg_X8_torn_87 k30 (en_X8_torn_87 p1 p2 a) = mg_X8_torn_87 p1 p2 (fun b => k30 (en_X8_torn_30 p1 p2 b)) a := rfl
set_option maxRecDepth 100000 in
set_option maxHeartbeats 4000000 in
theorem sg_X8_torn_87 {X : XDyn} {r0 : Rt} (C : XO X mX8_torn) {k30 : XK} (q30 : XS X mX8_torn r0 30 k30) : XS X mX8_torn r0 87 (rg_X8_torn_87 k30) := by
 unfold rg_X8_torn_87
 exact s_istore_n (pc := 87) C dX8_torn_87 rfl <|
    s_iload (pc := 88) C dX8_torn_88 <|
    s_iload (pc := 90) C dX8_torn_90 <|
    s_bipush (pc := 92) C dX8_torn_92 (by decide) <|
    s_idiv (pc := 94) C dX8_torn_94 <|
    s_iadd (pc := 95) C dX8_torn_95 <|
    s_istore (pc := 96) C dX8_torn_96 <|
    s_goto (pc := 98) C dX8_torn_98 (by decide) <|
    s_cut q30
noncomputable def rw_X8_torn_87 (f : Nat) (k30 : XK) : XK := rg_X8_torn_87 k30
noncomputable def md_X8_torn_87 (p1 : Int) (p2 : Int) (f : Nat) (k30 : (Int × Int × Ob) → Option Rt) : Int × Int × Int × Ob → Option Rt := mg_X8_torn_87 p1 p2 k30
theorem eq_X8_torn_87 (p1 : Int) (p2 : Int) (f : Nat) (k30 : XK) (a : Int × Int × Int × Ob) : rw_X8_torn_87 f k30 (en_X8_torn_87 p1 p2 a) = md_X8_torn_87 p1 p2 f (fun b => k30 (en_X8_torn_30 p1 p2 b)) a :=
 (rq_X8_torn_87 p1 p2 k30 a).trans (congrFun (congr (rfl : mg_X8_torn_87 p1 p2 = mg_X8_torn_87 p1 p2) rfl) a)
theorem sd_X8_torn_87 (f : Nat) {X : XDyn} {r0 : Rt} (C : XO X mX8_torn) {k30 : XK} (q30 : XS X mX8_torn r0 30 k30) : XS X mX8_torn r0 87 (rw_X8_torn_87 f k30) := sg_X8_torn_87 C q30
noncomputable def rw_X8_torn_57 (f : Nat) (k30 : XK) : XK := rg_X8_torn_57 (rw_X8_torn_87 f k30)
noncomputable def md_X8_torn_57 (p1 : Int) (p2 : Int) (f : Nat) (k30 : (Int × Int × Ob) → Option Rt) : Int × Int × Int × Ob → Option Rt := mg_X8_torn_57 p1 p2 (md_X8_torn_87 p1 p2 f k30)
theorem eq_X8_torn_57 (p1 : Int) (p2 : Int) (f : Nat) (k30 : XK) (a : Int × Int × Int × Ob) : rw_X8_torn_57 f k30 (en_X8_torn_57 p1 p2 a) = md_X8_torn_57 p1 p2 f (fun b => k30 (en_X8_torn_30 p1 p2 b)) a :=
 (rq_X8_torn_57 p1 p2 (rw_X8_torn_87 f k30) a).trans (congrFun (congr (rfl : mg_X8_torn_57 p1 p2 = mg_X8_torn_57 p1 p2) (funext (eq_X8_torn_87 p1 p2 f k30))) a)
theorem sd_X8_torn_57 (f : Nat) {X : XDyn} {r0 : Rt} (C : XO X mX8_torn) {k30 : XK} (q30 : XS X mX8_torn r0 30 k30) : XS X mX8_torn r0 57 (rw_X8_torn_57 f k30) := sg_X8_torn_57 C (sd_X8_torn_87 f C q30)
noncomputable def rw_X8_torn_30 (f : Nat) : XK := tlp (fun k30 => rg_X8_torn_30 (rw_X8_torn_57 f k30)) f
noncomputable def lb_X8_torn_30 (p1 : Int) (p2 : Int) (f : Nat) : ((Int × Int × Ob) → Option Rt) → Int × Int × Ob → Option Rt := fun k30 => mg_X8_torn_30 p1 p2 (md_X8_torn_57 p1 p2 f k30)
noncomputable def md_X8_torn_30 (p1 : Int) (p2 : Int) (f : Nat) : Int × Int × Ob → Option Rt := tlp (lb_X8_torn_30 p1 p2 f) f
theorem eq_X8_torn_30 (p1 : Int) (p2 : Int) (f : Nat) (a : Int × Int × Ob) : rw_X8_torn_30 f (en_X8_torn_30 p1 p2 a) = md_X8_torn_30 p1 p2 f a :=
 tlp_enc (en_X8_torn_30 p1 p2) (fun k30 a => (rq_X8_torn_30 p1 p2 (rw_X8_torn_57 f k30) a).trans (congrFun (congr (rfl : mg_X8_torn_30 p1 p2 = mg_X8_torn_30 p1 p2) (funext (eq_X8_torn_57 p1 p2 f k30))) a)) f a
theorem sd_X8_torn_30 (f : Nat) {X : XDyn} {r0 : Rt} (C : XO X mX8_torn) : XS X mX8_torn r0 30 (rw_X8_torn_30 f) := s_lp (fun k30 q30 => sg_X8_torn_30 C (sd_X8_torn_57 f C q30)) f
noncomputable def rw_X8_torn_0 (f : Nat) : XK := rg_X8_torn_0 (rw_X8_torn_30 f)
noncomputable def md_X8_torn_0 (p1 : Int) (p2 : Int) (f : Nat) : Ob → Option Rt := mg_X8_torn_0 p1 p2 (md_X8_torn_30 p1 p2 f)
theorem eq_X8_torn_0 (p1 : Int) (p2 : Int) (f : Nat) (a : Ob) : rw_X8_torn_0 f (en_X8_torn_0 p1 p2 a) = md_X8_torn_0 p1 p2 f a :=
 (rq_X8_torn_0 p1 p2 (rw_X8_torn_30 f) a).trans (congrFun (congr (rfl : mg_X8_torn_0 p1 p2 = mg_X8_torn_0 p1 p2) (funext (eq_X8_torn_30 p1 p2 f))) a)
theorem sd_X8_torn_0 (f : Nat) {X : XDyn} {r0 : Rt} (C : XO X mX8_torn) : XS X mX8_torn r0 0 (rw_X8_torn_0 f) := sg_X8_torn_0 C (sd_X8_torn_30 f C)
theorem ctr_X8_torn (f : Nat) : XCt yX8_torn mX8_torn (xF mX8_torn (rw_X8_torn_0 f)) := xMet (by decide +kernel) rfl (fun _ _ C => sd_X8_torn_0 f C)
theorem eqf_X8_torn (f : Nat) (p1 : Int) (p2 : Int) (h0 : Ob) : xF mX8_torn (rw_X8_torn_0 f) [.inr (.inl (0, 0)), .inl p1, .inl p2] [h0] = md_X8_torn_0 p1 p2 f h0 := eq_X8_torn_0 p1 p2 f h0
theorem yi_X8_torn : yX8_torn.cls = RX8 ∧ yX8_torn.cls ≠ "java/lang/invoke/MethodHandle" ∧ yX8_torn.cls ≠ "java/lang/invoke/VarHandle" ∧ (parseMethodDescriptor yX8_torn.desc).map (fun d => d.parameters.length) = some 2 := ⟨rfl, by decide +kernel, by decide +kernel, by decide +kernel⟩
theorem dX8_count_0 : decode cX8_count 0 = .ok (.iload_n 1, 1) := by decide +kernel
theorem dX8_count_1 : decode cX8_count 1 = .ok (.tableswitch 97 0 7 #[47, 54, 61, 68, 75, 82, 87, 92], 47) := by decide +kernel
theorem dX8_count_48 : decode cX8_count 48 = .ok (.aload_n 0, 1) := by decide +kernel
theorem dX8_count_49 : decode cX8_count 49 = .ok (.getfield 7, 3) := by decide +kernel
theorem dX8_count_52 : decode cX8_count 52 = .ok (.iconst 0, 1) := by decide +kernel
theorem dX8_count_53 : decode cX8_count 53 = .ok (.iaload, 1) := by decide +kernel
theorem dX8_count_54 : decode cX8_count 54 = .ok (.ireturn, 1) := by decide +kernel
theorem dX8_count_55 : decode cX8_count 55 = .ok (.aload_n 0, 1) := by decide +kernel
theorem dX8_count_56 : decode cX8_count 56 = .ok (.getfield 7, 3) := by decide +kernel
theorem dX8_count_59 : decode cX8_count 59 = .ok (.iconst 1, 1) := by decide +kernel
theorem dX8_count_60 : decode cX8_count 60 = .ok (.iaload, 1) := by decide +kernel
theorem dX8_count_61 : decode cX8_count 61 = .ok (.ireturn, 1) := by decide +kernel
theorem dX8_count_62 : decode cX8_count 62 = .ok (.aload_n 0, 1) := by decide +kernel
theorem dX8_count_63 : decode cX8_count 63 = .ok (.getfield 7, 3) := by decide +kernel
theorem dX8_count_66 : decode cX8_count 66 = .ok (.iconst 3, 1) := by decide +kernel
theorem dX8_count_67 : decode cX8_count 67 = .ok (.iaload, 1) := by decide +kernel
theorem dX8_count_68 : decode cX8_count 68 = .ok (.ireturn, 1) := by decide +kernel
theorem dX8_count_69 : decode cX8_count 69 = .ok (.aload_n 0, 1) := by decide +kernel
theorem dX8_count_70 : decode cX8_count 70 = .ok (.getfield 7, 3) := by decide +kernel
theorem dX8_count_73 : decode cX8_count 73 = .ok (.iconst 2, 1) := by decide +kernel
theorem dX8_count_74 : decode cX8_count 74 = .ok (.iaload, 1) := by decide +kernel
theorem dX8_count_75 : decode cX8_count 75 = .ok (.ireturn, 1) := by decide +kernel
theorem dX8_count_76 : decode cX8_count 76 = .ok (.aload_n 0, 1) := by decide +kernel
theorem dX8_count_77 : decode cX8_count 77 = .ok (.getfield 7, 3) := by decide +kernel
theorem dX8_count_80 : decode cX8_count 80 = .ok (.iconst 4, 1) := by decide +kernel
theorem dX8_count_81 : decode cX8_count 81 = .ok (.iaload, 1) := by decide +kernel
theorem dX8_count_82 : decode cX8_count 82 = .ok (.ireturn, 1) := by decide +kernel
theorem dX8_count_83 : decode cX8_count 83 = .ok (.aload_n 0, 1) := by decide +kernel
theorem dX8_count_84 : decode cX8_count 84 = .ok (.invokevirtual 252, 3) := by decide +kernel
theorem dX8_count_87 : decode cX8_count 87 = .ok (.ireturn, 1) := by decide +kernel
theorem dX8_count_88 : decode cX8_count 88 = .ok (.aload_n 0, 1) := by decide +kernel
theorem dX8_count_89 : decode cX8_count 89 = .ok (.getfield 63, 3) := by decide +kernel
theorem dX8_count_92 : decode cX8_count 92 = .ok (.ireturn, 1) := by decide +kernel
theorem dX8_count_93 : decode cX8_count 93 = .ok (.aload_n 0, 1) := by decide +kernel
theorem dX8_count_94 : decode cX8_count 94 = .ok (.invokevirtual 288, 3) := by decide +kernel
theorem dX8_count_97 : decode cX8_count 97 = .ok (.ireturn, 1) := by decide +kernel
theorem dX8_count_98 : decode cX8_count 98 = .ok (.iconst (-1), 1) := by decide +kernel
theorem dX8_count_99 : decode cX8_count 99 = .ok (.ireturn, 1) := by decide +kernel
abbrev mX8_count : XM := (cX8_count, 2, RX8, (some .int), shw_8, 4)
noncomputable def rg_X8_count_0 : XK :=
 o_iload 1 <|
 o_sw [(0, o_aload 0 <|
 o_get shw_8 8 0 <|
 o_iconst 0 <|
 o_iald shw_8 <|
 o_ireturn),
 (1, o_aload 0 <|
 o_get shw_8 8 0 <|
 o_iconst 1 <|
 o_iald shw_8 <|
 o_ireturn),
 (2, o_aload 0 <|
 o_get shw_8 8 0 <|
 o_iconst 3 <|
 o_iald shw_8 <|
 o_ireturn),
 (3, o_aload 0 <|
 o_get shw_8 8 0 <|
 o_iconst 2 <|
 o_iald shw_8 <|
 o_ireturn),
 (4, o_aload 0 <|
 o_get shw_8 8 0 <|
 o_iconst 4 <|
 o_iald shw_8 <|
 o_ireturn),
 (5, o_aload 0 <|
 o_callVg 1 1 [0] g_X8_moved v_X8_moved <|
 o_ireturn),
 (6, o_aload 0 <|
 o_get shw_8 8 3 <|
 o_ireturn),
 (7, o_aload 0 <|
 o_callVg 1 1 [0] g_X8_blocks v_X8_blocks <|
 o_ireturn)]
 (o_iconst (-1) <|
 o_ireturn)
def en_X8_count_0 (p1 : Int) (a : Ob) : XSt := ([some (.inr (.inl (0, 0))), some (.inl p1)], [], [a])
noncomputable def mg_X8_count_0 (p1 : Int) (a : Ob) : Option Rt :=
 if xw p1 = 0 then (RI (a 1 0) [a])
 else if xw p1 = 1 then (RI (a 1 1) [a])
 else if xw p1 = 2 then (RI (a 1 3) [a])
 else if xw p1 = 3 then (RI (a 1 2) [a])
 else if xw p1 = 4 then (RI (a 1 4) [a])
 else if xw p1 = 5 then (if pd (ov_X8_moved a = RI (oqR (ov_X8_moved a)) [a]) then (
 RI (oqR (ov_X8_moved a)) [a]) else none)
 else if xw p1 = 6 then (RI (a 0 3) [a])
 else if xw p1 = 7 then (if oqI (ov_X8_blocks a) then (
 RI (oqR (ov_X8_blocks a)) [(oqO (ov_X8_blocks a) 0)]) else none)
 else (RI (-1) [a])
set_option maxRecDepth 100000 in
set_option maxHeartbeats 4000000 in
theorem rq_X8_count_0 (p1 : Int) (a : Ob) : rg_X8_count_0 (en_X8_count_0 p1 a) = mg_X8_count_0 p1 a := rfl
set_option maxRecDepth 100000 in
set_option maxHeartbeats 4000000 in
theorem sg_X8_count_0 {X : XDyn} {r0 : Rt} (C : XO X mX8_count) : XS X mX8_count r0 0 (rg_X8_count_0) := by
 unfold rg_X8_count_0
 exact s_iload_n (pc := 0) C dX8_count_0 rfl <|
    s_tsw (pc := 1) C dX8_count_1 _ (by decide) (s_iconst (pc := 98) C dX8_count_98 <|
    s_ireturn (pc := 99) C rfl dX8_count_99) (List.forall_mem_cons.mpr ⟨⟨by decide, by decide, 47, 48, rfl, by decide, s_aload_n (pc := 48) C dX8_count_48 rfl <|
    s_get (pc := 49) C (ci := 8) (kf := 0) rfl inX8 (by decide) wd_871 dX8_count_49 <|
    s_iconst (pc := 52) C dX8_count_52 <|
    s_iald (pc := 53) C dX8_count_53 <|
    s_ireturn (pc := 54) C rfl dX8_count_54⟩, (List.forall_mem_cons.mpr ⟨⟨by decide, by decide, 54, 55, rfl, by decide, s_aload_n (pc := 55) C dX8_count_55 rfl <|
    s_get (pc := 56) C (ci := 8) (kf := 0) rfl inX8 (by decide) wd_871 dX8_count_56 <|
    s_iconst (pc := 59) C dX8_count_59 <|
    s_iald (pc := 60) C dX8_count_60 <|
    s_ireturn (pc := 61) C rfl dX8_count_61⟩, (List.forall_mem_cons.mpr ⟨⟨by decide, by decide, 61, 62, rfl, by decide, s_aload_n (pc := 62) C dX8_count_62 rfl <|
    s_get (pc := 63) C (ci := 8) (kf := 0) rfl inX8 (by decide) wd_871 dX8_count_63 <|
    s_iconst (pc := 66) C dX8_count_66 <|
    s_iald (pc := 67) C dX8_count_67 <|
    s_ireturn (pc := 68) C rfl dX8_count_68⟩, (List.forall_mem_cons.mpr ⟨⟨by decide, by decide, 68, 69, rfl, by decide, s_aload_n (pc := 69) C dX8_count_69 rfl <|
    s_get (pc := 70) C (ci := 8) (kf := 0) rfl inX8 (by decide) wd_871 dX8_count_70 <|
    s_iconst (pc := 73) C dX8_count_73 <|
    s_iald (pc := 74) C dX8_count_74 <|
    s_ireturn (pc := 75) C rfl dX8_count_75⟩, (List.forall_mem_cons.mpr ⟨⟨by decide, by decide, 75, 76, rfl, by decide, s_aload_n (pc := 76) C dX8_count_76 rfl <|
    s_get (pc := 77) C (ci := 8) (kf := 0) rfl inX8 (by decide) wd_871 dX8_count_77 <|
    s_iconst (pc := 80) C dX8_count_80 <|
    s_iald (pc := 81) C dX8_count_81 <|
    s_ireturn (pc := 82) C rfl dX8_count_82⟩, (List.forall_mem_cons.mpr ⟨⟨by decide, by decide, 82, 83, rfl, by decide, s_aload_n (pc := 83) C dX8_count_83 rfl <|
    s_callVg (pc := 84) C ct_X8_moved (n := 1) (rk := 1) (mp := [0]) ⟨rfl, by decide, rfl⟩ (ci := 8) rfl rfl (by decide) (by decide) yi_X8_moved (by decide) wd_1213 wd_1215 wd_63 wd_81 wd_1216 dX8_count_84 <|
    s_ireturn (pc := 87) C rfl dX8_count_87⟩, (List.forall_mem_cons.mpr ⟨⟨by decide, by decide, 87, 88, rfl, by decide, s_aload_n (pc := 88) C dX8_count_88 rfl <|
    s_get (pc := 89) C (ci := 8) (kf := 3) rfl inX8 (by decide) wd_874 dX8_count_89 <|
    s_ireturn (pc := 92) C rfl dX8_count_92⟩, (List.forall_mem_cons.mpr ⟨⟨by decide, by decide, 92, 93, rfl, by decide, s_aload_n (pc := 93) C dX8_count_93 rfl <|
    s_callVg (pc := 94) C ct_X8_blocks (n := 1) (rk := 1) (mp := [0]) ⟨rfl, by decide, rfl⟩ (ci := 8) rfl rfl (by decide) (by decide) yi_X8_blocks (by decide) wd_1316 wd_1318 wd_71 wd_81 wd_1319 dX8_count_94 <|
    s_ireturn (pc := 97) C rfl dX8_count_97⟩, (fun _ z => absurd z List.not_mem_nil)⟩)⟩)⟩)⟩)⟩)⟩)⟩)⟩) (fun v h1 h2 => by
     have hv : v = 0 ∨ v = 1 ∨ v = 2 ∨ v = 3 ∨ v = 4 ∨ v = 5 ∨ v = 6 ∨ v = 7 := by omega
     rcases hv with rfl | rfl | rfl | rfl | rfl | rfl | rfl | rfl <;> simp)
noncomputable def rw_X8_count_0 : XK := rg_X8_count_0
noncomputable def md_X8_count_0 (p1 : Int) : Ob → Option Rt := mg_X8_count_0 p1
theorem eq_X8_count_0 (p1 : Int) (a : Ob) : rw_X8_count_0 (en_X8_count_0 p1 a) = md_X8_count_0 p1 a :=
 rq_X8_count_0 p1 a
theorem sd_X8_count_0 {X : XDyn} {r0 : Rt} (C : XO X mX8_count) : XS X mX8_count r0 0 (rw_X8_count_0) := sg_X8_count_0 C
theorem ctr_X8_count : XCt yX8_count mX8_count (xF mX8_count (rw_X8_count_0)) := xMet (by decide +kernel) rfl (fun _ _ C => sd_X8_count_0 C)
theorem eqf_X8_count (p1 : Int) (h0 : Ob) : xF mX8_count (rw_X8_count_0) [.inr (.inl (0, 0)), .inl p1] [h0] = md_X8_count_0 p1 h0 := eq_X8_count_0 p1 h0
theorem yi_X8_count : yX8_count.cls = RX8 ∧ yX8_count.cls ≠ "java/lang/invoke/MethodHandle" ∧ yX8_count.cls ≠ "java/lang/invoke/VarHandle" ∧ (parseMethodDescriptor yX8_count.desc).map (fun d => d.parameters.length) = some 1 := ⟨rfl, by decide +kernel, by decide +kernel, by decide +kernel⟩
