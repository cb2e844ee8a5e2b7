noncomputable def asI (g : Ob) (n : Int) (h : Ob) : Nat → Int → Ob → Int × Ob × Ob
  | 0, _, A => (-1, A, h)
  | d + 1, mv, A => if (gvF (xcpy A 5 0 12 (fun i => g 2 (0 + i))) g 0 mv n).1 = false then asI g n h d (mv + 1) (gvF (xcpy A 5 0 12 (fun i => g 2 (0 + i))) g 0 mv n).2
    else ((layF (gvF (xcpy A 5 0 12 (fun i => g 2 (0 + i))) g 0 mv n).2 g n h).1, (gvF (xcpy A 5 0 12 (fun i => g 2 (0 + i))) g 0 mv n).2, (layF (gvF (xcpy A 5 0 12 (fun i => g 2 (0 + i))) g 0 mv n).2 g n h).2)
noncomputable def skG (G h : Ob) : Ob := rdO G (rnl h (movS h) (h 0 9))
noncomputable def skP (G P h : Ob) (n : Int) : Ob := giO xfu (pkA (pkF P h (movS h)) n) (skG G h)
noncomputable def skB (G P h : Ob) (n : Int) : Bool := gi (pkA (pkF P h (movS h)) n) (skG G h)
noncomputable def asF : Ob → Ob → Ob → Ob → Int → Int × Ob × Ob := xop (fun A G P h n => if skB G P h n = false then (-1, A, h) else asI (skG G h) n h ((mvl h).length + 1) 0 (lsO A (skG G h) h))
theorem asF_e (A G P h : Ob) (n : Int) : asF A G P h n = if skB G P h n = false then (-1, A, h) else asI (skG G h) n h ((mvl h).length + 1) 0 (lsO A (skG G h) h) := by
  unfold asF
  rw [xop_eq]
theorem LW.mvl_len {h : Ob} (hL : LW h) : (mvl h).length ≤ 8 := by
  obtain ⟨z1, z2, z3, -⟩ := id hL
  have := wls_fold (S := List Int) hL (e := h 0 9) (Int.le_refl _) (by omega) (fun s k => if mov h (hol h k) then s ++ [k] else s) (fun k s => s.length ≤ mvc h k) (fun k s hk hke hN hs => by
    have hn := hL.nxc hk hke (Int.le_refl _) (by omega)
    cases hm : mov h (hol h k)
    · exact Nat.le_trans hs (mvc_mono h (by omega))
    · have := hL.mvc_lt hk (by omega) hm (show k < nxt h k (h 0 9) by omega)
      simp only [if_true, List.length_append, List.length_singleton]
      omega) [] (Nat.zero_le _)
  rw [foldl_filter_app, List.nil_append] at this
  rw [mvl_e]
  exact Nat.le_trans this (mvc_le h _)
theorem LW.mvl_mem {h : Ob} (hL : LW h) {k : Int} (hk : k ∈ mvl h) : ∃ i : Nat, i < 8 ∧ h 1 i = k ∧ hol h k = (i : Int) ∧ mov h (i : Int) = true := by
  obtain ⟨z1, z2, z3, -⟩ := id hL
  rw [mvl_e] at hk
  obtain ⟨h1, h2⟩ := List.mem_filter.mp hk
  have := (hL.wlsc (e := h 0 9) (Int.le_refl _) (by omega)).1 k h1
  obtain ⟨i, i1, i2, i3⟩ := hL.movat this.1 (by omega) h2
  exact ⟨i, i1, i2, i3, by rw [← i3]; exact h2⟩
theorem LW.lsG {h : Ob} (hL : LW h) (A G : Ob) : 0 ≤ lsO A G h 0 7 ∧ lsO A G h 0 7 ≤ 8 ∧ ∀ k, k < (lsO A G h 0 7).toNat → 0 ≤ lsO A G h 1 k ∧ lsO A G h 1 k < 11 := by
  have h8 := hL.mvl_len
  have hc : lsO A G h 0 7 = ((mvl h).length : Int) := rfl
  rw [hc, toNat_nat]
  refine ⟨by omega, by omega, fun k hk => ?_⟩
  obtain ⟨i, i1, i2, i3, -⟩ := hL.mvl_mem (List.getElem_mem hk)
  have : lsO A G h 1 k = (i : Int) := by
    show (match (mvl h)[k]? with | some k => hol h k | none => A 1 k) = _
    rw [List.getElem?_eq_getElem hk]
    exact i3
  rw [this]
  omega
theorem movS_gaps (G h : Ob) (hL : LW h) : rk (skG G h) = true := (hL.gaps G (movS h)).1
theorem dX0_seek_0 : decode cX0_seek 0 = .ok (.aload_n 1, 1) := by decide +kernel
theorem dX0_seek_1 : decode cX0_seek 1 = .ok (.invokevirtual 41, 3) := by decide +kernel
theorem dX0_seek_4 : decode cX0_seek 4 = .ok (.istore_n 3, 1) := by decide +kernel
theorem dX0_seek_5 : decode cX0_seek 5 = .ok (.aload_n 0, 1) := by decide +kernel
theorem dX0_seek_6 : decode cX0_seek 6 = .ok (.getfield 12, 3) := by decide +kernel
theorem dX0_seek_9 : decode cX0_seek 9 = .ok (.aload_n 1, 1) := by decide +kernel
theorem dX0_seek_10 : decode cX0_seek 10 = .ok (.iload_n 3, 1) := by decide +kernel
theorem dX0_seek_11 : decode cX0_seek 11 = .ok (.aload_n 1, 1) := by decide +kernel
theorem dX0_seek_12 : decode cX0_seek 12 = .ok (.getfield 47, 3) := by decide +kernel
theorem dX0_seek_15 : decode cX0_seek 15 = .ok (.invokevirtual 51, 3) := by decide +kernel
theorem dX0_seek_18 : decode cX0_seek 18 = .ok (.aload_n 0, 1) := by decide +kernel
theorem dX0_seek_19 : decode cX0_seek 19 = .ok (.getfield 21, 3) := by decide +kernel
theorem dX0_seek_22 : decode cX0_seek 22 = .ok (.aload_n 1, 1) := by decide +kernel
theorem dX0_seek_23 : decode cX0_seek 23 = .ok (.iload_n 3, 1) := by decide +kernel
theorem dX0_seek_24 : decode cX0_seek 24 = .ok (.invokevirtual 55, 3) := by decide +kernel
theorem dX0_seek_27 : decode cX0_seek 27 = .ok (.aload_n 0, 1) := by decide +kernel
theorem dX0_seek_28 : decode cX0_seek 28 = .ok (.getfield 21, 3) := by decide +kernel
theorem dX0_seek_31 : decode cX0_seek 31 = .ok (.iload_n 2, 1) := by decide +kernel
theorem dX0_seek_32 : decode cX0_seek 32 = .ok (.invokevirtual 59, 3) := by decide +kernel
theorem dX0_seek_35 : decode cX0_seek 35 = .ok (.aload_n 0, 1) := by decide +kernel
theorem dX0_seek_36 : decode cX0_seek 36 = .ok (.getfield 21, 3) := by decide +kernel
theorem dX0_seek_39 : decode cX0_seek 39 = .ok (.aload_n 0, 1) := by decide +kernel
theorem dX0_seek_40 : decode cX0_seek 40 = .ok (.getfield 12, 3) := by decide +kernel
theorem dX0_seek_43 : decode cX0_seek 43 = .ok (.invokevirtual 63, 3) := by decide +kernel
theorem dX0_seek_46 : decode cX0_seek 46 = .ok (.ifCond .ne 5, 3) := by decide +kernel
theorem dX0_seek_49 : decode cX0_seek 49 = .ok (.iconst (-1), 1) := by decide +kernel
theorem dX0_seek_50 : decode cX0_seek 50 = .ok (.ireturn, 1) := by decide +kernel
theorem dX0_seek_51 : decode cX0_seek 51 = .ok (.aload_n 0, 1) := by decide +kernel
theorem dX0_seek_52 : decode cX0_seek 52 = .ok (.aload_n 1, 1) := by decide +kernel
theorem dX0_seek_53 : decode cX0_seek 53 = .ok (.invokevirtual 67, 3) := by decide +kernel
theorem dX0_seek_56 : decode cX0_seek 56 = .ok (.iconst 0, 1) := by decide +kernel
theorem dX0_seek_57 : decode cX0_seek 57 = .ok (.istore 4, 2) := by decide +kernel
theorem dX0_seek_59 : decode cX0_seek 59 = .ok (.iload 4, 2) := by decide +kernel
theorem dX0_seek_61 : decode cX0_seek 61 = .ok (.aload_n 0, 1) := by decide +kernel
theorem dX0_seek_62 : decode cX0_seek 62 = .ok (.getfield 71, 3) := by decide +kernel
theorem dX0_seek_65 : decode cX0_seek 65 = .ok (.if_icmp .gt 45, 3) := by decide +kernel
theorem dX0_seek_68 : decode cX0_seek 68 = .ok (.aload_n 0, 1) := by decide +kernel
theorem dX0_seek_69 : decode cX0_seek 69 = .ok (.getfield 12, 3) := by decide +kernel
theorem dX0_seek_72 : decode cX0_seek 72 = .ok (.getfield 74, 3) := by decide +kernel
theorem dX0_seek_75 : decode cX0_seek 75 = .ok (.iconst 0, 1) := by decide +kernel
theorem dX0_seek_76 : decode cX0_seek 76 = .ok (.aload_n 0, 1) := by decide +kernel
theorem dX0_seek_77 : decode cX0_seek 77 = .ok (.getfield 38, 3) := by decide +kernel
theorem dX0_seek_80 : decode cX0_seek 80 = .ok (.iconst 0, 1) := by decide +kernel
theorem dX0_seek_81 : decode cX0_seek 81 = .ok (.bipush 12, 2) := by decide +kernel
theorem dX0_seek_83 : decode cX0_seek 83 = .ok (.invokestatic 75, 3) := by decide +kernel
theorem dX0_seek_86 : decode cX0_seek 86 = .ok (.aload_n 0, 1) := by decide +kernel
theorem dX0_seek_87 : decode cX0_seek 87 = .ok (.iconst 0, 1) := by decide +kernel
theorem dX0_seek_88 : decode cX0_seek 88 = .ok (.iload 4, 2) := by decide +kernel
theorem dX0_seek_90 : decode cX0_seek 90 = .ok (.iload_n 2, 1) := by decide +kernel
theorem dX0_seek_91 : decode cX0_seek 91 = .ok (.invokestatic 81, 3) := by decide +kernel
theorem dX0_seek_94 : decode cX0_seek 94 = .ok (.ifCond .eq 10, 3) := by decide +kernel
theorem dX0_seek_97 : decode cX0_seek 97 = .ok (.aload_n 0, 1) := by decide +kernel
theorem dX0_seek_98 : decode cX0_seek 98 = .ok (.aload_n 1, 1) := by decide +kernel
theorem dX0_seek_99 : decode cX0_seek 99 = .ok (.iload_n 2, 1) := by decide +kernel
theorem dX0_seek_100 : decode cX0_seek 100 = .ok (.invokevirtual 85, 3) := by decide +kernel
theorem dX0_seek_103 : decode cX0_seek 103 = .ok (.ireturn, 1) := by decide +kernel
theorem dX0_seek_104 : decode cX0_seek 104 = .ok (.iinc 4 1, 3) := by decide +kernel
theorem dX0_seek_107 : decode cX0_seek 107 = .ok (.goto (-48), 3) := by decide +kernel
theorem dX0_seek_110 : decode cX0_seek 110 = .ok (.iconst (-1), 1) := by decide +kernel
theorem dX0_seek_111 : decode cX0_seek 111 = .ok (.ireturn, 1) := by decide +kernel
abbrev mX0_seek : XM := (cX0_seek, 5, RX0, (some .int), shw_0_6_4_3, 11)
noncomputable def rg_X0_seek_0 (k59 : XK) : XK :=
 o_aload 1 <|
 o_callV 1 1 [3] f_X3_movable <|
 o_istore 3 <|
 o_aload 0 <|
 o_get shw_0_6_4_3 0 0 <|
 o_aload 1 <|
 o_iload 3 <|
 o_aload 1 <|
 o_get shw_0_6_4_3 3 9 <|
 o_callVg 4 0 [1, 3] g_X6_read v_X6_read <|
 o_aload 0 <|
 o_get shw_0_6_4_3 0 1 <|
 o_aload 1 <|
 o_iload 3 <|
 o_callV 3 0 [2, 3] f_X4_fillWith <|
 o_aload 0 <|
 o_get shw_0_6_4_3 0 1 <|
 o_iload 2 <|
 o_callVg 2 0 [2] g_X4_add v_X4_add <|
 o_aload 0 <|
 o_get shw_0_6_4_3 0 1 <|
 o_aload 0 <|
 o_get shw_0_6_4_3 0 0 <|
 o_callVg 2 1 [2, 1] g_X4_goesInto v_X4_goesInto <|
 o_if_ne (o_aload 0 <|
 o_aload 1 <|
 o_callVg 2 0 [0, 1, 2, 3] g_X0_list v_X0_list <|
 o_iconst 0 <|
 o_istore 4 <|
 o_cut [3] k59)
 (o_iconst (-1) <|
 o_ireturn)
def en_X0_seek_0 (p2 : Int) (a : Ob × Ob × Ob × Ob) : XSt := ([some (.inr (.inl (0, 0))), some (.inr (.inl (3, 0))), some (.inl p2), none, none], [], [a.1, a.2.1, a.2.2.1, a.2.2.2])
noncomputable def rg_X0_seek_59 (k59 : XK) : XK :=
 o_iload 4 <|
 o_aload 0 <|
 o_get shw_0_6_4_3 0 7 <|
 o_icmp_gt (o_iconst (-1) <|
 o_ireturn)
 (o_aload 0 <|
 o_get shw_0_6_4_3 0 0 <|
 o_get shw_0_6_4_3 6 1 <|
 o_iconst 0 <|
 o_aload 0 <|
 o_get shw_0_6_4_3 0 6 <|
 o_iconst 0 <|
 o_iconst 12 <|
 o_acopy shw_0_6_4_3 <|
 o_aload 0 <|
 o_iconst 0 <|
 o_iload 4 <|
 o_iload 2 <|
 o_callSg 4 1 [0, 1, 2] (g_X0_give 9) v_X0_give <|
 o_if_eq (o_iinc 4 1 <|
 o_cut [] k59)
 (o_aload 0 <|
 o_aload 1 <|
 o_iload 2 <|
 o_callVg 3 1 [0, 1, 2, 3] g_X0_lay v_X0_lay <|
 o_ireturn))
def en_X0_seek_59 (p2 : Int) (a : Int × Ob × Ob × Ob × Ob) : XSt := ([some (.inr (.inl (0, 0))), some (.inr (.inl (3, 0))), some (.inl p2), none, some (.inl a.1)], [], [a.2.1, a.2.2.1, a.2.2.2.1, a.2.2.2.2])
noncomputable def mg_X0_seek_0 (p2 : Int) (k59 : (Int × Ob × Ob × Ob × Ob) → Option Rt) (a : Ob × Ob × Ob × Ob) : Option Rt :=
 if pd (RdG a.2.2.2 (a.2.2.2 0 9)) then (
 if decide (0 ≤ xw ((pkF a.2.2.1 a.2.2.2 (movS a.2.2.2)) 0 2)) then (
 if pd (GiG (pkA (pkF a.2.2.1 a.2.2.2 (movS a.2.2.2)) p2) (rdO a.2.1 (rnl a.2.2.2 (movS a.2.2.2) (a.2.2.2 0 9)))) then (
 if xw (bz (gi (pkA (pkF a.2.2.1 a.2.2.2 (movS a.2.2.2)) p2) (rdO a.2.1 (rnl a.2.2.2 (movS a.2.2.2) (a.2.2.2 0 9))))) = 0 then (RI (-1) [a.1, (rdO a.2.1 (rnl a.2.2.2 (movS a.2.2.2) (a.2.2.2 0 9))), (giO xfu (pkA (pkF a.2.2.1 a.2.2.2 (movS a.2.2.2)) p2) (rdO a.2.1 (rnl a.2.2.2 (movS a.2.2.2) (a.2.2.2 0 9)))), a.2.2.2])
 else (if pd (LW a.2.2.2 ∧ rk (rdO a.2.1 (rnl a.2.2.2 (movS a.2.2.2) (a.2.2.2 0 9))) = true) then (
 k59 (0, (lsO a.1 (rdO a.2.1 (rnl a.2.2.2 (movS a.2.2.2) (a.2.2.2 0 9))) a.2.2.2), (rdO a.2.1 (rnl a.2.2.2 (movS a.2.2.2) (a.2.2.2 0 9))), (giO xfu (pkA (pkF a.2.2.1 a.2.2.2 (movS a.2.2.2)) p2) (rdO a.2.1 (rnl a.2.2.2 (movS a.2.2.2) (a.2.2.2 0 9)))), a.2.2.2)) else none)) else none) else none) else none
set_option maxRecDepth 100000 in
set_option maxHeartbeats 4000000 in
theorem rq_X0_seek_0 (p2 : Int) (k59 : XK) (a : Ob × Ob × Ob × Ob) : rg_X0_seek_0 k59 (en_X0_seek_0 p2 a) = mg_X0_seek_0 p2 (fun b => k59 (en_X0_seek_59 p2 b)) a := rfl
set_option maxRecDepth 100000 in
set_option maxHeartbeats 4000000 in
theorem sg_X0_seek_0 {X : XDyn} {r0 : Rt} (C : XO X mX0_seek) {k59 : XK} (q59 : XS X mX0_seek r0 59 k59) : XS X mX0_seek r0 0 (rg_X0_seek_0 k59) := by
 unfold rg_X0_seek_0
 exact s_aload_n (pc := 0) C dX0_seek_0 rfl <|
    s_callV (pc := 1) C ct_X3_movable (n := 1) (rk := 1) (mp := [3]) ⟨rfl, by decide, rfl⟩ (ci := 3) rfl rfl (by decide) (by decide) yi_X3_movable (by decide) wd_427 wd_428 wd_429 wd_74 wd_430 dX0_seek_1 <|
    s_istore_n (pc := 4) C dX0_seek_4 rfl <|
    s_aload_n (pc := 5) C dX0_seek_5 rfl <|
    s_get (pc := 6) C (ci := 0) (kf := 0) rfl inX0 (by decide) wd_252 dX0_seek_6 <|
    s_aload_n (pc := 9) C dX0_seek_9 rfl <|
    s_iload_n (pc := 10) C dX0_seek_10 rfl <|
    s_aload_n (pc := 11) C dX0_seek_11 rfl <|
    s_get (pc := 12) C (ci := 3) (kf := 9) rfl inX3 (by decide) wd_125 dX0_seek_12 <|
    s_callVg (pc := 15) C ct_X6_read (n := 4) (rk := 0) (mp := [1, 3]) ⟨rfl, by decide, rfl⟩ (ci := 6) rfl rfl (by decide) (by decide) yi_X6_read (by decide) wd_431 wd_432 wd_433 wd_76 wd_434 dX0_seek_15 <|
    s_aload_n (pc := 18) C dX0_seek_18 rfl <|
    s_get (pc := 19) C (ci := 0) (kf := 1) rfl inX0 (by decide) wd_253 dX0_seek_19 <|
    s_aload_n (pc := 22) C dX0_seek_22 rfl <|
    s_iload_n (pc := 23) C dX0_seek_23 rfl <|
    s_callV (pc := 24) C ct_X4_fillWith (n := 3) (rk := 0) (mp := [2, 3]) ⟨rfl, by decide, rfl⟩ (ci := 4) rfl rfl (by decide) (by decide) yi_X4_fillWith (by decide) wd_447 wd_448 wd_449 wd_77 wd_450 dX0_seek_24 <|
    s_aload_n (pc := 27) C dX0_seek_27 rfl <|
    s_get (pc := 28) C (ci := 0) (kf := 1) rfl inX0 (by decide) wd_253 dX0_seek_28 <|
    s_iload_n (pc := 31) C dX0_seek_31 rfl <|
    s_callVg (pc := 32) C ct_X4_add (n := 2) (rk := 0) (mp := [2]) ⟨rfl, by decide, rfl⟩ (ci := 4) rfl rfl (by decide) (by decide) yi_X4_add (by decide) wd_456 wd_453 wd_454 wd_77 wd_455 dX0_seek_32 <|
    s_aload_n (pc := 35) C dX0_seek_35 rfl <|
    s_get (pc := 36) C (ci := 0) (kf := 1) rfl inX0 (by decide) wd_253 dX0_seek_36 <|
    s_aload_n (pc := 39) C dX0_seek_39 rfl <|
    s_get (pc := 40) C (ci := 0) (kf := 0) rfl inX0 (by decide) wd_252 dX0_seek_40 <|
    s_callVg (pc := 43) C ct_X4_goesInto (n := 2) (rk := 1) (mp := [2, 1]) ⟨rfl, by decide, rfl⟩ (ci := 4) rfl rfl (by decide) (by decide) yi_X4_goesInto (by decide) wd_457 wd_458 wd_459 wd_77 wd_460 dX0_seek_43 <|
    s_if_ne (pc := 46) C dX0_seek_46 (by decide) (s_aload_n (pc := 51) C dX0_seek_51 rfl <|
    s_aload_n (pc := 52) C dX0_seek_52 rfl <|
    s_callVg (pc := 53) C ct_X0_list (n := 2) (rk := 0) (mp := [0, 1, 2, 3]) ⟨rfl, by decide, rfl⟩ (ci := 0) rfl rfl (by decide) (by decide) yi_X0_list (by decide) wd_476 wd_478 wd_5 wd_79 wd_479 dX0_seek_53 <|
    s_iconst (pc := 56) C dX0_seek_56 <|
    s_istore (pc := 57) C dX0_seek_57 <|
    s_cut q59)
    (s_iconst (pc := 49) C dX0_seek_49 <|
    s_ireturn (pc := 50) C rfl dX0_seek_50)
noncomputable def mg_X0_seek_59 (p2 : Int) (k59 : (Int × Ob × Ob × Ob × Ob) → Option Rt) (a : Int × Ob × Ob × Ob × Ob) : Option Rt :=
 if xw a.1 > xw (a.2.1 0 7) then (RI (-1) [a.2.1, a.2.2.1, a.2.2.2.1, a.2.2.2.2])
 else (if pd (GvG 9 (xcpy a.2.1 5 0 12 (fun i => a.2.2.1 2 (0 + i))) a.2.2.1 0) then (
 if xw (bz (gvF (xcpy a.2.1 5 0 12 (fun i => a.2.2.1 2 (0 + i))) a.2.2.1 0 a.1 p2).1) = 0 then (k59 ((a.1 + 1), ((gvF (xcpy a.2.1 5 0 12 (fun i => a.2.2.1 2 (0 + i))) a.2.2.1 0 a.1 p2).2), a.2.2.1, a.2.2.2.1, a.2.2.2.2))
 else (if pd (LyG ((gvF (xcpy a.2.1 5 0 12 (fun i => a.2.2.1 2 (0 + i))) a.2.2.1 0 a.1 p2).2) a.2.2.1) then (
 RI ((layF ((gvF (xcpy a.2.1 5 0 12 (fun i => a.2.2.1 2 (0 + i))) a.2.2.1 0 a.1 p2).2) a.2.2.1 p2 a.2.2.2.2).1) [((gvF (xcpy a.2.1 5 0 12 (fun i => a.2.2.1 2 (0 + i))) a.2.2.1 0 a.1 p2).2), a.2.2.1, a.2.2.2.1, ((layF ((gvF (xcpy a.2.1 5 0 12 (fun i => a.2.2.1 2 (0 + i))) a.2.2.1 0 a.1 p2).2) a.2.2.1 p2 a.2.2.2.2).2)]) else none)) else none)
set_option maxRecDepth 100000 in
set_option maxHeartbeats 4000000 in
theorem rq_X0_seek_59 (p2 : Int) (k59 : XK) (a : Int × Ob × Ob × Ob × Ob) : rg_X0_seek_59 k59 (en_X0_seek_59 p2 a) = mg_X0_seek_59 p2 (fun b => k59 (en_X0_seek_59 p2 b)) a := rfl
set_option maxRecDepth 100000 in
set_option maxHeartbeats 4000000 in
theorem sg_X0_seek_59 {X : XDyn} {r0 : Rt} (C : XO X mX0_seek) {k59 : XK} (q59 : XS X mX0_seek r0 59 k59) : XS X mX0_seek r0 59 (rg_X0_seek_59 k59) := by
 unfold rg_X0_seek_59
 exact s_iload (pc := 59) C dX0_seek_59 <|
    s_aload_n (pc := 61) C dX0_seek_61 rfl <|
    s_get (pc := 62) C (ci := 0) (kf := 7) rfl inX0 (by decide) wd_259 dX0_seek_62 <|
    s_icmp_gt (pc := 65) C dX0_seek_65 (by decide) (s_iconst (pc := 110) C dX0_seek_110 <|
    s_ireturn (pc := 111) C rfl dX0_seek_111)
    (s_aload_n (pc := 68) C dX0_seek_68 rfl <|
    s_get (pc := 69) C (ci := 0) (kf := 0) rfl inX0 (by decide) wd_252 dX0_seek_69 <|
    s_get (pc := 72) C (ci := 6) (kf := 1) rfl inX6 (by decide) wd_201 dX0_seek_72 <|
    s_iconst (pc := 75) C dX0_seek_75 <|
    s_aload_n (pc := 76) C dX0_seek_76 rfl <|
    s_get (pc := 77) C (ci := 0) (kf := 6) rfl inX0 (by decide) wd_258 dX0_seek_77 <|
    s_iconst (pc := 80) C dX0_seek_80 <|
    s_bipush (pc := 81) C dX0_seek_81 (by decide) <|
    s_acopy (pc := 83) C (by decide) wd_488 wd_377 wd_376 wd_83 dX0_seek_83 <|
    s_aload_n (pc := 86) C dX0_seek_86 rfl <|
    s_iconst (pc := 87) C dX0_seek_87 <|
    s_iload (pc := 88) C dX0_seek_88 <|
    s_iload_n (pc := 90) C dX0_seek_90 rfl <|
    s_callSg (pc := 91) C (ct_X0_give 9) (n := 4) (rk := 1) (mp := [0, 1, 2]) ⟨rfl, by decide, rfl⟩ (by decide) (by decide) ⟨rfl, yi_X0_give⟩ wd_489 wd_490 wd_79 wd_491 dX0_seek_91 <|
    s_if_eq (pc := 94) C dX0_seek_94 (by decide) (s_iinc (pc := 104) C dX0_seek_104 <|
    s_goto (pc := 107) C dX0_seek_107 (by decide) <|
    s_cut q59)
    (s_aload_n (pc := 97) C dX0_seek_97 rfl <|
    s_aload_n (pc := 98) C dX0_seek_98 rfl <|
    s_iload_n (pc := 99) C dX0_seek_99 rfl <|
    s_callVg (pc := 100) C ct_X0_lay (n := 3) (rk := 1) (mp := [0, 1, 2, 3]) ⟨rfl, by decide, rfl⟩ (ci := 0) rfl rfl (by decide) (by decide) yi_X0_lay (by decide) wd_496 wd_498 wd_7 wd_79 wd_499 dX0_seek_100 <|
    s_ireturn (pc := 103) C rfl dX0_seek_103))
noncomputable def rw_X0_seek_59 (f : Nat) : XK := tlp (fun k59 => rg_X0_seek_59 k59) f
noncomputable def lb_X0_seek_59 (p2 : Int) (f : Nat) : ((Int × Ob × Ob × Ob × Ob) → Option Rt) → Int × Ob × Ob × Ob × Ob → Option Rt := fun k59 => mg_X0_seek_59 p2 k59
noncomputable def md_X0_seek_59 (p2 : Int) (f : Nat) : Int × Ob × Ob × Ob × Ob → Option Rt := tlp (lb_X0_seek_59 p2 f) f
theorem eq_X0_seek_59 (p2 : Int) (f : Nat) (a : Int × Ob × Ob × Ob × Ob) : rw_X0_seek_59 f (en_X0_seek_59 p2 a) = md_X0_seek_59 p2 f a :=
 tlp_enc (en_X0_seek_59 p2) (fun k59 a => (rq_X0_seek_59 p2 k59 a).trans (congrFun (congr (rfl : mg_X0_seek_59 p2 = mg_X0_seek_59 p2) rfl) a)) f a
theorem sd_X0_seek_59 (f : Nat) {X : XDyn} {r0 : Rt} (C : XO X mX0_seek) : XS X mX0_seek r0 59 (rw_X0_seek_59 f) := s_lp (fun k59 q59 => sg_X0_seek_59 C q59) f
noncomputable def rw_X0_seek_0 (f : Nat) : XK := rg_X0_seek_0 (rw_X0_seek_59 f)
noncomputable def md_X0_seek_0 (p2 : Int) (f : Nat) : Ob × Ob × Ob × Ob → Option Rt := mg_X0_seek_0 p2 (md_X0_seek_59 p2 f)
theorem eq_X0_seek_0 (p2 : Int) (f : Nat) (a : Ob × Ob × Ob × Ob) : rw_X0_seek_0 f (en_X0_seek_0 p2 a) = md_X0_seek_0 p2 f a :=
 (rq_X0_seek_0 p2 (rw_X0_seek_59 f) a).trans (congrFun (congr (rfl : mg_X0_seek_0 p2 = mg_X0_seek_0 p2) (funext (eq_X0_seek_59 p2 f))) a)
theorem sd_X0_seek_0 (f : Nat) {X : XDyn} {r0 : Rt} (C : XO X mX0_seek) : XS X mX0_seek r0 0 (rw_X0_seek_0 f) := sg_X0_seek_0 C (sd_X0_seek_59 f C)
theorem ctr_X0_seek (f : Nat) : XCt yX0_seek mX0_seek (xF mX0_seek (rw_X0_seek_0 f)) := xMet (by decide +kernel) rfl (fun _ _ C => sd_X0_seek_0 f C)
theorem eqf_X0_seek (f : Nat) (p2 : Int) (h0 : Ob) (h1 : Ob) (h2 : Ob) (h3 : Ob) : xF mX0_seek (rw_X0_seek_0 f) [.inr (.inl (0, 0)), .inr (.inl (3, 0)), .inl p2] [h0, h1, h2, h3] = md_X0_seek_0 p2 f (h0, h1, h2, h3) := eq_X0_seek_0 p2 f (h0, h1, h2, h3)
theorem yi_X0_seek : yX0_seek.cls = RX0 ∧ yX0_seek.cls ≠ "java/lang/invoke/MethodHandle" ∧ yX0_seek.cls ≠ "java/lang/invoke/VarHandle" ∧ (parseMethodDescriptor yX0_seek.desc).map (fun d => d.parameters.length) = some 2 := ⟨rfl, by decide +kernel, by decide +kernel, by decide +kernel⟩
theorem sp_X0_seek (f : Nat) (hf : 1000 ≤ f) (p2 : Int) (h0 h1 h2 h3 : Ob) (hg : pd (LW h3 ∧ 1 ≤ p2 ∧ p2 ≤ 200) = true) : md_X0_seek_0 p2 f (h0, h1, h2, h3) = RI (asF h0 h1 h2 h3 p2).1 [(asF h0 h1 h2 h3 p2).2.1, skG h1 h3, skP h1 h2 h3 p2, (asF h0 h1 h2 h3 p2).2.2] := by
  obtain ⟨hL, g1, g2⟩ := pd_of hg
  obtain ⟨z1, z2, z3, -⟩ := id hL
  have hG := hL.giG h2 h1 (movS h3) p2 g1 g2
  have hcn := pkF_cnt h2 h3 (movS h3)
  have hrk := movS_gaps h1 h3 hL
  have hrk' : rk (rdO h1 (rnl h3 (movS h3) (h3 0 9))) = true := hrk
  rw [asF_e]
  simp only [md_X0_seek_0, mg_X0_seek_0]
  rw [pd_t (show RdG h3 (h3 0 9) from ⟨hL, Int.le_refl _, by omega⟩), if_pos rfl, decide_eq_true (show 0 ≤ xw (pkF h2 h3 (movS h3) 0 2) by rw [xw_id (by omega) (by omega)]; omega), if_pos rfl, pd_t hG, if_pos rfl, pd_t (show LW h3 ∧ rk (rdO h1 (rnl h3 (movS h3) (h3 0 9))) = true from ⟨hL, hrk'⟩), if_pos rfl]
  simp only [bz_0]
  show (if skB h1 h2 h3 p2 = false then RI (-1) [h0, skG h1 h3, skP h1 h2 h3 p2, h3] else md_X0_seek_59 p2 f (0, lsO h0 (skG h1 h3) h3, skG h1 h3, skP h1 h2 h3 p2, h3)) = _
  cases skB h1 h2 h3 p2
  · rfl
  · simp only [Bool.true_eq_false, if_false]
    generalize skG h1 h3 = g at hrk
    generalize skP h1 h2 h3 p2 = pk
    obtain ⟨l1, l2, l3⟩ := hL.lsG h0 g
    have lc : lsO h0 g h3 0 7 = ((mvl h3).length : Int) := rfl
    have key : ∀ (d mv f' : Nat) (A : Ob), mv + d = (mvl h3).length + 1 → d < f' → (∀ j i, j ≠ 4 → j ≠ 5 → A j i = lsO h0 g h3 j i) → tlp (lb_X0_seek_59 p2 f) f' ((mv : Int), A, g, pk, h3) = RI (asI g p2 h3 d (mv : Int) A).1 [(asI g p2 h3 d (mv : Int) A).2.1, g, pk, (asI g p2 h3 d (mv : Int) A).2.2] := by
      intro d
      induction d with
      | zero =>
        intro mv f' A hd hf' hA
        cases f' with
        | zero => omega
        | succ f' =>
          have hA7 := hA 0 7 (by omega) (by omega)
          rw [tlp_succ]
          simp only [lb_X0_seek_59, mg_X0_seek_59, hA7, lc]
          rw [xw_nat (by omega), xw_nat (by omega), if_pos (by omega)]
          rfl
      | succ d ih =>
        intro mv f' A hd hf' hA
        cases f' with
        | zero => omega
        | succ f' =>
          have hA7 := hA 0 7 (by omega) (by omega)
          rw [tlp_succ]
          unfold asI
          simp only [lb_X0_seek_59, mg_X0_seek_59, hA7, lc, bz_0]
          rw [xw_nat (by omega), xw_nat (by omega), if_neg (by omega)]
          generalize hA1 : xcpy A 5 0 12 (fun i => g 2 (0 + i)) = A1
          have hA1' : ∀ j i, j ≠ 4 → j ≠ 5 → A1 j i = lsO h0 g h3 j i := fun j i j4 j5 => by
            rw [← hA1]
            unfold xcpy
            rw [if_neg (by omega)]
            exact hA j i j4 j5
          have hA17 := hA1' 0 7 (by omega) (by omega)
          rw [pd_t (show GvG 9 A1 g 0 from ⟨hrk, by omega, by omega, by omega, by omega, by omega⟩), if_pos rfl]
          have hoff : ∀ j i, j ≠ 4 → j ≠ 5 → (gvF A1 g 0 (mv : Int) p2).2 j i = lsO h0 g h3 j i := fun j i j4 j5 => by
            rw [gvF_e, gvI_off g p2 _ 0 (mv : Int) A1 j i j4 j5]
            exact hA1' j i j4 j5
          generalize gvF A1 g 0 (mv : Int) p2 = r at hoff
          have hr7 := hoff 0 7 (by omega) (by omega)
          rw [pd_t (show LyG r.2 g from ⟨hrk, by omega, by omega, fun k hk => by rw [hoff 1 k (by omega) (by omega)]; exact l3 k (by rw [← hr7]; exact hk)⟩), if_pos rfl]
          cases r.1
          · exact ih (mv + 1) f' r.2 (by omega) (by omega) hoff
          · rfl
    exact key ((mvl h3).length + 1) 0 f _ (by omega) (by have := hL.mvl_len; omega) (fun _ _ _ _ => rfl)
noncomputable def g_X0_seek : List AV → List Ob → Bool
  | [.inr (.inl (0, 0)), .inr (.inl (3, 0)), .inl p2], [h0, h1, h2, h3] => pd (LW h3 ∧ 1 ≤ p2 ∧ p2 ≤ 200)
  | _, _ => false
noncomputable def v_X0_seek : List AV → List Ob → Rt
  | [.inr (.inl (0, 0)), .inr (.inl (3, 0)), .inl p2], [h0, h1, h2, h3] => (some (.inl ((asF h0 h1 h2 h3 p2).1)), [((asF h0 h1 h2 h3 p2).2.1), (skG h1 h3), (skP h1 h2 h3 p2), ((asF h0 h1 h2 h3 p2).2.2)])
  | _, _ => (none, [])
theorem ct_X0_seek : XCt yX0_seek mX0_seek (fun as μ => if g_X0_seek as μ then some (v_X0_seek as μ) else none) := (ctr_X0_seek xfu).of (fun as μ r h => by
  split at h
  · rename_i hg
    unfold g_X0_seek at hg
    split at hg
    · rw [← h]
      exact (eqf_X0_seek xfu _ _ _ _ _).trans (sp_X0_seek xfu (xfu_ge (by decide)) _ _ _ _ _ hg)
    · cases hg
  · cases h)
