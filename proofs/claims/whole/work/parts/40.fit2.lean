theorem sld_full (n : Int) (t : Nat) {h : Ob} (hL : LW h) : (∀ j i, j ≠ 1 → (sldI n t h).2 j i = h j i) ∧ ∀ i, h 1 i = -1 → (sldI n t h).2 1 i = -1 := by
  induction t generalizing h with
  | zero => exact ⟨fun _ _ _ => rfl, fun _ h => h⟩
  | succ t ih =>
    unfold sldI
    split
    · exact ⟨fun _ _ _ => rfl, fun _ h => h⟩
    · rename_i hf
      obtain ⟨a1, a2, a3, a4, i, b1, b2, b3, b4, b5, b6⟩ := hL.ffmc hf
      have hl2 := hL.slide1 hf (show i < 11 by omega) b3
      rw [b2, toNat_nat]
      have p1 : ∀ j k, j ≠ 1 → xset h 1 i (ffm h) j k = h j k := fun j k hj => xset_part _ _ _ _ hj _
      have p2 : ∀ k, h 1 k = -1 → xset h 1 i (ffm h) 1 k = -1 := fun k hk => by
        have : k ≠ i := fun e => by rw [e] at hk; omega
        rw [xset_idx _ _ _ _ this]; exact hk
      split
      · exact ⟨p1, p2⟩
      · have := ih hl2
        exact ⟨fun j k hj => by rw [this.1 j k hj]; exact p1 j k hj, fun k hk => this.2 k (p2 k hk)⟩
theorem Lst.cong {h h' : Ob} (hS : Lst h) (h1 : ∀ i, h 1 i = -1 → h' 1 i = -1) (h5 : ∀ i, h' 5 i = h 5 i) : Lst h' := fun i hi hp => by
  rw [h5 i]
  exact hS i hi (fun e => hp (h1 i e))
theorem Lst.b2 {h : Ob} (hL : LW h) (hS : Lst h) (n : Int) : Lst (bm2 h n).2.2 := by
  have s1 : Lst (bm1 h n).2.2 := by
    unfold bm1
    split
    · have := sld_full n 1000 hL
      rw [← sld_e] at this
      exact hS.cong this.2 (fun i => this.1 5 i (by omega))
    · exact hS
  unfold bm2
  split
  · exact s1.cong (fun i e => by
      show grO (bm1 h n).2.2 n 1 i = -1
      unfold grO
      rw [xset_part _ _ _ _ (by omega)]; exact e) (fun i => by
      show grO (bm1 h n).2.2 n 5 i = _
      unfold grO
      rw [xset_part _ _ _ _ (by omega)])
  · exact s1
/-- a fit by moving that fails leaves a heap that is well formed -/
theorem bm_none {h : Ob} (hL : LW h) (hS : Lst h) (F A G P : Ob) {n : Int} (hn : 1 ≤ n) (hn2 : n ≤ 200) (he : xw (bmF F A G P h n).1 = -1) : LW (bmF F A G P h n).2.2.2.2.2 ∧ Lst (bmF F A G P h n).2.2.2.2.2 := by
  have hL2 := hL.b2 (n := n) (by omega) hn2
  have hS2 := Lst.b2 hL hS n
  rw [bmF_e] at he ⊢
  unfold bmI at he ⊢
  by_cases hc : xw (bm2 h n).1 = -1
  · rw [if_pos hc] at he ⊢
    rcases asF_ok hL2 A G P hn hn2 with ⟨a1, a2⟩ | ⟨a1, a2, a3, a4⟩
    · show LW (asF A G P (bm2 h n).2.2 n).2.2 ∧ Lst (asF A G P (bm2 h n).2.2 n).2.2
      rw [a2]
      exact ⟨hL2, hS2⟩
    · exfalso
      have := hL2.2.1
      have := hL2.2.2.1
      have he' : xw (asF A G P (bm2 h n).2.2 n).1 = -1 := he
      rw [xw_id (by omega) (by omega)] at he'
      omega
  · rw [if_neg hc]
    exact ⟨hL2, hS2⟩
noncomputable def fsI (n m : Int) : Nat → Ob → Ob → Ob → Ob → Ob → Int × Ob × Ob × Ob × Ob × Ob
  | 0, F, A, G, P, h => (-1, F, A, G, P, h)
  | d + 1, F, A, G, P, h =>
    if xw (bmF F A G P h n).1 = -1 then
      (if sqb (bmF F A G P h n).2.2.2.2.2 m = -1 then
        (if pub (sqH (bmF F A G P h n).2.2.2.2.2 m) m = -1 then (-1, puF (sqF (bmF F A G P h n).2.1 (bmF F A G P h n).2.2.2.2.2 m) (sqH (bmF F A G P h n).2.2.2.2.2 m) m, (bmF F A G P h n).2.2.1, (bmF F A G P h n).2.2.2.1, (bmF F A G P h n).2.2.2.2.1, puH (sqH (bmF F A G P h n).2.2.2.2.2 m) m)
        else fsI n m d (puF (sqF (bmF F A G P h n).2.1 (bmF F A G P h n).2.2.2.2.2 m) (sqH (bmF F A G P h n).2.2.2.2.2 m) m) (bmF F A G P h n).2.2.1 (bmF F A G P h n).2.2.2.1 (bmF F A G P h n).2.2.2.2.1 (puH (sqH (bmF F A G P h n).2.2.2.2.2 m) m))
      else fsI n m d (sqF (bmF F A G P h n).2.1 (bmF F A G P h n).2.2.2.2.2 m) (bmF F A G P h n).2.2.1 (bmF F A G P h n).2.2.2.1 (bmF F A G P h n).2.2.2.2.1 (sqH (bmF F A G P h n).2.2.2.2.2 m))
    else bmF F A G P h n
/-- all but the spared -/
noncomputable def spr (p : Int) : Int := if hdl p then xxor (xshl 1 p) (-1) else -1
noncomputable def fsF : Ob → Ob → Ob → Ob → Ob → Int → Int → Int × Ob × Ob × Ob × Ob × Ob := xop (fun F A G P h n p => fsI n (spr p) 17 (xset (xset F 0 2 0) 0 3 0) A G P h)
theorem fsF_e (F A G P h : Ob) (n p : Int) : fsF F A G P h n p = fsI n (spr p) 17 (xset (xset F 0 2 0) 0 3 0) A G P h := by
  unfold fsF
  rw [xop_eq]
theorem dX2_seek_0 : decode cX2_seek 0 = .ok (.iload_n 3, 1) := by decide +kernel
theorem dX2_seek_1 : decode cX2_seek 1 = .ok (.invokestatic 18, 3) := by decide +kernel
theorem dX2_seek_4 : decode cX2_seek 4 = .ok (.ifCond .eq 11, 3) := by decide +kernel
theorem dX2_seek_7 : decode cX2_seek 7 = .ok (.iconst 1, 1) := by decide +kernel
theorem dX2_seek_8 : decode cX2_seek 8 = .ok (.iload_n 3, 1) := by decide +kernel
theorem dX2_seek_9 : decode cX2_seek 9 = .ok (.ishl, 1) := by decide +kernel
theorem dX2_seek_10 : decode cX2_seek 10 = .ok (.iconst (-1), 1) := by decide +kernel
theorem dX2_seek_11 : decode cX2_seek 11 = .ok (.ixor, 1) := by decide +kernel
theorem dX2_seek_12 : decode cX2_seek 12 = .ok (.goto 4, 3) := by decide +kernel
theorem dX2_seek_15 : decode cX2_seek 15 = .ok (.iconst (-1), 1) := by decide +kernel
theorem dX2_seek_16 : decode cX2_seek 16 = .ok (.istore 4, 2) := by decide +kernel
theorem dX2_seek_18 : decode cX2_seek 18 = .ok (.aload_n 0, 1) := by decide +kernel
theorem dX2_seek_19 : decode cX2_seek 19 = .ok (.iconst 0, 1) := by decide +kernel
theorem dX2_seek_20 : decode cX2_seek 20 = .ok (.putfield 22, 3) := by decide +kernel
theorem dX2_seek_23 : decode cX2_seek 23 = .ok (.aload_n 0, 1) := by decide +kernel
theorem dX2_seek_24 : decode cX2_seek 24 = .ok (.iconst 0, 1) := by decide +kernel
theorem dX2_seek_25 : decode cX2_seek 25 = .ok (.putfield 26, 3) := by decide +kernel
theorem dX2_seek_28 : decode cX2_seek 28 = .ok (.iconst 0, 1) := by decide +kernel
theorem dX2_seek_29 : decode cX2_seek 29 = .ok (.istore 5, 2) := by decide +kernel
theorem dX2_seek_31 : decode cX2_seek 31 = .ok (.iload 5, 2) := by decide +kernel
theorem dX2_seek_33 : decode cX2_seek 33 = .ok (.bipush 16, 2) := by decide +kernel
theorem dX2_seek_35 : decode cX2_seek 35 = .ok (.if_icmp .gt 48, 3) := by decide +kernel
theorem dX2_seek_38 : decode cX2_seek 38 = .ok (.aload_n 0, 1) := by decide +kernel
theorem dX2_seek_39 : decode cX2_seek 39 = .ok (.aload_n 1, 1) := by decide +kernel
theorem dX2_seek_40 : decode cX2_seek 40 = .ok (.iload_n 2, 1) := by decide +kernel
theorem dX2_seek_41 : decode cX2_seek 41 = .ok (.invokevirtual 29, 3) := by decide +kernel
theorem dX2_seek_44 : decode cX2_seek 44 = .ok (.istore 6, 2) := by decide +kernel
theorem dX2_seek_46 : decode cX2_seek 46 = .ok (.iload 6, 2) := by decide +kernel
theorem dX2_seek_48 : decode cX2_seek 48 = .ok (.iconst (-1), 1) := by decide +kernel
theorem dX2_seek_49 : decode cX2_seek 49 = .ok (.if_icmp .eq 6, 3) := by decide +kernel
theorem dX2_seek_52 : decode cX2_seek 52 = .ok (.iload 6, 2) := by decide +kernel
theorem dX2_seek_54 : decode cX2_seek 54 = .ok (.ireturn, 1) := by decide +kernel
theorem dX2_seek_55 : decode cX2_seek 55 = .ok (.aload_n 0, 1) := by decide +kernel
theorem dX2_seek_56 : decode cX2_seek 56 = .ok (.aload_n 1, 1) := by decide +kernel
theorem dX2_seek_57 : decode cX2_seek 57 = .ok (.iload 4, 2) := by decide +kernel
theorem dX2_seek_59 : decode cX2_seek 59 = .ok (.invokevirtual 33, 3) := by decide +kernel
theorem dX2_seek_62 : decode cX2_seek 62 = .ok (.ifCond .ne 15, 3) := by decide +kernel
theorem dX2_seek_65 : decode cX2_seek 65 = .ok (.aload_n 0, 1) := by decide +kernel
theorem dX2_seek_66 : decode cX2_seek 66 = .ok (.aload_n 1, 1) := by decide +kernel
theorem dX2_seek_67 : decode cX2_seek 67 = .ok (.iload 4, 2) := by decide +kernel
theorem dX2_seek_69 : decode cX2_seek 69 = .ok (.invokevirtual 37, 3) := by decide +kernel
theorem dX2_seek_72 : decode cX2_seek 72 = .ok (.ifCond .ne 5, 3) := by decide +kernel
theorem dX2_seek_75 : decode cX2_seek 75 = .ok (.iconst (-1), 1) := by decide +kernel
theorem dX2_seek_76 : decode cX2_seek 76 = .ok (.ireturn, 1) := by decide +kernel
theorem dX2_seek_77 : decode cX2_seek 77 = .ok (.iinc 5 1, 3) := by decide +kernel
theorem dX2_seek_80 : decode cX2_seek 80 = .ok (.goto (-49), 3) := by decide +kernel
theorem dX2_seek_83 : decode cX2_seek 83 = .ok (.iconst (-1), 1) := by decide +kernel
theorem dX2_seek_84 : decode cX2_seek 84 = .ok (.ireturn, 1) := by decide +kernel
abbrev mX2_seek : XM := (cX2_seek, 7, RX2, (some .int), shw_2_0_6_4_3, 13)
noncomputable def rg_X2_seek_0 (k16 : XK) : XK :=
 o_iload 3 <|
 o_callS 1 1 [] f_X7_isHandle <|
 o_if_eq (o_iconst (-1) <|
 o_cut [] k16)
 (o_iconst 1 <|
 o_iload 3 <|
 o_ishl <|
 o_iconst (-1) <|
 o_ixor <|
 o_cut [] k16)
def en_X2_seek_0 (p2 : Int) (p3 : Int) (a : Ob × Ob × Ob × Ob × Ob) : XSt := ([some (.inr (.inl (0, 0))), some (.inr (.inl (4, 0))), some (.inl p2), some (.inl p3), none, none, none], [], [a.1, a.2.1, a.2.2.1, a.2.2.2.1, a.2.2.2.2])
noncomputable def rg_X2_seek_16 (k31 : XK) : XK :=
 o_istore 4 <|
 o_aload 0 <|
 o_iconst 0 <|
 o_put shw_2_0_6_4_3 2 2 false <|
 o_aload 0 <|
 o_iconst 0 <|
 o_put shw_2_0_6_4_3 2 3 false <|
 o_iconst 0 <|
 o_istore 5 <|
 o_cut [] k31
def en_X2_seek_16 (p2 : Int) (p3 : Int) (a : Int × Ob × Ob × Ob × Ob × Ob) : XSt := ([some (.inr (.inl (0, 0))), some (.inr (.inl (4, 0))), some (.inl p2), some (.inl p3), none, none, none], [.inl a.1], [a.2.1, a.2.2.1, a.2.2.2.1, a.2.2.2.2.1, a.2.2.2.2.2])
noncomputable def rg_X2_seek_31 (k77 : XK) : XK :=
 o_iload 5 <|
 o_iconst 16 <|
 o_icmp_gt (o_iconst (-1) <|
 o_ireturn)
 (o_aload 0 <|
 o_aload 1 <|
 o_iload 2 <|
 o_callVg 3 1 [0, 1, 2, 3, 4] g_X2_seekByMoving v_X2_seekByMoving <|
 o_istore 6 <|
 o_iload 6 <|
 o_iconst (-1) <|
 o_icmp_eq (o_aload 0 <|
 o_aload 1 <|
 o_iload 4 <|
 o_callV 3 1 [0, 1, 2, 3, 4] f_X2_squeezeOne <|
 o_if_ne (o_cut [6] k77)
 (o_aload 0 <|
 o_aload 1 <|
 o_iload 4 <|
 o_callV 3 1 [0, 1, 2, 3, 4] f_X2_purgeOne <|
 o_if_ne (o_cut [6] k77)
 (o_iconst (-1) <|
 o_ireturn)))
 (o_iload 6 <|
 o_ireturn))
def en_X2_seek_31 (p2 : Int) (p3 : Int) (a : Int × Int × Ob × Ob × Ob × Ob × Ob) : XSt := ([some (.inr (.inl (0, 0))), some (.inr (.inl (4, 0))), some (.inl p2), some (.inl p3), some (.inl a.1), some (.inl a.2.1), none], [], [a.2.2.1, a.2.2.2.1, a.2.2.2.2.1, a.2.2.2.2.2.1, a.2.2.2.2.2.2])
noncomputable def rg_X2_seek_77 (k31 : XK) : XK :=
 o_iinc 5 1 <|
 o_cut [] k31
def en_X2_seek_77 (p2 : Int) (p3 : Int) (a : Int × Int × Ob × Ob × Ob × Ob × Ob) : XSt := ([some (.inr (.inl (0, 0))), some (.inr (.inl (4, 0))), some (.inl p2), some (.inl p3), some (.inl a.1), some (.inl a.2.1), none], [], [a.2.2.1, a.2.2.2.1, a.2.2.2.2.1, a.2.2.2.2.2.1, a.2.2.2.2.2.2])
noncomputable def mg_X2_seek_0 (p2 : Int) (p3 : Int) (k16 : (Int × Ob × Ob × Ob × Ob × Ob) → Option Rt) (a : Ob × Ob × Ob × Ob × Ob) : Option Rt :=
 if xw (bz (hdl p3)) = 0 then (k16 ((-1), a.1, a.2.1, a.2.2.1, a.2.2.2.1, a.2.2.2.2))
 else (k16 ((xxor (xshl 1 p3) (-1)), a.1, a.2.1, a.2.2.1, a.2.2.2.1, a.2.2.2.2))
set_option maxRecDepth 100000 in
set_option maxHeartbeats 4000000 in
theorem rq_X2_seek_0 (p2 : Int) (p3 : Int) (k16 : XK) (a : Ob × Ob × Ob × Ob × Ob) : rg_X2_seek_0 k16 (en_X2_seek_0 p2 p3 a) = mg_X2_seek_0 p2 p3 (fun b => k16 (en_X2_seek_16 p2 p3 b)) a := rfl
set_option maxRecDepth 100000 in
set_option maxHeartbeats 4000000 in
theorem sg_X2_seek_0 {X : XDyn} {r0 : Rt} (C : XO X mX2_seek) {k16 : XK} (q16 : XS X mX2_seek r0 16 k16) : XS X mX2_seek r0 0 (rg_X2_seek_0 k16) := by
 unfold rg_X2_seek_0
 exact s_iload_n (pc := 0) C dX2_seek_0 rfl <|
    s_callN (pc := 1) C ct_X7_isHandle (n := 1) (rk := 1) (mp := []) ⟨rfl, by decide, rfl⟩ (by decide) (by decide) yi_X7_isHandle wd_382 wd_383 wd_73 wd_384 dX2_seek_1 <|
    s_if_eq (pc := 4) C dX2_seek_4 (by decide) (s_iconst (pc := 15) C dX2_seek_15 <|
    s_cut q16)
    (s_iconst (pc := 7) C dX2_seek_7 <|
    s_iload_n (pc := 8) C dX2_seek_8 rfl <|
    s_ishl (pc := 9) C dX2_seek_9 <|
    s_iconst (pc := 10) C dX2_seek_10 <|
    s_ixor (pc := 11) C dX2_seek_11 <|
    s_goto (pc := 12) C dX2_seek_12 (by decide) <|
    s_cut q16)
noncomputable def mg_X2_seek_16 (p2 : Int) (p3 : Int) (k31 : (Int × Int × Ob × Ob × Ob × Ob × Ob) → Option Rt) (a : Int × Ob × Ob × Ob × Ob × Ob) : Option Rt :=
 k31 (a.1, 0, (xset (xset a.2.1 0 2 0) 0 3 0), a.2.2.1, a.2.2.2.1, a.2.2.2.2.1, a.2.2.2.2.2)
set_option maxRecDepth 100000 in
set_option maxHeartbeats 4000000 in
theorem rq_X2_seek_16 (p2 : Int) (p3 : Int) (k31 : XK) (a : Int × Ob × Ob × Ob × Ob × Ob) : rg_X2_seek_16 k31 (en_X2_seek_16 p2 p3 a) = mg_X2_seek_16 p2 p3 (fun b => k31 (en_X2_seek_31 p2 p3 b)) a := rfl
set_option maxRecDepth 100000 in
set_option maxHeartbeats 4000000 in
theorem sg_X2_seek_16 {X : XDyn} {r0 : Rt} (C : XO X mX2_seek) {k31 : XK} (q31 : XS X mX2_seek r0 31 k31) : XS X mX2_seek r0 16 (rg_X2_seek_16 k31) := by
 unfold rg_X2_seek_16
 exact s_istore (pc := 16) C dX2_seek_16 <|
    s_aload_n (pc := 18) C dX2_seek_18 rfl <|
    s_iconst (pc := 19) C dX2_seek_19 <|
    s_put (pc := 20) (z := false) C (ci := 2) (kf := 2) rfl inX2 tyX2_ok nmX2 (by decide) wd_280 rfl rfl dX2_seek_20 <|
    s_aload_n (pc := 23) C dX2_seek_23 rfl <|
    s_iconst (pc := 24) C dX2_seek_24 <|
    s_put (pc := 25) (z := false) C (ci := 2) (kf := 3) rfl inX2 tyX2_ok nmX2 (by decide) wd_282 rfl rfl dX2_seek_25 <|
    s_iconst (pc := 28) C dX2_seek_28 <|
    s_istore (pc := 29) C dX2_seek_29 <|
    s_cut q31
noncomputable def mg_X2_seek_31 (p2 : Int) (p3 : Int) (k77 : (Int × Int × Ob × Ob × Ob × Ob × Ob) → Option Rt) (a : Int × Int × Ob × Ob × Ob × Ob × Ob) : Option Rt :=
 if xw a.2.1 > 16 then (RI (-1) [a.2.2.1, a.2.2.2.1, a.2.2.2.2.1, a.2.2.2.2.2.1, a.2.2.2.2.2.2])
 else (if pd (LW a.2.2.2.2.2.2 ∧ 1 ≤ p2 ∧ p2 ≤ 200) then (
 if xw ((bmF a.2.2.1 a.2.2.2.1 a.2.2.2.2.1 a.2.2.2.2.2.1 a.2.2.2.2.2.2 p2).1) = (-1) then (if xw (bz (!decide (sqb ((bmF a.2.2.1 a.2.2.2.1 a.2.2.2.2.1 a.2.2.2.2.2.1 a.2.2.2.2.2.2 p2).2.2.2.2.2) a.1 = -1))) = 0 then (if xw (bz (!decide (pub (sqH ((bmF a.2.2.1 a.2.2.2.1 a.2.2.2.2.1 a.2.2.2.2.2.1 a.2.2.2.2.2.2 p2).2.2.2.2.2) a.1) a.1 = -1))) = 0 then (RI (-1) [(puF (sqF ((bmF a.2.2.1 a.2.2.2.1 a.2.2.2.2.1 a.2.2.2.2.2.1 a.2.2.2.2.2.2 p2).2.1) ((bmF a.2.2.1 a.2.2.2.1 a.2.2.2.2.1 a.2.2.2.2.2.1 a.2.2.2.2.2.2 p2).2.2.2.2.2) a.1) (sqH ((bmF a.2.2.1 a.2.2.2.1 a.2.2.2.2.1 a.2.2.2.2.2.1 a.2.2.2.2.2.2 p2).2.2.2.2.2) a.1) a.1), ((bmF a.2.2.1 a.2.2.2.1 a.2.2.2.2.1 a.2.2.2.2.2.1 a.2.2.2.2.2.2 p2).2.2.1), ((bmF a.2.2.1 a.2.2.2.1 a.2.2.2.2.1 a.2.2.2.2.2.1 a.2.2.2.2.2.2 p2).2.2.2.1), ((bmF a.2.2.1 a.2.2.2.1 a.2.2.2.2.1 a.2.2.2.2.2.1 a.2.2.2.2.2.2 p2).2.2.2.2.1), (puH (sqH ((bmF a.2.2.1 a.2.2.2.1 a.2.2.2.2.1 a.2.2.2.2.2.1 a.2.2.2.2.2.2 p2).2.2.2.2.2) a.1) a.1)])
 else (k77 (a.1, a.2.1, (puF (sqF ((bmF a.2.2.1 a.2.2.2.1 a.2.2.2.2.1 a.2.2.2.2.2.1 a.2.2.2.2.2.2 p2).2.1) ((bmF a.2.2.1 a.2.2.2.1 a.2.2.2.2.1 a.2.2.2.2.2.1 a.2.2.2.2.2.2 p2).2.2.2.2.2) a.1) (sqH ((bmF a.2.2.1 a.2.2.2.1 a.2.2.2.2.1 a.2.2.2.2.2.1 a.2.2.2.2.2.2 p2).2.2.2.2.2) a.1) a.1), ((bmF a.2.2.1 a.2.2.2.1 a.2.2.2.2.1 a.2.2.2.2.2.1 a.2.2.2.2.2.2 p2).2.2.1), ((bmF a.2.2.1 a.2.2.2.1 a.2.2.2.2.1 a.2.2.2.2.2.1 a.2.2.2.2.2.2 p2).2.2.2.1), ((bmF a.2.2.1 a.2.2.2.1 a.2.2.2.2.1 a.2.2.2.2.2.1 a.2.2.2.2.2.2 p2).2.2.2.2.1), (puH (sqH ((bmF a.2.2.1 a.2.2.2.1 a.2.2.2.2.1 a.2.2.2.2.2.1 a.2.2.2.2.2.2 p2).2.2.2.2.2) a.1) a.1))))
 else (k77 (a.1, a.2.1, (sqF ((bmF a.2.2.1 a.2.2.2.1 a.2.2.2.2.1 a.2.2.2.2.2.1 a.2.2.2.2.2.2 p2).2.1) ((bmF a.2.2.1 a.2.2.2.1 a.2.2.2.2.1 a.2.2.2.2.2.1 a.2.2.2.2.2.2 p2).2.2.2.2.2) a.1), ((bmF a.2.2.1 a.2.2.2.1 a.2.2.2.2.1 a.2.2.2.2.2.1 a.2.2.2.2.2.2 p2).2.2.1), ((bmF a.2.2.1 a.2.2.2.1 a.2.2.2.2.1 a.2.2.2.2.2.1 a.2.2.2.2.2.2 p2).2.2.2.1), ((bmF a.2.2.1 a.2.2.2.1 a.2.2.2.2.1 a.2.2.2.2.2.1 a.2.2.2.2.2.2 p2).2.2.2.2.1), (sqH ((bmF a.2.2.1 a.2.2.2.1 a.2.2.2.2.1 a.2.2.2.2.2.1 a.2.2.2.2.2.2 p2).2.2.2.2.2) a.1))))
 else (RI ((bmF a.2.2.1 a.2.2.2.1 a.2.2.2.2.1 a.2.2.2.2.2.1 a.2.2.2.2.2.2 p2).1) [((bmF a.2.2.1 a.2.2.2.1 a.2.2.2.2.1 a.2.2.2.2.2.1 a.2.2.2.2.2.2 p2).2.1), ((bmF a.2.2.1 a.2.2.2.1 a.2.2.2.2.1 a.2.2.2.2.2.1 a.2.2.2.2.2.2 p2).2.2.1), ((bmF a.2.2.1 a.2.2.2.1 a.2.2.2.2.1 a.2.2.2.2.2.1 a.2.2.2.2.2.2 p2).2.2.2.1), ((bmF a.2.2.1 a.2.2.2.1 a.2.2.2.2.1 a.2.2.2.2.2.1 a.2.2.2.2.2.2 p2).2.2.2.2.1), ((bmF a.2.2.1 a.2.2.2.1 a.2.2.2.2.1 a.2.2.2.2.2.1 a.2.2.2.2.2.2 p2).2.2.2.2.2)])) else none)
set_option maxRecDepth 100000 in
set_option maxHeartbeats 4000000 in
theorem rq_X2_seek_31 (p2 : Int) (p3 : Int) (k77 : XK) (a : Int × Int × Ob × Ob × Ob × Ob × Ob) : rg_X2_seek_31 k77 (en_X2_seek_31 p2 p3 a) = mg_X2_seek_31 p2 p3 (fun b => k77 (en_X2_seek_77 p2 p3 b)) a := rfl
set_option maxRecDepth 100000 in
set_option maxHeartbeats 4000000 in
theorem sg_X2_seek_31 {X : XDyn} {r0 : Rt} (C : XO X mX2_seek) {k77 : XK} (q77 : XS X mX2_seek r0 77 k77) : XS X mX2_seek r0 31 (rg_X2_seek_31 k77) := by
 unfold rg_X2_seek_31
 exact s_iload (pc := 31) C dX2_seek_31 <|
    s_bipush (pc := 33) C dX2_seek_33 (by decide) <|
    s_icmp_gt (pc := 35) C dX2_seek_35 (by decide) (s_iconst (pc := 83) C dX2_seek_83 <|
    s_ireturn (pc := 84) C rfl dX2_seek_84)
    (s_aload_n (pc := 38) C dX2_seek_38 rfl <|
    s_aload_n (pc := 39) C dX2_seek_39 rfl <|
    s_iload_n (pc := 40) C dX2_seek_40 rfl <|
    s_callVg (pc := 41) C ct_X2_seekByMoving (n := 3) (rk := 1) (mp := [0, 1, 2, 3, 4]) ⟨rfl, by decide, rfl⟩ (ci := 2) rfl rfl (by decide) (by decide) yi_X2_seekByMoving (by decide) wd_385 wd_387 wd_1 wd_78 wd_388 dX2_seek_41 <|
    s_istore (pc := 44) C dX2_seek_44 <|
    s_iload (pc := 46) C dX2_seek_46 <|
    s_iconst (pc := 48) C dX2_seek_48 <|
    s_icmp_eq (pc := 49) C dX2_seek_49 (by decide) (s_aload_n (pc := 55) C dX2_seek_55 rfl <|
    s_aload_n (pc := 56) C dX2_seek_56 rfl <|
    s_iload (pc := 57) C dX2_seek_57 <|
    s_callV (pc := 59) C ct_X2_squeezeOne (n := 3) (rk := 1) (mp := [0, 1, 2, 3, 4]) ⟨rfl, by decide, rfl⟩ (ci := 2) rfl rfl (by decide) (by decide) yi_X2_squeezeOne (by decide) wd_500 wd_502 wd_8 wd_78 wd_503 dX2_seek_59 <|
    s_if_ne (pc := 62) C dX2_seek_62 (by decide) (s_cut q77)
    (s_aload_n (pc := 65) C dX2_seek_65 rfl <|
    s_aload_n (pc := 66) C dX2_seek_66 rfl <|
    s_iload (pc := 67) C dX2_seek_67 <|
    s_callV (pc := 69) C ct_X2_purgeOne (n := 3) (rk := 1) (mp := [0, 1, 2, 3, 4]) ⟨rfl, by decide, rfl⟩ (ci := 2) rfl rfl (by decide) (by decide) yi_X2_purgeOne (by decide) wd_517 wd_519 wd_9 wd_78 wd_520 dX2_seek_69 <|
    s_if_ne (pc := 72) C dX2_seek_72 (by decide) (s_cut q77)
    (s_iconst (pc := 75) C dX2_seek_75 <|
    s_ireturn (pc := 76) C rfl dX2_seek_76)))
    (s_iload (pc := 52) C dX2_seek_52 <|
    s_ireturn (pc := 54) C rfl dX2_seek_54))
noncomputable def mg_X2_seek_77 (p2 : Int) (p3 : Int) (k31 : (Int × Int × Ob × Ob × Ob × Ob × Ob) → Option Rt) (a : Int × Int × Ob × Ob × Ob × Ob × Ob) : Option Rt :=
 k31 (a.1, (a.2.1 + 1), a.2.2.1, a.2.2.2.1, a.2.2.2.2.1, a.2.2.2.2.2.1, a.2.2.2.2.2.2)
set_option maxRecDepth 100000 in
set_option maxHeartbeats 4000000 in
theorem rq_X2_seek_77 (p2 : Int) (p3 : Int) (k31 : XK) (a : Int × Int × Ob × Ob × Ob × Ob × Ob) : rg_X2_seek_77 k31 (en_X2_seek_77 p2 p3 a) = mg_X2_seek_77 p2 p3 (fun b => k31 (en_X2_seek_31 p2 p3 b)) a := rfl
set_option maxRecDepth 100000 in
set_option maxHeartbeats 4000000 in
theorem sg_X2_seek_77 {X : XDyn} {r0 : Rt} (C : XO X mX2_seek) {k31 : XK} (q31 : XS X mX2_seek r0 31 k31) : XS X mX2_seek r0 77 (rg_X2_seek_77 k31) := by
 unfold rg_X2_seek_77
 exact s_iinc (pc := 77) C dX2_seek_77 <|
    s_goto (pc := 80) C dX2_seek_80 (by decide) <|
    s_cut q31
noncomputable def rw_X2_seek_77 (f : Nat) (k31 : XK) : XK := rg_X2_seek_77 k31
noncomputable def md_X2_seek_77 (p2 : Int) (p3 : Int) (f : Nat) (k31 : (Int × Int × Ob × Ob × Ob × Ob × Ob) → Option Rt) : Int × Int × Ob × Ob × Ob × Ob × Ob → Option Rt := mg_X2_seek_77 p2 p3 k31
theorem eq_X2_seek_77 (p2 : Int) (p3 : Int) (f : Nat) (k31 : XK) (a : Int × Int × Ob × Ob × Ob × Ob × Ob) : rw_X2_seek_77 f k31 (en_X2_seek_77 p2 p3 a) = md_X2_seek_77 p2 p3 f (fun b => k31 (en_X2_seek_31 p2 p3 b)) a :=
 (rq_X2_seek_77 p2 p3 k31 a).trans (congrFun (congr (rfl : mg_X2_seek_77 p2 p3 = mg_X2_seek_77 p2 p3) rfl) a)
theorem sd_X2_seek_77 (f : Nat) {X : XDyn} {r0 : Rt} (C : XO X mX2_seek) {k31 : XK} (q31 : XS X mX2_seek r0 31 k31) : XS X mX2_seek r0 77 (rw_X2_seek_77 f k31) := sg_X2_seek_77 C q31
noncomputable def rw_X2_seek_31 (f : Nat) : XK := tlp (fun k31 => rg_X2_seek_31 (rw_X2_seek_77 f k31)) f
noncomputable def lb_X2_seek_31 (p2 : Int) (p3 : Int) (f : Nat) : ((Int × Int × Ob × Ob × Ob × Ob × Ob) → Option Rt) → Int × Int × Ob × Ob × Ob × Ob × Ob → Option Rt := fun k31 => mg_X2_seek_31 p2 p3 (md_X2_seek_77 p2 p3 f k31)
noncomputable def md_X2_seek_31 (p2 : Int) (p3 : Int) (f : Nat) : Int × Int × Ob × Ob × Ob × Ob × Ob → Option Rt := tlp (lb_X2_seek_31 p2 p3 f) f
theorem eq_X2_seek_31 (p2 : Int) (p3 : Int) (f : Nat) (a : Int × Int × Ob × Ob × Ob × Ob × Ob) : rw_X2_seek_31 f (en_X2_seek_31 p2 p3 a) = md_X2_seek_31 p2 p3 f a :=
 tlp_enc (en_X2_seek_31 p2 p3) (fun k31 a => (rq_X2_seek_31 p2 p3 (rw_X2_seek_77 f k31) a).trans (congrFun (congr (rfl : mg_X2_seek_31 p2 p3 = mg_X2_seek_31 p2 p3) (funext (eq_X2_seek_77 p2 p3 f k31))) a)) f a
theorem sd_X2_seek_31 (f : Nat) {X : XDyn} {r0 : Rt} (C : XO X mX2_seek) : XS X mX2_seek r0 31 (rw_X2_seek_31 f) := s_lp (fun k31 q31 => sg_X2_seek_31 C (sd_X2_seek_77 f C q31)) f
noncomputable def rw_X2_seek_16 (f : Nat) : XK := rg_X2_seek_16 (rw_X2_seek_31 f)
noncomputable def md_X2_seek_16 (p2 : Int) (p3 : Int) (f : Nat) : Int × Ob × Ob × Ob × Ob × Ob → Option Rt := mg_X2_seek_16 p2 p3 (md_X2_seek_31 p2 p3 f)
theorem eq_X2_seek_16 (p2 : Int) (p3 : Int) (f : Nat) (a : Int × Ob × Ob × Ob × Ob × Ob) : rw_X2_seek_16 f (en_X2_seek_16 p2 p3 a) = md_X2_seek_16 p2 p3 f a :=
 (rq_X2_seek_16 p2 p3 (rw_X2_seek_31 f) a).trans (congrFun (congr (rfl : mg_X2_seek_16 p2 p3 = mg_X2_seek_16 p2 p3) (funext (eq_X2_seek_31 p2 p3 f))) a)
theorem sd_X2_seek_16 (f : Nat) {X : XDyn} {r0 : Rt} (C : XO X mX2_seek) : XS X mX2_seek r0 16 (rw_X2_seek_16 f) := sg_X2_seek_16 C (sd_X2_seek_31 f C)
noncomputable def rw_X2_seek_0 (f : Nat) : XK := rg_X2_seek_0 (rw_X2_seek_16 f)
noncomputable def md_X2_seek_0 (p2 : Int) (p3 : Int) (f : Nat) : Ob × Ob × Ob × Ob × Ob → Option Rt := mg_X2_seek_0 p2 p3 (md_X2_seek_16 p2 p3 f)
theorem eq_X2_seek_0 (p2 : Int) (p3 : Int) (f : Nat) (a : Ob × Ob × Ob × Ob × Ob) : rw_X2_seek_0 f (en_X2_seek_0 p2 p3 a) = md_X2_seek_0 p2 p3 f a :=
 (rq_X2_seek_0 p2 p3 (rw_X2_seek_16 f) a).trans (congrFun (congr (rfl : mg_X2_seek_0 p2 p3 = mg_X2_seek_0 p2 p3) (funext (eq_X2_seek_16 p2 p3 f))) a)
theorem sd_X2_seek_0 (f : Nat) {X : XDyn} {r0 : Rt} (C : XO X mX2_seek) : XS X mX2_seek r0 0 (rw_X2_seek_0 f) := sg_X2_seek_0 C (sd_X2_seek_16 f C)
theorem ctr_X2_seek (f : Nat) : XCt yX2_seek mX2_seek (xF mX2_seek (rw_X2_seek_0 f)) := xMet (by decide +kernel) rfl (fun _ _ C => sd_X2_seek_0 f C)
theorem eqf_X2_seek (f : Nat) (p2 : Int) (p3 : Int) (h0 : Ob) (h1 : Ob) (h2 : Ob) (h3 : Ob) (h4 : Ob) : xF mX2_seek (rw_X2_seek_0 f) [.inr (.inl (0, 0)), .inr (.inl (4, 0)), .inl p2, .inl p3] [h0, h1, h2, h3, h4] = md_X2_seek_0 p2 p3 f (h0, h1, h2, h3, h4) := eq_X2_seek_0 p2 p3 f (h0, h1, h2, h3, h4)
theorem yi_X2_seek : yX2_seek.cls = RX2 ∧ yX2_seek.cls ≠ "java/lang/invoke/MethodHandle" ∧ yX2_seek.cls ≠ "java/lang/invoke/VarHandle" ∧ (parseMethodDescriptor yX2_seek.desc).map (fun d => d.parameters.length) = some 3 := ⟨rfl, by decide +kernel, by decide +kernel, by decide +kernel⟩
theorem sp_X2_seek (f : Nat) (hf : 1000 ≤ f) (p2 p3 : Int) (h0 h1 h2 h3 h4 : Ob) (hg : pd (LW h4 ∧ Lst h4 ∧ 1 ≤ p2 ∧ p2 ≤ 200) = true) : md_X2_seek_0 p2 p3 f (h0, h1, h2, h3, h4) = RI (fsF h0 h1 h2 h3 h4 p2 p3).1 [(fsF h0 h1 h2 h3 h4 p2 p3).2.1, (fsF h0 h1 h2 h3 h4 p2 p3).2.2.1, (fsF h0 h1 h2 h3 h4 p2 p3).2.2.2.1, (fsF h0 h1 h2 h3 h4 p2 p3).2.2.2.2.1, (fsF h0 h1 h2 h3 h4 p2 p3).2.2.2.2.2] := by
  obtain ⟨hL, hS, g1, g2⟩ := pd_of hg
  rw [fsF_e]
  have e1 : md_X2_seek_0 p2 p3 f (h0, h1, h2, h3, h4) = md_X2_seek_31 p2 p3 f (spr p3, 0, xset (xset h0 0 2 0) 0 3 0, h1, h2, h3, h4) := by
    simp only [md_X2_seek_0, mg_X2_seek_0, md_X2_seek_16, mg_X2_seek_16, bz_0]
    unfold spr
    cases hdl p3 <;> rfl
  rw [e1]
  clear e1
  generalize spr p3 = m
  have key : ∀ (d f' : Nat) (F A G P h : Ob), d ≤ 17 → d < f' → LW h → Lst h → tlp (lb_X2_seek_31 p2 p3 f) f' (m, (17 : Int) - d, F, A, G, P, h) = RI (fsI p2 m d F A G P h).1 [(fsI p2 m d F A G P h).2.1, (fsI p2 m d F A G P h).2.2.1, (fsI p2 m d F A G P h).2.2.2.1, (fsI p2 m d F A G P h).2.2.2.2.1, (fsI p2 m d F A G P h).2.2.2.2.2] := by
    intro d
    induction d with
    | zero =>
      intro f' F A G P h _ hf' hL hS
      cases f' with
      | zero => omega
      | succ f' =>
        rw [tlp_succ]
        simp only [lb_X2_seek_31, mg_X2_seek_31]
        rw [xw_id (x := (17 : Int) - ((0 : Nat) : Int)) (by omega) (by omega), if_pos (by omega)]
        rfl
    | succ d ih =>
      intro f' F A G P h hd hf' hL hS
      cases f' with
      | zero => omega
      | succ f' =>
        have hbn := bm_none hL hS F A G P g1 g2
        rw [tlp_succ]
        unfold fsI
        simp only [lb_X2_seek_31, mg_X2_seek_31, md_X2_seek_77, mg_X2_seek_77, bz_0]
        rw [xw_id (x := (17 : Int) - ((d + 1 : Nat) : Int)) (by omega) (by omega), if_neg (by omega), pd_t (show LW h ∧ 1 ≤ p2 ∧ p2 ≤ 200 from ⟨hL, g1, g2⟩), if_pos rfl, show (17 : Int) - ((d + 1 : Nat) : Int) + 1 = (17 : Int) - (d : Int) by omega]
        generalize bmF F A G P h p2 = b at hbn
        by_cases c : xw b.1 = -1
        · obtain ⟨l1, l2⟩ := hbn c
          rw [if_pos c, if_pos c]
          obtain ⟨s1, s2⟩ := l1.sq l2 m
          obtain ⟨u1, u2⟩ := s1.pu s2 m
          by_cases cs : sqb b.2.2.2.2.2 m = -1
          · rw [if_pos (by simp [cs]), if_pos cs]
            by_cases cp : pub (sqH b.2.2.2.2.2 m) m = -1
            · rw [if_pos (by simp [cp]), if_pos cp]
            · rw [if_neg (by simp [cp]), if_neg cp]
              exact ih f' _ _ _ _ _ (by omega) (by omega) u1 u2
          · rw [if_neg (by simp [cs]), if_neg cs]
            exact ih f' _ _ _ _ _ (by omega) (by omega) s1 s2
        · rw [if_neg c, if_neg c]
  exact key 17 f _ _ _ _ _ (by omega) (by omega) hL hS
noncomputable def g_X2_seek : List AV → List Ob → Bool
  | [.inr (.inl (0, 0)), .inr (.inl (4, 0)), .inl p2, .inl p3], [h0, h1, h2, h3, h4] => pd (LW h4 ∧ Lst h4 ∧ 1 ≤ p2 ∧ p2 ≤ 200)
  | _, _ => false
noncomputable def v_X2_seek : List AV → List Ob → Rt
  | [.inr (.inl (0, 0)), .inr (.inl (4, 0)), .inl p2, .inl p3], [h0, h1, h2, h3, h4] => (some (.inl ((fsF h0 h1 h2 h3 h4 p2 p3).1)), [((fsF h0 h1 h2 h3 h4 p2 p3).2.1), ((fsF h0 h1 h2 h3 h4 p2 p3).2.2.1), ((fsF h0 h1 h2 h3 h4 p2 p3).2.2.2.1), ((fsF h0 h1 h2 h3 h4 p2 p3).2.2.2.2.1), ((fsF h0 h1 h2 h3 h4 p2 p3).2.2.2.2.2)])
  | _, _ => (none, [])
theorem ct_X2_seek : XCt yX2_seek mX2_seek (fun as μ => if g_X2_seek as μ then some (v_X2_seek as μ) else none) := (ctr_X2_seek xfu).of (fun as μ r h => by
  split at h
  · rename_i hg
    unfold g_X2_seek at hg
    split at hg
    · rw [← h]
      exact (eqf_X2_seek xfu _ _ _ _ _ _ _).trans (sp_X2_seek xfu (xfu_ge (by decide)) _ _ _ _ _ _ _ hg)
    · cases hg
  · cases h)
