theorem xset_twice (h : Ob) (b n : Nat) (x y : Int) : xset (xset h b n x) b n y = xset h b n y := by
  funext j k
  unfold xset
  split <;> rfl
theorem LW.bgnc {h : Ob} (hL : LW h) : 0 ≤ bgn h ∧ bgn h ≤ h 0 9 ∧ ∀ i, i < 11 → h 1 i ≠ -1 → h 1 i + h 2 i + 1 ≤ bgn h := by
  obtain ⟨z1, z2, z3, z4, -⟩ := id hL
  have key : ∀ m, m ≤ 11 → 0 ≤ (List.range m).foldl (fun (b : Int) (i : Nat) => if xw (h 1 i) = -1 then b else xmax b (h 1 i + h 2 i + 1)) 0 ∧ (List.range m).foldl (fun (b : Int) (i : Nat) => if xw (h 1 i) = -1 then b else xmax b (h 1 i + h 2 i + 1)) 0 ≤ h 0 9 ∧ ∀ i, i < m → h 1 i ≠ -1 → h 1 i + h 2 i + 1 ≤ (List.range m).foldl (fun (b : Int) (i : Nat) => if xw (h 1 i) = -1 then b else xmax b (h 1 i + h 2 i + 1)) 0 := by
    intro m
    induction m with
    | zero => intro _; exact ⟨Int.le_refl _, by show (0 : Int) ≤ _; omega, fun i hi => by omega⟩
    | succ m ih =>
      intro hm
      obtain ⟨i1, i2, i3⟩ := ih (by omega)
      rw [List.range_succ, List.foldl_append]
      generalize (List.range m).foldl (fun (b : Int) (i : Nat) => if xw (h 1 i) = -1 then b else xmax b (h 1 i + h 2 i + 1)) 0 = z at i1 i2 i3
      simp only [List.foldl_cons, List.foldl_nil, hL.xpl (show m < 11 by omega)]
      have hm4 := z4 m (by omega)
      by_cases hp : h 1 m = -1
      · rw [if_pos hp]
        refine ⟨i1, i2, fun i hi hpi => ?_⟩
        by_cases him : i = m
        · subst him; exact absurd hp hpi
        · exact i3 i (by omega) hpi
      · rw [if_neg hp]
        have hx : xmax z (h 1 m + h 2 m + 1) = if z < h 1 m + h 2 m + 1 then h 1 m + h 2 m + 1 else z := by
          unfold xmax
          rw [xw_id (x := z) (by omega) (by omega), xw_id (x := h 1 m + h 2 m + 1) (by omega) (by omega)]
        rw [hx]
        refine ⟨by split <;> omega, by split <;> omega, fun i hi hpi => ?_⟩
        by_cases him : i = m
        · subst him; split <;> omega
        · have := i3 i (by omega) hpi
          split <;> omega
  exact key 11 (by omega)
theorem LW.grow {h : Ob} (hL : LW h) {n : Int} (h1 : 0 ≤ n) (h2 : n ≤ 200) : LW (grO h n) := by
  obtain ⟨b1, b2, -⟩ := hL.bgnc
  obtain ⟨z1, z2, z3, z4, z5, z6⟩ := hL
  have hx : ∃ e, grO h n = xset h 0 9 e ∧ h 0 9 ≤ e ∧ e ≤ h 0 10 := by
    refine ⟨_, rfl, ?_, ?_⟩
    · unfold xmax xmin
      rw [xw_id (x := h 0 9) (by omega) (by omega), xw_id (x := h 0 10) (by omega) (by omega), xw_id (x := bgn h + n) (by omega) (by omega)]
      split
      · rw [xw_id (by omega) (by omega)]
        split <;> omega
      · rw [xw_id (by omega) (by omega)]
        split <;> omega
    · unfold xmax xmin
      rw [xw_id (x := h 0 9) (by omega) (by omega), xw_id (x := h 0 10) (by omega) (by omega), xw_id (x := bgn h + n) (by omega) (by omega)]
      split
      · rw [xw_id (by omega) (by omega)]
        split <;> omega
      · rw [xw_id (by omega) (by omega)]
        split <;> omega
  obtain ⟨e, he, e1, e2⟩ := hx
  rw [he]
  have p1 : ∀ j k, j ≠ 0 → xset h 0 9 e j k = h j k := fun j k hj => xset_part _ _ _ _ hj _
  have p2 : xset h 0 9 e 0 9 = e := xset_same _ _ _ _
  have p3 : xset h 0 9 e 0 10 = h 0 10 := xset_idx _ _ _ _ (by omega) _
  refine ⟨by rw [p2]; omega, by rw [p2, p3]; omega, by rw [p3]; omega, fun i hi => ?_, fun i j hi hj hij => ?_, fun i hi => ?_⟩
  · rw [p1 1 i (by omega), p1 2 i (by omega), p2]
    have := z4 i hi
    omega
  · rw [p1 1 i (by omega), p1 2 i (by omega), p1 1 j (by omega), p1 2 j (by omega)]
    exact z5 i j hi hj hij
  · rw [p1 4 i (by omega)]
    exact z6 i hi
/-- the first steps of a fit: where, by which step, and the heap then -/
noncomputable def bm1 (h : Ob) (n : Int) : Int × Int × Ob := if xw (ffr h n) = -1 then ((sld h n).1, 2, (sld h n).2) else (ffr h n, 1, h)
noncomputable def bm2 (h : Ob) (n : Int) : Int × Int × Ob := if xw (bm1 h n).1 = -1 then (grR (bm1 h n).2.2 n, 3, grO (bm1 h n).2.2 n) else bm1 h n
noncomputable def bmI (F A G P h : Ob) (n : Int) : Int × Ob × Ob × Ob × Ob × Ob := if xw (bm2 h n).1 = -1 then ((asF A G P (bm2 h n).2.2 n).1, xset F 0 1 4, (asF A G P (bm2 h n).2.2 n).2.1, skG G (bm2 h n).2.2, skP G P (bm2 h n).2.2 n, (asF A G P (bm2 h n).2.2 n).2.2) else ((bm2 h n).1, xset F 0 1 (bm2 h n).2.1, A, G, P, (bm2 h n).2.2)
noncomputable def bmF : Ob → Ob → Ob → Ob → Ob → Int → Int × Ob × Ob × Ob × Ob × Ob := xop bmI
theorem bmF_e (F A G P h : Ob) (n : Int) : bmF F A G P h n = bmI F A G P h n := by
  unfold bmF
  rw [xop_eq]
theorem LW.b1 {h : Ob} (hL : LW h) (n : Int) : LW (bm1 h n).2.2 := by
  unfold bm1
  split
  · show LW (sld h n).2
    rw [sld_e]
    exact sld_step n 1000 hL
  · exact hL
theorem LW.b2 {h : Ob} (hL : LW h) {n : Int} (h1 : 0 ≤ n) (h2 : n ≤ 200) : LW (bm2 h n).2.2 := by
  unfold bm2
  split
  · exact (hL.b1 n).grow h1 h2
  · exact hL.b1 n
theorem dX2_seekByMoving_0 : decode cX2_seekByMoving 0 = .ok (.aload_n 0, 1) := by decide +kernel
theorem dX2_seekByMoving_1 : decode cX2_seekByMoving 1 = .ok (.iconst 1, 1) := by decide +kernel
theorem dX2_seekByMoving_2 : decode cX2_seekByMoving 2 = .ok (.putfield 40, 3) := by decide +kernel
theorem dX2_seekByMoving_5 : decode cX2_seekByMoving 5 = .ok (.aload_n 1, 1) := by decide +kernel
theorem dX2_seekByMoving_6 : decode cX2_seekByMoving 6 = .ok (.iload_n 2, 1) := by decide +kernel
theorem dX2_seekByMoving_7 : decode cX2_seekByMoving 7 = .ok (.invokevirtual 43, 3) := by decide +kernel
theorem dX2_seekByMoving_10 : decode cX2_seekByMoving 10 = .ok (.istore_n 3, 1) := by decide +kernel
theorem dX2_seekByMoving_11 : decode cX2_seekByMoving 11 = .ok (.iload_n 3, 1) := by decide +kernel
theorem dX2_seekByMoving_12 : decode cX2_seekByMoving 12 = .ok (.iconst (-1), 1) := by decide +kernel
theorem dX2_seekByMoving_13 : decode cX2_seekByMoving 13 = .ok (.if_icmp .ne 14, 3) := by decide +kernel
theorem dX2_seekByMoving_16 : decode cX2_seekByMoving 16 = .ok (.aload_n 0, 1) := by decide +kernel
theorem dX2_seekByMoving_17 : decode cX2_seekByMoving 17 = .ok (.iconst 2, 1) := by decide +kernel
theorem dX2_seekByMoving_18 : decode cX2_seekByMoving 18 = .ok (.putfield 40, 3) := by decide +kernel
theorem dX2_seekByMoving_21 : decode cX2_seekByMoving 21 = .ok (.aload_n 1, 1) := by decide +kernel
theorem dX2_seekByMoving_22 : decode cX2_seekByMoving 22 = .ok (.iload_n 2, 1) := by decide +kernel
theorem dX2_seekByMoving_23 : decode cX2_seekByMoving 23 = .ok (.invokevirtual 49, 3) := by decide +kernel
theorem dX2_seekByMoving_26 : decode cX2_seekByMoving 26 = .ok (.istore_n 3, 1) := by decide +kernel
theorem dX2_seekByMoving_27 : decode cX2_seekByMoving 27 = .ok (.iload_n 3, 1) := by decide +kernel
theorem dX2_seekByMoving_28 : decode cX2_seekByMoving 28 = .ok (.iconst (-1), 1) := by decide +kernel
theorem dX2_seekByMoving_29 : decode cX2_seekByMoving 29 = .ok (.if_icmp .ne 14, 3) := by decide +kernel
theorem dX2_seekByMoving_32 : decode cX2_seekByMoving 32 = .ok (.aload_n 0, 1) := by decide +kernel
theorem dX2_seekByMoving_33 : decode cX2_seekByMoving 33 = .ok (.iconst 3, 1) := by decide +kernel
theorem dX2_seekByMoving_34 : decode cX2_seekByMoving 34 = .ok (.putfield 40, 3) := by decide +kernel
theorem dX2_seekByMoving_37 : decode cX2_seekByMoving 37 = .ok (.aload_n 1, 1) := by decide +kernel
theorem dX2_seekByMoving_38 : decode cX2_seekByMoving 38 = .ok (.iload_n 2, 1) := by decide +kernel
theorem dX2_seekByMoving_39 : decode cX2_seekByMoving 39 = .ok (.invokevirtual 52, 3) := by decide +kernel
theorem dX2_seekByMoving_42 : decode cX2_seekByMoving 42 = .ok (.istore_n 3, 1) := by decide +kernel
theorem dX2_seekByMoving_43 : decode cX2_seekByMoving 43 = .ok (.iload_n 3, 1) := by decide +kernel
theorem dX2_seekByMoving_44 : decode cX2_seekByMoving 44 = .ok (.iconst (-1), 1) := by decide +kernel
theorem dX2_seekByMoving_45 : decode cX2_seekByMoving 45 = .ok (.if_icmp .ne 18, 3) := by decide +kernel
theorem dX2_seekByMoving_48 : decode cX2_seekByMoving 48 = .ok (.aload_n 0, 1) := by decide +kernel
theorem dX2_seekByMoving_49 : decode cX2_seekByMoving 49 = .ok (.iconst 4, 1) := by decide +kernel
theorem dX2_seekByMoving_50 : decode cX2_seekByMoving 50 = .ok (.putfield 40, 3) := by decide +kernel
theorem dX2_seekByMoving_53 : decode cX2_seekByMoving 53 = .ok (.aload_n 0, 1) := by decide +kernel
theorem dX2_seekByMoving_54 : decode cX2_seekByMoving 54 = .ok (.getfield 12, 3) := by decide +kernel
theorem dX2_seekByMoving_57 : decode cX2_seekByMoving 57 = .ok (.aload_n 1, 1) := by decide +kernel
theorem dX2_seekByMoving_58 : decode cX2_seekByMoving 58 = .ok (.iload_n 2, 1) := by decide +kernel
theorem dX2_seekByMoving_59 : decode cX2_seekByMoving 59 = .ok (.invokevirtual 55, 3) := by decide +kernel
theorem dX2_seekByMoving_62 : decode cX2_seekByMoving 62 = .ok (.istore_n 3, 1) := by decide +kernel
theorem dX2_seekByMoving_63 : decode cX2_seekByMoving 63 = .ok (.iload_n 3, 1) := by decide +kernel
theorem dX2_seekByMoving_64 : decode cX2_seekByMoving 64 = .ok (.ireturn, 1) := by decide +kernel
abbrev mX2_seekByMoving : XM := (cX2_seekByMoving, 4, RX2, (some .int), shw_2_0_6_4_3, 12)
noncomputable def rg_X2_seekByMoving_0 (k27 : XK) : XK :=
 o_aload 0 <|
 o_iconst 1 <|
 o_put shw_2_0_6_4_3 2 1 false <|
 o_aload 1 <|
 o_iload 2 <|
 o_callVg 2 1 [4] g_X3_firstFree v_X3_firstFree <|
 o_istore 3 <|
 o_iload 3 <|
 o_iconst (-1) <|
 o_icmp_ne (o_cut [] k27)
 (o_aload 0 <|
 o_iconst 2 <|
 o_put shw_2_0_6_4_3 2 1 false <|
 o_aload 1 <|
 o_iload 2 <|
 o_callVg 2 1 [4] g_X3_slide v_X3_slide <|
 o_istore 3 <|
 o_cut [] k27)
def en_X2_seekByMoving_0 (p2 : Int) (a : Ob × Ob × Ob × Ob × Ob) : XSt := ([some (.inr (.inl (0, 0))), some (.inr (.inl (4, 0))), some (.inl p2), none], [], [a.1, a.2.1, a.2.2.1, a.2.2.2.1, a.2.2.2.2])
noncomputable def rg_X2_seekByMoving_27 (k43 : XK) : XK :=
 o_iload 3 <|
 o_iconst (-1) <|
 o_icmp_ne (o_cut [] k43)
 (o_aload 0 <|
 o_iconst 3 <|
 o_put shw_2_0_6_4_3 2 1 false <|
 o_aload 1 <|
 o_iload 2 <|
 o_callV 2 1 [4] f_X3_grow <|
 o_istore 3 <|
 o_cut [] k43)
def en_X2_seekByMoving_27 (p2 : Int) (a : Int × Ob × Ob × Ob × Ob × Ob) : XSt := ([some (.inr (.inl (0, 0))), some (.inr (.inl (4, 0))), some (.inl p2), some (.inl a.1)], [], [a.2.1, a.2.2.1, a.2.2.2.1, a.2.2.2.2.1, a.2.2.2.2.2])
noncomputable def rg_X2_seekByMoving_43 : XK :=
 o_iload 3 <|
 o_iconst (-1) <|
 o_icmp_ne (o_iload 3 <|
 o_ireturn)
 (o_aload 0 <|
 o_iconst 4 <|
 o_put shw_2_0_6_4_3 2 1 false <|
 o_aload 0 <|
 o_get shw_2_0_6_4_3 2 0 <|
 o_aload 1 <|
 o_iload 2 <|
 o_callVg 3 1 [1, 2, 3, 4] g_X0_seek v_X0_seek <|
 o_istore 3 <|
 o_iload 3 <|
 o_ireturn)
def en_X2_seekByMoving_43 (p2 : Int) (a : Int × Ob × Ob × Ob × Ob × Ob) : XSt := ([some (.inr (.inl (0, 0))), some (.inr (.inl (4, 0))), some (.inl p2), some (.inl a.1)], [], [a.2.1, a.2.2.1, a.2.2.2.1, a.2.2.2.2.1, a.2.2.2.2.2])
noncomputable def mg_X2_seekByMoving_0 (p2 : Int) (k27 : (Int × Ob × Ob × Ob × Ob × Ob) → Option Rt) (a : Ob × Ob × Ob × Ob × Ob) : Option Rt :=
 if pd (LW a.2.2.2.2) then (
 if xw (ffr a.2.2.2.2 p2) = (-1) then (if pd (LW a.2.2.2.2) then (
 k27 (((sld a.2.2.2.2 p2).1), (xset (xset a.1 0 1 1) 0 1 2), a.2.1, a.2.2.1, a.2.2.2.1, ((sld a.2.2.2.2 p2).2))) else none)
 else (k27 ((ffr a.2.2.2.2 p2), (xset a.1 0 1 1), a.2.1, a.2.2.1, a.2.2.2.1, a.2.2.2.2))) else none
set_option maxRecDepth 100000 in
set_option maxHeartbeats 4000000 in
theorem rq_X2_seekByMoving_0 (p2 : Int) (k27 : XK) (a : Ob × Ob × Ob × Ob × Ob) : rg_X2_seekByMoving_0 k27 (en_X2_seekByMoving_0 p2 a) = mg_X2_seekByMoving_0 p2 (fun b => k27 (en_X2_seekByMoving_27 p2 b)) a := rfl
set_option maxRecDepth 100000 in
set_option maxHeartbeats 4000000 in
theorem sg_X2_seekByMoving_0 {X : XDyn} {r0 : Rt} (C : XO X mX2_seekByMoving) {k27 : XK} (q27 : XS X mX2_seekByMoving r0 27 k27) : XS X mX2_seekByMoving r0 0 (rg_X2_seekByMoving_0 k27) := by
 unfold rg_X2_seekByMoving_0
 exact s_aload_n (pc := 0) C dX2_seekByMoving_0 rfl <|
    s_iconst (pc := 1) C dX2_seekByMoving_1 <|
    s_put (pc := 2) (z := false) C (ci := 2) (kf := 1) rfl inX2 tyX2_ok nmX2 (by decide) wd_278 rfl rfl dX2_seekByMoving_2 <|
    s_aload_n (pc := 5) C dX2_seekByMoving_5 rfl <|
    s_iload_n (pc := 6) C dX2_seekByMoving_6 rfl <|
    s_callVg (pc := 7) C ct_X3_firstFree (n := 2) (rk := 1) (mp := [4]) ⟨rfl, by decide, rfl⟩ (ci := 3) rfl rfl (by decide) (by decide) yi_X3_firstFree (by decide) wd_389 wd_390 wd_391 wd_74 wd_392 dX2_seekByMoving_7 <|
    s_istore_n (pc := 10) C dX2_seekByMoving_10 rfl <|
    s_iload_n (pc := 11) C dX2_seekByMoving_11 rfl <|
    s_iconst (pc := 12) C dX2_seekByMoving_12 <|
    s_icmp_ne (pc := 13) C dX2_seekByMoving_13 (by decide) (s_cut q27)
    (s_aload_n (pc := 16) C dX2_seekByMoving_16 rfl <|
    s_iconst (pc := 17) C dX2_seekByMoving_17 <|
    s_put (pc := 18) (z := false) C (ci := 2) (kf := 1) rfl inX2 tyX2_ok nmX2 (by decide) wd_278 rfl rfl dX2_seekByMoving_18 <|
    s_aload_n (pc := 21) C dX2_seekByMoving_21 rfl <|
    s_iload_n (pc := 22) C dX2_seekByMoving_22 rfl <|
    s_callVg (pc := 23) C ct_X3_slide (n := 2) (rk := 1) (mp := [4]) ⟨rfl, by decide, rfl⟩ (ci := 3) rfl rfl (by decide) (by decide) yi_X3_slide (by decide) wd_404 wd_405 wd_406 wd_74 wd_407 dX2_seekByMoving_23 <|
    s_istore_n (pc := 26) C dX2_seekByMoving_26 rfl <|
    s_cut q27)
noncomputable def mg_X2_seekByMoving_27 (p2 : Int) (k43 : (Int × Ob × Ob × Ob × Ob × Ob) → Option Rt) (a : Int × Ob × Ob × Ob × Ob × Ob) : Option Rt :=
 if xw a.1 = (-1) then (k43 ((grR a.2.2.2.2.2 p2), (xset a.2.1 0 1 3), a.2.2.1, a.2.2.2.1, a.2.2.2.2.1, (grO a.2.2.2.2.2 p2)))
 else (k43 (a.1, a.2.1, a.2.2.1, a.2.2.2.1, a.2.2.2.2.1, a.2.2.2.2.2))
set_option maxRecDepth 100000 in
set_option maxHeartbeats 4000000 in
theorem rq_X2_seekByMoving_27 (p2 : Int) (k43 : XK) (a : Int × Ob × Ob × Ob × Ob × Ob) : rg_X2_seekByMoving_27 k43 (en_X2_seekByMoving_27 p2 a) = mg_X2_seekByMoving_27 p2 (fun b => k43 (en_X2_seekByMoving_43 p2 b)) a := rfl
set_option maxRecDepth 100000 in
set_option maxHeartbeats 4000000 in
theorem sg_X2_seekByMoving_27 {X : XDyn} {r0 : Rt} (C : XO X mX2_seekByMoving) {k43 : XK} (q43 : XS X mX2_seekByMoving r0 43 k43) : XS X mX2_seekByMoving r0 27 (rg_X2_seekByMoving_27 k43) := by
 unfold rg_X2_seekByMoving_27
 exact s_iload_n (pc := 27) C dX2_seekByMoving_27 rfl <|
    s_iconst (pc := 28) C dX2_seekByMoving_28 <|
    s_icmp_ne (pc := 29) C dX2_seekByMoving_29 (by decide) (s_cut q43)
    (s_aload_n (pc := 32) C dX2_seekByMoving_32 rfl <|
    s_iconst (pc := 33) C dX2_seekByMoving_33 <|
    s_put (pc := 34) (z := false) C (ci := 2) (kf := 1) rfl inX2 tyX2_ok nmX2 (by decide) wd_278 rfl rfl dX2_seekByMoving_34 <|
    s_aload_n (pc := 37) C dX2_seekByMoving_37 rfl <|
    s_iload_n (pc := 38) C dX2_seekByMoving_38 rfl <|
    s_callV (pc := 39) C ct_X3_grow (n := 2) (rk := 1) (mp := [4]) ⟨rfl, by decide, rfl⟩ (ci := 3) rfl rfl (by decide) (by decide) yi_X3_grow (by decide) wd_416 wd_417 wd_418 wd_74 wd_419 dX2_seekByMoving_39 <|
    s_istore_n (pc := 42) C dX2_seekByMoving_42 rfl <|
    s_cut q43)
noncomputable def mg_X2_seekByMoving_43 (p2 : Int) (a : Int × Ob × Ob × Ob × Ob × Ob) : Option Rt :=
 if xw a.1 = (-1) then (if pd (LW a.2.2.2.2.2 ∧ 1 ≤ p2 ∧ p2 ≤ 200) then (
 RI ((asF a.2.2.1 a.2.2.2.1 a.2.2.2.2.1 a.2.2.2.2.2 p2).1) [(xset a.2.1 0 1 4), ((asF a.2.2.1 a.2.2.2.1 a.2.2.2.2.1 a.2.2.2.2.2 p2).2.1), (skG a.2.2.2.1 a.2.2.2.2.2), (skP a.2.2.2.1 a.2.2.2.2.1 a.2.2.2.2.2 p2), ((asF a.2.2.1 a.2.2.2.1 a.2.2.2.2.1 a.2.2.2.2.2 p2).2.2)]) else none)
 else (RI a.1 [a.2.1, a.2.2.1, a.2.2.2.1, a.2.2.2.2.1, a.2.2.2.2.2])
set_option maxRecDepth 100000 in
set_option maxHeartbeats 4000000 in
theorem rq_X2_seekByMoving_43 (p2 : Int) (a : Int × Ob × Ob × Ob × Ob × Ob) : rg_X2_seekByMoving_43 (en_X2_seekByMoving_43 p2 a) = mg_X2_seekByMoving_43 p2 a := rfl
set_option maxRecDepth 100000 in
set_option maxHeartbeats 4000000 in
theorem sg_X2_seekByMoving_43 {X : XDyn} {r0 : Rt} (C : XO X mX2_seekByMoving) : XS X mX2_seekByMoving r0 43 (rg_X2_seekByMoving_43) := by
 unfold rg_X2_seekByMoving_43
 exact s_iload_n (pc := 43) C dX2_seekByMoving_43 rfl <|
    s_iconst (pc := 44) C dX2_seekByMoving_44 <|
    s_icmp_ne (pc := 45) C dX2_seekByMoving_45 (by decide) (s_iload_n (pc := 63) C dX2_seekByMoving_63 rfl <|
    s_ireturn (pc := 64) C rfl dX2_seekByMoving_64)
    (s_aload_n (pc := 48) C dX2_seekByMoving_48 rfl <|
    s_iconst (pc := 49) C dX2_seekByMoving_49 <|
    s_put (pc := 50) (z := false) C (ci := 2) (kf := 1) rfl inX2 tyX2_ok nmX2 (by decide) wd_278 rfl rfl dX2_seekByMoving_50 <|
    s_aload_n (pc := 53) C dX2_seekByMoving_53 rfl <|
    s_get (pc := 54) C (ci := 2) (kf := 0) rfl inX2 (by decide) wd_277 dX2_seekByMoving_54 <|
    s_aload_n (pc := 57) C dX2_seekByMoving_57 rfl <|
    s_iload_n (pc := 58) C dX2_seekByMoving_58 rfl <|
    s_callVg (pc := 59) C ct_X0_seek (n := 3) (rk := 1) (mp := [1, 2, 3, 4]) ⟨rfl, by decide, rfl⟩ (ci := 0) rfl rfl (by decide) (by decide) yi_X0_seek (by decide) wd_423 wd_424 wd_425 wd_79 wd_426 dX2_seekByMoving_59 <|
    s_istore_n (pc := 62) C dX2_seekByMoving_62 rfl <|
    s_iload_n (pc := 63) C dX2_seekByMoving_63 rfl <|
    s_ireturn (pc := 64) C rfl dX2_seekByMoving_64)
noncomputable def rw_X2_seekByMoving_43 : XK := rg_X2_seekByMoving_43
noncomputable def md_X2_seekByMoving_43 (p2 : Int) : Int × Ob × Ob × Ob × Ob × Ob → Option Rt := mg_X2_seekByMoving_43 p2
theorem eq_X2_seekByMoving_43 (p2 : Int) (a : Int × Ob × Ob × Ob × Ob × Ob) : rw_X2_seekByMoving_43 (en_X2_seekByMoving_43 p2 a) = md_X2_seekByMoving_43 p2 a :=
 rq_X2_seekByMoving_43 p2 a
theorem sd_X2_seekByMoving_43 {X : XDyn} {r0 : Rt} (C : XO X mX2_seekByMoving) : XS X mX2_seekByMoving r0 43 (rw_X2_seekByMoving_43) := sg_X2_seekByMoving_43 C
noncomputable def rw_X2_seekByMoving_27 : XK := rg_X2_seekByMoving_27 (rw_X2_seekByMoving_43)
noncomputable def md_X2_seekByMoving_27 (p2 : Int) : Int × Ob × Ob × Ob × Ob × Ob → Option Rt := mg_X2_seekByMoving_27 p2 (md_X2_seekByMoving_43 p2)
theorem eq_X2_seekByMoving_27 (p2 : Int) (a : Int × Ob × Ob × Ob × Ob × Ob) : rw_X2_seekByMoving_27 (en_X2_seekByMoving_27 p2 a) = md_X2_seekByMoving_27 p2 a :=
 (rq_X2_seekByMoving_27 p2 (rw_X2_seekByMoving_43) a).trans (congrFun (congr (rfl : mg_X2_seekByMoving_27 p2 = mg_X2_seekByMoving_27 p2) (funext (eq_X2_seekByMoving_43 p2))) a)
theorem sd_X2_seekByMoving_27 {X : XDyn} {r0 : Rt} (C : XO X mX2_seekByMoving) : XS X mX2_seekByMoving r0 27 (rw_X2_seekByMoving_27) := sg_X2_seekByMoving_27 C (sd_X2_seekByMoving_43 C)
noncomputable def rw_X2_seekByMoving_0 : XK := rg_X2_seekByMoving_0 (rw_X2_seekByMoving_27)
noncomputable def md_X2_seekByMoving_0 (p2 : Int) : Ob × Ob × Ob × Ob × Ob → Option Rt := mg_X2_seekByMoving_0 p2 (md_X2_seekByMoving_27 p2)
theorem eq_X2_seekByMoving_0 (p2 : Int) (a : Ob × Ob × Ob × Ob × Ob) : rw_X2_seekByMoving_0 (en_X2_seekByMoving_0 p2 a) = md_X2_seekByMoving_0 p2 a :=
 (rq_X2_seekByMoving_0 p2 (rw_X2_seekByMoving_27) a).trans (congrFun (congr (rfl : mg_X2_seekByMoving_0 p2 = mg_X2_seekByMoving_0 p2) (funext (eq_X2_seekByMoving_27 p2))) a)
theorem sd_X2_seekByMoving_0 {X : XDyn} {r0 : Rt} (C : XO X mX2_seekByMoving) : XS X mX2_seekByMoving r0 0 (rw_X2_seekByMoving_0) := sg_X2_seekByMoving_0 C (sd_X2_seekByMoving_27 C)
theorem ctr_X2_seekByMoving : XCt yX2_seekByMoving mX2_seekByMoving (xF mX2_seekByMoving (rw_X2_seekByMoving_0)) := xMet (by decide +kernel) rfl (fun _ _ C => sd_X2_seekByMoving_0 C)
theorem eqf_X2_seekByMoving (p2 : Int) (h0 : Ob) (h1 : Ob) (h2 : Ob) (h3 : Ob) (h4 : Ob) : xF mX2_seekByMoving (rw_X2_seekByMoving_0) [.inr (.inl (0, 0)), .inr (.inl (4, 0)), .inl p2] [h0, h1, h2, h3, h4] = md_X2_seekByMoving_0 p2 (h0, h1, h2, h3, h4) := eq_X2_seekByMoving_0 p2 (h0, h1, h2, h3, h4)
theorem yi_X2_seekByMoving : yX2_seekByMoving.cls = RX2 ∧ yX2_seekByMoving.cls ≠ "java/lang/invoke/MethodHandle" ∧ yX2_seekByMoving.cls ≠ "java/lang/invoke/VarHandle" ∧ (parseMethodDescriptor yX2_seekByMoving.desc).map (fun d => d.parameters.length) = some 2 := ⟨rfl, by decide +kernel, by decide +kernel, by decide +kernel⟩
theorem sp_X2_seekByMoving (p2 : Int) (h0 h1 h2 h3 h4 : Ob) (hg : pd (LW h4 ∧ 1 ≤ p2 ∧ p2 ≤ 200) = true) : md_X2_seekByMoving_0 p2 (h0, h1, h2, h3, h4) = RI (bmF h0 h1 h2 h3 h4 p2).1 [(bmF h0 h1 h2 h3 h4 p2).2.1, (bmF h0 h1 h2 h3 h4 p2).2.2.1, (bmF h0 h1 h2 h3 h4 p2).2.2.2.1, (bmF h0 h1 h2 h3 h4 p2).2.2.2.2.1, (bmF h0 h1 h2 h3 h4 p2).2.2.2.2.2] := by
  obtain ⟨hL, g1, g2⟩ := pd_of hg
  have hL2 := hL.b2 (n := p2) (by omega) g2
  rw [bmF_e]
  have e1 : md_X2_seekByMoving_0 p2 (h0, h1, h2, h3, h4) = md_X2_seekByMoving_27 p2 ((bm1 h4 p2).1, xset h0 0 1 (bm1 h4 p2).2.1, h1, h2, h3, (bm1 h4 p2).2.2) := by
    simp only [md_X2_seekByMoving_0, mg_X2_seekByMoving_0]
    rw [pd_t hL, if_pos rfl]
    unfold bm1
    by_cases c : xw (ffr h4 p2) = -1
    · rw [if_pos c, if_pos c, if_pos rfl, xset_twice]
    · rw [if_neg c, if_neg c]
  have e2 : md_X2_seekByMoving_27 p2 ((bm1 h4 p2).1, xset h0 0 1 (bm1 h4 p2).2.1, h1, h2, h3, (bm1 h4 p2).2.2) = md_X2_seekByMoving_43 p2 ((bm2 h4 p2).1, xset h0 0 1 (bm2 h4 p2).2.1, h1, h2, h3, (bm2 h4 p2).2.2) := by
    simp only [md_X2_seekByMoving_27, mg_X2_seekByMoving_27]
    unfold bm2
    by_cases c : xw (bm1 h4 p2).1 = -1
    · rw [if_pos c, if_pos c, xset_twice]
    · rw [if_neg c, if_neg c]
  rw [e1, e2]
  clear e1 e2
  unfold bmI
  generalize bm2 h4 p2 = b at hL2
  simp only [md_X2_seekByMoving_43, mg_X2_seekByMoving_43]
  by_cases c : xw b.1 = -1
  · rw [if_pos c, if_pos c, pd_t (show LW b.2.2 ∧ 1 ≤ p2 ∧ p2 ≤ 200 from ⟨hL2, g1, g2⟩), if_pos rfl, xset_twice]
  · rw [if_neg c, if_neg c]
noncomputable def g_X2_seekByMoving : List AV → List Ob → Bool
  | [.inr (.inl (0, 0)), .inr (.inl (4, 0)), .inl p2], [h0, h1, h2, h3, h4] => pd (LW h4 ∧ 1 ≤ p2 ∧ p2 ≤ 200)
  | _, _ => false
noncomputable def v_X2_seekByMoving : List AV → List Ob → Rt
  | [.inr (.inl (0, 0)), .inr (.inl (4, 0)), .inl p2], [h0, h1, h2, h3, h4] => (some (.inl ((bmF h0 h1 h2 h3 h4 p2).1)), [((bmF h0 h1 h2 h3 h4 p2).2.1), ((bmF h0 h1 h2 h3 h4 p2).2.2.1), ((bmF h0 h1 h2 h3 h4 p2).2.2.2.1), ((bmF h0 h1 h2 h3 h4 p2).2.2.2.2.1), ((bmF h0 h1 h2 h3 h4 p2).2.2.2.2.2)])
  | _, _ => (none, [])
theorem ct_X2_seekByMoving : XCt yX2_seekByMoving mX2_seekByMoving (fun as μ => if g_X2_seekByMoving as μ then some (v_X2_seekByMoving as μ) else none) := (ctr_X2_seekByMoving ).of (fun as μ r h => by
  split at h
  · rename_i hg
    unfold g_X2_seekByMoving at hg
    split at hg
    · rw [← h]
      exact (eqf_X2_seekByMoving _ _ _ _ _ _).trans (sp_X2_seekByMoving _ _ _ _ _ _ hg)
    · cases hg
  · cases h)
