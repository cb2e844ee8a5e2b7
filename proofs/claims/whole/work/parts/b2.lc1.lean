set_option maxHeartbeats 4000000 in
set_option maxRecDepth 100000 in
theorem lc_unlock {p : Program} {l : Launch} {e : Env} {s : State} {m : MethodId} {below : List Frame} {meth : Method} {c : Code} {b L : Nat} {xs : Nat → Int32} {D : va_G} {g : xG3} {ad1 ad2 : Nat → Nat → Nat} {μ : List Ob} {mm : Ob} {H : Heap} {locs : List Loc} {cells slots : Nat} {Q : State → Prop} {ls : Array Slot} {T : Int} {i : Nat} (C : lw_At p s m meth c b L xs) (hKS : KS D g s) (hw : LWd D g ad1 ad2 s μ mm H locs) (hI : IW T μ mm) (hT0 : 0 ≤ T) (hT : T ≤ 600) (hl : lv_has ls 4 [(3, .int (xI (i : Int))), (0, .ref b), (1, .ref (ad1 0 0)), (2, .ref (ad2 0 0))]) (hL : L ≤ 2048) (hiL : i + 3 < L) (hcl : cells ≤ room_1.cells) (hsl : slots ≤ room_1.slots)
    (kk : ∀ (μ1 : List Ob) (m1 : Ob) (H1 : Heap) (locs1 : List Loc), LWd D g ad1 ad2 s μ1 m1 H1 locs1 → IW (T + 1) μ1 m1 → W p l e room_1 s m #[Value.ref b] below meth c H1 locs1 cells slots Q (F0 m 1179 ls [])) : W p l e room_1 s m #[Value.ref b] below meth c H locs cells slots Q (F0 m 386 ls []) := by
  obtain ⟨hx, hb, hr, hml, hown, hts, hX, hbl, hlocks, hgv⟩ := id C
  have hS := hw.2.2.2.2.2.2.2.2
  have hbA : ¬ (fun q : Nat => s.heap.size ≤ q) b := Nat.not_le.mpr hbl
  have j1 := lw_in (L := L) (i := i) 1 (by omega) hL
  obtain ⟨h0, h1, h2, h3, h4, h5, h6, h7, h8, h9, h10, h11, h12, h13, h14, h15, h16, h17, h18, h19, h20, h21, h22, h23, h24, rfl, hIN⟩ := IW_cases hI
  refine lv_aload_n hx hb dL_law_386 rfl (lv_at hl 2 rfl) ?_
  refine lv_aload_n hx hb dL_law_387 rfl (lv_at hl 1 rfl) ?_
  refine lv_iload_n hx hb dL_law_388 rfl (lv_at hl 0 rfl) ?_
  refine lv_iconst (v := xI 1) hx hb dL_law_389 rfl ?_
  refine lv_iadd hx hb dL_law_390 ?_
  refine va_sld hx hb hX hbl hbA hS j1 dL_law_391 ?_
  obtain ⟨r, μ1, m1, q1, q2, q3⟩ := e_unlock T hT0 hT ((xs (xI (i : Int) + xI 1).toNatClampNeg).toInt) (xw_of _) h0 h1 h2 h3 h4 h5 h6 h7 h8 h9 h10 h11 h12 h13 h14 h15 h16 h17 h18 h19 h20 h21 h22 h23 h24 mm hIN
  refine lawA (as := [.inl ((xs (xI (i : Int) + xI 1).toNatClampNeg).toInt)]) C hKS hw hl.1 hcl hsl (ctr_X7_unlock) ((eqf_X7_unlock  _ _ _ _ _ _ _ _ _ _ _ _ _ _ _ _ _ _ _ _ _ _ _ _ _ _).trans q1) (IW_len q3) (Nat.le_of_ble_eq_true rfl) (Nat.le_of_ble_eq_true rfl) yi_X7_unlock wl_593 rfl wd_594 wd_595 wd_73 wd_596 (by simp [cv, xI_of]) dL_law_392 (fun H1 locs1 hw1 => ?_)
  have hS1 := hw1.2.2.2.2.2.2.2.2
  refine lv_aload_n hx hb dL_law_395 rfl (lv_at hl 3 rfl) ?_
  refine lv_aload_n hx hb dL_law_396 rfl (lv_at hl 1 rfl) ?_
  refine lv_iload_n hx hb dL_law_397 rfl (lv_at hl 0 rfl) ?_
  refine lv_iconst (v := xI 1) hx hb dL_law_398 rfl ?_
  refine lv_iadd hx hb dL_law_399 ?_
  refine va_sld hx hb hX hbl hbA hS1 j1 dL_law_400 ?_
  refine lawB (as := [.inl ((xs (xI (i : Int) + xI 1).toNatClampNeg).toInt)]) (v0 := .int (xI r)) C hKS hw1 hl.1 hcl hsl (ctr_X8_unlock) ((eqf_X8_unlock  _ _).trans q2) (Nat.le_of_ble_eq_true rfl) (Nat.le_of_ble_eq_true rfl) yi_X8_unlock wl_1141 rfl wd_1142 wd_1143 wd_81 wd_1144 rfl (by simp [cv, xI_of]) dL_law_401 (fun H2 locs2 hw2 => ?_)
  exact lv_icmp_eq (tgt := 1179) hx hb dL_law_404 (by decide) (fun _ => kk _ _ _ _ hw2 q3) (fun hne => absurd rfl hne)
set_option maxHeartbeats 4000000 in
set_option maxRecDepth 100000 in
theorem lc_high {p : Program} {l : Launch} {e : Env} {s : State} {m : MethodId} {below : List Frame} {meth : Method} {c : Code} {b L : Nat} {xs : Nat → Int32} {D : va_G} {g : xG3} {ad1 ad2 : Nat → Nat → Nat} {μ : List Ob} {mm : Ob} {H : Heap} {locs : List Loc} {cells slots : Nat} {Q : State → Prop} {ls : Array Slot} {T : Int} {i : Nat} (C : lw_At p s m meth c b L xs) (hKS : KS D g s) (hw : LWd D g ad1 ad2 s μ mm H locs) (hI : IW T μ mm) (hT0 : 0 ≤ T) (hT : T ≤ 600) (hl : lv_has ls 4 [(3, .int (xI (i : Int))), (0, .ref b), (1, .ref (ad1 0 0)), (2, .ref (ad2 0 0))]) (hL : L ≤ 2048) (hiL : i + 3 < L) (hcl : cells ≤ room_1.cells) (hsl : slots ≤ room_1.slots)
    (kk : ∀ (μ1 : List Ob) (m1 : Ob) (H1 : Heap) (locs1 : List Loc), LWd D g ad1 ad2 s μ1 m1 H1 locs1 → IW (T + 1) μ1 m1 → W p l e room_1 s m #[Value.ref b] below meth c H1 locs1 cells slots Q (F0 m 1179 ls [])) : W p l e room_1 s m #[Value.ref b] below meth c H locs cells slots Q (F0 m 409 ls []) := by
  obtain ⟨hx, hb, hr, hml, hown, hts, hX, hbl, hlocks, hgv⟩ := id C
  have hS := hw.2.2.2.2.2.2.2.2
  have hbA : ¬ (fun q : Nat => s.heap.size ≤ q) b := Nat.not_le.mpr hbl
  have j1 := lw_in (L := L) (i := i) 1 (by omega) hL
  obtain ⟨h0, h1, h2, h3, h4, h5, h6, h7, h8, h9, h10, h11, h12, h13, h14, h15, h16, h17, h18, h19, h20, h21, h22, h23, h24, rfl, hIN⟩ := IW_cases hI
  refine lv_aload_n hx hb dL_law_409 rfl (lv_at hl 2 rfl) ?_
  refine lv_aload_n hx hb dL_law_410 rfl (lv_at hl 1 rfl) ?_
  refine lv_iload_n hx hb dL_law_411 rfl (lv_at hl 0 rfl) ?_
  refine lv_iconst (v := xI 1) hx hb dL_law_412 rfl ?_
  refine lv_iadd hx hb dL_law_413 ?_
  refine va_sld hx hb hX hbl hbA hS j1 dL_law_414 ?_
  obtain ⟨r, μ1, m1, q1, q2, q3⟩ := e_high T hT0 hT ((xs (xI (i : Int) + xI 1).toNatClampNeg).toInt) (xw_of _) h0 h1 h2 h3 h4 h5 h6 h7 h8 h9 h10 h11 h12 h13 h14 h15 h16 h17 h18 h19 h20 h21 h22 h23 h24 mm hIN
  refine lawA (as := [.inl ((xs (xI (i : Int) + xI 1).toNatClampNeg).toInt)]) C hKS hw hl.1 hcl hsl (ctr_X7_high) ((eqf_X7_high  _ _ _ _ _ _ _ _ _ _ _ _ _ _ _ _ _ _ _ _ _ _ _ _ _ _).trans q1) (IW_len q3) (Nat.le_of_ble_eq_true rfl) (Nat.le_of_ble_eq_true rfl) yi_X7_high wl_597 rfl wd_598 wd_599 wd_73 wd_600 (by simp [cv, xI_of]) dL_law_415 (fun H1 locs1 hw1 => ?_)
  have hS1 := hw1.2.2.2.2.2.2.2.2
  refine lv_aload_n hx hb dL_law_418 rfl (lv_at hl 3 rfl) ?_
  refine lv_aload_n hx hb dL_law_419 rfl (lv_at hl 1 rfl) ?_
  refine lv_iload_n hx hb dL_law_420 rfl (lv_at hl 0 rfl) ?_
  refine lv_iconst (v := xI 1) hx hb dL_law_421 rfl ?_
  refine lv_iadd hx hb dL_law_422 ?_
  refine va_sld hx hb hX hbl hbA hS1 j1 dL_law_423 ?_
  refine lawB (as := [.inl ((xs (xI (i : Int) + xI 1).toNatClampNeg).toInt)]) (v0 := .int (xI r)) C hKS hw1 hl.1 hcl hsl (ctr_X8_high) ((eqf_X8_high  _ _).trans q2) (Nat.le_of_ble_eq_true rfl) (Nat.le_of_ble_eq_true rfl) yi_X8_high wl_1145 rfl wd_1146 wd_1147 wd_81 wd_1148 rfl (by simp [cv, xI_of]) dL_law_424 (fun H2 locs2 hw2 => ?_)
  exact lv_icmp_eq (tgt := 1179) hx hb dL_law_427 (by decide) (fun _ => kk _ _ _ _ hw2 q3) (fun hne => absurd rfl hne)
set_option maxHeartbeats 4000000 in
set_option maxRecDepth 100000 in
theorem lc_mark {p : Program} {l : Launch} {e : Env} {s : State} {m : MethodId} {below : List Frame} {meth : Method} {c : Code} {b L : Nat} {xs : Nat → Int32} {D : va_G} {g : xG3} {ad1 ad2 : Nat → Nat → Nat} {μ : List Ob} {mm : Ob} {H : Heap} {locs : List Loc} {cells slots : Nat} {Q : State → Prop} {ls : Array Slot} {T : Int} {i : Nat} (C : lw_At p s m meth c b L xs) (hKS : KS D g s) (hw : LWd D g ad1 ad2 s μ mm H locs) (hI : IW T μ mm) (hT0 : 0 ≤ T) (hT : T ≤ 600) (hl : lv_has ls 4 [(3, .int (xI (i : Int))), (0, .ref b), (1, .ref (ad1 0 0)), (2, .ref (ad2 0 0))]) (hL : L ≤ 2048) (hiL : i + 3 < L) (hcl : cells ≤ room_1.cells) (hsl : slots ≤ room_1.slots)
    (kk : ∀ (μ1 : List Ob) (m1 : Ob) (H1 : Heap) (locs1 : List Loc), LWd D g ad1 ad2 s μ1 m1 H1 locs1 → IW (T + 1) μ1 m1 → W p l e room_1 s m #[Value.ref b] below meth c H1 locs1 cells slots Q (F0 m 1179 ls [])) : W p l e room_1 s m #[Value.ref b] below meth c H locs cells slots Q (F0 m 432 ls []) := by
  obtain ⟨hx, hb, hr, hml, hown, hts, hX, hbl, hlocks, hgv⟩ := id C
  have hS := hw.2.2.2.2.2.2.2.2
  have hbA : ¬ (fun q : Nat => s.heap.size ≤ q) b := Nat.not_le.mpr hbl
  have j1 := lw_in (L := L) (i := i) 1 (by omega) hL
  have j2 := lw_in (L := L) (i := i) 2 (by omega) hL
  obtain ⟨h0, h1, h2, h3, h4, h5, h6, h7, h8, h9, h10, h11, h12, h13, h14, h15, h16, h17, h18, h19, h20, h21, h22, h23, h24, rfl, hIN⟩ := IW_cases hI
  refine lv_aload_n hx hb dL_law_432 rfl (lv_at hl 2 rfl) ?_
  refine lv_aload_n hx hb dL_law_433 rfl (lv_at hl 1 rfl) ?_
  refine lv_iload_n hx hb dL_law_434 rfl (lv_at hl 0 rfl) ?_
  refine lv_iconst (v := xI 1) hx hb dL_law_435 rfl ?_
  refine lv_iadd hx hb dL_law_436 ?_
  refine va_sld hx hb hX hbl hbA hS j1 dL_law_437 ?_
  refine lv_aload_n hx hb dL_law_438 rfl (lv_at hl 1 rfl) ?_
  refine lv_iload_n hx hb dL_law_439 rfl (lv_at hl 0 rfl) ?_
  refine lv_iconst (v := xI 2) hx hb dL_law_440 rfl ?_
  refine lv_iadd hx hb dL_law_441 ?_
  refine va_sld hx hb hX hbl hbA hS j2 dL_law_442 ?_
  refine lv_if_eq (tgt := 450) hx hb dL_law_443 (by decide) (fun hz => ?_) (fun hz => ?_)
  · refine lv_iconst (v := xI 0) hx hb dL_law_450 rfl ?_
    obtain ⟨r, μ1, m1, q1, q2, q3⟩ := e_mark T hT0 hT ((xs (xI (i : Int) + xI 1).toNatClampNeg).toInt) (xw_of _) 0 (Or.inl rfl) h0 h1 h2 h3 h4 h5 h6 h7 h8 h9 h10 h11 h12 h13 h14 h15 h16 h17 h18 h19 h20 h21 h22 h23 h24 mm hIN
    refine lawA (as := [.inl ((xs (xI (i : Int) + xI 1).toNatClampNeg).toInt), .inl 0]) C hKS hw hl.1 hcl hsl (ctr_X7_mark) ((eqf_X7_mark  _ _ _ _ _ _ _ _ _ _ _ _ _ _ _ _ _ _ _ _ _ _ _ _ _ _ _).trans q1) (IW_len q3) (Nat.le_of_ble_eq_true rfl) (Nat.le_of_ble_eq_true rfl) yi_X7_mark wl_610 rfl wd_611 wd_612 wd_73 wd_613 (by simp [cv, xI_of] <;> rfl) dL_law_451 (fun H1 locs1 hw1 => ?_)
    have hS1 := hw1.2.2.2.2.2.2.2.2
    refine lv_aload_n hx hb dL_law_454 rfl (lv_at hl 3 rfl) ?_
    refine lv_aload_n hx hb dL_law_455 rfl (lv_at hl 1 rfl) ?_
    refine lv_iload_n hx hb dL_law_456 rfl (lv_at hl 0 rfl) ?_
    refine lv_iconst (v := xI 1) hx hb dL_law_457 rfl ?_
    refine lv_iadd hx hb dL_law_458 ?_
    refine va_sld hx hb hX hbl hbA hS1 j1 dL_law_459 ?_
    refine lv_aload_n hx hb dL_law_460 rfl (lv_at hl 1 rfl) ?_
    refine lv_iload_n hx hb dL_law_461 rfl (lv_at hl 0 rfl) ?_
    refine lv_iconst (v := xI 2) hx hb dL_law_462 rfl ?_
    refine lv_iadd hx hb dL_law_463 ?_
    refine va_sld hx hb hX hbl hbA hS1 j2 dL_law_464 ?_
    refine lv_if_eq (tgt := 472) hx hb dL_law_465 (by decide) (fun _ => ?_) (fun hy => absurd hz hy)
    refine lv_iconst (v := xI 0) hx hb dL_law_472 rfl ?_
    refine lawB (as := [.inl ((xs (xI (i : Int) + xI 1).toNatClampNeg).toInt), .inl 0]) (v0 := .int (xI r)) C hKS hw1 hl.1 hcl hsl (ctr_X8_mark) ((eqf_X8_mark  _ _ _).trans q2) (Nat.le_of_ble_eq_true rfl) (Nat.le_of_ble_eq_true rfl) yi_X8_mark wl_1153 rfl wd_1154 wd_1155 wd_81 wd_1156 rfl (by simp [cv, xI_of] <;> rfl) dL_law_473 (fun H2 locs2 hw2 => ?_)
    exact lv_icmp_eq (tgt := 1179) hx hb dL_law_476 (by decide) (fun _ => kk _ _ _ _ hw2 q3) (fun hne => absurd rfl hne)
  · refine lv_iconst (v := xI 1) hx hb dL_law_446 rfl ?_
    refine lv_goto (tgt := 451) hx hb dL_law_447 (by decide) ?_
    obtain ⟨r, μ1, m1, q1, q2, q3⟩ := e_mark T hT0 hT ((xs (xI (i : Int) + xI 1).toNatClampNeg).toInt) (xw_of _) 1 (Or.inr rfl) h0 h1 h2 h3 h4 h5 h6 h7 h8 h9 h10 h11 h12 h13 h14 h15 h16 h17 h18 h19 h20 h21 h22 h23 h24 mm hIN
    refine lawA (as := [.inl ((xs (xI (i : Int) + xI 1).toNatClampNeg).toInt), .inl 1]) C hKS hw hl.1 hcl hsl (ctr_X7_mark) ((eqf_X7_mark  _ _ _ _ _ _ _ _ _ _ _ _ _ _ _ _ _ _ _ _ _ _ _ _ _ _ _).trans q1) (IW_len q3) (Nat.le_of_ble_eq_true rfl) (Nat.le_of_ble_eq_true rfl) yi_X7_mark wl_610 rfl wd_611 wd_612 wd_73 wd_613 (by simp [cv, xI_of] <;> rfl) dL_law_451 (fun H1 locs1 hw1 => ?_)
    have hS1 := hw1.2.2.2.2.2.2.2.2
    refine lv_aload_n hx hb dL_law_454 rfl (lv_at hl 3 rfl) ?_
    refine lv_aload_n hx hb dL_law_455 rfl (lv_at hl 1 rfl) ?_
    refine lv_iload_n hx hb dL_law_456 rfl (lv_at hl 0 rfl) ?_
    refine lv_iconst (v := xI 1) hx hb dL_law_457 rfl ?_
    refine lv_iadd hx hb dL_law_458 ?_
    refine va_sld hx hb hX hbl hbA hS1 j1 dL_law_459 ?_
    refine lv_aload_n hx hb dL_law_460 rfl (lv_at hl 1 rfl) ?_
    refine lv_iload_n hx hb dL_law_461 rfl (lv_at hl 0 rfl) ?_
    refine lv_iconst (v := xI 2) hx hb dL_law_462 rfl ?_
    refine lv_iadd hx hb dL_law_463 ?_
    refine va_sld hx hb hX hbl hbA hS1 j2 dL_law_464 ?_
    refine lv_if_eq (tgt := 472) hx hb dL_law_465 (by decide) (fun hy => absurd hy hz) (fun _ => ?_)
    refine lv_iconst (v := xI 1) hx hb dL_law_468 rfl ?_
    refine lv_goto (tgt := 473) hx hb dL_law_469 (by decide) ?_
    refine lawB (as := [.inl ((xs (xI (i : Int) + xI 1).toNatClampNeg).toInt), .inl 1]) (v0 := .int (xI r)) C hKS hw1 hl.1 hcl hsl (ctr_X8_mark) ((eqf_X8_mark  _ _ _).trans q2) (Nat.le_of_ble_eq_true rfl) (Nat.le_of_ble_eq_true rfl) yi_X8_mark wl_1153 rfl wd_1154 wd_1155 wd_81 wd_1156 rfl (by simp [cv, xI_of] <;> rfl) dL_law_473 (fun H2 locs2 hw2 => ?_)
    exact lv_icmp_eq (tgt := 1179) hx hb dL_law_476 (by decide) (fun _ => kk _ _ _ _ hw2 q3) (fun hne => absurd rfl hne)
set_option maxHeartbeats 4000000 in
set_option maxRecDepth 100000 in
theorem lc_drop {p : Program} {l : Launch} {e : Env} {s : State} {m : MethodId} {below : List Frame} {meth : Method} {c : Code} {b L : Nat} {xs : Nat → Int32} {D : va_G} {g : xG3} {ad1 ad2 : Nat → Nat → Nat} {μ : List Ob} {mm : Ob} {H : Heap} {locs : List Loc} {cells slots : Nat} {Q : State → Prop} {ls : Array Slot} {T : Int} {i : Nat} (C : lw_At p s m meth c b L xs) (hKS : KS D g s) (hw : LWd D g ad1 ad2 s μ mm H locs) (hI : IW T μ mm) (hT0 : 0 ≤ T) (hT : T ≤ 600) (hl : lv_has ls 4 [(3, .int (xI (i : Int))), (0, .ref b), (1, .ref (ad1 0 0)), (2, .ref (ad2 0 0))]) (hL : L ≤ 2048) (hiL : i + 3 < L) (hcl : cells ≤ room_1.cells) (hsl : slots ≤ room_1.slots)
    (kk : ∀ (μ1 : List Ob) (m1 : Ob) (H1 : Heap) (locs1 : List Loc), LWd D g ad1 ad2 s μ1 m1 H1 locs1 → IW (T + 1) μ1 m1 → W p l e room_1 s m #[Value.ref b] below meth c H1 locs1 cells slots Q (F0 m 1179 ls [])) : W p l e room_1 s m #[Value.ref b] below meth c H locs cells slots Q (F0 m 481 ls []) := by
  obtain ⟨hx, hb, hr, hml, hown, hts, hX, hbl, hlocks, hgv⟩ := id C
  have hS := hw.2.2.2.2.2.2.2.2
  have hbA : ¬ (fun q : Nat => s.heap.size ≤ q) b := Nat.not_le.mpr hbl
  have j1 := lw_in (L := L) (i := i) 1 (by omega) hL
  obtain ⟨h0, h1, h2, h3, h4, h5, h6, h7, h8, h9, h10, h11, h12, h13, h14, h15, h16, h17, h18, h19, h20, h21, h22, h23, h24, rfl, hIN⟩ := IW_cases hI
  refine lv_aload_n hx hb dL_law_481 rfl (lv_at hl 2 rfl) ?_
  refine lv_aload_n hx hb dL_law_482 rfl (lv_at hl 1 rfl) ?_
  refine lv_iload_n hx hb dL_law_483 rfl (lv_at hl 0 rfl) ?_
  refine lv_iconst (v := xI 1) hx hb dL_law_484 rfl ?_
  refine lv_iadd hx hb dL_law_485 ?_
  refine va_sld hx hb hX hbl hbA hS j1 dL_law_486 ?_
  obtain ⟨r, μ1, m1, q1, q2, q3⟩ := e_drop T hT0 hT ((xs (xI (i : Int) + xI 1).toNatClampNeg).toInt) (xw_of _) h0 h1 h2 h3 h4 h5 h6 h7 h8 h9 h10 h11 h12 h13 h14 h15 h16 h17 h18 h19 h20 h21 h22 h23 h24 mm hIN
  refine lawA (as := [.inl ((xs (xI (i : Int) + xI 1).toNatClampNeg).toInt)]) C hKS hw hl.1 hcl hsl (ctr_X7_drop) ((eqf_X7_drop  _ _ _ _ _ _ _ _ _ _ _ _ _ _ _ _ _ _ _ _ _ _ _ _ _ _).trans q1) (IW_len q3) (Nat.le_of_ble_eq_true rfl) (Nat.le_of_ble_eq_true rfl) yi_X7_drop wl_618 rfl wd_619 wd_620 wd_73 wd_621 (by simp [cv, xI_of]) dL_law_487 (fun H1 locs1 hw1 => ?_)
  have hS1 := hw1.2.2.2.2.2.2.2.2
  refine lv_aload_n hx hb dL_law_490 rfl (lv_at hl 3 rfl) ?_
  refine lv_aload_n hx hb dL_law_491 rfl (lv_at hl 1 rfl) ?_
  refine lv_iload_n hx hb dL_law_492 rfl (lv_at hl 0 rfl) ?_
  refine lv_iconst (v := xI 1) hx hb dL_law_493 rfl ?_
  refine lv_iadd hx hb dL_law_494 ?_
  refine va_sld hx hb hX hbl hbA hS1 j1 dL_law_495 ?_
  refine lawB (as := [.inl ((xs (xI (i : Int) + xI 1).toNatClampNeg).toInt)]) (v0 := .int (xI r)) C hKS hw1 hl.1 hcl hsl (ctr_X8_drop) ((eqf_X8_drop  _ _).trans q2) (Nat.le_of_ble_eq_true rfl) (Nat.le_of_ble_eq_true rfl) yi_X8_drop wl_1157 rfl wd_1158 wd_1159 wd_81 wd_1160 rfl (by simp [cv, xI_of]) dL_law_496 (fun H2 locs2 hw2 => ?_)
  exact lv_icmp_eq (tgt := 1179) hx hb dL_law_499 (by decide) (fun _ => kk _ _ _ _ hw2 q3) (fun hne => absurd rfl hne)
set_option maxHeartbeats 4000000 in
set_option maxRecDepth 100000 in
theorem lc_least {p : Program} {l : Launch} {e : Env} {s : State} {m : MethodId} {below : List Frame} {meth : Method} {c : Code} {b L : Nat} {xs : Nat → Int32} {D : va_G} {g : xG3} {ad1 ad2 : Nat → Nat → Nat} {μ : List Ob} {mm : Ob} {H : Heap} {locs : List Loc} {cells slots : Nat} {Q : State → Prop} {ls : Array Slot} {T : Int} {i : Nat} (C : lw_At p s m meth c b L xs) (hKS : KS D g s) (hw : LWd D g ad1 ad2 s μ mm H locs) (hI : IW T μ mm) (hT0 : 0 ≤ T) (hT : T ≤ 600) (hl : lv_has ls 4 [(3, .int (xI (i : Int))), (0, .ref b), (1, .ref (ad1 0 0)), (2, .ref (ad2 0 0))]) (hL : L ≤ 2048) (hiL : i + 3 < L) (hcl : cells ≤ room_1.cells) (hsl : slots ≤ room_1.slots)
    (kk : ∀ (μ1 : List Ob) (m1 : Ob) (H1 : Heap) (locs1 : List Loc), LWd D g ad1 ad2 s μ1 m1 H1 locs1 → IW (T + 1) μ1 m1 → W p l e room_1 s m #[Value.ref b] below meth c H1 locs1 cells slots Q (F0 m 1179 ls [])) : W p l e room_1 s m #[Value.ref b] below meth c H locs cells slots Q (F0 m 504 ls []) := by
  obtain ⟨hx, hb, hr, hml, hown, hts, hX, hbl, hlocks, hgv⟩ := id C
  have hS := hw.2.2.2.2.2.2.2.2
  have hbA : ¬ (fun q : Nat => s.heap.size ≤ q) b := Nat.not_le.mpr hbl
  have j1 := lw_in (L := L) (i := i) 1 (by omega) hL
  have j2 := lw_in (L := L) (i := i) 2 (by omega) hL
  obtain ⟨h0, h1, h2, h3, h4, h5, h6, h7, h8, h9, h10, h11, h12, h13, h14, h15, h16, h17, h18, h19, h20, h21, h22, h23, h24, rfl, hIN⟩ := IW_cases hI
  refine lv_aload_n hx hb dL_law_504 rfl (lv_at hl 2 rfl) ?_
  refine lv_aload_n hx hb dL_law_505 rfl (lv_at hl 1 rfl) ?_
  refine lv_iload_n hx hb dL_law_506 rfl (lv_at hl 0 rfl) ?_
  refine lv_iconst (v := xI 1) hx hb dL_law_507 rfl ?_
  refine lv_iadd hx hb dL_law_508 ?_
  refine va_sld hx hb hX hbl hbA hS j1 dL_law_509 ?_
  refine lv_aload_n hx hb dL_law_510 rfl (lv_at hl 1 rfl) ?_
  refine lv_iload_n hx hb dL_law_511 rfl (lv_at hl 0 rfl) ?_
  refine lv_iconst (v := xI 2) hx hb dL_law_512 rfl ?_
  refine lv_iadd hx hb dL_law_513 ?_
  refine va_sld hx hb hX hbl hbA hS j2 dL_law_514 ?_
  obtain ⟨r, μ1, m1, q1, q2, q3⟩ := e_least T hT0 hT ((xs (xI (i : Int) + xI 1).toNatClampNeg).toInt) (xw_of _) ((xs (xI (i : Int) + xI 2).toNatClampNeg).toInt) (xw_of _) h0 h1 h2 h3 h4 h5 h6 h7 h8 h9 h10 h11 h12 h13 h14 h15 h16 h17 h18 h19 h20 h21 h22 h23 h24 mm hIN
  refine lawA (as := [.inl ((xs (xI (i : Int) + xI 1).toNatClampNeg).toInt), .inl ((xs (xI (i : Int) + xI 2).toNatClampNeg).toInt)]) C hKS hw hl.1 hcl hsl (ctr_X7_least) ((eqf_X7_least  _ _ _ _ _ _ _ _ _ _ _ _ _ _ _ _ _ _ _ _ _ _ _ _ _ _ _).trans q1) (IW_len q3) (Nat.le_of_ble_eq_true rfl) (Nat.le_of_ble_eq_true rfl) yi_X7_least wl_622 rfl wd_623 wd_624 wd_73 wd_625 (by simp [cv, xI_of]) dL_law_515 (fun H1 locs1 hw1 => ?_)
  have hS1 := hw1.2.2.2.2.2.2.2.2
  refine lv_aload_n hx hb dL_law_518 rfl (lv_at hl 3 rfl) ?_
  refine lv_aload_n hx hb dL_law_519 rfl (lv_at hl 1 rfl) ?_
  refine lv_iload_n hx hb dL_law_520 rfl (lv_at hl 0 rfl) ?_
  refine lv_iconst (v := xI 1) hx hb dL_law_521 rfl ?_
  refine lv_iadd hx hb dL_law_522 ?_
  refine va_sld hx hb hX hbl hbA hS1 j1 dL_law_523 ?_
  refine lv_aload_n hx hb dL_law_524 rfl (lv_at hl 1 rfl) ?_
  refine lv_iload_n hx hb dL_law_525 rfl (lv_at hl 0 rfl) ?_
  refine lv_iconst (v := xI 2) hx hb dL_law_526 rfl ?_
  refine lv_iadd hx hb dL_law_527 ?_
  refine va_sld hx hb hX hbl hbA hS1 j2 dL_law_528 ?_
  refine lawB (as := [.inl ((xs (xI (i : Int) + xI 1).toNatClampNeg).toInt), .inl ((xs (xI (i : Int) + xI 2).toNatClampNeg).toInt)]) (v0 := .int (xI r)) C hKS hw1 hl.1 hcl hsl (ctr_X8_least) ((eqf_X8_least  _ _ _).trans q2) (Nat.le_of_ble_eq_true rfl) (Nat.le_of_ble_eq_true rfl) yi_X8_least wl_1161 rfl wd_1162 wd_1163 wd_81 wd_1164 rfl (by simp [cv, xI_of]) dL_law_529 (fun H2 locs2 hw2 => ?_)
  exact lv_icmp_eq (tgt := 1179) hx hb dL_law_532 (by decide) (fun _ => kk _ _ _ _ hw2 q3) (fun hne => absurd rfl hne)
set_option maxHeartbeats 4000000 in
set_option maxRecDepth 100000 in
theorem lc_purge {p : Program} {l : Launch} {e : Env} {s : State} {m : MethodId} {below : List Frame} {meth : Method} {c : Code} {b L : Nat} {xs : Nat → Int32} {D : va_G} {g : xG3} {ad1 ad2 : Nat → Nat → Nat} {μ : List Ob} {mm : Ob} {H : Heap} {locs : List Loc} {cells slots : Nat} {Q : State → Prop} {ls : Array Slot} {T : Int} {i : Nat} (C : lw_At p s m meth c b L xs) (hKS : KS D g s) (hw : LWd D g ad1 ad2 s μ mm H locs) (hI : IW T μ mm) (hT0 : 0 ≤ T) (hT : T ≤ 600) (hl : lv_has ls 4 [(3, .int (xI (i : Int))), (0, .ref b), (1, .ref (ad1 0 0)), (2, .ref (ad2 0 0))]) (hL : L ≤ 2048) (hiL : i + 3 < L) (hcl : cells ≤ room_1.cells) (hsl : slots ≤ room_1.slots)
    (kk : ∀ (μ1 : List Ob) (m1 : Ob) (H1 : Heap) (locs1 : List Loc), LWd D g ad1 ad2 s μ1 m1 H1 locs1 → IW (T + 1) μ1 m1 → W p l e room_1 s m #[Value.ref b] below meth c H1 locs1 cells slots Q (F0 m 1179 ls [])) : W p l e room_1 s m #[Value.ref b] below meth c H locs cells slots Q (F0 m 537 ls []) := by
  obtain ⟨hx, hb, hr, hml, hown, hts, hX, hbl, hlocks, hgv⟩ := id C
  have hS := hw.2.2.2.2.2.2.2.2
  have hbA : ¬ (fun q : Nat => s.heap.size ≤ q) b := Nat.not_le.mpr hbl
  have j1 := lw_in (L := L) (i := i) 1 (by omega) hL
  obtain ⟨h0, h1, h2, h3, h4, h5, h6, h7, h8, h9, h10, h11, h12, h13, h14, h15, h16, h17, h18, h19, h20, h21, h22, h23, h24, rfl, hIN⟩ := IW_cases hI
  refine lv_aload_n hx hb dL_law_537 rfl (lv_at hl 2 rfl) ?_
  refine lv_aload_n hx hb dL_law_538 rfl (lv_at hl 1 rfl) ?_
  refine lv_iload_n hx hb dL_law_539 rfl (lv_at hl 0 rfl) ?_
  refine lv_iconst (v := xI 1) hx hb dL_law_540 rfl ?_
  refine lv_iadd hx hb dL_law_541 ?_
  refine va_sld hx hb hX hbl hbA hS j1 dL_law_542 ?_
  obtain ⟨r, μ1, m1, q1, q2, q3⟩ := e_purge T hT0 hT ((xs (xI (i : Int) + xI 1).toNatClampNeg).toInt) (xw_of _) h0 h1 h2 h3 h4 h5 h6 h7 h8 h9 h10 h11 h12 h13 h14 h15 h16 h17 h18 h19 h20 h21 h22 h23 h24 mm hIN
  refine lawA (as := [.inl ((xs (xI (i : Int) + xI 1).toNatClampNeg).toInt)]) C hKS hw hl.1 hcl hsl (ctr_X7_purge) ((eqf_X7_purge  _ _ _ _ _ _ _ _ _ _ _ _ _ _ _ _ _ _ _ _ _ _ _ _ _ _).trans q1) (IW_len q3) (Nat.le_of_ble_eq_true rfl) (Nat.le_of_ble_eq_true rfl) yi_X7_purge wl_626 rfl wd_627 wd_628 wd_73 wd_629 (by simp [cv, xI_of]) dL_law_543 (fun H1 locs1 hw1 => ?_)
  have hS1 := hw1.2.2.2.2.2.2.2.2
  refine lv_aload_n hx hb dL_law_546 rfl (lv_at hl 3 rfl) ?_
  refine lv_aload_n hx hb dL_law_547 rfl (lv_at hl 1 rfl) ?_
  refine lv_iload_n hx hb dL_law_548 rfl (lv_at hl 0 rfl) ?_
  refine lv_iconst (v := xI 1) hx hb dL_law_549 rfl ?_
  refine lv_iadd hx hb dL_law_550 ?_
  refine va_sld hx hb hX hbl hbA hS1 j1 dL_law_551 ?_
  refine lawB (as := [.inl ((xs (xI (i : Int) + xI 1).toNatClampNeg).toInt)]) (v0 := .int (xI r)) C hKS hw1 hl.1 hcl hsl (ctr_X8_purge) ((eqf_X8_purge  _ _).trans q2) (Nat.le_of_ble_eq_true rfl) (Nat.le_of_ble_eq_true rfl) yi_X8_purge wl_1165 rfl wd_1166 wd_1167 wd_81 wd_1168 rfl (by simp [cv, xI_of]) dL_law_552 (fun H2 locs2 hw2 => ?_)
  exact lv_icmp_eq (tgt := 1179) hx hb dL_law_555 (by decide) (fun _ => kk _ _ _ _ hw2 q3) (fun hne => absurd rfl hne)
