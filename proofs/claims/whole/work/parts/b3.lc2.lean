set_option maxHeartbeats 4000000 in
set_option maxRecDepth 100000 in
theorem lc_remake {p : Program} {l : Launch} {e : Env} {s : State} {m : MethodId} {below : List Frame} {meth : Method} {c : Code} {b L : Nat} {xs : Nat → Int32} {D : va_G} {g : xG3} {ad1 ad2 : Nat → Nat → Nat} {μ : List Ob} {mm : Ob} {H : Heap} {locs : List Loc} {cells slots : Nat} {Q : State → Prop} {ls : Array Slot} {T : Int} {i : Nat} (C : lw_At p s m meth c b L xs) (hKS : KS D g s) (hw : LWd D g ad1 ad2 s μ mm H locs) (hI : IW T μ mm) (hT0 : 0 ≤ T) (hT : T ≤ 600) (hl : lv_has ls 4 [(3, .int (xI (i : Int))), (0, .ref b), (1, .ref (ad1 0 0)), (2, .ref (ad2 0 0))]) (hL : L ≤ 2048) (hiL : i + 3 < L) (hcl : cells ≤ room_1.cells) (hsl : slots ≤ room_1.slots)
    (kk : ∀ (μ1 : List Ob) (m1 : Ob) (H1 : Heap) (locs1 : List Loc), LWd D g ad1 ad2 s μ1 m1 H1 locs1 → IW (T + 1) μ1 m1 → W p l e room_1 s m #[Value.ref b] below meth c H1 locs1 cells slots Q (F0 m 1179 ls [])) : W p l e room_1 s m #[Value.ref b] below meth c H locs cells slots Q (F0 m 560 ls []) := by
  obtain ⟨hx, hb, hr, hml, hown, hts, hX, hbl, hlocks, hgv⟩ := id C
  have hS := hw.2.2.2.2.2.2.2.2
  have hbA : ¬ (fun q : Nat => s.heap.size ≤ q) b := Nat.not_le.mpr hbl
  have j1 := lw_in (L := L) (i := i) 1 (by omega) hL
  obtain ⟨h0, h1, h2, h3, h4, h5, h6, h7, h8, h9, h10, h11, h12, h13, h14, h15, h16, h17, h18, h19, h20, h21, h22, h23, h24, rfl, hIN⟩ := IW_cases hI
  refine lv_aload_n hx hb dL_law_560 rfl (lv_at hl 2 rfl) ?_
  refine lv_aload_n hx hb dL_law_561 rfl (lv_at hl 1 rfl) ?_
  refine lv_iload_n hx hb dL_law_562 rfl (lv_at hl 0 rfl) ?_
  refine lv_iconst (v := xI 1) hx hb dL_law_563 rfl ?_
  refine lv_iadd hx hb dL_law_564 ?_
  refine va_sld hx hb hX hbl hbA hS j1 dL_law_565 ?_
  obtain ⟨r, μ1, m1, q1, q2, q3⟩ := e_remake T hT0 hT ((xs (xI (i : Int) + xI 1).toNatClampNeg).toInt) (xw_of _) h0 h1 h2 h3 h4 h5 h6 h7 h8 h9 h10 h11 h12 h13 h14 h15 h16 h17 h18 h19 h20 h21 h22 h23 h24 mm hIN
  refine lawA (as := [.inl ((xs (xI (i : Int) + xI 1).toNatClampNeg).toInt)]) C hKS hw hl.1 hcl hsl (ctr_X7_remake) ((eqf_X7_remake  _ _ _ _ _ _ _ _ _ _ _ _ _ _ _ _ _ _ _ _ _ _ _ _ _ _).trans q1) (IW_len q3) (Nat.le_of_ble_eq_true rfl) (Nat.le_of_ble_eq_true rfl) yi_X7_remake wl_630 rfl wd_631 wd_632 wd_73 wd_633 (by simp [cv, xI_of]) dL_law_566 (fun H1 locs1 hw1 => ?_)
  have hS1 := hw1.2.2.2.2.2.2.2.2
  refine lv_aload_n hx hb dL_law_569 rfl (lv_at hl 3 rfl) ?_
  refine lv_aload_n hx hb dL_law_570 rfl (lv_at hl 1 rfl) ?_
  refine lv_iload_n hx hb dL_law_571 rfl (lv_at hl 0 rfl) ?_
  refine lv_iconst (v := xI 1) hx hb dL_law_572 rfl ?_
  refine lv_iadd hx hb dL_law_573 ?_
  refine va_sld hx hb hX hbl hbA hS1 j1 dL_law_574 ?_
  refine lawB (as := [.inl ((xs (xI (i : Int) + xI 1).toNatClampNeg).toInt)]) (v0 := .int (xI r)) C hKS hw1 hl.1 hcl hsl (ctr_X8_remake) ((eqf_X8_remake  _ _).trans q2) (Nat.le_of_ble_eq_true rfl) (Nat.le_of_ble_eq_true rfl) yi_X8_remake wl_1169 rfl wd_1170 wd_1171 wd_81 wd_1172 rfl (by simp [cv, xI_of]) dL_law_575 (fun H2 locs2 hw2 => ?_)
  exact lv_icmp_eq (tgt := 1179) hx hb dL_law_578 (by decide) (fun _ => kk _ _ _ _ hw2 q3) (fun hne => absurd rfl hne)
set_option maxHeartbeats 4000000 in
set_option maxRecDepth 100000 in
theorem lc_resize {p : Program} {l : Launch} {e : Env} {s : State} {m : MethodId} {below : List Frame} {meth : Method} {c : Code} {b L : Nat} {xs : Nat → Int32} {D : va_G} {g : xG3} {ad1 ad2 : Nat → Nat → Nat} {μ : List Ob} {mm : Ob} {H : Heap} {locs : List Loc} {cells slots : Nat} {Q : State → Prop} {ls : Array Slot} {T : Int} {i : Nat} (C : lw_At p s m meth c b L xs) (hKS : KS D g s) (hw : LWd D g ad1 ad2 s μ mm H locs) (hI : IW T μ mm) (hT0 : 0 ≤ T) (hT : T ≤ 600) (hl : lv_has ls 4 [(3, .int (xI (i : Int))), (0, .ref b), (1, .ref (ad1 0 0)), (2, .ref (ad2 0 0))]) (hL : L ≤ 2048) (hiL : i + 3 < L) (hcl : cells ≤ room_1.cells) (hsl : slots ≤ room_1.slots)
    (kk : ∀ (μ1 : List Ob) (m1 : Ob) (H1 : Heap) (locs1 : List Loc), LWd D g ad1 ad2 s μ1 m1 H1 locs1 → IW (T + 1) μ1 m1 → W p l e room_1 s m #[Value.ref b] below meth c H1 locs1 cells slots Q (F0 m 1179 ls [])) : W p l e room_1 s m #[Value.ref b] below meth c H locs cells slots Q (F0 m 583 ls []) := by
  obtain ⟨hx, hb, hr, hml, hown, hts, hX, hbl, hlocks, hgv⟩ := id C
  have hS := hw.2.2.2.2.2.2.2.2
  have hbA : ¬ (fun q : Nat => s.heap.size ≤ q) b := Nat.not_le.mpr hbl
  have j1 := lw_in (L := L) (i := i) 1 (by omega) hL
  have j2 := lw_in (L := L) (i := i) 2 (by omega) hL
  obtain ⟨h0, h1, h2, h3, h4, h5, h6, h7, h8, h9, h10, h11, h12, h13, h14, h15, h16, h17, h18, h19, h20, h21, h22, h23, h24, rfl, hIN⟩ := IW_cases hI
  refine lv_aload_n hx hb dL_law_583 rfl (lv_at hl 2 rfl) ?_
  refine lv_aload_n hx hb dL_law_584 rfl (lv_at hl 1 rfl) ?_
  refine lv_iload_n hx hb dL_law_585 rfl (lv_at hl 0 rfl) ?_
  refine lv_iconst (v := xI 1) hx hb dL_law_586 rfl ?_
  refine lv_iadd hx hb dL_law_587 ?_
  refine va_sld hx hb hX hbl hbA hS j1 dL_law_588 ?_
  refine lv_aload_n hx hb dL_law_589 rfl (lv_at hl 1 rfl) ?_
  refine lv_iload_n hx hb dL_law_590 rfl (lv_at hl 0 rfl) ?_
  refine lv_iconst (v := xI 2) hx hb dL_law_591 rfl ?_
  refine lv_iadd hx hb dL_law_592 ?_
  refine va_sld hx hb hX hbl hbA hS j2 dL_law_593 ?_
  obtain ⟨r, μ1, m1, q1, q2, q3⟩ := e_resize T hT0 hT ((xs (xI (i : Int) + xI 1).toNatClampNeg).toInt) (xw_of _) ((xs (xI (i : Int) + xI 2).toNatClampNeg).toInt) (xw_of _) h0 h1 h2 h3 h4 h5 h6 h7 h8 h9 h10 h11 h12 h13 h14 h15 h16 h17 h18 h19 h20 h21 h22 h23 h24 mm hIN
  refine lawA (as := [.inl ((xs (xI (i : Int) + xI 1).toNatClampNeg).toInt), .inl ((xs (xI (i : Int) + xI 2).toNatClampNeg).toInt)]) C hKS hw hl.1 hcl hsl (ctr_X7_resize) ((eqf_X7_resize  _ _ _ _ _ _ _ _ _ _ _ _ _ _ _ _ _ _ _ _ _ _ _ _ _ _ _).trans q1) (IW_len q3) (Nat.le_of_ble_eq_true rfl) (Nat.le_of_ble_eq_true rfl) yi_X7_resize wl_639 rfl wd_640 wd_641 wd_73 wd_642 (by simp [cv, xI_of]) dL_law_594 (fun H1 locs1 hw1 => ?_)
  have hS1 := hw1.2.2.2.2.2.2.2.2
  refine lv_aload_n hx hb dL_law_597 rfl (lv_at hl 3 rfl) ?_
  refine lv_aload_n hx hb dL_law_598 rfl (lv_at hl 1 rfl) ?_
  refine lv_iload_n hx hb dL_law_599 rfl (lv_at hl 0 rfl) ?_
  refine lv_iconst (v := xI 1) hx hb dL_law_600 rfl ?_
  refine lv_iadd hx hb dL_law_601 ?_
  refine va_sld hx hb hX hbl hbA hS1 j1 dL_law_602 ?_
  refine lv_aload_n hx hb dL_law_603 rfl (lv_at hl 1 rfl) ?_
  refine lv_iload_n hx hb dL_law_604 rfl (lv_at hl 0 rfl) ?_
  refine lv_iconst (v := xI 2) hx hb dL_law_605 rfl ?_
  refine lv_iadd hx hb dL_law_606 ?_
  refine va_sld hx hb hX hbl hbA hS1 j2 dL_law_607 ?_
  refine lawB (as := [.inl ((xs (xI (i : Int) + xI 1).toNatClampNeg).toInt), .inl ((xs (xI (i : Int) + xI 2).toNatClampNeg).toInt)]) (v0 := .int (xI r)) C hKS hw1 hl.1 hcl hsl (ctr_X8_resize) ((eqf_X8_resize  _ _ _).trans q2) (Nat.le_of_ble_eq_true rfl) (Nat.le_of_ble_eq_true rfl) yi_X8_resize wl_1173 rfl wd_1174 wd_1175 wd_81 wd_1176 rfl (by simp [cv, xI_of]) dL_law_608 (fun H2 locs2 hw2 => ?_)
  exact lv_icmp_eq (tgt := 1179) hx hb dL_law_611 (by decide) (fun _ => kk _ _ _ _ hw2 q3) (fun hne => absurd rfl hne)
set_option maxHeartbeats 4000000 in
set_option maxRecDepth 100000 in
theorem lc_fix {p : Program} {l : Launch} {e : Env} {s : State} {m : MethodId} {below : List Frame} {meth : Method} {c : Code} {b L : Nat} {xs : Nat → Int32} {D : va_G} {g : xG3} {ad1 ad2 : Nat → Nat → Nat} {μ : List Ob} {mm : Ob} {H : Heap} {locs : List Loc} {cells slots : Nat} {Q : State → Prop} {ls : Array Slot} {T : Int} {i : Nat} (C : lw_At p s m meth c b L xs) (hKS : KS D g s) (hw : LWd D g ad1 ad2 s μ mm H locs) (hI : IW T μ mm) (hT0 : 0 ≤ T) (hT : T ≤ 600) (hl : lv_has ls 4 [(3, .int (xI (i : Int))), (0, .ref b), (1, .ref (ad1 0 0)), (2, .ref (ad2 0 0))]) (hL : L ≤ 2048) (hiL : i + 3 < L) (hcl : cells ≤ room_1.cells) (hsl : slots ≤ room_1.slots)
    (kk : ∀ (μ1 : List Ob) (m1 : Ob) (H1 : Heap) (locs1 : List Loc), LWd D g ad1 ad2 s μ1 m1 H1 locs1 → IW (T + 1) μ1 m1 → W p l e room_1 s m #[Value.ref b] below meth c H1 locs1 cells slots Q (F0 m 1179 ls [])) : W p l e room_1 s m #[Value.ref b] below meth c H locs cells slots Q (F0 m 616 ls []) := by
  obtain ⟨hx, hb, hr, hml, hown, hts, hX, hbl, hlocks, hgv⟩ := id C
  have hS := hw.2.2.2.2.2.2.2.2
  have hbA : ¬ (fun q : Nat => s.heap.size ≤ q) b := Nat.not_le.mpr hbl
  have j1 := lw_in (L := L) (i := i) 1 (by omega) hL
  obtain ⟨h0, h1, h2, h3, h4, h5, h6, h7, h8, h9, h10, h11, h12, h13, h14, h15, h16, h17, h18, h19, h20, h21, h22, h23, h24, rfl, hIN⟩ := IW_cases hI
  refine lv_aload_n hx hb dL_law_616 rfl (lv_at hl 2 rfl) ?_
  refine lv_aload_n hx hb dL_law_617 rfl (lv_at hl 1 rfl) ?_
  refine lv_iload_n hx hb dL_law_618 rfl (lv_at hl 0 rfl) ?_
  refine lv_iconst (v := xI 1) hx hb dL_law_619 rfl ?_
  refine lv_iadd hx hb dL_law_620 ?_
  refine va_sld hx hb hX hbl hbA hS j1 dL_law_621 ?_
  obtain ⟨r, μ1, m1, q1, q2, q3⟩ := e_fix T hT0 hT ((xs (xI (i : Int) + xI 1).toNatClampNeg).toInt) (xw_of _) h0 h1 h2 h3 h4 h5 h6 h7 h8 h9 h10 h11 h12 h13 h14 h15 h16 h17 h18 h19 h20 h21 h22 h23 h24 mm hIN
  refine lawA (as := [.inl ((xs (xI (i : Int) + xI 1).toNatClampNeg).toInt)]) C hKS hw hl.1 hcl hsl (ctr_X7_fix) ((eqf_X7_fix  _ _ _ _ _ _ _ _ _ _ _ _ _ _ _ _ _ _ _ _ _ _ _ _ _ _).trans q1) (IW_len q3) (Nat.le_of_ble_eq_true rfl) (Nat.le_of_ble_eq_true rfl) yi_X7_fix wl_653 rfl wd_654 wd_655 wd_73 wd_656 (by simp [cv, xI_of]) dL_law_622 (fun H1 locs1 hw1 => ?_)
  have hS1 := hw1.2.2.2.2.2.2.2.2
  refine lv_aload_n hx hb dL_law_625 rfl (lv_at hl 3 rfl) ?_
  refine lv_aload_n hx hb dL_law_626 rfl (lv_at hl 1 rfl) ?_
  refine lv_iload_n hx hb dL_law_627 rfl (lv_at hl 0 rfl) ?_
  refine lv_iconst (v := xI 1) hx hb dL_law_628 rfl ?_
  refine lv_iadd hx hb dL_law_629 ?_
  refine va_sld hx hb hX hbl hbA hS1 j1 dL_law_630 ?_
  refine lawB (as := [.inl ((xs (xI (i : Int) + xI 1).toNatClampNeg).toInt)]) (v0 := .int (xI r)) C hKS hw1 hl.1 hcl hsl (ctr_X8_fix xfu) ((eqf_X8_fix xfu _ _).trans q2) (Nat.le_of_ble_eq_true rfl) (Nat.le_of_ble_eq_true rfl) yi_X8_fix wl_1181 rfl wd_1182 wd_1183 wd_81 wd_1184 rfl (by simp [cv, xI_of]) dL_law_631 (fun H2 locs2 hw2 => ?_)
  exact lv_icmp_eq (tgt := 1179) hx hb dL_law_634 (by decide) (fun _ => kk _ _ _ _ hw2 q3) (fun hne => absurd rfl hne)
set_option maxHeartbeats 4000000 in
set_option maxRecDepth 100000 in
theorem lc_unfix {p : Program} {l : Launch} {e : Env} {s : State} {m : MethodId} {below : List Frame} {meth : Method} {c : Code} {b L : Nat} {xs : Nat → Int32} {D : va_G} {g : xG3} {ad1 ad2 : Nat → Nat → Nat} {μ : List Ob} {mm : Ob} {H : Heap} {locs : List Loc} {cells slots : Nat} {Q : State → Prop} {ls : Array Slot} {T : Int} {i : Nat} (C : lw_At p s m meth c b L xs) (hKS : KS D g s) (hw : LWd D g ad1 ad2 s μ mm H locs) (hI : IW T μ mm) (hT0 : 0 ≤ T) (hT : T ≤ 600) (hl : lv_has ls 4 [(3, .int (xI (i : Int))), (0, .ref b), (1, .ref (ad1 0 0)), (2, .ref (ad2 0 0))]) (hL : L ≤ 2048) (hiL : i + 3 < L) (hcl : cells ≤ room_1.cells) (hsl : slots ≤ room_1.slots)
    (kk : ∀ (μ1 : List Ob) (m1 : Ob) (H1 : Heap) (locs1 : List Loc), LWd D g ad1 ad2 s μ1 m1 H1 locs1 → IW (T + 1) μ1 m1 → W p l e room_1 s m #[Value.ref b] below meth c H1 locs1 cells slots Q (F0 m 1179 ls [])) : W p l e room_1 s m #[Value.ref b] below meth c H locs cells slots Q (F0 m 639 ls []) := by
  obtain ⟨hx, hb, hr, hml, hown, hts, hX, hbl, hlocks, hgv⟩ := id C
  have hS := hw.2.2.2.2.2.2.2.2
  have hbA : ¬ (fun q : Nat => s.heap.size ≤ q) b := Nat.not_le.mpr hbl
  have j1 := lw_in (L := L) (i := i) 1 (by omega) hL
  obtain ⟨h0, h1, h2, h3, h4, h5, h6, h7, h8, h9, h10, h11, h12, h13, h14, h15, h16, h17, h18, h19, h20, h21, h22, h23, h24, rfl, hIN⟩ := IW_cases hI
  refine lv_aload_n hx hb dL_law_639 rfl (lv_at hl 2 rfl) ?_
  refine lv_aload_n hx hb dL_law_640 rfl (lv_at hl 1 rfl) ?_
  refine lv_iload_n hx hb dL_law_641 rfl (lv_at hl 0 rfl) ?_
  refine lv_iconst (v := xI 1) hx hb dL_law_642 rfl ?_
  refine lv_iadd hx hb dL_law_643 ?_
  refine va_sld hx hb hX hbl hbA hS j1 dL_law_644 ?_
  obtain ⟨r, μ1, m1, q1, q2, q3⟩ := e_unfix T hT0 hT ((xs (xI (i : Int) + xI 1).toNatClampNeg).toInt) (xw_of _) h0 h1 h2 h3 h4 h5 h6 h7 h8 h9 h10 h11 h12 h13 h14 h15 h16 h17 h18 h19 h20 h21 h22 h23 h24 mm hIN
  refine lawA (as := [.inl ((xs (xI (i : Int) + xI 1).toNatClampNeg).toInt)]) C hKS hw hl.1 hcl hsl (ctr_X7_unfix) ((eqf_X7_unfix  _ _ _ _ _ _ _ _ _ _ _ _ _ _ _ _ _ _ _ _ _ _ _ _ _ _).trans q1) (IW_len q3) (Nat.le_of_ble_eq_true rfl) (Nat.le_of_ble_eq_true rfl) yi_X7_unfix wl_684 rfl wd_685 wd_686 wd_73 wd_687 (by simp [cv, xI_of]) dL_law_645 (fun H1 locs1 hw1 => ?_)
  have hS1 := hw1.2.2.2.2.2.2.2.2
  refine lv_aload_n hx hb dL_law_648 rfl (lv_at hl 3 rfl) ?_
  refine lv_aload_n hx hb dL_law_649 rfl (lv_at hl 1 rfl) ?_
  refine lv_iload_n hx hb dL_law_650 rfl (lv_at hl 0 rfl) ?_
  refine lv_iconst (v := xI 1) hx hb dL_law_651 rfl ?_
  refine lv_iadd hx hb dL_law_652 ?_
  refine va_sld hx hb hX hbl hbA hS1 j1 dL_law_653 ?_
  refine lawB (as := [.inl ((xs (xI (i : Int) + xI 1).toNatClampNeg).toInt)]) (v0 := .int (xI r)) C hKS hw1 hl.1 hcl hsl (ctr_X8_unfix) ((eqf_X8_unfix  _ _).trans q2) (Nat.le_of_ble_eq_true rfl) (Nat.le_of_ble_eq_true rfl) yi_X8_unfix wl_1201 rfl wd_1202 wd_1203 wd_81 wd_1204 rfl (by simp [cv, xI_of]) dL_law_654 (fun H2 locs2 hw2 => ?_)
  exact lv_icmp_eq (tgt := 1179) hx hb dL_law_657 (by decide) (fun _ => kk _ _ _ _ hw2 q3) (fun hne => absurd rfl hne)
set_option maxHeartbeats 4000000 in
set_option maxRecDepth 100000 in
theorem lc_reserve {p : Program} {l : Launch} {e : Env} {s : State} {m : MethodId} {below : List Frame} {meth : Method} {c : Code} {b L : Nat} {xs : Nat → Int32} {D : va_G} {g : xG3} {ad1 ad2 : Nat → Nat → Nat} {μ : List Ob} {mm : Ob} {H : Heap} {locs : List Loc} {cells slots : Nat} {Q : State → Prop} {ls : Array Slot} {T : Int} {i : Nat} (C : lw_At p s m meth c b L xs) (hKS : KS D g s) (hw : LWd D g ad1 ad2 s μ mm H locs) (hI : IW T μ mm) (hT0 : 0 ≤ T) (hT : T ≤ 600) (hl : lv_has ls 4 [(3, .int (xI (i : Int))), (0, .ref b), (1, .ref (ad1 0 0)), (2, .ref (ad2 0 0))]) (hL : L ≤ 2048) (hiL : i + 3 < L) (hcl : cells ≤ room_1.cells) (hsl : slots ≤ room_1.slots)
    (kk : ∀ (μ1 : List Ob) (m1 : Ob) (H1 : Heap) (locs1 : List Loc), LWd D g ad1 ad2 s μ1 m1 H1 locs1 → IW (T + 1) μ1 m1 → W p l e room_1 s m #[Value.ref b] below meth c H1 locs1 cells slots Q (F0 m 1179 ls [])) : W p l e room_1 s m #[Value.ref b] below meth c H locs cells slots Q (F0 m 662 ls []) := by
  obtain ⟨hx, hb, hr, hml, hown, hts, hX, hbl, hlocks, hgv⟩ := id C
  have hS := hw.2.2.2.2.2.2.2.2
  have hbA : ¬ (fun q : Nat => s.heap.size ≤ q) b := Nat.not_le.mpr hbl
  have j1 := lw_in (L := L) (i := i) 1 (by omega) hL
  obtain ⟨h0, h1, h2, h3, h4, h5, h6, h7, h8, h9, h10, h11, h12, h13, h14, h15, h16, h17, h18, h19, h20, h21, h22, h23, h24, rfl, hIN⟩ := IW_cases hI
  refine lv_aload_n hx hb dL_law_662 rfl (lv_at hl 2 rfl) ?_
  refine lv_aload_n hx hb dL_law_663 rfl (lv_at hl 1 rfl) ?_
  refine lv_iload_n hx hb dL_law_664 rfl (lv_at hl 0 rfl) ?_
  refine lv_iconst (v := xI 1) hx hb dL_law_665 rfl ?_
  refine lv_iadd hx hb dL_law_666 ?_
  refine va_sld hx hb hX hbl hbA hS j1 dL_law_667 ?_
  obtain ⟨r, μ1, m1, q1, q2, q3⟩ := e_reserve T hT0 hT ((xs (xI (i : Int) + xI 1).toNatClampNeg).toInt) (xw_of _) h0 h1 h2 h3 h4 h5 h6 h7 h8 h9 h10 h11 h12 h13 h14 h15 h16 h17 h18 h19 h20 h21 h22 h23 h24 mm hIN
  refine lawA (as := [.inl ((xs (xI (i : Int) + xI 1).toNatClampNeg).toInt)]) C hKS hw hl.1 hcl hsl (ctr_X7_reserve) ((eqf_X7_reserve  _ _ _ _ _ _ _ _ _ _ _ _ _ _ _ _ _ _ _ _ _ _ _ _ _ _).trans q1) (IW_len q3) (Nat.le_of_ble_eq_true rfl) (Nat.le_of_ble_eq_true rfl) yi_X7_reserve wl_688 rfl wd_689 wd_690 wd_73 wd_691 (by simp [cv, xI_of]) dL_law_668 (fun H1 locs1 hw1 => ?_)
  have hS1 := hw1.2.2.2.2.2.2.2.2
  refine lv_aload_n hx hb dL_law_671 rfl (lv_at hl 3 rfl) ?_
  refine lv_aload_n hx hb dL_law_672 rfl (lv_at hl 1 rfl) ?_
  refine lv_iload_n hx hb dL_law_673 rfl (lv_at hl 0 rfl) ?_
  refine lv_iconst (v := xI 1) hx hb dL_law_674 rfl ?_
  refine lv_iadd hx hb dL_law_675 ?_
  refine va_sld hx hb hX hbl hbA hS1 j1 dL_law_676 ?_
  refine lawB (as := [.inl ((xs (xI (i : Int) + xI 1).toNatClampNeg).toInt)]) (v0 := .int (xI r)) C hKS hw1 hl.1 hcl hsl (ctr_X8_reserve) ((eqf_X8_reserve  _ _).trans q2) (Nat.le_of_ble_eq_true rfl) (Nat.le_of_ble_eq_true rfl) yi_X8_reserve wl_1205 rfl wd_1206 wd_1207 wd_81 wd_1208 rfl (by simp [cv, xI_of]) dL_law_677 (fun H2 locs2 hw2 => ?_)
  exact lv_icmp_eq (tgt := 1179) hx hb dL_law_680 (by decide) (fun _ => kk _ _ _ _ hw2 q3) (fun hne => absurd rfl hne)
set_option maxHeartbeats 4000000 in
set_option maxRecDepth 100000 in
theorem lc_compact {p : Program} {l : Launch} {e : Env} {s : State} {m : MethodId} {below : List Frame} {meth : Method} {c : Code} {b L : Nat} {xs : Nat → Int32} {D : va_G} {g : xG3} {ad1 ad2 : Nat → Nat → Nat} {μ : List Ob} {mm : Ob} {H : Heap} {locs : List Loc} {cells slots : Nat} {Q : State → Prop} {ls : Array Slot} {T : Int} {i : Nat} (C : lw_At p s m meth c b L xs) (hKS : KS D g s) (hw : LWd D g ad1 ad2 s μ mm H locs) (hI : IW T μ mm) (hT0 : 0 ≤ T) (hT : T ≤ 600) (hl : lv_has ls 4 [(3, .int (xI (i : Int))), (0, .ref b), (1, .ref (ad1 0 0)), (2, .ref (ad2 0 0))]) (hL : L ≤ 2048) (hiL : i + 3 < L) (hcl : cells ≤ room_1.cells) (hsl : slots ≤ room_1.slots)
    (kk : ∀ (μ1 : List Ob) (m1 : Ob) (H1 : Heap) (locs1 : List Loc), LWd D g ad1 ad2 s μ1 m1 H1 locs1 → IW (T + 1) μ1 m1 → W p l e room_1 s m #[Value.ref b] below meth c H1 locs1 cells slots Q (F0 m 1179 ls [])) : W p l e room_1 s m #[Value.ref b] below meth c H locs cells slots Q (F0 m 685 ls []) := by
  obtain ⟨hx, hb, hr, hml, hown, hts, hX, hbl, hlocks, hgv⟩ := id C
  have hS := hw.2.2.2.2.2.2.2.2
  have hbA : ¬ (fun q : Nat => s.heap.size ≤ q) b := Nat.not_le.mpr hbl
  obtain ⟨h0, h1, h2, h3, h4, h5, h6, h7, h8, h9, h10, h11, h12, h13, h14, h15, h16, h17, h18, h19, h20, h21, h22, h23, h24, rfl, hIN⟩ := IW_cases hI
  refine lv_aload_n hx hb dL_law_685 rfl (lv_at hl 2 rfl) ?_
  obtain ⟨r, μ1, m1, q1, q2, q3⟩ := e_compact T hT0 hT  h0 h1 h2 h3 h4 h5 h6 h7 h8 h9 h10 h11 h12 h13 h14 h15 h16 h17 h18 h19 h20 h21 h22 h23 h24 mm hIN
  refine lawA (as := []) C hKS hw hl.1 hcl hsl (ctr_X7_compact) ((eqf_X7_compact  _ _ _ _ _ _ _ _ _ _ _ _ _ _ _ _ _ _ _ _ _ _ _ _ _).trans q1) (IW_len q3) (Nat.le_of_ble_eq_true rfl) (Nat.le_of_ble_eq_true rfl) yi_X7_compact wl_692 rfl wd_693 wd_694 wd_73 wd_695 (by simp [cv, xI_of]) dL_law_686 (fun H1 locs1 hw1 => ?_)
  have hS1 := hw1.2.2.2.2.2.2.2.2
  refine lv_aload_n hx hb dL_law_689 rfl (lv_at hl 3 rfl) ?_
  refine lawB (as := []) (v0 := .int (xI r)) C hKS hw1 hl.1 hcl hsl (ctr_X8_compact) ((eqf_X8_compact  _).trans q2) (Nat.le_of_ble_eq_true rfl) (Nat.le_of_ble_eq_true rfl) yi_X8_compact wl_1209 rfl wd_1210 wd_1211 wd_81 wd_1212 rfl (by simp [cv, xI_of]) dL_law_690 (fun H2 locs2 hw2 => ?_)
  exact lv_icmp_eq (tgt := 1179) hx hb dL_law_693 (by decide) (fun _ => kk _ _ _ _ hw2 q3) (fun hne => absurd rfl hne)
