set_option maxHeartbeats 4000000 in
set_option maxRecDepth 100000 in
theorem lc_policy {p : Program} {l : Launch} {e : Env} {s : State} {m : MethodId} {below : List Frame} {meth : Method} {c : Code} {b L : Nat} {xs : Nat → Int32} {D : va_G} {g : xG3} {ad1 ad2 : Nat → Nat → Nat} {μ : List Ob} {mm : Ob} {H : Heap} {locs : List Loc} {cells slots : Nat} {Q : State → Prop} {ls : Array Slot} {T : Int} {i : Nat} (C : lw_At p s m meth c b L xs) (hKS : KS D g s) (hw : LWd D g ad1 ad2 s μ mm H locs) (hI : IW T μ mm) (hT0 : 0 ≤ T) (hT : T ≤ 600) (hl : lv_has ls 4 [(3, .int (xI (i : Int))), (0, .ref b), (1, .ref (ad1 0 0)), (2, .ref (ad2 0 0))]) (hL : L ≤ 2048) (hiL : i + 3 < L) (hcl : cells ≤ room_1.cells) (hsl : slots ≤ room_1.slots)
    (kk : ∀ (μ1 : List Ob) (m1 : Ob) (H1 : Heap) (locs1 : List Loc), LWd D g ad1 ad2 s μ1 m1 H1 locs1 → IW (T + 1) μ1 m1 → W p l e room_1 s m #[Value.ref b] below meth c H1 locs1 cells slots Q (F0 m 1179 ls [])) : W p l e room_1 s m #[Value.ref b] below meth c H locs cells slots Q (F0 m 698 ls []) := by
  obtain ⟨hx, hb, hr, hml, hown, hts, hX, hbl, hlocks, hgv⟩ := id C
  have hS := hw.2.2.2.2.2.2.2.2
  have hbA : ¬ (fun q : Nat => s.heap.size ≤ q) b := Nat.not_le.mpr hbl
  have j1 := lw_in (L := L) (i := i) 1 (by omega) hL
  obtain ⟨h0, h1, h2, h3, h4, h5, h6, h7, h8, h9, h10, h11, h12, h13, h14, h15, h16, h17, h18, h19, h20, h21, h22, h23, h24, rfl, hIN⟩ := IW_cases hI
  refine lv_aload_n hx hb dL_law_698 rfl (lv_at hl 2 rfl) ?_
  refine lv_aload_n hx hb dL_law_699 rfl (lv_at hl 1 rfl) ?_
  refine lv_iload_n hx hb dL_law_700 rfl (lv_at hl 0 rfl) ?_
  refine lv_iconst (v := xI 1) hx hb dL_law_701 rfl ?_
  refine lv_iadd hx hb dL_law_702 ?_
  refine va_sld hx hb hX hbl hbA hS j1 dL_law_703 ?_
  obtain ⟨r, μ1, m1, q1, q2, q3⟩ := e_policy T hT0 hT ((xs (xI (i : Int) + xI 1).toNatClampNeg).toInt) (xw_of _) h0 h1 h2 h3 h4 h5 h6 h7 h8 h9 h10 h11 h12 h13 h14 h15 h16 h17 h18 h19 h20 h21 h22 h23 h24 mm hIN
  refine lawA (as := [.inl ((xs (xI (i : Int) + xI 1).toNatClampNeg).toInt)]) C hKS hw hl.1 hcl hsl (ctr_X7_policy) ((eqf_X7_policy  _ _ _ _ _ _ _ _ _ _ _ _ _ _ _ _ _ _ _ _ _ _ _ _ _ _).trans q1) (IW_len q3) (Nat.le_of_ble_eq_true rfl) (Nat.le_of_ble_eq_true rfl) yi_X7_policy wl_706 rfl wd_707 wd_708 wd_73 wd_709 (by simp [cv, xI_of]) dL_law_704 (fun H1 locs1 hw1 => ?_)
  have hS1 := hw1.2.2.2.2.2.2.2.2
  refine lv_aload_n hx hb dL_law_707 rfl (lv_at hl 3 rfl) ?_
  refine lv_aload_n hx hb dL_law_708 rfl (lv_at hl 1 rfl) ?_
  refine lv_iload_n hx hb dL_law_709 rfl (lv_at hl 0 rfl) ?_
  refine lv_iconst (v := xI 1) hx hb dL_law_710 rfl ?_
  refine lv_iadd hx hb dL_law_711 ?_
  refine va_sld hx hb hX hbl hbA hS1 j1 dL_law_712 ?_
  refine lawB (as := [.inl ((xs (xI (i : Int) + xI 1).toNatClampNeg).toInt)]) (v0 := .int (xI r)) C hKS hw1 hl.1 hcl hsl (ctr_X8_policy) ((eqf_X8_policy  _ _).trans q2) (Nat.le_of_ble_eq_true rfl) (Nat.le_of_ble_eq_true rfl) yi_X8_policy wl_1221 rfl wd_1222 wd_1223 wd_81 wd_1224 rfl (by simp [cv, xI_of]) dL_law_713 (fun H2 locs2 hw2 => ?_)
  exact lv_icmp_eq (tgt := 1179) hx hb dL_law_716 (by decide) (fun _ => kk _ _ _ _ hw2 q3) (fun hne => absurd rfl hne)
set_option maxHeartbeats 4000000 in
set_option maxRecDepth 100000 in
theorem lc_undo {p : Program} {l : Launch} {e : Env} {s : State} {m : MethodId} {below : List Frame} {meth : Method} {c : Code} {b L : Nat} {xs : Nat → Int32} {D : va_G} {g : xG3} {ad1 ad2 : Nat → Nat → Nat} {μ : List Ob} {mm : Ob} {H : Heap} {locs : List Loc} {cells slots : Nat} {Q : State → Prop} {ls : Array Slot} {T : Int} {i : Nat} (C : lw_At p s m meth c b L xs) (hKS : KS D g s) (hw : LWd D g ad1 ad2 s μ mm H locs) (hI : IW T μ mm) (hT0 : 0 ≤ T) (hT : T ≤ 600) (hl : lv_has ls 4 [(3, .int (xI (i : Int))), (0, .ref b), (1, .ref (ad1 0 0)), (2, .ref (ad2 0 0))]) (hL : L ≤ 2048) (hiL : i + 3 < L) (hcl : cells ≤ room_1.cells) (hsl : slots ≤ room_1.slots)
    (kk : ∀ (μ1 : List Ob) (m1 : Ob) (H1 : Heap) (locs1 : List Loc), LWd D g ad1 ad2 s μ1 m1 H1 locs1 → IW (T + 1) μ1 m1 → W p l e room_1 s m #[Value.ref b] below meth c H1 locs1 cells slots Q (F0 m 1179 ls [])) : W p l e room_1 s m #[Value.ref b] below meth c H locs cells slots Q (F0 m 721 ls []) := by
  obtain ⟨hx, hb, hr, hml, hown, hts, hX, hbl, hlocks, hgv⟩ := id C
  have hS := hw.2.2.2.2.2.2.2.2
  have hbA : ¬ (fun q : Nat => s.heap.size ≤ q) b := Nat.not_le.mpr hbl
  obtain ⟨h0, h1, h2, h3, h4, h5, h6, h7, h8, h9, h10, h11, h12, h13, h14, h15, h16, h17, h18, h19, h20, h21, h22, h23, h24, rfl, hIN⟩ := IW_cases hI
  refine lv_aload_n hx hb dL_law_721 rfl (lv_at hl 2 rfl) ?_
  obtain ⟨r, μ1, m1, q1, q2, q3⟩ := e_undo T hT0 hT  h0 h1 h2 h3 h4 h5 h6 h7 h8 h9 h10 h11 h12 h13 h14 h15 h16 h17 h18 h19 h20 h21 h22 h23 h24 mm hIN
  refine lawA (as := []) C hKS hw hl.1 hcl hsl (ctr_X7_undo) ((eqf_X7_undo  _ _ _ _ _ _ _ _ _ _ _ _ _ _ _ _ _ _ _ _ _ _ _ _ _).trans q1) (IW_len q3) (Nat.le_of_ble_eq_true rfl) (Nat.le_of_ble_eq_true rfl) yi_X7_undo wl_710 rfl wd_711 wd_712 wd_73 wd_713 (by simp [cv, xI_of]) dL_law_722 (fun H1 locs1 hw1 => ?_)
  have hS1 := hw1.2.2.2.2.2.2.2.2
  refine lv_aload_n hx hb dL_law_725 rfl (lv_at hl 3 rfl) ?_
  refine lawB (as := []) (v0 := .int (xI r)) C hKS hw1 hl.1 hcl hsl (ctr_X8_undo xfu) ((eqf_X8_undo xfu _).trans q2) (Nat.le_of_ble_eq_true rfl) (Nat.le_of_ble_eq_true rfl) yi_X8_undo wl_957 rfl wd_958 wd_959 wd_81 wd_960 rfl (by simp [cv, xI_of]) dL_law_726 (fun H2 locs2 hw2 => ?_)
  exact lv_icmp_eq (tgt := 1179) hx hb dL_law_729 (by decide) (fun _ => kk _ _ _ _ hw2 q3) (fun hne => absurd rfl hne)
set_option maxHeartbeats 4000000 in
set_option maxRecDepth 100000 in
theorem lc_handle {p : Program} {l : Launch} {e : Env} {s : State} {m : MethodId} {below : List Frame} {meth : Method} {c : Code} {b L : Nat} {xs : Nat → Int32} {D : va_G} {g : xG3} {ad1 ad2 : Nat → Nat → Nat} {μ : List Ob} {mm : Ob} {H : Heap} {locs : List Loc} {cells slots : Nat} {Q : State → Prop} {ls : Array Slot} {T : Int} {i : Nat} (C : lw_At p s m meth c b L xs) (hKS : KS D g s) (hw : LWd D g ad1 ad2 s μ mm H locs) (hI : IW T μ mm) (hT0 : 0 ≤ T) (hT : T ≤ 600) (hl : lv_has ls 4 [(3, .int (xI (i : Int))), (0, .ref b), (1, .ref (ad1 0 0)), (2, .ref (ad2 0 0))]) (hL : L ≤ 2048) (hiL : i + 3 < L) (hcl : cells ≤ room_1.cells) (hsl : slots ≤ room_1.slots)
    (kk : ∀ (μ1 : List Ob) (m1 : Ob) (H1 : Heap) (locs1 : List Loc), LWd D g ad1 ad2 s μ1 m1 H1 locs1 → IW (T + 1) μ1 m1 → W p l e room_1 s m #[Value.ref b] below meth c H1 locs1 cells slots Q (F0 m 1179 ls [])) : W p l e room_1 s m #[Value.ref b] below meth c H locs cells slots Q (F0 m 734 ls []) := by
  obtain ⟨hx, hb, hr, hml, hown, hts, hX, hbl, hlocks, hgv⟩ := id C
  have hS := hw.2.2.2.2.2.2.2.2
  have hbA : ¬ (fun q : Nat => s.heap.size ≤ q) b := Nat.not_le.mpr hbl
  have j1 := lw_in (L := L) (i := i) 1 (by omega) hL
  have j2 := lw_in (L := L) (i := i) 2 (by omega) hL
  obtain ⟨h0, h1, h2, h3, h4, h5, h6, h7, h8, h9, h10, h11, h12, h13, h14, h15, h16, h17, h18, h19, h20, h21, h22, h23, h24, rfl, hIN⟩ := IW_cases hI
  refine lv_aload_n hx hb dL_law_734 rfl (lv_at hl 2 rfl) ?_
  refine lv_aload_n hx hb dL_law_735 rfl (lv_at hl 1 rfl) ?_
  refine lv_iload_n hx hb dL_law_736 rfl (lv_at hl 0 rfl) ?_
  refine lv_iconst (v := xI 1) hx hb dL_law_737 rfl ?_
  refine lv_iadd hx hb dL_law_738 ?_
  refine va_sld hx hb hX hbl hbA hS j1 dL_law_739 ?_
  refine lv_aload_n hx hb dL_law_740 rfl (lv_at hl 1 rfl) ?_
  refine lv_iload_n hx hb dL_law_741 rfl (lv_at hl 0 rfl) ?_
  refine lv_iconst (v := xI 2) hx hb dL_law_742 rfl ?_
  refine lv_iadd hx hb dL_law_743 ?_
  refine va_sld hx hb hX hbl hbA hS j2 dL_law_744 ?_
  obtain ⟨r, μ1, m1, q1, q2, q3⟩ := e_handle T hT0 hT ((xs (xI (i : Int) + xI 1).toNatClampNeg).toInt) (xw_of _) ((xs (xI (i : Int) + xI 2).toNatClampNeg).toInt) (xw_of _) h0 h1 h2 h3 h4 h5 h6 h7 h8 h9 h10 h11 h12 h13 h14 h15 h16 h17 h18 h19 h20 h21 h22 h23 h24 mm hIN
  refine lawA (as := [.inl ((xs (xI (i : Int) + xI 1).toNatClampNeg).toInt), .inl ((xs (xI (i : Int) + xI 2).toNatClampNeg).toInt)]) C hKS hw hl.1 hcl hsl (ctr_X7_handle) ((eqf_X7_handle  _ _ _ _ _ _ _ _ _ _ _ _ _ _ _ _ _ _ _ _ _ _ _ _ _ _ _).trans q1) (IW_len q3) (Nat.le_of_ble_eq_true rfl) (Nat.le_of_ble_eq_true rfl) yi_X7_handle wl_719 rfl wd_720 wd_721 wd_73 wd_722 (by simp [cv, xI_of]) dL_law_745 (fun H1 locs1 hw1 => ?_)
  have hS1 := hw1.2.2.2.2.2.2.2.2
  refine lv_aload_n hx hb dL_law_748 rfl (lv_at hl 3 rfl) ?_
  refine lv_aload_n hx hb dL_law_749 rfl (lv_at hl 1 rfl) ?_
  refine lv_iload_n hx hb dL_law_750 rfl (lv_at hl 0 rfl) ?_
  refine lv_iconst (v := xI 1) hx hb dL_law_751 rfl ?_
  refine lv_iadd hx hb dL_law_752 ?_
  refine va_sld hx hb hX hbl hbA hS1 j1 dL_law_753 ?_
  refine lv_aload_n hx hb dL_law_754 rfl (lv_at hl 1 rfl) ?_
  refine lv_iload_n hx hb dL_law_755 rfl (lv_at hl 0 rfl) ?_
  refine lv_iconst (v := xI 2) hx hb dL_law_756 rfl ?_
  refine lv_iadd hx hb dL_law_757 ?_
  refine va_sld hx hb hX hbl hbA hS1 j2 dL_law_758 ?_
  refine lawB (as := [.inl ((xs (xI (i : Int) + xI 1).toNatClampNeg).toInt), .inl ((xs (xI (i : Int) + xI 2).toNatClampNeg).toInt)]) (v0 := .int (xI r)) C hKS hw1 hl.1 hcl hsl (ctr_X8_handle) ((eqf_X8_handle  _ _ _).trans q2) (Nat.le_of_ble_eq_true rfl) (Nat.le_of_ble_eq_true rfl) yi_X8_handle wl_1226 rfl wd_1227 wd_1228 wd_81 wd_1229 rfl (by simp [cv, xI_of]) dL_law_759 (fun H2 locs2 hw2 => ?_)
  exact lv_icmp_eq (tgt := 1179) hx hb dL_law_762 (by decide) (fun _ => kk _ _ _ _ hw2 q3) (fun hne => absurd rfl hne)
set_option maxHeartbeats 4000000 in
set_option maxRecDepth 100000 in
theorem lc_get {p : Program} {l : Launch} {e : Env} {s : State} {m : MethodId} {below : List Frame} {meth : Method} {c : Code} {b L : Nat} {xs : Nat → Int32} {D : va_G} {g : xG3} {ad1 ad2 : Nat → Nat → Nat} {μ : List Ob} {mm : Ob} {H : Heap} {locs : List Loc} {cells slots : Nat} {Q : State → Prop} {ls : Array Slot} {T : Int} {i : Nat} (C : lw_At p s m meth c b L xs) (hKS : KS D g s) (hw : LWd D g ad1 ad2 s μ mm H locs) (hI : IW T μ mm) (hT0 : 0 ≤ T) (hT : T ≤ 600) (hl : lv_has ls 4 [(3, .int (xI (i : Int))), (0, .ref b), (1, .ref (ad1 0 0)), (2, .ref (ad2 0 0))]) (hL : L ≤ 2048) (hiL : i + 3 < L) (hcl : cells ≤ room_1.cells) (hsl : slots ≤ room_1.slots)
    (kk : ∀ (μ1 : List Ob) (m1 : Ob) (H1 : Heap) (locs1 : List Loc), LWd D g ad1 ad2 s μ1 m1 H1 locs1 → IW (T + 1) μ1 m1 → W p l e room_1 s m #[Value.ref b] below meth c H1 locs1 cells slots Q (F0 m 1179 ls [])) : W p l e room_1 s m #[Value.ref b] below meth c H locs cells slots Q (F0 m 767 ls []) := by
  obtain ⟨hx, hb, hr, hml, hown, hts, hX, hbl, hlocks, hgv⟩ := id C
  have hS := hw.2.2.2.2.2.2.2.2
  have hbA : ¬ (fun q : Nat => s.heap.size ≤ q) b := Nat.not_le.mpr hbl
  have j1 := lw_in (L := L) (i := i) 1 (by omega) hL
  have j2 := lw_in (L := L) (i := i) 2 (by omega) hL
  obtain ⟨h0, h1, h2, h3, h4, h5, h6, h7, h8, h9, h10, h11, h12, h13, h14, h15, h16, h17, h18, h19, h20, h21, h22, h23, h24, rfl, hIN⟩ := IW_cases hI
  refine lv_aload_n hx hb dL_law_767 rfl (lv_at hl 2 rfl) ?_
  refine lv_aload_n hx hb dL_law_768 rfl (lv_at hl 1 rfl) ?_
  refine lv_iload_n hx hb dL_law_769 rfl (lv_at hl 0 rfl) ?_
  refine lv_iconst (v := xI 1) hx hb dL_law_770 rfl ?_
  refine lv_iadd hx hb dL_law_771 ?_
  refine va_sld hx hb hX hbl hbA hS j1 dL_law_772 ?_
  refine lv_aload_n hx hb dL_law_773 rfl (lv_at hl 1 rfl) ?_
  refine lv_iload_n hx hb dL_law_774 rfl (lv_at hl 0 rfl) ?_
  refine lv_iconst (v := xI 2) hx hb dL_law_775 rfl ?_
  refine lv_iadd hx hb dL_law_776 ?_
  refine va_sld hx hb hX hbl hbA hS j2 dL_law_777 ?_
  obtain ⟨r, μ1, m1, q1, q2, q3⟩ := e_get T hT0 hT ((xs (xI (i : Int) + xI 1).toNatClampNeg).toInt) (xw_of _) ((xs (xI (i : Int) + xI 2).toNatClampNeg).toInt) (xw_of _) h0 h1 h2 h3 h4 h5 h6 h7 h8 h9 h10 h11 h12 h13 h14 h15 h16 h17 h18 h19 h20 h21 h22 h23 h24 mm hIN
  refine lawA (as := [.inl ((xs (xI (i : Int) + xI 1).toNatClampNeg).toInt), .inl ((xs (xI (i : Int) + xI 2).toNatClampNeg).toInt)]) C hKS hw hl.1 hcl hsl (ctr_X7_get) ((eqf_X7_get  _ _ _ _ _ _ _ _ _ _ _ _ _ _ _ _ _ _ _ _ _ _ _ _ _ _ _).trans q1) (IW_len q3) (Nat.le_of_ble_eq_true rfl) (Nat.le_of_ble_eq_true rfl) yi_X7_get wl_724 rfl wd_725 wd_726 wd_73 wd_727 (by simp [cv, xI_of]) dL_law_778 (fun H1 locs1 hw1 => ?_)
  have hS1 := hw1.2.2.2.2.2.2.2.2
  refine lv_aload_n hx hb dL_law_781 rfl (lv_at hl 3 rfl) ?_
  refine lv_aload_n hx hb dL_law_782 rfl (lv_at hl 1 rfl) ?_
  refine lv_iload_n hx hb dL_law_783 rfl (lv_at hl 0 rfl) ?_
  refine lv_iconst (v := xI 1) hx hb dL_law_784 rfl ?_
  refine lv_iadd hx hb dL_law_785 ?_
  refine va_sld hx hb hX hbl hbA hS1 j1 dL_law_786 ?_
  refine lv_aload_n hx hb dL_law_787 rfl (lv_at hl 1 rfl) ?_
  refine lv_iload_n hx hb dL_law_788 rfl (lv_at hl 0 rfl) ?_
  refine lv_iconst (v := xI 2) hx hb dL_law_789 rfl ?_
  refine lv_iadd hx hb dL_law_790 ?_
  refine va_sld hx hb hX hbl hbA hS1 j2 dL_law_791 ?_
  refine lawB (as := [.inl ((xs (xI (i : Int) + xI 1).toNatClampNeg).toInt), .inl ((xs (xI (i : Int) + xI 2).toNatClampNeg).toInt)]) (v0 := .int (xI r)) C hKS hw1 hl.1 hcl hsl (ctr_X8_get) ((eqf_X8_get  _ _ _).trans q2) (Nat.le_of_ble_eq_true rfl) (Nat.le_of_ble_eq_true rfl) yi_X8_get wl_1230 rfl wd_1231 wd_1232 wd_81 wd_1233 rfl (by simp [cv, xI_of]) dL_law_792 (fun H2 locs2 hw2 => ?_)
  exact lv_icmp_eq (tgt := 1179) hx hb dL_law_795 (by decide) (fun _ => kk _ _ _ _ hw2 q3) (fun hne => absurd rfl hne)
set_option maxHeartbeats 4000000 in
set_option maxRecDepth 100000 in
theorem lc_pointer {p : Program} {l : Launch} {e : Env} {s : State} {m : MethodId} {below : List Frame} {meth : Method} {c : Code} {b L : Nat} {xs : Nat → Int32} {D : va_G} {g : xG3} {ad1 ad2 : Nat → Nat → Nat} {μ : List Ob} {mm : Ob} {H : Heap} {locs : List Loc} {cells slots : Nat} {Q : State → Prop} {ls : Array Slot} {T : Int} {i : Nat} (C : lw_At p s m meth c b L xs) (hKS : KS D g s) (hw : LWd D g ad1 ad2 s μ mm H locs) (hI : IW T μ mm) (hT0 : 0 ≤ T) (hT : T ≤ 600) (hl : lv_has ls 4 [(3, .int (xI (i : Int))), (0, .ref b), (1, .ref (ad1 0 0)), (2, .ref (ad2 0 0))]) (hL : L ≤ 2048) (hiL : i + 3 < L) (hcl : cells ≤ room_1.cells) (hsl : slots ≤ room_1.slots)
    (kk : ∀ (μ1 : List Ob) (m1 : Ob) (H1 : Heap) (locs1 : List Loc), LWd D g ad1 ad2 s μ1 m1 H1 locs1 → IW (T + 1) μ1 m1 → W p l e room_1 s m #[Value.ref b] below meth c H1 locs1 cells slots Q (F0 m 1179 ls [])) : W p l e room_1 s m #[Value.ref b] below meth c H locs cells slots Q (F0 m 800 ls []) := by
  obtain ⟨hx, hb, hr, hml, hown, hts, hX, hbl, hlocks, hgv⟩ := id C
  have hS := hw.2.2.2.2.2.2.2.2
  have hbA : ¬ (fun q : Nat => s.heap.size ≤ q) b := Nat.not_le.mpr hbl
  have j1 := lw_in (L := L) (i := i) 1 (by omega) hL
  have j2 := lw_in (L := L) (i := i) 2 (by omega) hL
  obtain ⟨h0, h1, h2, h3, h4, h5, h6, h7, h8, h9, h10, h11, h12, h13, h14, h15, h16, h17, h18, h19, h20, h21, h22, h23, h24, rfl, hIN⟩ := IW_cases hI
  refine lv_aload_n hx hb dL_law_800 rfl (lv_at hl 2 rfl) ?_
  refine lv_aload_n hx hb dL_law_801 rfl (lv_at hl 1 rfl) ?_
  refine lv_iload_n hx hb dL_law_802 rfl (lv_at hl 0 rfl) ?_
  refine lv_iconst (v := xI 1) hx hb dL_law_803 rfl ?_
  refine lv_iadd hx hb dL_law_804 ?_
  refine va_sld hx hb hX hbl hbA hS j1 dL_law_805 ?_
  refine lv_aload_n hx hb dL_law_806 rfl (lv_at hl 1 rfl) ?_
  refine lv_iload_n hx hb dL_law_807 rfl (lv_at hl 0 rfl) ?_
  refine lv_iconst (v := xI 2) hx hb dL_law_808 rfl ?_
  refine lv_iadd hx hb dL_law_809 ?_
  refine va_sld hx hb hX hbl hbA hS j2 dL_law_810 ?_
  obtain ⟨r, μ1, m1, q1, q2, q3⟩ := e_pointer T hT0 hT ((xs (xI (i : Int) + xI 1).toNatClampNeg).toInt) (xw_of _) ((xs (xI (i : Int) + xI 2).toNatClampNeg).toInt) (xw_of _) h0 h1 h2 h3 h4 h5 h6 h7 h8 h9 h10 h11 h12 h13 h14 h15 h16 h17 h18 h19 h20 h21 h22 h23 h24 mm hIN
  refine lawA (as := [.inl ((xs (xI (i : Int) + xI 1).toNatClampNeg).toInt), .inl ((xs (xI (i : Int) + xI 2).toNatClampNeg).toInt)]) C hKS hw hl.1 hcl hsl (ctr_X7_pointer) ((eqf_X7_pointer  _ _ _ _ _ _ _ _ _ _ _ _ _ _ _ _ _ _ _ _ _ _ _ _ _ _ _).trans q1) (IW_len q3) (Nat.le_of_ble_eq_true rfl) (Nat.le_of_ble_eq_true rfl) yi_X7_pointer wl_728 rfl wd_729 wd_730 wd_73 wd_731 (by simp [cv, xI_of]) dL_law_811 (fun H1 locs1 hw1 => ?_)
  have hS1 := hw1.2.2.2.2.2.2.2.2
  refine lv_aload_n hx hb dL_law_814 rfl (lv_at hl 3 rfl) ?_
  refine lv_aload_n hx hb dL_law_815 rfl (lv_at hl 1 rfl) ?_
  refine lv_iload_n hx hb dL_law_816 rfl (lv_at hl 0 rfl) ?_
  refine lv_iconst (v := xI 1) hx hb dL_law_817 rfl ?_
  refine lv_iadd hx hb dL_law_818 ?_
  refine va_sld hx hb hX hbl hbA hS1 j1 dL_law_819 ?_
  refine lv_aload_n hx hb dL_law_820 rfl (lv_at hl 1 rfl) ?_
  refine lv_iload_n hx hb dL_law_821 rfl (lv_at hl 0 rfl) ?_
  refine lv_iconst (v := xI 2) hx hb dL_law_822 rfl ?_
  refine lv_iadd hx hb dL_law_823 ?_
  refine va_sld hx hb hX hbl hbA hS1 j2 dL_law_824 ?_
  refine lawB (as := [.inl ((xs (xI (i : Int) + xI 1).toNatClampNeg).toInt), .inl ((xs (xI (i : Int) + xI 2).toNatClampNeg).toInt)]) (v0 := .int (xI r)) C hKS hw1 hl.1 hcl hsl (ctr_X8_pointer) ((eqf_X8_pointer  _ _ _).trans q2) (Nat.le_of_ble_eq_true rfl) (Nat.le_of_ble_eq_true rfl) yi_X8_pointer wl_1234 rfl wd_1235 wd_1236 wd_81 wd_1237 rfl (by simp [cv, xI_of]) dL_law_825 (fun H2 locs2 hw2 => ?_)
  exact lv_icmp_eq (tgt := 1179) hx hb dL_law_828 (by decide) (fun _ => kk _ _ _ _ hw2 q3) (fun hne => absurd rfl hne)
set_option maxHeartbeats 4000000 in
set_option maxRecDepth 100000 in
theorem lc_cell {p : Program} {l : Launch} {e : Env} {s : State} {m : MethodId} {below : List Frame} {meth : Method} {c : Code} {b L : Nat} {xs : Nat → Int32} {D : va_G} {g : xG3} {ad1 ad2 : Nat → Nat → Nat} {μ : List Ob} {mm : Ob} {H : Heap} {locs : List Loc} {cells slots : Nat} {Q : State → Prop} {ls : Array Slot} {T : Int} {i : Nat} (C : lw_At p s m meth c b L xs) (hKS : KS D g s) (hw : LWd D g ad1 ad2 s μ mm H locs) (hI : IW T μ mm) (hT0 : 0 ≤ T) (hT : T ≤ 600) (hl : lv_has ls 4 [(3, .int (xI (i : Int))), (0, .ref b), (1, .ref (ad1 0 0)), (2, .ref (ad2 0 0))]) (hL : L ≤ 2048) (hiL : i + 3 < L) (hcl : cells ≤ room_1.cells) (hsl : slots ≤ room_1.slots)
    (kk : ∀ (μ1 : List Ob) (m1 : Ob) (H1 : Heap) (locs1 : List Loc), LWd D g ad1 ad2 s μ1 m1 H1 locs1 → IW (T + 1) μ1 m1 → W p l e room_1 s m #[Value.ref b] below meth c H1 locs1 cells slots Q (F0 m 1179 ls [])) : W p l e room_1 s m #[Value.ref b] below meth c H locs cells slots Q (F0 m 833 ls []) := by
  obtain ⟨hx, hb, hr, hml, hown, hts, hX, hbl, hlocks, hgv⟩ := id C
  have hS := hw.2.2.2.2.2.2.2.2
  have hbA : ¬ (fun q : Nat => s.heap.size ≤ q) b := Nat.not_le.mpr hbl
  have j1 := lw_in (L := L) (i := i) 1 (by omega) hL
  obtain ⟨h0, h1, h2, h3, h4, h5, h6, h7, h8, h9, h10, h11, h12, h13, h14, h15, h16, h17, h18, h19, h20, h21, h22, h23, h24, rfl, hIN⟩ := IW_cases hI
  refine lv_aload_n hx hb dL_law_833 rfl (lv_at hl 2 rfl) ?_
  refine lv_aload_n hx hb dL_law_834 rfl (lv_at hl 1 rfl) ?_
  refine lv_iload_n hx hb dL_law_835 rfl (lv_at hl 0 rfl) ?_
  refine lv_iconst (v := xI 1) hx hb dL_law_836 rfl ?_
  refine lv_iadd hx hb dL_law_837 ?_
  refine va_sld hx hb hX hbl hbA hS j1 dL_law_838 ?_
  obtain ⟨r, μ1, m1, q1, q2, q3⟩ := e_cell T hT0 hT ((xs (xI (i : Int) + xI 1).toNatClampNeg).toInt) (xw_of _) h0 h1 h2 h3 h4 h5 h6 h7 h8 h9 h10 h11 h12 h13 h14 h15 h16 h17 h18 h19 h20 h21 h22 h23 h24 mm hIN
  refine lawA (as := [.inl ((xs (xI (i : Int) + xI 1).toNatClampNeg).toInt)]) C hKS hw hl.1 hcl hsl (ctr_X7_cell) ((eqf_X7_cell  _ _ _ _ _ _ _ _ _ _ _ _ _ _ _ _ _ _ _ _ _ _ _ _ _ _).trans q1) (IW_len q3) (Nat.le_of_ble_eq_true rfl) (Nat.le_of_ble_eq_true rfl) yi_X7_cell wl_732 rfl wd_733 wd_734 wd_73 wd_735 (by simp [cv, xI_of]) dL_law_839 (fun H1 locs1 hw1 => ?_)
  have hS1 := hw1.2.2.2.2.2.2.2.2
  refine lv_aload_n hx hb dL_law_842 rfl (lv_at hl 3 rfl) ?_
  refine lv_aload_n hx hb dL_law_843 rfl (lv_at hl 1 rfl) ?_
  refine lv_iload_n hx hb dL_law_844 rfl (lv_at hl 0 rfl) ?_
  refine lv_iconst (v := xI 1) hx hb dL_law_845 rfl ?_
  refine lv_iadd hx hb dL_law_846 ?_
  refine va_sld hx hb hX hbl hbA hS1 j1 dL_law_847 ?_
  refine lawB (as := [.inl ((xs (xI (i : Int) + xI 1).toNatClampNeg).toInt)]) (v0 := .int (xI r)) C hKS hw1 hl.1 hcl hsl (ctr_X8_cell) ((eqf_X8_cell  _ _).trans q2) (Nat.le_of_ble_eq_true rfl) (Nat.le_of_ble_eq_true rfl) yi_X8_cell wl_1238 rfl wd_1239 wd_1240 wd_81 wd_1241 rfl (by simp [cv, xI_of]) dL_law_848 (fun H2 locs2 hw2 => ?_)
  exact lv_icmp_eq (tgt := 1179) hx hb dL_law_851 (by decide) (fun _ => kk _ _ _ _ hw2 q3) (fun hne => absurd rfl hne)
