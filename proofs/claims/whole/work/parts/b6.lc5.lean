set_option maxHeartbeats 4000000 in
set_option maxRecDepth 100000 in
theorem lc_cheapest {p : Program} {l : Launch} {e : Env} {s : State} {m : MethodId} {below : List Frame} {meth : Method} {c : Code} {b L : Nat} {xs : Nat → Int32} {D : va_G} {g : xG3} {ad1 ad2 : Nat → Nat → Nat} {μ : List Ob} {mm : Ob} {H : Heap} {locs : List Loc} {cells slots : Nat} {Q : State → Prop} {ls : Array Slot} {T : Int} {i : Nat} (C : lw_At p s m meth c b L xs) (hKS : KS D g s) (hw : LWd D g ad1 ad2 s μ mm H locs) (hI : IW T μ mm) (hT0 : 0 ≤ T) (hT : T ≤ 600) (hl : lv_has ls 4 [(3, .int (xI (i : Int))), (0, .ref b), (1, .ref (ad1 0 0)), (2, .ref (ad2 0 0))]) (hL : L ≤ 2048) (hiL : i + 3 < L) (hcl : cells ≤ room_1.cells) (hsl : slots ≤ room_1.slots)
    (kk : ∀ (μ1 : List Ob) (m1 : Ob) (H1 : Heap) (locs1 : List Loc), LWd D g ad1 ad2 s μ1 m1 H1 locs1 → IW (T + 1) μ1 m1 → W p l e room_1 s m #[Value.ref b] below meth c H1 locs1 cells slots Q (F0 m 1179 ls [])) : W p l e room_1 s m #[Value.ref b] below meth c H locs cells slots Q (F0 m 1044 ls []) := by
  obtain ⟨hx, hb, hr, hml, hown, hts, hX, hbl, hlocks, hgv⟩ := id C
  have hS := hw.2.2.2.2.2.2.2.2
  have hbA : ¬ (fun q : Nat => s.heap.size ≤ q) b := Nat.not_le.mpr hbl
  have j1 := lw_in (L := L) (i := i) 1 (by omega) hL
  have j2 := lw_in (L := L) (i := i) 2 (by omega) hL
  obtain ⟨h0, h1, h2, h3, h4, h5, h6, h7, h8, h9, h10, h11, h12, h13, h14, h15, h16, h17, h18, h19, h20, h21, h22, h23, h24, rfl, hIN⟩ := IW_cases hI
  refine lv_aload_n hx hb dL_law_1044 rfl (lv_at hl 2 rfl) ?_
  refine lv_aload_n hx hb dL_law_1045 rfl (lv_at hl 1 rfl) ?_
  refine lv_iload_n hx hb dL_law_1046 rfl (lv_at hl 0 rfl) ?_
  refine lv_iconst (v := xI 1) hx hb dL_law_1047 rfl ?_
  refine lv_iadd hx hb dL_law_1048 ?_
  refine va_sld hx hb hX hbl hbA hS j1 dL_law_1049 ?_
  refine lv_aload_n hx hb dL_law_1050 rfl (lv_at hl 1 rfl) ?_
  refine lv_iload_n hx hb dL_law_1051 rfl (lv_at hl 0 rfl) ?_
  refine lv_iconst (v := xI 2) hx hb dL_law_1052 rfl ?_
  refine lv_iadd hx hb dL_law_1053 ?_
  refine va_sld hx hb hX hbl hbA hS j2 dL_law_1054 ?_
  obtain ⟨r, μ1, m1, q1, q2, q3⟩ := e_cheapest T hT0 hT ((xs (xI (i : Int) + xI 1).toNatClampNeg).toInt) (xw_of _) ((xs (xI (i : Int) + xI 2).toNatClampNeg).toInt) (xw_of _) h0 h1 h2 h3 h4 h5 h6 h7 h8 h9 h10 h11 h12 h13 h14 h15 h16 h17 h18 h19 h20 h21 h22 h23 h24 mm hIN
  refine lawA (as := [.inl ((xs (xI (i : Int) + xI 1).toNatClampNeg).toInt), .inl ((xs (xI (i : Int) + xI 2).toNatClampNeg).toInt)]) C hKS hw hl.1 hcl hsl (ctr_X7_cheapest xfu) ((eqf_X7_cheapest xfu _ _ _ _ _ _ _ _ _ _ _ _ _ _ _ _ _ _ _ _ _ _ _ _ _ _ _).trans q1) (IW_len q3) (Nat.le_of_ble_eq_true rfl) (Nat.le_of_ble_eq_true rfl) yi_X7_cheapest wl_849 rfl wd_850 wd_851 wd_73 wd_852 (by simp [cv, xI_of]) dL_law_1055 (fun H1 locs1 hw1 => ?_)
  have hS1 := hw1.2.2.2.2.2.2.2.2
  refine lv_aload_n hx hb dL_law_1058 rfl (lv_at hl 3 rfl) ?_
  refine lv_aload_n hx hb dL_law_1059 rfl (lv_at hl 1 rfl) ?_
  refine lv_iload_n hx hb dL_law_1060 rfl (lv_at hl 0 rfl) ?_
  refine lv_iconst (v := xI 1) hx hb dL_law_1061 rfl ?_
  refine lv_iadd hx hb dL_law_1062 ?_
  refine va_sld hx hb hX hbl hbA hS1 j1 dL_law_1063 ?_
  refine lv_aload_n hx hb dL_law_1064 rfl (lv_at hl 1 rfl) ?_
  refine lv_iload_n hx hb dL_law_1065 rfl (lv_at hl 0 rfl) ?_
  refine lv_iconst (v := xI 2) hx hb dL_law_1066 rfl ?_
  refine lv_iadd hx hb dL_law_1067 ?_
  refine va_sld hx hb hX hbl hbA hS1 j2 dL_law_1068 ?_
  refine lawB (as := [.inl ((xs (xI (i : Int) + xI 1).toNatClampNeg).toInt), .inl ((xs (xI (i : Int) + xI 2).toNatClampNeg).toInt)]) (v0 := .int (xI r)) C hKS hw1 hl.1 hcl hsl (ctr_X8_cheapest xfu) ((eqf_X8_cheapest xfu _ _ _).trans q2) (Nat.le_of_ble_eq_true rfl) (Nat.le_of_ble_eq_true rfl) yi_X8_cheapest wl_1284 rfl wd_1285 wd_1286 wd_81 wd_1287 rfl (by simp [cv, xI_of]) dL_law_1069 (fun H2 locs2 hw2 => ?_)
  exact lv_icmp_eq (tgt := 1179) hx hb dL_law_1072 (by decide) (fun _ => kk _ _ _ _ hw2 q3) (fun hne => absurd rfl hne)
set_option maxHeartbeats 4000000 in
set_option maxRecDepth 100000 in
theorem lc_after {p : Program} {l : Launch} {e : Env} {s : State} {m : MethodId} {below : List Frame} {meth : Method} {c : Code} {b L : Nat} {xs : Nat → Int32} {D : va_G} {g : xG3} {ad1 ad2 : Nat → Nat → Nat} {μ : List Ob} {mm : Ob} {H : Heap} {locs : List Loc} {cells slots : Nat} {Q : State → Prop} {ls : Array Slot} {T : Int} {i : Nat} (C : lw_At p s m meth c b L xs) (hKS : KS D g s) (hw : LWd D g ad1 ad2 s μ mm H locs) (hI : IW T μ mm) (hT0 : 0 ≤ T) (hT : T ≤ 600) (hl : lv_has ls 4 [(3, .int (xI (i : Int))), (0, .ref b), (1, .ref (ad1 0 0)), (2, .ref (ad2 0 0))]) (hL : L ≤ 2048) (hiL : i + 3 < L) (hcl : cells ≤ room_1.cells) (hsl : slots ≤ room_1.slots)
    (kk : ∀ (μ1 : List Ob) (m1 : Ob) (H1 : Heap) (locs1 : List Loc), LWd D g ad1 ad2 s μ1 m1 H1 locs1 → IW (T + 1) μ1 m1 → W p l e room_1 s m #[Value.ref b] below meth c H1 locs1 cells slots Q (F0 m 1179 ls [])) : W p l e room_1 s m #[Value.ref b] below meth c H locs cells slots Q (F0 m 1077 ls []) := by
  obtain ⟨hx, hb, hr, hml, hown, hts, hX, hbl, hlocks, hgv⟩ := id C
  have hS := hw.2.2.2.2.2.2.2.2
  have hbA : ¬ (fun q : Nat => s.heap.size ≤ q) b := Nat.not_le.mpr hbl
  have j1 := lw_in (L := L) (i := i) 1 (by omega) hL
  obtain ⟨h0, h1, h2, h3, h4, h5, h6, h7, h8, h9, h10, h11, h12, h13, h14, h15, h16, h17, h18, h19, h20, h21, h22, h23, h24, rfl, hIN⟩ := IW_cases hI
  refine lv_aload_n hx hb dL_law_1077 rfl (lv_at hl 2 rfl) ?_
  refine lv_aload_n hx hb dL_law_1078 rfl (lv_at hl 1 rfl) ?_
  refine lv_iload_n hx hb dL_law_1079 rfl (lv_at hl 0 rfl) ?_
  refine lv_iconst (v := xI 1) hx hb dL_law_1080 rfl ?_
  refine lv_iadd hx hb dL_law_1081 ?_
  refine va_sld hx hb hX hbl hbA hS j1 dL_law_1082 ?_
  obtain ⟨r, μ1, m1, q1, q2, q3⟩ := e_after T hT0 hT ((xs (xI (i : Int) + xI 1).toNatClampNeg).toInt) (xw_of _) h0 h1 h2 h3 h4 h5 h6 h7 h8 h9 h10 h11 h12 h13 h14 h15 h16 h17 h18 h19 h20 h21 h22 h23 h24 mm hIN
  refine lawA (as := [.inl ((xs (xI (i : Int) + xI 1).toNatClampNeg).toInt)]) C hKS hw hl.1 hcl hsl (ctr_X7_after) ((eqf_X7_after  _ _ _ _ _ _ _ _ _ _ _ _ _ _ _ _ _ _ _ _ _ _ _ _ _ _).trans q1) (IW_len q3) (Nat.le_of_ble_eq_true rfl) (Nat.le_of_ble_eq_true rfl) yi_X7_after wl_767 rfl wd_768 wd_769 wd_73 wd_770 (by simp [cv, xI_of]) dL_law_1083 (fun H1 locs1 hw1 => ?_)
  have hS1 := hw1.2.2.2.2.2.2.2.2
  refine lv_aload_n hx hb dL_law_1086 rfl (lv_at hl 3 rfl) ?_
  refine lv_aload_n hx hb dL_law_1087 rfl (lv_at hl 1 rfl) ?_
  refine lv_iload_n hx hb dL_law_1088 rfl (lv_at hl 0 rfl) ?_
  refine lv_iconst (v := xI 1) hx hb dL_law_1089 rfl ?_
  refine lv_iadd hx hb dL_law_1090 ?_
  refine va_sld hx hb hX hbl hbA hS1 j1 dL_law_1091 ?_
  refine lawB (as := [.inl ((xs (xI (i : Int) + xI 1).toNatClampNeg).toInt)]) (v0 := .int (xI r)) C hKS hw1 hl.1 hcl hsl (ctr_X8_after xfu) ((eqf_X8_after xfu _ _).trans q2) (Nat.le_of_ble_eq_true rfl) (Nat.le_of_ble_eq_true rfl) yi_X8_after wl_1296 rfl wd_1297 wd_1298 wd_81 wd_1299 rfl (by simp [cv, xI_of]) dL_law_1092 (fun H2 locs2 hw2 => ?_)
  exact lv_icmp_eq (tgt := 1179) hx hb dL_law_1095 (by decide) (fun _ => kk _ _ _ _ hw2 q3) (fun hne => absurd rfl hne)
set_option maxHeartbeats 4000000 in
set_option maxRecDepth 100000 in
theorem lc_order {p : Program} {l : Launch} {e : Env} {s : State} {m : MethodId} {below : List Frame} {meth : Method} {c : Code} {b L : Nat} {xs : Nat → Int32} {D : va_G} {g : xG3} {ad1 ad2 : Nat → Nat → Nat} {μ : List Ob} {mm : Ob} {H : Heap} {locs : List Loc} {cells slots : Nat} {Q : State → Prop} {ls : Array Slot} {T : Int} {i : Nat} (C : lw_At p s m meth c b L xs) (hKS : KS D g s) (hw : LWd D g ad1 ad2 s μ mm H locs) (hI : IW T μ mm) (hT0 : 0 ≤ T) (hT : T ≤ 600) (hl : lv_has ls 4 [(3, .int (xI (i : Int))), (0, .ref b), (1, .ref (ad1 0 0)), (2, .ref (ad2 0 0))]) (hL : L ≤ 2048) (hiL : i + 3 < L) (hcl : cells ≤ room_1.cells) (hsl : slots ≤ room_1.slots)
    (kk : ∀ (μ1 : List Ob) (m1 : Ob) (H1 : Heap) (locs1 : List Loc), LWd D g ad1 ad2 s μ1 m1 H1 locs1 → IW (T + 1) μ1 m1 → W p l e room_1 s m #[Value.ref b] below meth c H1 locs1 cells slots Q (F0 m 1179 ls [])) : W p l e room_1 s m #[Value.ref b] below meth c H locs cells slots Q (F0 m 1100 ls []) := by
  obtain ⟨hx, hb, hr, hml, hown, hts, hX, hbl, hlocks, hgv⟩ := id C
  have hS := hw.2.2.2.2.2.2.2.2
  have hbA : ¬ (fun q : Nat => s.heap.size ≤ q) b := Nat.not_le.mpr hbl
  have j1 := lw_in (L := L) (i := i) 1 (by omega) hL
  obtain ⟨h0, h1, h2, h3, h4, h5, h6, h7, h8, h9, h10, h11, h12, h13, h14, h15, h16, h17, h18, h19, h20, h21, h22, h23, h24, rfl, hIN⟩ := IW_cases hI
  refine lv_aload_n hx hb dL_law_1100 rfl (lv_at hl 2 rfl) ?_
  refine lv_aload_n hx hb dL_law_1101 rfl (lv_at hl 1 rfl) ?_
  refine lv_iload_n hx hb dL_law_1102 rfl (lv_at hl 0 rfl) ?_
  refine lv_iconst (v := xI 1) hx hb dL_law_1103 rfl ?_
  refine lv_iadd hx hb dL_law_1104 ?_
  refine va_sld hx hb hX hbl hbA hS j1 dL_law_1105 ?_
  obtain ⟨r, μ1, m1, q1, q2, q3⟩ := e_order T hT0 hT ((xs (xI (i : Int) + xI 1).toNatClampNeg).toInt) (xw_of _) h0 h1 h2 h3 h4 h5 h6 h7 h8 h9 h10 h11 h12 h13 h14 h15 h16 h17 h18 h19 h20 h21 h22 h23 h24 mm hIN
  refine lawA (as := [.inl ((xs (xI (i : Int) + xI 1).toNatClampNeg).toInt)]) C hKS hw hl.1 hcl hsl (ctr_X7_order xfu) ((eqf_X7_order xfu _ _ _ _ _ _ _ _ _ _ _ _ _ _ _ _ _ _ _ _ _ _ _ _ _ _).trans q1) (IW_len q3) (Nat.le_of_ble_eq_true rfl) (Nat.le_of_ble_eq_true rfl) yi_X7_order wl_776 rfl wd_777 wd_778 wd_73 wd_779 (by simp [cv, xI_of]) dL_law_1106 (fun H1 locs1 hw1 => ?_)
  have hS1 := hw1.2.2.2.2.2.2.2.2
  refine lv_aload_n hx hb dL_law_1109 rfl (lv_at hl 3 rfl) ?_
  refine lv_aload_n hx hb dL_law_1110 rfl (lv_at hl 1 rfl) ?_
  refine lv_iload_n hx hb dL_law_1111 rfl (lv_at hl 0 rfl) ?_
  refine lv_iconst (v := xI 1) hx hb dL_law_1112 rfl ?_
  refine lv_iadd hx hb dL_law_1113 ?_
  refine va_sld hx hb hX hbl hbA hS1 j1 dL_law_1114 ?_
  refine lawB (as := [.inl ((xs (xI (i : Int) + xI 1).toNatClampNeg).toInt)]) (v0 := .int (xI r)) C hKS hw1 hl.1 hcl hsl (ctr_X8_order xfu) ((eqf_X8_order xfu _ _).trans q2) (Nat.le_of_ble_eq_true rfl) (Nat.le_of_ble_eq_true rfl) yi_X8_order wl_1300 rfl wd_1301 wd_1302 wd_81 wd_1303 rfl (by simp [cv, xI_of]) dL_law_1115 (fun H2 locs2 hw2 => ?_)
  exact lv_icmp_eq (tgt := 1179) hx hb dL_law_1118 (by decide) (fun _ => kk _ _ _ _ hw2 q3) (fun hne => absurd rfl hne)
set_option maxHeartbeats 4000000 in
set_option maxRecDepth 100000 in
theorem lc_torn {p : Program} {l : Launch} {e : Env} {s : State} {m : MethodId} {below : List Frame} {meth : Method} {c : Code} {b L : Nat} {xs : Nat → Int32} {D : va_G} {g : xG3} {ad1 ad2 : Nat → Nat → Nat} {μ : List Ob} {mm : Ob} {H : Heap} {locs : List Loc} {cells slots : Nat} {Q : State → Prop} {ls : Array Slot} {T : Int} {i : Nat} (C : lw_At p s m meth c b L xs) (hKS : KS D g s) (hw : LWd D g ad1 ad2 s μ mm H locs) (hI : IW T μ mm) (hT0 : 0 ≤ T) (hT : T ≤ 600) (hl : lv_has ls 4 [(3, .int (xI (i : Int))), (0, .ref b), (1, .ref (ad1 0 0)), (2, .ref (ad2 0 0))]) (hL : L ≤ 2048) (hiL : i + 3 < L) (hcl : cells ≤ room_1.cells) (hsl : slots ≤ room_1.slots)
    (kk : ∀ (μ1 : List Ob) (m1 : Ob) (H1 : Heap) (locs1 : List Loc), LWd D g ad1 ad2 s μ1 m1 H1 locs1 → IW (T + 1) μ1 m1 → W p l e room_1 s m #[Value.ref b] below meth c H1 locs1 cells slots Q (F0 m 1179 ls [])) : W p l e room_1 s m #[Value.ref b] below meth c H locs cells slots Q (F0 m 1123 ls []) := by
  obtain ⟨hx, hb, hr, hml, hown, hts, hX, hbl, hlocks, hgv⟩ := id C
  have hS := hw.2.2.2.2.2.2.2.2
  have hbA : ¬ (fun q : Nat => s.heap.size ≤ q) b := Nat.not_le.mpr hbl
  have j1 := lw_in (L := L) (i := i) 1 (by omega) hL
  have j2 := lw_in (L := L) (i := i) 2 (by omega) hL
  obtain ⟨h0, h1, h2, h3, h4, h5, h6, h7, h8, h9, h10, h11, h12, h13, h14, h15, h16, h17, h18, h19, h20, h21, h22, h23, h24, rfl, hIN⟩ := IW_cases hI
  refine lv_aload_n hx hb dL_law_1123 rfl (lv_at hl 2 rfl) ?_
  refine lv_aload_n hx hb dL_law_1124 rfl (lv_at hl 1 rfl) ?_
  refine lv_iload_n hx hb dL_law_1125 rfl (lv_at hl 0 rfl) ?_
  refine lv_iconst (v := xI 1) hx hb dL_law_1126 rfl ?_
  refine lv_iadd hx hb dL_law_1127 ?_
  refine va_sld hx hb hX hbl hbA hS j1 dL_law_1128 ?_
  refine lv_aload_n hx hb dL_law_1129 rfl (lv_at hl 1 rfl) ?_
  refine lv_iload_n hx hb dL_law_1130 rfl (lv_at hl 0 rfl) ?_
  refine lv_iconst (v := xI 2) hx hb dL_law_1131 rfl ?_
  refine lv_iadd hx hb dL_law_1132 ?_
  refine va_sld hx hb hX hbl hbA hS j2 dL_law_1133 ?_
  obtain ⟨r, μ1, m1, q1, q2, q3⟩ := e_torn T hT0 hT ((xs (xI (i : Int) + xI 1).toNatClampNeg).toInt) (xw_of _) ((xs (xI (i : Int) + xI 2).toNatClampNeg).toInt) (xw_of _) h0 h1 h2 h3 h4 h5 h6 h7 h8 h9 h10 h11 h12 h13 h14 h15 h16 h17 h18 h19 h20 h21 h22 h23 h24 mm hIN
  refine lawA (as := [.inl ((xs (xI (i : Int) + xI 1).toNatClampNeg).toInt), .inl ((xs (xI (i : Int) + xI 2).toNatClampNeg).toInt)]) C hKS hw hl.1 hcl hsl (ctr_X7_torn xfu) ((eqf_X7_torn xfu _ _ _ _ _ _ _ _ _ _ _ _ _ _ _ _ _ _ _ _ _ _ _ _ _ _ _).trans q1) (IW_len q3) (Nat.le_of_ble_eq_true rfl) (Nat.le_of_ble_eq_true rfl) yi_X7_torn wl_782 rfl wd_783 wd_784 wd_73 wd_785 (by simp [cv, xI_of]) dL_law_1134 (fun H1 locs1 hw1 => ?_)
  have hS1 := hw1.2.2.2.2.2.2.2.2
  refine lv_aload_n hx hb dL_law_1137 rfl (lv_at hl 3 rfl) ?_
  refine lv_aload_n hx hb dL_law_1138 rfl (lv_at hl 1 rfl) ?_
  refine lv_iload_n hx hb dL_law_1139 rfl (lv_at hl 0 rfl) ?_
  refine lv_iconst (v := xI 1) hx hb dL_law_1140 rfl ?_
  refine lv_iadd hx hb dL_law_1141 ?_
  refine va_sld hx hb hX hbl hbA hS1 j1 dL_law_1142 ?_
  refine lv_aload_n hx hb dL_law_1143 rfl (lv_at hl 1 rfl) ?_
  refine lv_iload_n hx hb dL_law_1144 rfl (lv_at hl 0 rfl) ?_
  refine lv_iconst (v := xI 2) hx hb dL_law_1145 rfl ?_
  refine lv_iadd hx hb dL_law_1146 ?_
  refine va_sld hx hb hX hbl hbA hS1 j2 dL_law_1147 ?_
  refine lawB (as := [.inl ((xs (xI (i : Int) + xI 1).toNatClampNeg).toInt), .inl ((xs (xI (i : Int) + xI 2).toNatClampNeg).toInt)]) (v0 := .int (xI r)) C hKS hw1 hl.1 hcl hsl (ctr_X8_torn xfu) ((eqf_X8_torn xfu _ _ _).trans q2) (Nat.le_of_ble_eq_true rfl) (Nat.le_of_ble_eq_true rfl) yi_X8_torn wl_1304 rfl wd_1305 wd_1306 wd_81 wd_1307 rfl (by simp [cv, xI_of]) dL_law_1148 (fun H2 locs2 hw2 => ?_)
  exact lv_icmp_eq (tgt := 1179) hx hb dL_law_1151 (by decide) (fun _ => kk _ _ _ _ hw2 q3) (fun hne => absurd rfl hne)
set_option maxHeartbeats 4000000 in
set_option maxRecDepth 100000 in
theorem lc_count {p : Program} {l : Launch} {e : Env} {s : State} {m : MethodId} {below : List Frame} {meth : Method} {c : Code} {b L : Nat} {xs : Nat → Int32} {D : va_G} {g : xG3} {ad1 ad2 : Nat → Nat → Nat} {μ : List Ob} {mm : Ob} {H : Heap} {locs : List Loc} {cells slots : Nat} {Q : State → Prop} {ls : Array Slot} {T : Int} {i : Nat} (C : lw_At p s m meth c b L xs) (hKS : KS D g s) (hw : LWd D g ad1 ad2 s μ mm H locs) (hI : IW T μ mm) (hT0 : 0 ≤ T) (hT : T ≤ 600) (hl : lv_has ls 4 [(3, .int (xI (i : Int))), (0, .ref b), (1, .ref (ad1 0 0)), (2, .ref (ad2 0 0))]) (hL : L ≤ 2048) (hiL : i + 3 < L) (hcl : cells ≤ room_1.cells) (hsl : slots ≤ room_1.slots)
    (kk : ∀ (μ1 : List Ob) (m1 : Ob) (H1 : Heap) (locs1 : List Loc), LWd D g ad1 ad2 s μ1 m1 H1 locs1 → IW (T + 1) μ1 m1 → W p l e room_1 s m #[Value.ref b] below meth c H1 locs1 cells slots Q (F0 m 1179 ls [])) : W p l e room_1 s m #[Value.ref b] below meth c H locs cells slots Q (F0 m 1156 ls []) := by
  obtain ⟨hx, hb, hr, hml, hown, hts, hX, hbl, hlocks, hgv⟩ := id C
  have hS := hw.2.2.2.2.2.2.2.2
  have hbA : ¬ (fun q : Nat => s.heap.size ≤ q) b := Nat.not_le.mpr hbl
  have j1 := lw_in (L := L) (i := i) 1 (by omega) hL
  obtain ⟨h0, h1, h2, h3, h4, h5, h6, h7, h8, h9, h10, h11, h12, h13, h14, h15, h16, h17, h18, h19, h20, h21, h22, h23, h24, rfl, hIN⟩ := IW_cases hI
  refine lv_aload_n hx hb dL_law_1156 rfl (lv_at hl 2 rfl) ?_
  refine lv_aload_n hx hb dL_law_1157 rfl (lv_at hl 1 rfl) ?_
  refine lv_iload_n hx hb dL_law_1158 rfl (lv_at hl 0 rfl) ?_
  refine lv_iconst (v := xI 1) hx hb dL_law_1159 rfl ?_
  refine lv_iadd hx hb dL_law_1160 ?_
  refine va_sld hx hb hX hbl hbA hS j1 dL_law_1161 ?_
  obtain ⟨r, μ1, m1, q1, q2, q3⟩ := e_count T hT0 hT ((xs (xI (i : Int) + xI 1).toNatClampNeg).toInt) (xw_of _) h0 h1 h2 h3 h4 h5 h6 h7 h8 h9 h10 h11 h12 h13 h14 h15 h16 h17 h18 h19 h20 h21 h22 h23 h24 mm hIN
  refine lawA (as := [.inl ((xs (xI (i : Int) + xI 1).toNatClampNeg).toInt)]) C hKS hw hl.1 hcl hsl (ctr_X7_count) ((eqf_X7_count  _ _ _ _ _ _ _ _ _ _ _ _ _ _ _ _ _ _ _ _ _ _ _ _ _ _).trans q1) (IW_len q3) (Nat.le_of_ble_eq_true rfl) (Nat.le_of_ble_eq_true rfl) yi_X7_count wl_795 rfl wd_796 wd_797 wd_73 wd_798 (by simp [cv, xI_of]) dL_law_1162 (fun H1 locs1 hw1 => ?_)
  have hS1 := hw1.2.2.2.2.2.2.2.2
  refine lv_aload_n hx hb dL_law_1165 rfl (lv_at hl 3 rfl) ?_
  refine lv_aload_n hx hb dL_law_1166 rfl (lv_at hl 1 rfl) ?_
  refine lv_iload_n hx hb dL_law_1167 rfl (lv_at hl 0 rfl) ?_
  refine lv_iconst (v := xI 1) hx hb dL_law_1168 rfl ?_
  refine lv_iadd hx hb dL_law_1169 ?_
  refine va_sld hx hb hX hbl hbA hS1 j1 dL_law_1170 ?_
  refine lawB (as := [.inl ((xs (xI (i : Int) + xI 1).toNatClampNeg).toInt)]) (v0 := .int (xI r)) C hKS hw1 hl.1 hcl hsl (ctr_X8_count) ((eqf_X8_count  _ _).trans q2) (Nat.le_of_ble_eq_true rfl) (Nat.le_of_ble_eq_true rfl) yi_X8_count wl_1312 rfl wd_1313 wd_1314 wd_81 wd_1315 rfl (by simp [cv, xI_of]) dL_law_1171 (fun H2 locs2 hw2 => ?_)
  exact lv_icmp_eq (tgt := 1179) hx hb dL_law_1174 (by decide) (fun _ => kk _ _ _ _ hw2 q3) (fun hne => absurd rfl hne)
