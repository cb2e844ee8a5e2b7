set_option maxHeartbeats 4000000 in
set_option maxRecDepth 100000 in
theorem lc_start {p : Program} {l : Launch} {e : Env} {s : State} {m : MethodId} {below : List Frame} {meth : Method} {c : Code} {b L : Nat} {xs : Nat → Int32} {D : va_G} {g : xG3} {ad1 ad2 : Nat → Nat → Nat} {μ : List Ob} {mm : Ob} {H : Heap} {locs : List Loc} {cells slots : Nat} {Q : State → Prop} {ls : Array Slot} {T : Int} {i : Nat} (C : lw_At p s m meth c b L xs) (hKS : KS D g s) (hw : LWd D g ad1 ad2 s μ mm H locs) (hI : IW T μ mm) (hT0 : 0 ≤ T) (hT : T ≤ 600) (hl : lv_has ls 4 [(3, .int (xI (i : Int))), (0, .ref b), (1, .ref (ad1 0 0)), (2, .ref (ad2 0 0))]) (hL : L ≤ 2048) (hiL : i + 3 < L) (hcl : cells ≤ room_1.cells) (hsl : slots ≤ room_1.slots)
    (kk : ∀ (μ1 : List Ob) (m1 : Ob) (H1 : Heap) (locs1 : List Loc), LWd D g ad1 ad2 s μ1 m1 H1 locs1 → IW (T + 1) μ1 m1 → W p l e room_1 s m #[Value.ref b] below meth c H1 locs1 cells slots Q (F0 m 1179 ls [])) : W p l e room_1 s m #[Value.ref b] below meth c H locs cells slots Q (F0 m 188 ls []) := by
  obtain ⟨hx, hb, hr, hml, hown, hts, hX, hbl, hlocks, hgv⟩ := id C
  have hS := hw.2.2.2.2.2.2.2.2
  have hbA : ¬ (fun q : Nat => s.heap.size ≤ q) b := Nat.not_le.mpr hbl
  have j1 := lw_in (L := L) (i := i) 1 (by omega) hL
  have j2 := lw_in (L := L) (i := i) 2 (by omega) hL
  obtain ⟨h0, h1, h2, h3, h4, h5, h6, h7, h8, h9, h10, h11, h12, h13, h14, h15, h16, h17, h18, h19, h20, h21, h22, h23, h24, rfl, hIN⟩ := IW_cases hI
  refine lv_aload_n hx hb dL_law_188 rfl (lv_at hl 2 rfl) ?_
  refine lv_aload_n hx hb dL_law_189 rfl (lv_at hl 1 rfl) ?_
  refine lv_iload_n hx hb dL_law_190 rfl (lv_at hl 0 rfl) ?_
  refine lv_iconst (v := xI 1) hx hb dL_law_191 rfl ?_
  refine lv_iadd hx hb dL_law_192 ?_
  refine va_sld hx hb hX hbl hbA hS j1 dL_law_193 ?_
  refine lv_aload_n hx hb dL_law_194 rfl (lv_at hl 1 rfl) ?_
  refine lv_iload_n hx hb dL_law_195 rfl (lv_at hl 0 rfl) ?_
  refine lv_iconst (v := xI 2) hx hb dL_law_196 rfl ?_
  refine lv_iadd hx hb dL_law_197 ?_
  refine va_sld hx hb hX hbl hbA hS j2 dL_law_198 ?_
  obtain ⟨r, μ1, m1, q1, q2, q3⟩ := e_start T hT0 hT ((xs (xI (i : Int) + xI 1).toNatClampNeg).toInt) (xw_of _) ((xs (xI (i : Int) + xI 2).toNatClampNeg).toInt) (xw_of _) h0 h1 h2 h3 h4 h5 h6 h7 h8 h9 h10 h11 h12 h13 h14 h15 h16 h17 h18 h19 h20 h21 h22 h23 h24 mm hIN
  refine lawA (as := [.inl ((xs (xI (i : Int) + xI 1).toNatClampNeg).toInt), .inl ((xs (xI (i : Int) + xI 2).toNatClampNeg).toInt)]) C hKS hw hl.1 hcl hsl (ctr_X7_start) ((eqf_X7_start  _ _ _ _ _ _ _ _ _ _ _ _ _ _ _ _ _ _ _ _ _ _ _ _ _ _ _).trans q1) (IW_len q3) (Nat.le_of_ble_eq_true rfl) (Nat.le_of_ble_eq_true rfl) yi_X7_start wl_334 rfl wd_335 wd_336 wd_73 wd_337 (by simp [cv, xI_of]) dL_law_199 (fun H1 locs1 hw1 => ?_)
  have hS1 := hw1.2.2.2.2.2.2.2.2
  refine lv_aload_n hx hb dL_law_202 rfl (lv_at hl 3 rfl) ?_
  refine lv_aload_n hx hb dL_law_203 rfl (lv_at hl 1 rfl) ?_
  refine lv_iload_n hx hb dL_law_204 rfl (lv_at hl 0 rfl) ?_
  refine lv_iconst (v := xI 1) hx hb dL_law_205 rfl ?_
  refine lv_iadd hx hb dL_law_206 ?_
  refine va_sld hx hb hX hbl hbA hS1 j1 dL_law_207 ?_
  refine lv_aload_n hx hb dL_law_208 rfl (lv_at hl 1 rfl) ?_
  refine lv_iload_n hx hb dL_law_209 rfl (lv_at hl 0 rfl) ?_
  refine lv_iconst (v := xI 2) hx hb dL_law_210 rfl ?_
  refine lv_iadd hx hb dL_law_211 ?_
  refine va_sld hx hb hX hbl hbA hS1 j2 dL_law_212 ?_
  refine lawB (as := [.inl ((xs (xI (i : Int) + xI 1).toNatClampNeg).toInt), .inl ((xs (xI (i : Int) + xI 2).toNatClampNeg).toInt)]) (v0 := .int (xI r)) C hKS hw1 hl.1 hcl hsl (ctr_X8_start) ((eqf_X8_start  _ _ _).trans q2) (Nat.le_of_ble_eq_true rfl) (Nat.le_of_ble_eq_true rfl) yi_X8_start wl_948 rfl wd_949 wd_950 wd_81 wd_951 rfl (by simp [cv, xI_of]) dL_law_213 (fun H2 locs2 hw2 => ?_)
  exact lv_icmp_eq (tgt := 1179) hx hb dL_law_216 (by decide) (fun _ => kk _ _ _ _ hw2 q3) (fun hne => absurd rfl hne)
set_option maxHeartbeats 4000000 in
set_option maxRecDepth 100000 in
theorem lc_make {p : Program} {l : Launch} {e : Env} {s : State} {m : MethodId} {below : List Frame} {meth : Method} {c : Code} {b L : Nat} {xs : Nat → Int32} {D : va_G} {g : xG3} {ad1 ad2 : Nat → Nat → Nat} {μ : List Ob} {mm : Ob} {H : Heap} {locs : List Loc} {cells slots : Nat} {Q : State → Prop} {ls : Array Slot} {T : Int} {i : Nat} (C : lw_At p s m meth c b L xs) (hKS : KS D g s) (hw : LWd D g ad1 ad2 s μ mm H locs) (hI : IW T μ mm) (hT0 : 0 ≤ T) (hT : T ≤ 600) (hl : lv_has ls 4 [(3, .int (xI (i : Int))), (0, .ref b), (1, .ref (ad1 0 0)), (2, .ref (ad2 0 0))]) (hL : L ≤ 2048) (hiL : i + 3 < L) (hcl : cells ≤ room_1.cells) (hsl : slots ≤ room_1.slots)
    (kk : ∀ (μ1 : List Ob) (m1 : Ob) (H1 : Heap) (locs1 : List Loc), LWd D g ad1 ad2 s μ1 m1 H1 locs1 → IW (T + 1) μ1 m1 → W p l e room_1 s m #[Value.ref b] below meth c H1 locs1 cells slots Q (F0 m 1179 ls [])) : W p l e room_1 s m #[Value.ref b] below meth c H locs cells slots Q (F0 m 221 ls []) := by
  obtain ⟨hx, hb, hr, hml, hown, hts, hX, hbl, hlocks, hgv⟩ := id C
  have hS := hw.2.2.2.2.2.2.2.2
  have hbA : ¬ (fun q : Nat => s.heap.size ≤ q) b := Nat.not_le.mpr hbl
  have j1 := lw_in (L := L) (i := i) 1 (by omega) hL
  have j2 := lw_in (L := L) (i := i) 2 (by omega) hL
  obtain ⟨h0, h1, h2, h3, h4, h5, h6, h7, h8, h9, h10, h11, h12, h13, h14, h15, h16, h17, h18, h19, h20, h21, h22, h23, h24, rfl, hIN⟩ := IW_cases hI
  refine lv_aload_n hx hb dL_law_221 rfl (lv_at hl 2 rfl) ?_
  refine lv_aload_n hx hb dL_law_222 rfl (lv_at hl 1 rfl) ?_
  refine lv_iload_n hx hb dL_law_223 rfl (lv_at hl 0 rfl) ?_
  refine lv_iconst (v := xI 1) hx hb dL_law_224 rfl ?_
  refine lv_iadd hx hb dL_law_225 ?_
  refine va_sld hx hb hX hbl hbA hS j1 dL_law_226 ?_
  refine lv_aload_n hx hb dL_law_227 rfl (lv_at hl 1 rfl) ?_
  refine lv_iload_n hx hb dL_law_228 rfl (lv_at hl 0 rfl) ?_
  refine lv_iconst (v := xI 2) hx hb dL_law_229 rfl ?_
  refine lv_iadd hx hb dL_law_230 ?_
  refine va_sld hx hb hX hbl hbA hS j2 dL_law_231 ?_
  obtain ⟨r, μ1, m1, q1, q2, q3⟩ := e_make T hT0 hT ((xs (xI (i : Int) + xI 1).toNatClampNeg).toInt) (xw_of _) ((xs (xI (i : Int) + xI 2).toNatClampNeg).toInt) (xw_of _) h0 h1 h2 h3 h4 h5 h6 h7 h8 h9 h10 h11 h12 h13 h14 h15 h16 h17 h18 h19 h20 h21 h22 h23 h24 mm hIN
  refine lawA (as := [.inl ((xs (xI (i : Int) + xI 1).toNatClampNeg).toInt), .inl ((xs (xI (i : Int) + xI 2).toNatClampNeg).toInt)]) C hKS hw hl.1 hcl hsl (ctr_X7_make) ((eqf_X7_make  _ _ _ _ _ _ _ _ _ _ _ _ _ _ _ _ _ _ _ _ _ _ _ _ _ _ _).trans q1) (IW_len q3) (Nat.le_of_ble_eq_true rfl) (Nat.le_of_ble_eq_true rfl) yi_X7_make wl_342 rfl wd_343 wd_344 wd_73 wd_345 (by simp [cv, xI_of]) dL_law_232 (fun H1 locs1 hw1 => ?_)
  have hS1 := hw1.2.2.2.2.2.2.2.2
  refine lv_aload_n hx hb dL_law_235 rfl (lv_at hl 3 rfl) ?_
  refine lv_aload_n hx hb dL_law_236 rfl (lv_at hl 1 rfl) ?_
  refine lv_iload_n hx hb dL_law_237 rfl (lv_at hl 0 rfl) ?_
  refine lv_iconst (v := xI 1) hx hb dL_law_238 rfl ?_
  refine lv_iadd hx hb dL_law_239 ?_
  refine va_sld hx hb hX hbl hbA hS1 j1 dL_law_240 ?_
  refine lv_aload_n hx hb dL_law_241 rfl (lv_at hl 1 rfl) ?_
  refine lv_iload_n hx hb dL_law_242 rfl (lv_at hl 0 rfl) ?_
  refine lv_iconst (v := xI 2) hx hb dL_law_243 rfl ?_
  refine lv_iadd hx hb dL_law_244 ?_
  refine va_sld hx hb hX hbl hbA hS1 j2 dL_law_245 ?_
  refine lawB (as := [.inl ((xs (xI (i : Int) + xI 1).toNatClampNeg).toInt), .inl ((xs (xI (i : Int) + xI 2).toNatClampNeg).toInt)]) (v0 := .int (xI r)) C hKS hw1 hl.1 hcl hsl (ctr_X8_make xfu) ((eqf_X8_make xfu _ _ _).trans q2) (Nat.le_of_ble_eq_true rfl) (Nat.le_of_ble_eq_true rfl) yi_X8_make wl_961 rfl wd_962 wd_963 wd_81 wd_964 rfl (by simp [cv, xI_of]) dL_law_246 (fun H2 locs2 hw2 => ?_)
  exact lv_icmp_eq (tgt := 1179) hx hb dL_law_249 (by decide) (fun _ => kk _ _ _ _ hw2 q3) (fun hne => absurd rfl hne)
set_option maxHeartbeats 4000000 in
set_option maxRecDepth 100000 in
theorem lc_put {p : Program} {l : Launch} {e : Env} {s : State} {m : MethodId} {below : List Frame} {meth : Method} {c : Code} {b L : Nat} {xs : Nat → Int32} {D : va_G} {g : xG3} {ad1 ad2 : Nat → Nat → Nat} {μ : List Ob} {mm : Ob} {H : Heap} {locs : List Loc} {cells slots : Nat} {Q : State → Prop} {ls : Array Slot} {T : Int} {i : Nat} (C : lw_At p s m meth c b L xs) (hKS : KS D g s) (hw : LWd D g ad1 ad2 s μ mm H locs) (hI : IW T μ mm) (hT0 : 0 ≤ T) (hT : T ≤ 600) (hl : lv_has ls 4 [(3, .int (xI (i : Int))), (0, .ref b), (1, .ref (ad1 0 0)), (2, .ref (ad2 0 0))]) (hL : L ≤ 2048) (hiL : i + 3 < L) (hcl : cells ≤ room_1.cells) (hsl : slots ≤ room_1.slots)
    (kk : ∀ (μ1 : List Ob) (m1 : Ob) (H1 : Heap) (locs1 : List Loc), LWd D g ad1 ad2 s μ1 m1 H1 locs1 → IW (T + 1) μ1 m1 → W p l e room_1 s m #[Value.ref b] below meth c H1 locs1 cells slots Q (F0 m 1179 ls [])) : W p l e room_1 s m #[Value.ref b] below meth c H locs cells slots Q (F0 m 254 ls []) := by
  obtain ⟨hx, hb, hr, hml, hown, hts, hX, hbl, hlocks, hgv⟩ := id C
  have hS := hw.2.2.2.2.2.2.2.2
  have hbA : ¬ (fun q : Nat => s.heap.size ≤ q) b := Nat.not_le.mpr hbl
  have j1 := lw_in (L := L) (i := i) 1 (by omega) hL
  have j2 := lw_in (L := L) (i := i) 2 (by omega) hL
  have j3 := lw_in (L := L) (i := i) 3 (by omega) hL
  obtain ⟨h0, h1, h2, h3, h4, h5, h6, h7, h8, h9, h10, h11, h12, h13, h14, h15, h16, h17, h18, h19, h20, h21, h22, h23, h24, rfl, hIN⟩ := IW_cases hI
  refine lv_aload_n hx hb dL_law_254 rfl (lv_at hl 2 rfl) ?_
  refine lv_aload_n hx hb dL_law_255 rfl (lv_at hl 1 rfl) ?_
  refine lv_iload_n hx hb dL_law_256 rfl (lv_at hl 0 rfl) ?_
  refine lv_iconst (v := xI 1) hx hb dL_law_257 rfl ?_
  refine lv_iadd hx hb dL_law_258 ?_
  refine va_sld hx hb hX hbl hbA hS j1 dL_law_259 ?_
  refine lv_aload_n hx hb dL_law_260 rfl (lv_at hl 1 rfl) ?_
  refine lv_iload_n hx hb dL_law_261 rfl (lv_at hl 0 rfl) ?_
  refine lv_iconst (v := xI 2) hx hb dL_law_262 rfl ?_
  refine lv_iadd hx hb dL_law_263 ?_
  refine va_sld hx hb hX hbl hbA hS j2 dL_law_264 ?_
  refine lv_aload_n hx hb dL_law_265 rfl (lv_at hl 1 rfl) ?_
  refine lv_iload_n hx hb dL_law_266 rfl (lv_at hl 0 rfl) ?_
  refine lv_iconst (v := xI 3) hx hb dL_law_267 rfl ?_
  refine lv_iadd hx hb dL_law_268 ?_
  refine va_sld hx hb hX hbl hbA hS j3 dL_law_269 ?_
  obtain ⟨r, μ1, m1, q1, q2, q3⟩ := e_put T hT0 hT ((xs (xI (i : Int) + xI 1).toNatClampNeg).toInt) (xw_of _) ((xs (xI (i : Int) + xI 2).toNatClampNeg).toInt) (xw_of _) ((xs (xI (i : Int) + xI 3).toNatClampNeg).toInt) (xw_of _) h0 h1 h2 h3 h4 h5 h6 h7 h8 h9 h10 h11 h12 h13 h14 h15 h16 h17 h18 h19 h20 h21 h22 h23 h24 mm hIN
  refine lawA (as := [.inl ((xs (xI (i : Int) + xI 1).toNatClampNeg).toInt), .inl ((xs (xI (i : Int) + xI 2).toNatClampNeg).toInt), .inl ((xs (xI (i : Int) + xI 3).toNatClampNeg).toInt)]) C hKS hw hl.1 hcl hsl (ctr_X7_put) ((eqf_X7_put  _ _ _ _ _ _ _ _ _ _ _ _ _ _ _ _ _ _ _ _ _ _ _ _ _ _ _ _).trans q1) (IW_len q3) (Nat.le_of_ble_eq_true rfl) (Nat.le_of_ble_eq_true rfl) yi_X7_put wl_551 rfl wd_552 wd_553 wd_73 wd_554 (by simp [cv, xI_of]) dL_law_270 (fun H1 locs1 hw1 => ?_)
  have hS1 := hw1.2.2.2.2.2.2.2.2
  refine lv_aload_n hx hb dL_law_273 rfl (lv_at hl 3 rfl) ?_
  refine lv_aload_n hx hb dL_law_274 rfl (lv_at hl 1 rfl) ?_
  refine lv_iload_n hx hb dL_law_275 rfl (lv_at hl 0 rfl) ?_
  refine lv_iconst (v := xI 1) hx hb dL_law_276 rfl ?_
  refine lv_iadd hx hb dL_law_277 ?_
  refine va_sld hx hb hX hbl hbA hS1 j1 dL_law_278 ?_
  refine lv_aload_n hx hb dL_law_279 rfl (lv_at hl 1 rfl) ?_
  refine lv_iload_n hx hb dL_law_280 rfl (lv_at hl 0 rfl) ?_
  refine lv_iconst (v := xI 2) hx hb dL_law_281 rfl ?_
  refine lv_iadd hx hb dL_law_282 ?_
  refine va_sld hx hb hX hbl hbA hS1 j2 dL_law_283 ?_
  refine lv_aload_n hx hb dL_law_284 rfl (lv_at hl 1 rfl) ?_
  refine lv_iload_n hx hb dL_law_285 rfl (lv_at hl 0 rfl) ?_
  refine lv_iconst (v := xI 3) hx hb dL_law_286 rfl ?_
  refine lv_iadd hx hb dL_law_287 ?_
  refine va_sld hx hb hX hbl hbA hS1 j3 dL_law_288 ?_
  refine lawB (as := [.inl ((xs (xI (i : Int) + xI 1).toNatClampNeg).toInt), .inl ((xs (xI (i : Int) + xI 2).toNatClampNeg).toInt), .inl ((xs (xI (i : Int) + xI 3).toNatClampNeg).toInt)]) (v0 := .int (xI r)) C hKS hw1 hl.1 hcl hsl (ctr_X8_put) ((eqf_X8_put  _ _ _ _).trans q2) (Nat.le_of_ble_eq_true rfl) (Nat.le_of_ble_eq_true rfl) yi_X8_put wl_1121 rfl wd_1122 wd_1123 wd_81 wd_1124 rfl (by simp [cv, xI_of]) dL_law_289 (fun H2 locs2 hw2 => ?_)
  exact lv_icmp_eq (tgt := 1179) hx hb dL_law_292 (by decide) (fun _ => kk _ _ _ _ hw2 q3) (fun hne => absurd rfl hne)
set_option maxHeartbeats 4000000 in
set_option maxRecDepth 100000 in
theorem lc_set {p : Program} {l : Launch} {e : Env} {s : State} {m : MethodId} {below : List Frame} {meth : Method} {c : Code} {b L : Nat} {xs : Nat → Int32} {D : va_G} {g : xG3} {ad1 ad2 : Nat → Nat → Nat} {μ : List Ob} {mm : Ob} {H : Heap} {locs : List Loc} {cells slots : Nat} {Q : State → Prop} {ls : Array Slot} {T : Int} {i : Nat} (C : lw_At p s m meth c b L xs) (hKS : KS D g s) (hw : LWd D g ad1 ad2 s μ mm H locs) (hI : IW T μ mm) (hT0 : 0 ≤ T) (hT : T ≤ 600) (hl : lv_has ls 4 [(3, .int (xI (i : Int))), (0, .ref b), (1, .ref (ad1 0 0)), (2, .ref (ad2 0 0))]) (hL : L ≤ 2048) (hiL : i + 3 < L) (hcl : cells ≤ room_1.cells) (hsl : slots ≤ room_1.slots)
    (kk : ∀ (μ1 : List Ob) (m1 : Ob) (H1 : Heap) (locs1 : List Loc), LWd D g ad1 ad2 s μ1 m1 H1 locs1 → IW (T + 1) μ1 m1 → W p l e room_1 s m #[Value.ref b] below meth c H1 locs1 cells slots Q (F0 m 1179 ls [])) : W p l e room_1 s m #[Value.ref b] below meth c H locs cells slots Q (F0 m 297 ls []) := by
  obtain ⟨hx, hb, hr, hml, hown, hts, hX, hbl, hlocks, hgv⟩ := id C
  have hS := hw.2.2.2.2.2.2.2.2
  have hbA : ¬ (fun q : Nat => s.heap.size ≤ q) b := Nat.not_le.mpr hbl
  have j1 := lw_in (L := L) (i := i) 1 (by omega) hL
  have j2 := lw_in (L := L) (i := i) 2 (by omega) hL
  have j3 := lw_in (L := L) (i := i) 3 (by omega) hL
  obtain ⟨h0, h1, h2, h3, h4, h5, h6, h7, h8, h9, h10, h11, h12, h13, h14, h15, h16, h17, h18, h19, h20, h21, h22, h23, h24, rfl, hIN⟩ := IW_cases hI
  refine lv_aload_n hx hb dL_law_297 rfl (lv_at hl 2 rfl) ?_
  refine lv_aload_n hx hb dL_law_298 rfl (lv_at hl 1 rfl) ?_
  refine lv_iload_n hx hb dL_law_299 rfl (lv_at hl 0 rfl) ?_
  refine lv_iconst (v := xI 1) hx hb dL_law_300 rfl ?_
  refine lv_iadd hx hb dL_law_301 ?_
  refine va_sld hx hb hX hbl hbA hS j1 dL_law_302 ?_
  refine lv_aload_n hx hb dL_law_303 rfl (lv_at hl 1 rfl) ?_
  refine lv_iload_n hx hb dL_law_304 rfl (lv_at hl 0 rfl) ?_
  refine lv_iconst (v := xI 2) hx hb dL_law_305 rfl ?_
  refine lv_iadd hx hb dL_law_306 ?_
  refine va_sld hx hb hX hbl hbA hS j2 dL_law_307 ?_
  refine lv_aload_n hx hb dL_law_308 rfl (lv_at hl 1 rfl) ?_
  refine lv_iload_n hx hb dL_law_309 rfl (lv_at hl 0 rfl) ?_
  refine lv_iconst (v := xI 3) hx hb dL_law_310 rfl ?_
  refine lv_iadd hx hb dL_law_311 ?_
  refine va_sld hx hb hX hbl hbA hS j3 dL_law_312 ?_
  obtain ⟨r, μ1, m1, q1, q2, q3⟩ := e_set T hT0 hT ((xs (xI (i : Int) + xI 1).toNatClampNeg).toInt) (xw_of _) ((xs (xI (i : Int) + xI 2).toNatClampNeg).toInt) (xw_of _) ((xs (xI (i : Int) + xI 3).toNatClampNeg).toInt) (xw_of _) h0 h1 h2 h3 h4 h5 h6 h7 h8 h9 h10 h11 h12 h13 h14 h15 h16 h17 h18 h19 h20 h21 h22 h23 h24 mm hIN
  refine lawA (as := [.inl ((xs (xI (i : Int) + xI 1).toNatClampNeg).toInt), .inl ((xs (xI (i : Int) + xI 2).toNatClampNeg).toInt), .inl ((xs (xI (i : Int) + xI 3).toNatClampNeg).toInt)]) C hKS hw hl.1 hcl hsl (ctr_X7_set) ((eqf_X7_set  _ _ _ _ _ _ _ _ _ _ _ _ _ _ _ _ _ _ _ _ _ _ _ _ _ _ _ _).trans q1) (IW_len q3) (Nat.le_of_ble_eq_true rfl) (Nat.le_of_ble_eq_true rfl) yi_X7_set wl_576 rfl wd_577 wd_578 wd_73 wd_579 (by simp [cv, xI_of]) dL_law_313 (fun H1 locs1 hw1 => ?_)
  have hS1 := hw1.2.2.2.2.2.2.2.2
  refine lv_aload_n hx hb dL_law_316 rfl (lv_at hl 3 rfl) ?_
  refine lv_aload_n hx hb dL_law_317 rfl (lv_at hl 1 rfl) ?_
  refine lv_iload_n hx hb dL_law_318 rfl (lv_at hl 0 rfl) ?_
  refine lv_iconst (v := xI 1) hx hb dL_law_319 rfl ?_
  refine lv_iadd hx hb dL_law_320 ?_
  refine va_sld hx hb hX hbl hbA hS1 j1 dL_law_321 ?_
  refine lv_aload_n hx hb dL_law_322 rfl (lv_at hl 1 rfl) ?_
  refine lv_iload_n hx hb dL_law_323 rfl (lv_at hl 0 rfl) ?_
  refine lv_iconst (v := xI 2) hx hb dL_law_324 rfl ?_
  refine lv_iadd hx hb dL_law_325 ?_
  refine va_sld hx hb hX hbl hbA hS1 j2 dL_law_326 ?_
  refine lv_aload_n hx hb dL_law_327 rfl (lv_at hl 1 rfl) ?_
  refine lv_iload_n hx hb dL_law_328 rfl (lv_at hl 0 rfl) ?_
  refine lv_iconst (v := xI 3) hx hb dL_law_329 rfl ?_
  refine lv_iadd hx hb dL_law_330 ?_
  refine va_sld hx hb hX hbl hbA hS1 j3 dL_law_331 ?_
  refine lawB (as := [.inl ((xs (xI (i : Int) + xI 1).toNatClampNeg).toInt), .inl ((xs (xI (i : Int) + xI 2).toNatClampNeg).toInt), .inl ((xs (xI (i : Int) + xI 3).toNatClampNeg).toInt)]) (v0 := .int (xI r)) C hKS hw1 hl.1 hcl hsl (ctr_X8_set) ((eqf_X8_set  _ _ _ _).trans q2) (Nat.le_of_ble_eq_true rfl) (Nat.le_of_ble_eq_true rfl) yi_X8_set wl_1125 rfl wd_1126 wd_1127 wd_81 wd_1128 rfl (by simp [cv, xI_of]) dL_law_332 (fun H2 locs2 hw2 => ?_)
  exact lv_icmp_eq (tgt := 1179) hx hb dL_law_335 (by decide) (fun _ => kk _ _ _ _ hw2 q3) (fun hne => absurd rfl hne)
set_option maxHeartbeats 4000000 in
set_option maxRecDepth 100000 in
theorem lc_touch {p : Program} {l : Launch} {e : Env} {s : State} {m : MethodId} {below : List Frame} {meth : Method} {c : Code} {b L : Nat} {xs : Nat → Int32} {D : va_G} {g : xG3} {ad1 ad2 : Nat → Nat → Nat} {μ : List Ob} {mm : Ob} {H : Heap} {locs : List Loc} {cells slots : Nat} {Q : State → Prop} {ls : Array Slot} {T : Int} {i : Nat} (C : lw_At p s m meth c b L xs) (hKS : KS D g s) (hw : LWd D g ad1 ad2 s μ mm H locs) (hI : IW T μ mm) (hT0 : 0 ≤ T) (hT : T ≤ 600) (hl : lv_has ls 4 [(3, .int (xI (i : Int))), (0, .ref b), (1, .ref (ad1 0 0)), (2, .ref (ad2 0 0))]) (hL : L ≤ 2048) (hiL : i + 3 < L) (hcl : cells ≤ room_1.cells) (hsl : slots ≤ room_1.slots)
    (kk : ∀ (μ1 : List Ob) (m1 : Ob) (H1 : Heap) (locs1 : List Loc), LWd D g ad1 ad2 s μ1 m1 H1 locs1 → IW (T + 1) μ1 m1 → W p l e room_1 s m #[Value.ref b] below meth c H1 locs1 cells slots Q (F0 m 1179 ls [])) : W p l e room_1 s m #[Value.ref b] below meth c H locs cells slots Q (F0 m 340 ls []) := by
  obtain ⟨hx, hb, hr, hml, hown, hts, hX, hbl, hlocks, hgv⟩ := id C
  have hS := hw.2.2.2.2.2.2.2.2
  have hbA : ¬ (fun q : Nat => s.heap.size ≤ q) b := Nat.not_le.mpr hbl
  have j1 := lw_in (L := L) (i := i) 1 (by omega) hL
  obtain ⟨h0, h1, h2, h3, h4, h5, h6, h7, h8, h9, h10, h11, h12, h13, h14, h15, h16, h17, h18, h19, h20, h21, h22, h23, h24, rfl, hIN⟩ := IW_cases hI
  refine lv_aload_n hx hb dL_law_340 rfl (lv_at hl 2 rfl) ?_
  refine lv_aload_n hx hb dL_law_341 rfl (lv_at hl 1 rfl) ?_
  refine lv_iload_n hx hb dL_law_342 rfl (lv_at hl 0 rfl) ?_
  refine lv_iconst (v := xI 1) hx hb dL_law_343 rfl ?_
  refine lv_iadd hx hb dL_law_344 ?_
  refine va_sld hx hb hX hbl hbA hS j1 dL_law_345 ?_
  obtain ⟨r, μ1, m1, q1, q2, q3⟩ := e_touch T hT0 hT ((xs (xI (i : Int) + xI 1).toNatClampNeg).toInt) (xw_of _) h0 h1 h2 h3 h4 h5 h6 h7 h8 h9 h10 h11 h12 h13 h14 h15 h16 h17 h18 h19 h20 h21 h22 h23 h24 mm hIN
  refine lawA (as := [.inl ((xs (xI (i : Int) + xI 1).toNatClampNeg).toInt)]) C hKS hw hl.1 hcl hsl (ctr_X7_touch) ((eqf_X7_touch  _ _ _ _ _ _ _ _ _ _ _ _ _ _ _ _ _ _ _ _ _ _ _ _ _ _).trans q1) (IW_len q3) (Nat.le_of_ble_eq_true rfl) (Nat.le_of_ble_eq_true rfl) yi_X7_touch wl_584 rfl wd_585 wd_586 wd_73 wd_587 (by simp [cv, xI_of]) dL_law_346 (fun H1 locs1 hw1 => ?_)
  have hS1 := hw1.2.2.2.2.2.2.2.2
  refine lv_aload_n hx hb dL_law_349 rfl (lv_at hl 3 rfl) ?_
  refine lv_aload_n hx hb dL_law_350 rfl (lv_at hl 1 rfl) ?_
  refine lv_iload_n hx hb dL_law_351 rfl (lv_at hl 0 rfl) ?_
  refine lv_iconst (v := xI 1) hx hb dL_law_352 rfl ?_
  refine lv_iadd hx hb dL_law_353 ?_
  refine va_sld hx hb hX hbl hbA hS1 j1 dL_law_354 ?_
  refine lawB (as := [.inl ((xs (xI (i : Int) + xI 1).toNatClampNeg).toInt)]) (v0 := .int (xI r)) C hKS hw1 hl.1 hcl hsl (ctr_X8_touch) ((eqf_X8_touch  _ _).trans q2) (Nat.le_of_ble_eq_true rfl) (Nat.le_of_ble_eq_true rfl) yi_X8_touch wl_1129 rfl wd_1130 wd_1131 wd_81 wd_1132 rfl (by simp [cv, xI_of]) dL_law_355 (fun H2 locs2 hw2 => ?_)
  exact lv_icmp_eq (tgt := 1179) hx hb dL_law_358 (by decide) (fun _ => kk _ _ _ _ hw2 q3) (fun hne => absurd rfl hne)
set_option maxHeartbeats 4000000 in
set_option maxRecDepth 100000 in
theorem lc_lock {p : Program} {l : Launch} {e : Env} {s : State} {m : MethodId} {below : List Frame} {meth : Method} {c : Code} {b L : Nat} {xs : Nat → Int32} {D : va_G} {g : xG3} {ad1 ad2 : Nat → Nat → Nat} {μ : List Ob} {mm : Ob} {H : Heap} {locs : List Loc} {cells slots : Nat} {Q : State → Prop} {ls : Array Slot} {T : Int} {i : Nat} (C : lw_At p s m meth c b L xs) (hKS : KS D g s) (hw : LWd D g ad1 ad2 s μ mm H locs) (hI : IW T μ mm) (hT0 : 0 ≤ T) (hT : T ≤ 600) (hl : lv_has ls 4 [(3, .int (xI (i : Int))), (0, .ref b), (1, .ref (ad1 0 0)), (2, .ref (ad2 0 0))]) (hL : L ≤ 2048) (hiL : i + 3 < L) (hcl : cells ≤ room_1.cells) (hsl : slots ≤ room_1.slots)
    (kk : ∀ (μ1 : List Ob) (m1 : Ob) (H1 : Heap) (locs1 : List Loc), LWd D g ad1 ad2 s μ1 m1 H1 locs1 → IW (T + 1) μ1 m1 → W p l e room_1 s m #[Value.ref b] below meth c H1 locs1 cells slots Q (F0 m 1179 ls [])) : W p l e room_1 s m #[Value.ref b] below meth c H locs cells slots Q (F0 m 363 ls []) := by
  obtain ⟨hx, hb, hr, hml, hown, hts, hX, hbl, hlocks, hgv⟩ := id C
  have hS := hw.2.2.2.2.2.2.2.2
  have hbA : ¬ (fun q : Nat => s.heap.size ≤ q) b := Nat.not_le.mpr hbl
  have j1 := lw_in (L := L) (i := i) 1 (by omega) hL
  obtain ⟨h0, h1, h2, h3, h4, h5, h6, h7, h8, h9, h10, h11, h12, h13, h14, h15, h16, h17, h18, h19, h20, h21, h22, h23, h24, rfl, hIN⟩ := IW_cases hI
  refine lv_aload_n hx hb dL_law_363 rfl (lv_at hl 2 rfl) ?_
  refine lv_aload_n hx hb dL_law_364 rfl (lv_at hl 1 rfl) ?_
  refine lv_iload_n hx hb dL_law_365 rfl (lv_at hl 0 rfl) ?_
  refine lv_iconst (v := xI 1) hx hb dL_law_366 rfl ?_
  refine lv_iadd hx hb dL_law_367 ?_
  refine va_sld hx hb hX hbl hbA hS j1 dL_law_368 ?_
  obtain ⟨r, μ1, m1, q1, q2, q3⟩ := e_lock T hT0 hT ((xs (xI (i : Int) + xI 1).toNatClampNeg).toInt) (xw_of _) h0 h1 h2 h3 h4 h5 h6 h7 h8 h9 h10 h11 h12 h13 h14 h15 h16 h17 h18 h19 h20 h21 h22 h23 h24 mm hIN
  refine lawA (as := [.inl ((xs (xI (i : Int) + xI 1).toNatClampNeg).toInt)]) C hKS hw hl.1 hcl hsl (ctr_X7_lock) ((eqf_X7_lock  _ _ _ _ _ _ _ _ _ _ _ _ _ _ _ _ _ _ _ _ _ _ _ _ _ _).trans q1) (IW_len q3) (Nat.le_of_ble_eq_true rfl) (Nat.le_of_ble_eq_true rfl) yi_X7_lock wl_589 rfl wd_590 wd_591 wd_73 wd_592 (by simp [cv, xI_of]) dL_law_369 (fun H1 locs1 hw1 => ?_)
  have hS1 := hw1.2.2.2.2.2.2.2.2
  refine lv_aload_n hx hb dL_law_372 rfl (lv_at hl 3 rfl) ?_
  refine lv_aload_n hx hb dL_law_373 rfl (lv_at hl 1 rfl) ?_
  refine lv_iload_n hx hb dL_law_374 rfl (lv_at hl 0 rfl) ?_
  refine lv_iconst (v := xI 1) hx hb dL_law_375 rfl ?_
  refine lv_iadd hx hb dL_law_376 ?_
  refine va_sld hx hb hX hbl hbA hS1 j1 dL_law_377 ?_
  refine lawB (as := [.inl ((xs (xI (i : Int) + xI 1).toNatClampNeg).toInt)]) (v0 := .int (xI r)) C hKS hw1 hl.1 hcl hsl (ctr_X8_lock) ((eqf_X8_lock  _ _).trans q2) (Nat.le_of_ble_eq_true rfl) (Nat.le_of_ble_eq_true rfl) yi_X8_lock wl_1137 rfl wd_1138 wd_1139 wd_81 wd_1140 rfl (by simp [cv, xI_of]) dL_law_378 (fun H2 locs2 hw2 => ?_)
  exact lv_icmp_eq (tgt := 1179) hx hb dL_law_381 (by decide) (fun _ => kk _ _ _ _ hw2 q3) (fun hne => absurd rfl hne)
