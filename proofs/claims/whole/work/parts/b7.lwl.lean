theorem IW_mono {T : Int} {μ : List Ob} {m : Ob} (h : IW T μ m) : IW (T + 1) μ m := by
  obtain ⟨h0, h1, h2, h3, h4, h5, h6, h7, h8, h9, h10, h11, h12, h13, h14, h15, h16, h17, h18, h19, h20, h21, h22, h23, h24, rfl, hI⟩ := IW_cases h
  exact INV.mono hI (by omega)
theorem beg0 : IW 0 muM (bgM ob0 64 64) := by
  have e1 : ∀ i, i < 11 → begO ob0 64 64 1 i = -1 := fun i hi => by unfold begO; rw [if_pos ⟨rfl, hi⟩]
  have e2 : ∀ i, begO ob0 64 64 2 i = 0 := fun i => rfl
  have e4 : ∀ i, i < 8 → begO ob0 64 64 4 i = 0 := fun i hi => by unfold begO; rw [if_neg (by omega), if_pos ⟨rfl, hi⟩]
  have q0 : ∀ k, 2 ≤ k → k < 735 → bgM ob0 64 64 1 k = 0 := fun k k1 k2 => by unfold bgM; rw [if_pos ⟨rfl, k2⟩, if_neg (by omega), if_neg (by omega)]
  have hu : ∀ i : Nat, i < 8 → inS (begO ob0 64 64 0 7) (i : Int) = false := fun i hi => inS0 hi
  show INV 0 (begO ob0 64 64) ob0 _ (bgM ob0 64 64)
  refine ⟨⟨⟨show (8 : Int) ≤ 64 by decide, show (64 : Int) ≤ 64 by decide, show (64 : Int) ≤ 200 by decide, fun i hi => ?_, fun i j hi hj _ hn => absurd (e1 i hi) hn, fun i hi => by rw [e4 i hi]; omega⟩, fun i hi => ⟨fun z => (by rw [hu i hi] at z; cases z), fun _ => e4 i hi⟩, ⟨Int.le_refl _, Int.le_refl _⟩, ⟨Int.le_refl _, show (0 : Int) ≤ 9 * 0 by decide⟩, ⟨Int.le_refl _, show (0 : Int) ≤ 4 by decide⟩, ⟨Int.le_refl _, show (0 : Int) < 256 by decide⟩, ⟨Int.le_refl _, show (0 : Int) < 256 by decide⟩⟩, ⟨⟨rfl, rfl, q0 2 (by decide) (by decide), q0 3 (by decide) (by decide), q0 4 (by decide) (by decide)⟩, fun i hi => ?_, fun p hp => Or.inl ⟨e1 _ (by omega), q0 _ (by omega) (by omega)⟩, fun i hi hn => absurd (e1 i hi) hn⟩, ⟨⟨Int.le_refl _, show (0 : Int) ≤ 12 by decide, Int.le_refl _, show (0 : Int) ≤ 12 by decide⟩, Or.inl rfl, rfl, rfl, fun i hi => ?_⟩⟩
  · rw [e1 i hi, e2]
    exact ⟨Int.le_refl _, by decide, Or.inl rfl⟩
  · unfold RelH
    refine ⟨Or.inl ⟨hu i hi, e1 i (by omega), q0 _ (by omega) (by omega)⟩, ?_, fun z => ?_⟩
    · rw [e4 i hi]
      exact q0 _ (by omega) (by omega)
    · rw [hu i hi] at z; cases z
  · have : (i : Int) < 0 := hi
    omega
theorem XP_of_wl {D : va_G} {g : xG3} {ad : Nat → Nat → Nat} {sh : List (List PS)} {μ : List Ob} {H : Heap} {ws : va_W} (h : va_P D classes (xwl g ad sh μ ++ ws) H) : XP D g ad sh μ H := fun i j ps hps => by
  obtain ⟨k, -, hk⟩ := xplace g ad μ hps
  exact h k _ (by rw [List.getElem?_append_left (List.getElem?_eq_some_iff.mp hk).1]; exact hk)
set_option maxHeartbeats 4000000 in
set_option maxRecDepth 100000 in
theorem law_loop {p : Program} {l : Launch} {e : Env} {s : State} {m : MethodId} {below : List Frame} {meth : Method} {c : Code} {b L : Nat} {xs : Nat → Int32} {D : va_G} {g : xG3} {ad1 ad2 : Nat → Nat → Nat} {cells slots : Nat} (C : lw_At p s m meth c b L xs) (hKS : KS D g s) (hL : L ≤ 2048) (hcl : cells ≤ 600000) (hsl : slots ≤ 7302250) :
    ∀ (d k : Nat), L ≤ 4 * k + 4 * d → k ≤ 513 → ∀ (μ : List Ob) (mm : Ob) (H : Heap) (locs : List Loc) (ls : Array Slot), LWd D g ad1 ad2 s μ mm H locs → IW (k : Int) μ mm → lv_has ls 4 [(3, .int (xI ((4 * k : Nat) : Int))), (0, .ref b), (1, .ref (ad1 0 0)), (2, .ref (ad2 0 0))] → W p l e room_1 s m #[Value.ref b] below meth c H locs cells slots (lw_Z below #[Value.ref b] s) (F0 m 18 ls []) := by
  obtain ⟨hx, hb, hr, hml, hown, hts, hX, hbl, hlocks, hgv⟩ := id C
  have hbA : ¬ (fun q : Nat => s.heap.size ≤ q) b := Nat.not_le.mpr hbl
  intro d
  induction d with
  | zero =>
    intro k hk hk5 μ mm H locs ls hw hI hl
    have hS := hw.2.2.2.2.2.2.2.2
    refine lv_iload_n hx hb dL_law_18 rfl (lv_at hl 0 rfl) ?_
    refine lv_aload_n hx hb dL_law_19 rfl (lv_at hl 1 rfl) ?_
    refine va_slen hx hb hX hbl hbA hS dL_law_20 ?_
    refine lv_iconst (v := xI 4) hx hb dL_law_21 rfl ?_
    refine lv_isub hx hb dL_law_22 ?_
    refine lv_icmp_gt (tgt := 1185) hx hb dL_law_23 (by decide) (fun _ => ?_) (fun hle => ?_)
    · refine lv_iconst (v := 1) hx hb dL_law_1185 (by decide) ?_
      refine va_forget (fun q hq => hS.2.2 q hq) ?_
      refine W.widen hcl hsl ?_
      exact lw_ret hx hb hr hlocks dL_law_1186
    · exfalso
      have hsub : Int32.ofNat L - xI 4 = xI ((L : Int) - 4) := by rw [← xI_sub]; rfl
      rw [hsub, xI_lt, xw_id (by omega) (by omega), xw_id (by omega) (by omega)] at hle
      omega
  | succ d ih =>
    intro k hk hk5 μ mm H locs ls hw hI hl
    have hS := hw.2.2.2.2.2.2.2.2
    refine lv_iload_n hx hb dL_law_18 rfl (lv_at hl 0 rfl) ?_
    refine lv_aload_n hx hb dL_law_19 rfl (lv_at hl 1 rfl) ?_
    refine va_slen hx hb hX hbl hbA hS dL_law_20 ?_
    refine lv_iconst (v := xI 4) hx hb dL_law_21 rfl ?_
    refine lv_isub hx hb dL_law_22 ?_
    refine lv_icmp_gt (tgt := 1185) hx hb dL_law_23 (by decide) (fun _ => ?_) (fun hle => ?_)
    · refine lv_iconst (v := 1) hx hb dL_law_1185 (by decide) ?_
      refine va_forget (fun q hq => hS.2.2 q hq) ?_
      refine W.widen hcl hsl ?_
      exact lw_ret hx hb hr hlocks dL_law_1186
    · have hsub : Int32.ofNat L - xI 4 = xI ((L : Int) - 4) := by rw [← xI_sub]; rfl
      rw [hsub, xI_lt, xw_id (by omega) (by omega), xw_id (by omega) (by omega)] at hle
      have hiL : 4 * k + 3 < L := by omega
      have hin : vp_in (xI ((4 * k : Nat) : Int)) L := xin_in (xin_of (by rw [xw_nat (by omega)]; omega) (by rw [xw_nat (by omega)]; omega))
      have kk : ∀ (μ1 : List Ob) (m1 : Ob) (H1 : Heap) (locs1 : List Loc), LWd D g ad1 ad2 s μ1 m1 H1 locs1 → IW ((k : Int) + 1) μ1 m1 → W p l e room_1 s m #[Value.ref b] below meth c H1 locs1 cells slots (lw_Z below #[Value.ref b] s) (F0 m 1179 ls []) := fun μ1 m1 H1 locs1 hw1 hI1 => by
        refine lv_iinc (v := xI ((4 * (k + 1) : Nat) : Int)) (lv' := [(3, .int (xI ((4 * (k + 1) : Nat) : Int))), (0, .ref b), (1, .ref (ad1 0 0)), (2, .ref (ad2 0 0))]) hx hb dL_law_1179 hl (k := 0) rfl (by
          show xI _ + xI 4 = xI _
          rw [xI_add]
          congr 1) (by decide) rfl (fun ls hl => ?_)
        refine lv_goto (tgt := 18) hx hb dL_law_1182 (by decide) ?_
        exact ih (k + 1) (by omega) (by omega) μ1 m1 H1 locs1 ls hw1 hI1 hl
      have hT0 : (0 : Int) ≤ (k : Int) := by omega
      have hT : (k : Int) ≤ 600 := by omega
      refine lv_aload_n hx hb dL_law_26 rfl (lv_at hl 1 rfl) ?_
      refine lv_iload_n hx hb dL_law_27 rfl (lv_at hl 0 rfl) ?_
      refine va_sld hx hb hX hbl hbA hS hin dL_law_28 ?_
      refine lv_bipush (v := 63) hx hb dL_law_29 (by decide) ?_
      refine lv_iand hx hb dL_law_31 ?_
      generalize (xs (xI ((4 * k : Nat) : Int)).toNatClampNeg &&& 63) = v
      by_cases hv : 0 ≤ v.toInt ∧ v.toInt ≤ 34
      · obtain ⟨n, hn⟩ : ∃ n : Nat, v.toInt = (n : Int) := ⟨v.toInt.toNat, by omega⟩
        have hc : n = 0 ∨ n = 1 ∨ n = 2 ∨ n = 3 ∨ n = 4 ∨ n = 5 ∨ n = 6 ∨ n = 7 ∨ n = 8 ∨ n = 9 ∨ n = 10 ∨ n = 11 ∨ n = 12 ∨ n = 13 ∨ n = 14 ∨ n = 15 ∨ n = 16 ∨ n = 17 ∨ n = 18 ∨ n = 19 ∨ n = 20 ∨ n = 21 ∨ n = 22 ∨ n = 23 ∨ n = 24 ∨ n = 25 ∨ n = 26 ∨ n = 27 ∨ n = 28 ∨ n = 29 ∨ n = 30 ∨ n = 31 ∨ n = 32 ∨ n = 33 ∨ n = 34 := by omega
        rcases hc with rfl | rfl | rfl | rfl | rfl | rfl | rfl | rfl | rfl | rfl | rfl | rfl | rfl | rfl | rfl | rfl | rfl | rfl | rfl | rfl | rfl | rfl | rfl | rfl | rfl | rfl | rfl | rfl | rfl | rfl | rfl | rfl | rfl | rfl | rfl
        · exact lv_tableIn (off := 156) (tgt := 188) hx hb dL_law_32 (by omega) (by omega) (by rw [hn]; rfl) (by decide) (lc_start C hKS hw hI hT0 hT hl hL hiL hcl hsl kk)
        · exact lv_tableIn (off := 189) (tgt := 221) hx hb dL_law_32 (by omega) (by omega) (by rw [hn]; rfl) (by decide) (lc_make C hKS hw hI hT0 hT hl hL hiL hcl hsl kk)
        · exact lv_tableIn (off := 222) (tgt := 254) hx hb dL_law_32 (by omega) (by omega) (by rw [hn]; rfl) (by decide) (lc_put C hKS hw hI hT0 hT hl hL hiL hcl hsl kk)
        · exact lv_tableIn (off := 265) (tgt := 297) hx hb dL_law_32 (by omega) (by omega) (by rw [hn]; rfl) (by decide) (lc_set C hKS hw hI hT0 hT hl hL hiL hcl hsl kk)
        · exact lv_tableIn (off := 308) (tgt := 340) hx hb dL_law_32 (by omega) (by omega) (by rw [hn]; rfl) (by decide) (lc_touch C hKS hw hI hT0 hT hl hL hiL hcl hsl kk)
        · exact lv_tableIn (off := 331) (tgt := 363) hx hb dL_law_32 (by omega) (by omega) (by rw [hn]; rfl) (by decide) (lc_lock C hKS hw hI hT0 hT hl hL hiL hcl hsl kk)
        · exact lv_tableIn (off := 354) (tgt := 386) hx hb dL_law_32 (by omega) (by omega) (by rw [hn]; rfl) (by decide) (lc_unlock C hKS hw hI hT0 hT hl hL hiL hcl hsl kk)
        · exact lv_tableIn (off := 377) (tgt := 409) hx hb dL_law_32 (by omega) (by omega) (by rw [hn]; rfl) (by decide) (lc_high C hKS hw hI hT0 hT hl hL hiL hcl hsl kk)
        · exact lv_tableIn (off := 400) (tgt := 432) hx hb dL_law_32 (by omega) (by omega) (by rw [hn]; rfl) (by decide) (lc_mark C hKS hw hI hT0 hT hl hL hiL hcl hsl kk)
        · exact lv_tableIn (off := 449) (tgt := 481) hx hb dL_law_32 (by omega) (by omega) (by rw [hn]; rfl) (by decide) (lc_drop C hKS hw hI hT0 hT hl hL hiL hcl hsl kk)
        · exact lv_tableIn (off := 472) (tgt := 504) hx hb dL_law_32 (by omega) (by omega) (by rw [hn]; rfl) (by decide) (lc_least C hKS hw hI hT0 hT hl hL hiL hcl hsl kk)
        · exact lv_tableIn (off := 505) (tgt := 537) hx hb dL_law_32 (by omega) (by omega) (by rw [hn]; rfl) (by decide) (lc_purge C hKS hw hI hT0 hT hl hL hiL hcl hsl kk)
        · exact lv_tableIn (off := 528) (tgt := 560) hx hb dL_law_32 (by omega) (by omega) (by rw [hn]; rfl) (by decide) (lc_remake C hKS hw hI hT0 hT hl hL hiL hcl hsl kk)
        · exact lv_tableIn (off := 551) (tgt := 583) hx hb dL_law_32 (by omega) (by omega) (by rw [hn]; rfl) (by decide) (lc_resize C hKS hw hI hT0 hT hl hL hiL hcl hsl kk)
        · exact lv_tableIn (off := 584) (tgt := 616) hx hb dL_law_32 (by omega) (by omega) (by rw [hn]; rfl) (by decide) (lc_fix C hKS hw hI hT0 hT hl hL hiL hcl hsl kk)
        · exact lv_tableIn (off := 607) (tgt := 639) hx hb dL_law_32 (by omega) (by omega) (by rw [hn]; rfl) (by decide) (lc_unfix C hKS hw hI hT0 hT hl hL hiL hcl hsl kk)
        · exact lv_tableIn (off := 630) (tgt := 662) hx hb dL_law_32 (by omega) (by omega) (by rw [hn]; rfl) (by decide) (lc_reserve C hKS hw hI hT0 hT hl hL hiL hcl hsl kk)
        · exact lv_tableIn (off := 653) (tgt := 685) hx hb dL_law_32 (by omega) (by omega) (by rw [hn]; rfl) (by decide) (lc_compact C hKS hw hI hT0 hT hl hL hiL hcl hsl kk)
        · exact lv_tableIn (off := 666) (tgt := 698) hx hb dL_law_32 (by omega) (by omega) (by rw [hn]; rfl) (by decide) (lc_policy C hKS hw hI hT0 hT hl hL hiL hcl hsl kk)
        · exact lv_tableIn (off := 689) (tgt := 721) hx hb dL_law_32 (by omega) (by omega) (by rw [hn]; rfl) (by decide) (lc_undo C hKS hw hI hT0 hT hl hL hiL hcl hsl kk)
        · exact lv_tableIn (off := 702) (tgt := 734) hx hb dL_law_32 (by omega) (by omega) (by rw [hn]; rfl) (by decide) (lc_handle C hKS hw hI hT0 hT hl hL hiL hcl hsl kk)
        · exact lv_tableIn (off := 735) (tgt := 767) hx hb dL_law_32 (by omega) (by omega) (by rw [hn]; rfl) (by decide) (lc_get C hKS hw hI hT0 hT hl hL hiL hcl hsl kk)
        · exact lv_tableIn (off := 768) (tgt := 800) hx hb dL_law_32 (by omega) (by omega) (by rw [hn]; rfl) (by decide) (lc_pointer C hKS hw hI hT0 hT hl hL hiL hcl hsl kk)
        · exact lv_tableIn (off := 801) (tgt := 833) hx hb dL_law_32 (by omega) (by omega) (by rw [hn]; rfl) (by decide) (lc_cell C hKS hw hI hT0 hT hl hL hiL hcl hsl kk)
        · exact lv_tableIn (off := 824) (tgt := 856) hx hb dL_law_32 (by omega) (by omega) (by rw [hn]; rfl) (by decide) (lc_block C hKS hw hI hT0 hT hl hL hiL hcl hsl kk)
        · exact lv_tableIn (off := 857) (tgt := 889) hx hb dL_law_32 (by omega) (by omega) (by rw [hn]; rfl) (by decide) (lc_free C hKS hw hI hT0 hT hl hL hiL hcl hsl kk)
        · exact lv_tableIn (off := 880) (tgt := 912) hx hb dL_law_32 (by omega) (by omega) (by rw [hn]; rfl) (by decide) (lc_would C hKS hw hI hT0 hT hl hL hiL hcl hsl kk)
        · exact lv_tableIn (off := 913) (tgt := 945) hx hb dL_law_32 (by omega) (by omega) (by rw [hn]; rfl) (by decide) (lc_greatest C hKS hw hI hT0 hT hl hL hiL hcl hsl kk)
        · exact lv_tableIn (off := 936) (tgt := 968) hx hb dL_law_32 (by omega) (by omega) (by rw [hn]; rfl) (by decide) (lc_fewest C hKS hw hI hT0 hT hl hL hiL hcl hsl kk)
        · exact lv_tableIn (off := 969) (tgt := 1001) hx hb dL_law_32 (by omega) (by omega) (by rw [hn]; rfl) (by decide) (lc_three C hKS hw hI hT0 hT hl hL hiL hcl hsl kk)
        · exact lv_tableIn (off := 1012) (tgt := 1044) hx hb dL_law_32 (by omega) (by omega) (by rw [hn]; rfl) (by decide) (lc_cheapest C hKS hw hI hT0 hT hl hL hiL hcl hsl kk)
        · exact lv_tableIn (off := 1045) (tgt := 1077) hx hb dL_law_32 (by omega) (by omega) (by rw [hn]; rfl) (by decide) (lc_after C hKS hw hI hT0 hT hl hL hiL hcl hsl kk)
        · exact lv_tableIn (off := 1068) (tgt := 1100) hx hb dL_law_32 (by omega) (by omega) (by rw [hn]; rfl) (by decide) (lc_order C hKS hw hI hT0 hT hl hL hiL hcl hsl kk)
        · exact lv_tableIn (off := 1091) (tgt := 1123) hx hb dL_law_32 (by omega) (by omega) (by rw [hn]; rfl) (by decide) (lc_torn C hKS hw hI hT0 hT hl hL hiL hcl hsl kk)
        · exact lv_tableIn (off := 1124) (tgt := 1156) hx hb dL_law_32 (by omega) (by omega) (by rw [hn]; rfl) (by decide) (lc_count C hKS hw hI hT0 hT hl hL hiL hcl hsl kk)
      · refine lv_tableOut (tgt := 1179) hx hb dL_law_32 ?_ (by decide) (kk μ mm H locs hw (IW_mono hI))
        by_cases h0 : v.toInt < 0
        · exact Or.inl h0
        · exact Or.inr (by omega)
