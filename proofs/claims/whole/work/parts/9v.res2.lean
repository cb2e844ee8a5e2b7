theorem LW_stay {h g : Ob} (hL : LW h) {i : Nat} (hi : i < 8) (hf : h 1 i ≠ -1) {o z : Nat} (hz1 : 1 ≤ z) (hz : z ≤ 60) (eo : h 2 i = (o : Int)) (hst : (z : Int) - (o : Int) ≤ frb h (i : Int)) (G1 : ∀ k, g 1 k = if k = i then h 1 i else h 1 k) (G2 : ∀ k, g 2 k = if k = i then (z : Int) else h 2 k) (e9 : g 0 9 = h 0 9) (e10 : g 0 10 = h 0 10) (e4 : ∀ k, k < 8 → g 4 k = h 4 k) : LW g := by
  have hfb := frb_c hL hi hf (E := h 1 i + h 2 i + 1) rfl
  have hp := hL.pl (show i < 11 by omega)
  obtain ⟨z1, z2, z3, z4, z5, z6⟩ := id hL
  have a := z4 i (by omega)
  have g1 : ∀ k, g 1 k = h 1 k := fun k => by
    rw [G1]
    by_cases e : k = i
    · rw [if_pos e, e]
    · rw [if_neg e]
  have hroom : ∀ b, b < 11 → b ≠ i → h 1 b ≠ -1 → h 1 i + h 2 i + 1 ≤ h 1 b → h 1 i + (z : Int) + 1 ≤ h 1 b := fun b hb hbi hpb hle => by
    rcases hfb with ⟨f1, -⟩ | ⟨f1, f2, f3, f4, f5, f6, f7⟩
    · omega
    · have h6 := f6 b hb
      have h7 := f7 b hb (by omega)
      omega
  have hsize : h 1 i + (z : Int) + 1 ≤ h 0 9 := by
    rcases hfb with ⟨f1, -⟩ | ⟨f1, f2, f3, f4, f5, -⟩ <;> omega
  refine ⟨by rw [e9]; exact z1, by rw [e9, e10]; exact z2, by rw [e10]; exact z3, fun k hk => ?_, fun b c hb hc hbc => ?_, fun k hk => by rw [e4 k hk]; exact z6 k hk⟩
  · rw [g1, G2, e9]
    by_cases e : k = i
    · rw [if_pos e, e]
      omega
    · rw [if_neg e]
      exact z4 k hk
  · rw [g1, g1, G2, G2]
    intro h1 h2
    have h5 := z5 b c hb hc hbc h1 h2
    by_cases e : b = i
    · have e' : c ≠ i := fun y => hbc (e.trans y.symm)
      rw [if_pos e, if_neg e']
      rw [e] at h5 h1 ⊢
      rcases h5 with h5 | h5
      · exact Or.inl (hroom c hc e' h2 h5)
      · exact Or.inr h5
    · rw [if_neg e]
      by_cases e' : c = i
      · rw [if_pos e']
        rw [e'] at h5 h2 ⊢
        rcases h5 with h5 | h5
        · exact Or.inl h5
        · exact Or.inr (hroom b hb e h1 h5)
      · rw [if_neg e']
        exact h5
theorem frb_bd {h : Ob} (hL : LW h) {i : Nat} (hi : i < 8) (hf : h 1 i ≠ -1) : 0 ≤ frb h (i : Int) ∧ frb h (i : Int) ≤ 200 := by
  have hp := hL.pl (show i < 11 by omega)
  obtain ⟨z1, z2, z3, z4, -⟩ := id hL
  have a := z4 i (by omega)
  rcases frb_c hL hi hf (E := h 1 i + h 2 i + 1) rfl with ⟨f1, -⟩ | ⟨f1, f2, f3, f4, f5, -⟩ <;> omega
theorem e_resize (T : Int) (hT0 : 0 ≤ T) (hT : T ≤ 600) (p1 : Int) (hp1 : xw p1 = p1) (p2 : Int) (hp2 : xw p2 = p2) (h0 h1 h2 h3 h4 h5 h6 h7 h8 h9 h10 h11 h12 h13 h14 h15 h16 h17 h18 h19 h20 h21 h22 h23 h24 m : Ob) (hI : INV T h1 h3 [h4, h5, h6, h7, h8, h9, h10, h11, h12, h13, h14, h15, h16] m) : Same (T + 1) (md_X7_resize_0 p1 p2 h0 h2 h17 h18 h23 h24 (h1, h3, h4, h5, h6, h7, h8, h9, h10, h11, h12, h13, h14, h15, h16, h19, h20, h21, h22)) (md_X8_resize_0 p1 p2 m) := by
  have hI0 := hI
  obtain ⟨i1, i2, i3⟩ := hI
  have hL := i1.1
  have x2 : xlr p2 = true := by rw [← hp2]; exact xlr_xw
  rcases hdl_cases hp1 with hf | ⟨i, hi, rfl⟩
  · simp only [md_X7_resize_0, mg_X7_resize_0, md_X8_resize_0, mg_X8_resize_0, bz_0, ful_f hf, fulM_f hf, if_true]
    exact ⟨_, _, _, rfl, rfl, hI0.mono (by omega)⟩
  have hfq := i2.fulq hL hi
  by_cases hfl : h1 1 i = -1
  · have hff : ful h1 (i : Int) = false := by
      cases hq : ful h1 (i : Int) with
      | false => rfl
      | true => exact absurd hfl ((hL.fu hi).mp hq)
    simp only [md_X7_resize_0, mg_X7_resize_0, md_X8_resize_0, mg_X8_resize_0, bz_0, hfq, hff, if_true]
    exact ⟨_, _, _, rfl, rfl, hI0.mono (by omega)⟩
  have hff := (hL.fu hi).mpr hfl
  by_cases a2 : 1 ≤ p2 ∧ p2 ≤ 60
  rotate_left
  · have hin2 : inn p2 1 60 = false := by rw [inn_e]; exact decide_eq_false a2
    have hsz : siz p2 = false := by rw [siz_inn hp2]; exact hin2
    simp only [md_X7_resize_0, mg_X7_resize_0, md_X8_resize_0, mg_X8_resize_0, bz_0, hfq, hff, hin2, hsz, hp2, x2, xlr_s (p := 1) (by decide) (by decide), xlr_s (p := 60) (by decide) (by decide), Bool.and_self, Bool.true_eq_false, if_false, if_true]
    exact ⟨_, _, _, rfl, rfl, hI0.mono (by omega)⟩
  have hin2 : inn p2 1 60 = true := by rw [inn_e]; exact decide_eq_true a2
  have hsz : siz p2 = true := by rw [siz_inn hp2]; exact hin2
  obtain ⟨z, rfl⟩ : ∃ z : Nat, p2 = (z : Int) := ⟨p2.toNat, by omega⟩
  obtain ⟨hu, u2, u3, u4⟩ := i2.use hi hfl
  have hzi := hL.2.2.2.1 i (by omega)
  obtain ⟨o, eo⟩ : ∃ o : Nat, h1 2 i = (o : Int) := ⟨(h1 2 i).toNat, by omega⟩
  have e21 : m 1 (21 + i) = (o : Int) := u4.trans eo
  have hxi : xw (i : Int) = (i : Int) := xw_nat (by omega)
  have hxo : xw (o : Int) = (o : Int) := xw_nat (by omega)
  obtain ⟨y1, y2⟩ := ixn (c := 21) 21 rfl (by decide) hi
  obtain ⟨y5, y6⟩ := ixn (c := 37) 37 rfl (by decide) hi
  obtain ⟨y11, y12⟩ := ixn (c := 13) 13 rfl (by decide) hi
  have hg := pd_t (p := LW h1 ∧ Lst h1 ∧ 0 ≤ (i : Int) ∧ (i : Int) < 8 ∧ 1 ≤ (z : Int) ∧ (z : Int) ≤ 60) ⟨hL, lst_of i1 i2, by omega, by omega, by omega, by omega⟩
  have hfx := frb_bd hL hi hfl
  -- the end of it
  have tail : ∀ (H m1 s : Ob) (at_ : Int), HI T H → Rel H (m1 1) → H 1 i ≠ -1 → at_ ≠ -1 → H 2 i = (o : Int) → (∀ k, s 1 k = if k = 13 + i then at_ else m1 1 k) → (∀ g : Ob, (∀ k, g 1 k = if k = i then at_ else H 1 k) → (∀ k, g 2 k = if k = i then (z : Int) else H 2 k) → g 0 9 = H 0 9 → g 0 10 = H 0 10 → (∀ k, k < 8 → g 4 k = H 4 k) → LW g) → (∀ k, k < 735 → s 2 k = m 1 k) → s 3 = m 3 → s 0 3 = m 0 3 → ∃ m3, md_X8_resize_110 (i : Int) (z : Int) ((o : Int), s) = RI at_ [m3] ∧ INV (T + 1) (finO (xset (xset (clrO (xset H 1 i at_) (i : Int) (xset H 1 i at_ 2 i) (z : Int)) 2 i (z : Int)) 5 i (xmin (xset (clrO (xset H 1 i at_) (i : Int) (xset H 1 i at_ 2 i) (z : Int)) 2 i (z : Int) 5 i) (z : Int))) (i : Int)) (keeO h3) [svK h3 0 h4 h1, svK h3 1 h5 h1, svK h3 2 h6 h1, svK h3 3 h7 h1, svK h3 4 h8 h1, svK h3 5 h9 h1, svK h3 6 h10 h1, svK h3 7 h11 h1, svK h3 8 h12 h1, svK h3 9 h13 h1, svK h3 10 h14 h1, svK h3 11 h15 h1, svK h3 12 h16 h1] m3 := by
    intro H m1 s at_ c1 c2 c3 c4 c5 c6 c7 c8 c9 c10
    have hus := (c2.use hi c3).1
    have v := (c2.2.1 i hi).2.2 hus
    have e37 : s 1 (37 + i) = H 5 i := by rw [c6, if_neg (by omega)]; exact v.2.1
    have hb := (c1.2.1 i hi).1 hus
    have hzH := c1.1.2.2.2.1 i (by omega)
    have hx5 : xw (H 5 i) = H 5 i := xw_id (by omega) (by omega)
    obtain ⟨S, g1, g2, g3⟩ : ∃ S, md_X8_resize_110 (i : Int) (z : Int) ((o : Int), s) = md_X8_resize_143 (i : Int) (z : Int) ((o : Int), S) ∧ (∀ k, S 1 k = if k = 37 + i then (if (z : Int) < H 5 i then (z : Int) else H 5 i) else if k = 21 + i then (z : Int) else s 1 k) ∧ ∀ j, j ≠ 1 → S j = s j := by
      have e37' : xset s 1 (21 + i) (z : Int) 1 (37 + i) = H 5 i := by rw [xset_idx _ _ _ _ (by omega)]; exact e37
      by_cases d : H 5 i ≤ (z : Int)
      · refine ⟨xset s 1 (21 + i) (z : Int), ?_, fun k => ?_, fun j hj => ?_⟩
        · simp only [md_X8_resize_110, mg_X8_resize_110, y1, y2, y5, y6, if_true, e37', hx5, hp2]
          rw [if_pos d]
        · rw [xs1]
          (try dsimp only)
          by_cases k1 : k = 37 + i
          · rw [if_neg (show ¬ k = 21 + i by omega), if_pos k1, if_neg (show ¬ (z : Int) < H 5 i by omega), k1, e37]
          · rw [if_neg k1]
        · funext k
          rw [xset_part _ _ _ _ hj]
      · refine ⟨xset (xset s 1 (21 + i) (z : Int)) 1 (37 + i) (z : Int), ?_, fun k => ?_, fun j hj => ?_⟩
        · simp only [md_X8_resize_110, mg_X8_resize_110, y1, y2, y5, y6, if_true, e37', hx5, hp2]
          rw [if_neg d]
        · rw [if_pos (show (z : Int) < H 5 i by omega)]
          simp only [xs1]
        · funext k
          rw [xset_part _ _ _ _ hj, xset_part _ _ _ _ hj]
    obtain ⟨M, j1, j2, j3⟩ : ∃ M, md_X8_resize_143 (i : Int) (z : Int) ((o : Int), S) = md_X8_resize_155 (i : Int) (z : Int) M ∧ (∀ k, M 1 k = if 75 + 60 * i + o ≤ k ∧ k < 75 + 60 * i + z then 0 else S 1 k) ∧ ∀ j, j ≠ 1 → M j = S j := by
      by_cases d : (z : Int) ≤ (o : Int)
      · refine ⟨S, ?_, fun k => ?_, fun _ _ => rfl⟩
        · simp only [md_X8_resize_143, mg_X8_resize_143, hp2, hxo]
          rw [if_pos d]
        · rw [if_neg (by omega)]
      · have hcc := v_clearsContents S (w := i) (a := o) (b := z) (by omega) (by omega) (by omega) rfl rfl rfl
        refine ⟨ccO S i o z, ?_, fun k => by rw [cc1], fun j hj => ?_⟩
        · simp only [md_X8_resize_143, mg_X8_resize_143, hp2, hxo, hcc, oqV_t, oqO_V, if_true]
          rw [if_neg d]
        · funext k
          unfold ccO
          rw [if_neg (fun y => hj y.1)]
    have M3 : M 1 3 = H 0 11 := by
      rw [j2, if_neg (by omega), g2, if_neg (by omega), if_neg (by omega), c6, if_neg (by omega)]
      exact c2.1.2.2.2.1
    have hHR := lay_rs (q' := fun k => if k = 61 + i then M 1 3 + 1 else if k = 3 then M 1 3 + 1 else M 1 k) c1 c2 hi c3 c4 (o := o) (z := z) (by omega) (by omega) c5 c7 rfl (fun k _ => by
      (try dsimp only)
      rw [M3, j2, g2, c6])
    obtain ⟨m2, m3, w1, w2, w3, w4⟩ := act_g hi hI0 hHR (fun k hk => by rw [j3 2 (by decide), g3 2 (by decide)]; exact c8 k hk) (by rw [j3 3 (by decide), g3 3 (by decide)]; exact c9) (by rw [j3 0 (by decide), g3 0 (by decide)]; exact c10)
    refine ⟨m3, ?_, w4⟩
    have hat : m3 1 (13 + i) = at_ := by
      rw [w3]
      (try dsimp only)
      rw [if_neg (by omega), if_neg (by omega), j2, if_neg (by omega), g2, if_neg (by omega), if_neg (by omega), c6, if_pos rfl]
    rw [g1, j1]
    simp only [md_X8_resize_155, mg_X8_resize_155, w1, w2, oqV_t, oqO_V, if_true, y11, y12, hat]
  simp only [md_X7_resize_0, mg_X7_resize_0, md_X8_resize_0, mg_X8_resize_0, bz_0, hfq, hff, hin2, hsz, hp2, x2, xlr_s (p := 1) (by decide) (by decide), xlr_s (p := 60) (by decide) (by decide), Bool.and_self, Bool.true_eq_false, if_false, if_true, y1, y2, e21, hxo, hxi, toNat_nat, eo, xin_nat (show i < 11 by omega) (show 11 ≤ 2147483648 by omega), xin_nat (show i < 8 by omega) (show 8 ≤ 2147483648 by omega), ks_e, oqV_t, oqO_V, pd_t i3.1, hg]
  by_cases hsm : (z : Int) = (o : Int)
  · rw [if_pos hsm, if_pos hsm.symm]
    exact ⟨_, _, _, rfl, rfl, hI0.mono (by omega)⟩
  rw [if_neg hsm, if_neg (show ¬ (o : Int) = (z : Int) from fun y => hsm y.symm)]
  have x10 : xw ((z : Int) - (o : Int)) = (z : Int) - (o : Int) := xw_id (by omega) (by omega)
  have x11 : xw (frb h1 (i : Int)) = frb h1 (i : Int) := xw_id (by omega) (by omega)
  by_cases hst : (z : Int) - (o : Int) ≤ frb h1 (i : Int)
  · have hpr : prF h19 h20 h21 h22 h1 (i : Int) (z : Int) = (h1 1 i, h19, h20, h21, h22, h1) := by
      unfold prF
      rw [hxi, toNat_nat, eo, x10, x11, if_neg (show ¬ (z : Int) - (o : Int) > frb h1 (i : Int) by omega)]
    have hLs := fun (g : Ob) G1 G2 e9 e10 e4 => LW_stay (g := g) hL hi hfl (o := o) (z := z) (by omega) (by omega) eo hst G1 G2 e9 e10 e4
    have hs13 : ∀ s : Ob, Rel h1 (s 1) → ∀ k, s 1 k = if k = 13 + i then h1 1 i else s 1 k := fun s hR k => by
      by_cases e : k = 13 + i
      · rw [if_pos e, e]
        exact (hR.use hi hfl).2.2.1
      · rw [if_neg e]
    simp only [hpr, hL.xpl (show i < 11 by omega)]
    rw [if_neg hfl]
    by_cases hzo : (z : Int) ≤ (o : Int)
    · rw [if_pos hzo]
      obtain ⟨m3, w1, w2⟩ := tail h1 (ksO m) (ksO m) (h1 1 i) i1 i2 hfl hfl eo (hs13 (ksO m) i2) hLs (fun k hk => ks_2 m hk) rfl rfl
      rw [w1]
      exact ⟨_, _, _, rfl, rfl, w2⟩
    · rw [if_neg hzo]
      obtain ⟨m', s1, s2⟩ := v_canStretch i1 (m := ksO m) i2 hi hfl (d := (z : Int) - (o : Int)) (by omega) (by omega)
      have hRm : Rel h1 (m' 1) := own_frame (m := ksO m) i2 s2
      simp only [s1, decide_eq_true hst, oqI_t, oqR_I, oqO_I, if_true, bz_0, Bool.true_eq_false, if_false]
      obtain ⟨m3, w1, w2⟩ := tail h1 m' m' (h1 1 i) i1 hRm hfl hfl eo (hs13 m' hRm) hLs (fun k hk => by rw [s2 2 (by decide)]; exact ks_2 m hk) (by rw [s2 3 (by decide)]; rfl) (by rw [s2 0 (by decide)]; rfl)
      rw [w1]
      exact ⟨_, _, _, rfl, rfl, w2⟩
  · have hzo : ¬ (z : Int) ≤ (o : Int) := by omega
    rw [if_neg hzo]
    obtain ⟨m', s1, s2⟩ := v_canStretch i1 (m := ksO m) i2 hi hfl (d := (z : Int) - (o : Int)) (by omega) (by omega)
    have hRm : Rel h1 (m' 1) := own_frame (m := ksO m) i2 s2
    have hlo : looM m' (i : Int) = mov h1 (i : Int) := hRm.looq hL hi
    have s22 : m' 2 = ksO m 2 := s2 2 (by decide)
    have s23 : m' 3 = m 3 := s2 3 (by decide)
    have s20 : m' 0 = m 0 := s2 0 (by decide)
    simp only [s1, decide_eq_false hst, oqI_t, oqR_I, oqO_I, if_true, bz_0, hlo]
    have fail : ∀ (s hh : Ob), s 2 = ksO m 2 → s 3 = m 3 → s 0 3 = m 0 3 → s 0 4 = m 0 4 → ov_X8_laysBack s = RV [lbO s] ∧ INV (T + 1) (cpyO hh (kpk h3 0 [svK h3 0 h4 h1, svK h3 1 h5 h1, svK h3 2 h6 h1, svK h3 3 h7 h1, svK h3 4 h8 h1, svK h3 5 h9 h1, svK h3 6 h10 h1, svK h3 7 h11 h1, svK h3 8 h12 h1, svK h3 9 h13 h1, svK h3 10 h14 h1, svK h3 11 h15 h1, svK h3 12 h16 h1])) h3 [svK h3 0 h4 h1, svK h3 1 h5 h1, svK h3 2 h6 h1, svK h3 3 h7 h1, svK h3 4 h8 h1, svK h3 5 h9 h1, svK h3 6 h10 h1, svK h3 7 h11 h1, svK h3 8 h12 h1, svK h3 9 h13 h1, svK h3 10 h14 h1, svK h3 11 h15 h1, svK h3 12 h16 h1] (lbO s) := fun s hh c1 c2 c3 c4 => by
      refine ⟨(ov_X8_laysBack_e s).trans (r_laysBack xfu (xfu_ge (by decide)) s), ?_⟩
      have hRl : Rel h1 (lbO s 1) := by
        refine Rel_cong hL (fun k hk => ?_) i2
        show (if 1 = 1 ∧ k < 735 then s 2 k else s 1 k) = m 1 k
        rw [if_pos ⟨rfl, hk⟩, c1]
        exact ks_2 m hk
      exact (fail_inv (h' := hh) (m1 := lbO s) hI0 hRl c2 c3 c4).mono (by omega)
    cases hm : mov h1 (i : Int) with
    | false =>
      have hpr : prF h19 h20 h21 h22 h1 (i : Int) (z : Int) = (-1, h19, h20, h21, h22, h1) := by
        unfold prF
        rw [hxi, toNat_nat, eo, x10, x11, if_pos (show (z : Int) - (o : Int) > frb h1 (i : Int) by omega), hm]
        rfl
      obtain ⟨l1, l2⟩ := fail m' h1 s22 s23 (by rw [s20]) (by rw [s20])
      simp only [hpr, if_true, md_X8_resize_85, mg_X8_resize_85]
      rw [if_pos xwm1, if_neg (show ¬ xw (-1) ≥ 0 by decide)]
      simp only [l1, oqV_t, oqO_V, if_true]
      exact ⟨_, _, _, rfl, rfl, l2⟩
    | true =>
      have hpr : prF h19 h20 h21 h22 h1 (i : Int) (z : Int) = fsF h19 h20 h21 h22 h1 ((z : Int) + 1) (i : Int) := by
        unfold prF
        rw [hxi, toNat_nat, eo, x10, x11, if_pos (show (z : Int) - (o : Int) > frb h1 (i : Int) by omega), hm, if_pos rfl]
      obtain ⟨m1, b1, b2⟩ := v_fits i1 hRm (n := (z : Int) + 1) (by omega) (by omega) (Or.inr ⟨i, hi, rfl⟩) h19 h20 h21 h22
      simp only [hpr, Bool.true_eq_false, if_false, b1, oqI_t, oqR_I, oqO_I, if_true, md_X8_resize_85, mg_X8_resize_85, y11, y12]
      generalize fsF h19 h20 h21 h22 h1 ((z : Int) + 1) (i : Int) = R at *
      obtain ⟨t1, t2, t3, t4, t5, t6, t7, t8, t9, t10⟩ := b2
      have v2 : m1 2 = ksO m 2 := t4.trans s22
      have v3 : m1 3 = m 3 := t5.trans s23
      have v03 : m1 0 3 = m 0 3 := by rw [t6 3 (by decide) (by decide) (by decide) (by decide) (by decide), s20]
      have v04 : m1 0 4 = m 0 4 := by rw [t6 4 (by decide) (by decide) (by decide) (by decide) (by decide), s20]
      rcases t3 with e | e
      · rw [e, if_pos xwm1, if_neg (show ¬ xw (-1) ≥ 0 by decide)]
        obtain ⟨l1, l2⟩ := fail m1 R.2.2.2.2.2 v2 v3 v03 v04
        simp only [l1, oqV_t, oqO_V, if_true]
        exact ⟨_, _, _, rfl, rfl, l2⟩
      · obtain ⟨f1, f2, -⟩ := id e
        have w2 := t1.1.2.1
        have w3 := t1.1.2.2.1
        have hx : xw R.1 = R.1 := xw_id (by omega) (by omega)
        rw [hx, if_neg (show ¬ R.1 = -1 by omega), if_pos (show R.1 ≥ 0 by omega)]
        obtain ⟨q1, q2⟩ := t10.2.1 i hi rfl
        have hLn := LW_lay t1.1 (w := i) (by omega) (z := z) (by omega) (by omega) e
        obtain ⟨l1, l2, -, l4⟩ := lay_parts (h := R.2.2.2.2.2) (w := i) (by omega) (at_ := R.1) (z := z) (by omega)
        have l0 := l4 0 (by decide) (by decide) (by decide)
        obtain ⟨m3, c1, c2⟩ := tail R.2.2.2.2.2 m1 (xset m1 1 (13 + i) R.1) R.1 t1 t2 (q1 hfl) (by omega) (q2.trans eo) (fun k => by rw [xs1]) (fun g G1 G2 e9 e10 e4 => LW_of hLn (fun k _ => ⟨by rw [G1, l1], by rw [G2, l2]⟩) (by rw [e9, l0]) (by rw [e10, l0]) (fun k hk => by rw [e4 k hk]; exact t1.1.2.2.2.2.2 k hk)) (fun k hk => by
          show m1 2 k = m 1 k
          rw [v2]
          exact ks_2 m hk) v3 v03
        rw [c1]
        exact ⟨_, _, _, rfl, rfl, c2⟩
