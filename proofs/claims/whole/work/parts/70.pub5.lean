theorem iscon_nat {h : Ob} (hL : LW h) {w : Nat} (hw : w < 11) {k : Int} (hk : xw k = k) : iscon h (w : Int) k = inn k 0 (h 2 w - 1) := by
  have hz := hL.2.2.2.1 w hw
  unfold iscon inn
  rw [xw_nat (by omega), toNat_nat, hk]
  have e : xw (xmin (h 2 w) 60) = h 2 w := by
    unfold xmin
    rw [xw_id (x := h 2 w) (by omega) (by omega), show xw 60 = 60 by decide, if_neg (by omega), xw_id (by omega) (by omega)]
  rw [e]
  have h1 : decide ((0 : Int) ≤ (w : Int)) = true := by simp
  have h2 : decide ((w : Int) < 11) = true := by simp; omega
  rw [h1, h2]
  simp only [Bool.true_and]
  congr 1
  simp only [decide_eq_decide]
  omega
theorem conF_nat {h : Ob} (hL : LW h) {w k : Nat} (hw : w < 11) (hk : (k : Int) < h 2 w) : conF h (w : Int) (k : Int) = h 3 (60 * w + k) ∧ ∀ v, scoO h (w : Int) (k : Int) v = xset h 3 (60 * w + k) v := by
  have hz := hL.2.2.2.1 w hw
  have hx : xw (k : Int) = k := xw_nat (by omega)
  have hi : iscon h (w : Int) (k : Int) = true := by
    rw [iscon_nat hL hw hx]
    unfold inn
    simp
    omega
  have e : (xw (w : Int) * 60 + xw (k : Int)).toNat = 60 * w + k := by
    rw [hx, xw_nat (by omega)]
    omega
  refine ⟨?_, fun v => ?_⟩
  · unfold conF
    rw [if_pos hi, e]
  · unfold scoO
    rw [if_pos hi, e]
theorem conF_none {h : Ob} {w k : Int} (hi : iscon h w k = false) : conF h w k = 0 := by
  unfold conF
  rw [hi]
  rfl
theorem inn_cases {k n : Int} : inn k 0 (n - 1) = false ∨ ∃ j : Nat, k = (j : Int) ∧ (j : Int) < n ∧ inn k 0 (n - 1) = true := by
  cases h : inn k 0 (n - 1) with
  | false => exact Or.inl rfl
  | true =>
    unfold inn at h
    simp only [Bool.and_eq_true, decide_eq_true_eq] at h
    exact Or.inr ⟨k.toNat, by omega, by omega, rfl⟩
theorem ixc {i k : Nat} (hi : i < 11) (hk : k < 60) : xin (75 + 60 * (i : Int) + (k : Int)) 735 = true ∧ (xw (75 + 60 * (i : Int) + (k : Int))).toNat = 75 + 60 * i + k := by
  have e : xw (75 + 60 * (i : Int) + (k : Int)) = 75 + 60 * (i : Int) + (k : Int) := xw_id (by omega) (by omega)
  exact ⟨xin_of (by rw [e]; omega) (by rw [e]; omega), by rw [e]; omega⟩
theorem e_put (T : Int) (hT0 : 0 ≤ T) (hT : T ≤ 600) (p1 : Int) (hp1 : xw p1 = p1) (p2 : Int) (hp2 : xw p2 = p2) (p3 : Int) (hp3 : xw p3 = p3) (h0 h1 h2 h3 h4 h5 h6 h7 h8 h9 h10 h11 h12 h13 h14 h15 h16 h17 h18 h19 h20 h21 h22 h23 h24 m : Ob) (hI : INV T h1 h3 [h4, h5, h6, h7, h8, h9, h10, h11, h12, h13, h14, h15, h16] m) : Same (T + 1) (md_X7_put_0 p1 p2 p3 h0 h2 h17 h18 h19 h20 h21 h22 h23 h24 (h1, h3, h4, h5, h6, h7, h8, h9, h10, h11, h12, h13, h14, h15, h16)) (md_X8_put_0 p1 p2 p3 m) := by
  have hI0 := hI
  obtain ⟨i1, i2, i3⟩ := hI
  simp only [md_X7_put_0, mg_X7_put_0, md_X8_put_0, mg_X8_put_0, bz_0, ks_e, oqV_t, oqO_V, if_true, ks_1]
  rcases hdl_cases hp1 with hf | ⟨i, hi, rfl⟩
  · rw [ful_f hf, fulM_f hf]
    exact ⟨_, _, _, rfl, rfl, hI0.mono (by omega)⟩
  · rw [i2.fulq i1.1 hi]
    cases hu : ful h1 (i : Int)
    · exact ⟨_, _, _, rfl, rfl, hI0.mono (by omega)⟩
    · have hf := (i1.1.fu hi).mp hu
      obtain ⟨u1, u2, u3, u4⟩ := i2.use hi hf
      have hz := i1.1.2.2.2.1 i (by omega)
      obtain ⟨x1, x2⟩ := ixn (c := 21) 21 rfl (by decide) hi
      have hx : xlr p2 = true := by rw [← hp2]; exact xlr_xw
      simp only [x1, x2, u4, hp2, hx, xlr_s (p := 0) (by decide) (by decide), xw_id (x := h1 2 i - 1) (by omega) (by omega), xlr_s (p := h1 2 i - 1) (by omega) (by omega), Bool.and_self, if_true, Bool.true_eq_false, if_false, iscon_nat i1.1 (show i < 11 by omega) hp2]
      rcases inn_cases (k := p2) (n := h1 2 i) with hn | ⟨k, rfl, hk, hn⟩
      · rw [hn]
        exact ⟨_, _, _, rfl, rfl, hI0.mono (by omega)⟩
      · rw [hn]
        obtain ⟨y1, y2⟩ := ixc (i := i) (k := k) (by omega) (by omega)
        obtain ⟨c1, c2⟩ := Ch_cont (w := i) (k := k) (by omega) i1 i2 hk (v := p3)
        obtain ⟨m2, m3, a, b, c, d⟩ := act_i (m1 := xset (ksO m) 1 (75 + 60 * i + k) p3) hi hI0 c1 (by rw [xs1]; exact c2) (fun k hk => ks_2 m hk) rfl rfl
        obtain ⟨f1, f2⟩ := conF_nat i1.1 (w := i) (k := k) (by omega) hk
        simp only [y1, y2, f1, f2, a, b, oqV_t, oqO_V, if_true, pd_t i3.1, Bool.true_eq_false, if_false, i2.2.2.2 i (by omega) hf k hk]
        exact ⟨_, _, _, rfl, rfl, d⟩
theorem e_set (T : Int) (hT0 : 0 ≤ T) (hT : T ≤ 600) (p1 : Int) (hp1 : xw p1 = p1) (p2 : Int) (hp2 : xw p2 = p2) (p3 : Int) (hp3 : xw p3 = p3) (h0 h1 h2 h3 h4 h5 h6 h7 h8 h9 h10 h11 h12 h13 h14 h15 h16 h17 h18 h19 h20 h21 h22 h23 h24 m : Ob) (hI : INV T h1 h3 [h4, h5, h6, h7, h8, h9, h10, h11, h12, h13, h14, h15, h16] m) : Same (T + 1) (md_X7_set_0 p1 p2 p3 h0 h2 h17 h18 h19 h20 h21 h22 h23 h24 (h1, h3, h4, h5, h6, h7, h8, h9, h10, h11, h12, h13, h14, h15, h16)) (md_X8_set_0 p1 p2 p3 m) := by
  have hI0 := hI
  obtain ⟨i1, i2, i3⟩ := hI
  simp only [md_X7_set_0, mg_X7_set_0, md_X8_set_0, mg_X8_set_0, bz_0, ks_e, oqV_t, oqO_V, if_true, ks_1]
  rcases ptr_cases hp1 with hf | ⟨p, hp, rfl⟩
  · rw [isl_f hf, islM_f hf]
    exact ⟨_, _, _, rfl, rfl, hI0.mono (by omega)⟩
  · rw [i2.islq i1.1 hp, isl_nat i1.1 hp]
    cases hu : decide (h1 1 (8 + p) ≠ -1)
    · exact ⟨_, _, _, rfl, rfl, hI0.mono (by omega)⟩
    · have hf : h1 1 (8 + p) ≠ -1 := of_decide_eq_true hu
      have hz := i1.1.2.2.2.1 (8 + p) (by omega)
      rcases i2.2.2.1 p hp with ⟨u1, u2⟩ | ⟨u1, u2, u3⟩
      · exact absurd u1 hf
      obtain ⟨x1, x2⟩ := ixn (c := 69) 69 rfl (by decide) (show p < 8 by omega)
      have hx : xlr p2 = true := by rw [← hp2]; exact xlr_xw
      have e8 : 8 + (p : Int) = ((8 + p : Nat) : Int) := by omega
      simp only [e8, x1, x2, u2, hp2, hx, xlr_s (p := 0) (by decide) (by decide), xw_id (x := h1 2 (8 + p) - 1) (by omega) (by omega), xlr_s (p := h1 2 (8 + p) - 1) (by omega) (by omega), Bool.and_self, if_true, Bool.true_eq_false, if_false, iscon_nat i1.1 (show 8 + p < 11 by omega) hp2]
      rcases inn_cases (k := p2) (n := h1 2 (8 + p)) with hn | ⟨k, rfl, hk, hn⟩
      · rw [hn]
        exact ⟨_, _, _, rfl, rfl, hI0.mono (by omega)⟩
      · rw [hn]
        obtain ⟨y1, y2⟩ := ixc (i := 8 + p) (k := k) (by omega) (by omega)
        obtain ⟨c1, c2⟩ := Ch_cont (w := 8 + p) (k := k) (by omega) i1 i2 hk (v := p3)
        obtain ⟨m2, a, c, d⟩ := act_n (m1 := xset (ksO m) 1 (75 + 60 * (8 + p) + k) p3) hI0 c1 (by rw [xs1]; exact c2) (fun k hk => ks_2 m hk) rfl rfl
        obtain ⟨f1, f2⟩ := conF_nat i1.1 (w := 8 + p) (k := k) (by omega) hk
        simp only [y1, y2, f1, f2, a, oqV_t, oqO_V, if_true, pd_t i3.1, Bool.true_eq_false, if_false, i2.2.2.2 (8 + p) (by omega) hf k hk]
        exact ⟨_, _, _, rfl, rfl, d⟩
theorem e_get (T : Int) (hT0 : 0 ≤ T) (hT : T ≤ 600) (p1 : Int) (hp1 : xw p1 = p1) (p2 : Int) (hp2 : xw p2 = p2) (h0 h1 h2 h3 h4 h5 h6 h7 h8 h9 h10 h11 h12 h13 h14 h15 h16 h17 h18 h19 h20 h21 h22 h23 h24 m : Ob) (hI : INV T h1 h3 [h4, h5, h6, h7, h8, h9, h10, h11, h12, h13, h14, h15, h16] m) : Same (T + 1) (md_X7_get_0 p1 p2 h0 h1 h2 h3 h4 h5 h6 h7 h8 h9 h10 h11 h12 h13 h14 h15 h16 h17 h18 h19 h20 h21 h22 h23 h24 ()) (md_X8_get_0 p1 p2 m ()) := by
  have hI0 := hI
  obtain ⟨i1, i2, i3⟩ := hI
  simp only [md_X7_get_0, mg_X7_get_0, md_X8_get_0, mg_X8_get_0, bz_0]
  rcases hdl_cases hp1 with hf | ⟨i, hi, rfl⟩
  · rw [ful_f hf, fulM_f hf]
    exact ⟨_, _, _, rfl, rfl, hI0.mono (by omega)⟩
  · rw [i2.fulq i1.1 hi]
    cases hu : ful h1 (i : Int)
    · exact ⟨_, _, _, rfl, rfl, hI0.mono (by omega)⟩
    · have hf := (i1.1.fu hi).mp hu
      obtain ⟨u1, u2, u3, u4⟩ := i2.use hi hf
      have hz := i1.1.2.2.2.1 i (by omega)
      obtain ⟨x1, x2⟩ := ixn (c := 21) 21 rfl (by decide) hi
      have hx : xlr p2 = true := by rw [← hp2]; exact xlr_xw
      have hs := iscon_nat i1.1 (show i < 11 by omega) hp2
      simp only [x1, x2, u4, hp2, hx, xlr_s (p := 0) (by decide) (by decide), xw_id (x := h1 2 i - 1) (by omega) (by omega), xlr_s (p := h1 2 i - 1) (by omega) (by omega), Bool.and_self, if_true, Bool.true_eq_false, if_false]
      rcases inn_cases (k := p2) (n := h1 2 i) with hn | ⟨k, rfl, hk, hn⟩
      · rw [hn, conF_none (hs.trans hn)]
        exact ⟨_, _, _, rfl, rfl, hI0.mono (by omega)⟩
      · rw [hn]
        obtain ⟨y1, y2⟩ := ixc (i := i) (k := k) (by omega) (by omega)
        obtain ⟨f1, f2⟩ := conF_nat i1.1 (w := i) (k := k) (by omega) hk
        simp only [y1, y2, f1, if_true, Bool.true_eq_false, if_false, i2.2.2.2 i (by omega) hf k hk]
        exact ⟨_, _, _, rfl, rfl, hI0.mono (by omega)⟩
theorem e_pointer (T : Int) (hT0 : 0 ≤ T) (hT : T ≤ 600) (p1 : Int) (hp1 : xw p1 = p1) (p2 : Int) (hp2 : xw p2 = p2) (h0 h1 h2 h3 h4 h5 h6 h7 h8 h9 h10 h11 h12 h13 h14 h15 h16 h17 h18 h19 h20 h21 h22 h23 h24 m : Ob) (hI : INV T h1 h3 [h4, h5, h6, h7, h8, h9, h10, h11, h12, h13, h14, h15, h16] m) : Same (T + 1) (md_X7_pointer_0 p1 p2 h0 h1 h2 h3 h4 h5 h6 h7 h8 h9 h10 h11 h12 h13 h14 h15 h16 h17 h18 h19 h20 h21 h22 h23 h24 ()) (md_X8_pointer_0 p1 p2 m ()) := by
  have hI0 := hI
  obtain ⟨i1, i2, i3⟩ := hI
  simp only [md_X7_pointer_0, mg_X7_pointer_0, md_X8_pointer_0, mg_X8_pointer_0, bz_0]
  rcases ptr_cases hp1 with hf | ⟨p, hp, rfl⟩
  · rw [isl_f hf, islM_f hf]
    exact ⟨_, _, _, rfl, rfl, hI0.mono (by omega)⟩
  · rw [i2.islq i1.1 hp, isl_nat i1.1 hp]
    cases hu : decide (h1 1 (8 + p) ≠ -1)
    · exact ⟨_, _, _, rfl, rfl, hI0.mono (by omega)⟩
    · have hf : h1 1 (8 + p) ≠ -1 := of_decide_eq_true hu
      rcases i2.2.2.1 p hp with ⟨u1, u2⟩ | ⟨u1, u2, u3⟩
      · exact absurd u1 hf
      obtain ⟨x1, x2⟩ := ixn (c := 69) 69 rfl (by decide) (show p < 8 by omega)
      obtain ⟨x3, x4⟩ := ixn (c := 72) 72 rfl (by decide) (show p < 8 by omega)
      have hx : xlr p2 = true := by rw [← hp2]; exact xlr_xw
      have e1 : xw (8 + (p : Int)) = ((8 + p : Nat) : Int) := by rw [xw_id (by omega) (by omega)]; omega
      simp only [x1, x2, x3, x4, u2, u3, hp2, hx, xlr_s (p := 0) (by decide) (by decide), xlr_s (p := 1) (by decide) (by decide), Bool.and_self, if_true, Bool.true_eq_false, if_false, xin_of (i := 8 + (p : Int)) (n := 11) (by rw [e1]; omega) (by rw [e1]; omega), e1, toNat_nat]
      by_cases b0 : p2 = 0
      · subst b0
        exact ⟨_, _, _, rfl, rfl, hI0.mono (by omega)⟩
      · by_cases b1 : p2 = 1
        · subst b1
          exact ⟨_, _, _, rfl, rfl, hI0.mono (by omega)⟩
        · have : inn p2 0 1 = false := by unfold inn; simp; omega
          rw [this, if_neg b0, if_neg b1]
          exact ⟨_, _, _, rfl, rfl, hI0.mono (by omega)⟩
theorem wr_eq {T : Int} {h m : Ob} (hH : HI T h) (hR : Rel h (m 1)) {i : Nat} (hi : i < 8) (hu : inS (h 0 7) (i : Int) = true) : wrM m (i : Int) = wrt h (i : Int) ∧ (hdl (i : Int) = true ∧ (xw (m 1 2) = 2 → xw (m 1 (21 + (xw (i : Int)).toNat)) ≠ 0)) := by
  obtain ⟨w1, w2, w3, w4, w5⟩ := (hR.2.1 i hi).2.2 hu
  obtain ⟨y1, y2, y3, y4⟩ := (hH.2.1 i hi).1 hu
  have hz := hH.1.2.2.2.1 i (by omega)
  have e2 : m 1 2 = h 0 12 := hR.1.2.2.1
  refine ⟨?_, hdl_nat hi, fun _ => ?_⟩
  · rw [wrt_e]
    unfold wrM wrtI
    rw [hdl_nat hi, if_pos rfl, xw_nat (by omega), toNat_nat, e2, w1, w3, w5]
    have e : xmax 1 (h 2 i) = h 2 i := by
      unfold xmax
      rw [xw1, xw_id (by omega) (by omega)]
      split
      · rfl
      · omega
    rw [e]
  · rw [xw_nat (by omega), toNat_nat, w1, xw_id (by omega) (by omega)]
    omega
theorem e_handle (T : Int) (hT0 : 0 ≤ T) (hT : T ≤ 600) (p1 : Int) (hp1 : xw p1 = p1) (p2 : Int) (hp2 : xw p2 = p2) (h0 h1 h2 h3 h4 h5 h6 h7 h8 h9 h10 h11 h12 h13 h14 h15 h16 h17 h18 h19 h20 h21 h22 h23 h24 m : Ob) (hI : INV T h1 h3 [h4, h5, h6, h7, h8, h9, h10, h11, h12, h13, h14, h15, h16] m) : Same (T + 1) (md_X7_handle_0 p1 p2 h0 h1 h2 h3 h4 h5 h6 h7 h8 h9 h10 h11 h12 h13 h14 h15 h16 h17 h18 h19 h20 h21 h22 h23 h24 ()) (md_X8_handle_0 p1 p2 m ()) := by
  have hI0 := hI
  obtain ⟨i1, i2, i3⟩ := hI
  have hx : xlr p2 = true := by rw [← hp2]; exact xlr_xw
  simp only [md_X7_handle_0, mg_X7_handle_0, md_X7_handle_20, mg_X7_handle_20, md_X8_handle_0, mg_X8_handle_0, bz_0, hp2, hx, xlr_s (p := 0) (by decide) (by decide), xlr_s (p := 8) (by decide) (by decide), Bool.and_self, if_true]
  rcases hdl_cases hp1 with hf | ⟨i, hi, rfl⟩
  · rw [hf, inS_f hf]
    simp only [if_true, if_pos]
    split <;> exact ⟨_, _, _, rfl, rfl, hI0.mono (by omega)⟩
  · obtain ⟨x1, x2⟩ := ixn (c := 5) 5 rfl (by decide) hi
    obtain ⟨x3, x4⟩ := ixn (c := 13) 13 rfl (by decide) hi
    obtain ⟨x5, x6⟩ := ixn (c := 21) 21 rfl (by decide) hi
    obtain ⟨x7, x8⟩ := ixn (c := 29) 29 rfl (by decide) hi
    obtain ⟨x9, x10⟩ := ixn (c := 37) 37 rfl (by decide) hi
    obtain ⟨x11, x12⟩ := ixn (c := 45) 45 rfl (by decide) hi
    obtain ⟨x13, x14⟩ := ixn (c := 53) 53 rfl (by decide) hi
    obtain ⟨x15, x16⟩ := ixn (c := 61) 61 rfl (by decide) hi
    simp only [hdl_nat hi, x1, x2, x3, x4, x5, x6, x7, x8, x9, x10, x11, x12, x13, x14, x15, x16, xin_nat hi (show 8 ≤ 2147483648 by omega), xin_nat (show i < 11 by omega) (show 11 ≤ 2147483648 by omega), xw_nat (show i < 2147483648 by omega), toNat_nat, if_true, Bool.true_eq_false, if_false, i2.thrq hi, i2.fulq i1.1 hi]
    by_cases b0 : p2 = 0
    · subst b0
      have hk : m 1 (5 + i) = knd h1 (i : Int) := by
        unfold knd
        rcases (i2.2.1 i hi).1 with ⟨a, b, c⟩ | ⟨a, b, c, d⟩ | ⟨a, b, c⟩
        · rw [a, c]; rfl
        · rw [a, c, (i1.1.fu hi).mpr b]; rfl
        · have : ful h1 (i : Int) = false := by
            cases hq : ful h1 (i : Int) with
            | false => rfl
            | true => exact absurd b ((i1.1.fu hi).mp hq)
          rw [a, c, this]; rfl
      rw [hk]
      exact ⟨_, _, _, rfl, rfl, hI0.mono (by omega)⟩
    · rw [if_neg b0]
      by_cases hin : inn p2 0 8 = false
      · rw [if_pos hin]
        have hne : ¬ (0 ≤ p2 ∧ p2 ≤ 8) := by
          unfold inn at hin
          simp at hin
          omega
        cases hu : inS (h1 0 7) (i : Int)
        · exact ⟨_, _, _, rfl, rfl, hI0.mono (by omega)⟩
        · rw [if_neg (by simp), if_neg (by omega), if_neg (by omega), if_neg (by omega), if_neg (by omega), if_neg (by omega), if_neg (by omega), if_neg (by omega), if_neg (by omega)]
          exact ⟨_, _, _, rfl, rfl, hI0.mono (by omega)⟩
      · rw [if_neg hin, if_neg b0]
        have hin2 : 0 ≤ p2 ∧ p2 ≤ 8 := by
          unfold inn at hin
          simp at hin
          omega
        cases hu : inS (h1 0 7) (i : Int)
        · exact ⟨_, _, _, rfl, rfl, hI0.mono (by omega)⟩
        · obtain ⟨w1, w2, w3, w4, w5⟩ := (i2.2.1 i hi).2.2 hu
          obtain ⟨v1, v2⟩ := wr_eq i1 i2 hi hu
          rw [xw_nat (show i < 2147483648 by omega), toNat_nat] at v2
          have wl := (i2.2.1 i hi).2.1
          simp only [w1, w2, w3, w4, w5, wl, v1, Bool.true_eq_false, if_false]
          have hc : p2 = 1 ∨ p2 = 2 ∨ p2 = 3 ∨ p2 = 4 ∨ p2 = 5 ∨ p2 = 6 ∨ p2 = 7 ∨ p2 = 8 := by omega
          rcases hc with rfl | rfl | rfl | rfl | rfl | rfl | rfl | rfl
          · rcases (i2.2.1 i hi).1 with ⟨a, b, c⟩ | ⟨a, b, c, d⟩ | ⟨a, b, c⟩
            · rw [a] at hu; cases hu
            · rw [(i1.1.fu hi).mpr b, d]
              exact ⟨_, _, _, rfl, rfl, hI0.mono (by omega)⟩
            · have : ful h1 (i : Int) = false := by
                cases hq : ful h1 (i : Int) with
                | false => rfl
                | true => exact absurd b ((i1.1.fu hi).mp hq)
              rw [this, b]
              exact ⟨_, _, _, rfl, rfl, hI0.mono (by omega)⟩
          · exact ⟨_, _, _, rfl, rfl, hI0.mono (by omega)⟩
          · exact ⟨_, _, _, rfl, rfl, hI0.mono (by omega)⟩
          · cases inS (h1 0 8) (i : Int) <;> exact ⟨_, _, _, rfl, rfl, hI0.mono (by omega)⟩
          · exact ⟨_, _, _, rfl, rfl, hI0.mono (by omega)⟩
          · exact ⟨_, _, _, rfl, rfl, hI0.mono (by omega)⟩
          · have hp := pd_t (p := True ∧ (xw (m 1 2) = 2 → xw (m 1 (21 + i)) ≠ 0)) ⟨trivial, v2.2⟩
            refine ⟨wrt h1 (i : Int), _, m, rfl, ?_, hI0.mono (by omega)⟩
            have h7 : ∀ c : Prop, [Decidable c] → c → ∀ x y : Option Rt, (if c then x else y) = x := fun c _ hc x y => if_pos hc
            show (if pd _ = true then RI (wrt h1 (i : Int)) [m] else none) = _
            refine if_pos (pd_t ?_)
            first | exact v2 | exact ⟨trivial, v2.2⟩ | exact v2.2 | (have := v2.2; simpa [w1] using this)
          · exact ⟨_, _, _, rfl, rfl, hI0.mono (by omega)⟩
