theorem bz_1 (b : Bool) : (xw (bz b) = 1) = (b = true) := by cases b <;> simp [bz, xw0, xw1]
theorem xw10 : (xw 1 = 0) = False := by simp [xw1]
theorem xlr_xw {p : Int} : xlr (xw p) = true := by
  unfold xlr
  rw [xw_def]
  simp only [Bool.and_eq_true, decide_eq_true_eq]
  omega
theorem xlr_s {p : Int} (h1 : -4294967296 ≤ p) (h2 : p ≤ 4294967296) : xlr p = true := by
  unfold xlr
  simp [h1, h2]
theorem islM_f {g : Ob} {p : Int} (h : ¬ (0 ≤ xw p ∧ xw p < 3)) : islM g p = false := by
  unfold islM
  by_cases h1 : 0 ≤ xw p
  · have : ¬ xw p < 3 := fun z => h ⟨h1, z⟩
    simp [this]
  · simp [h1]
theorem isl_f {g : Ob} {p : Int} (h : ¬ (0 ≤ xw p ∧ xw p < 3)) : isl g p = false := by
  unfold isl
  by_cases h1 : 0 ≤ xw p
  · have : ¬ xw p < 3 := fun z => h ⟨h1, z⟩
    simp [this]
  · simp [h1]
theorem isl_nat {h : Ob} (hL : LW h) {p : Nat} (hp : p < 3) : isl h (p : Int) = decide (h 1 (8 + p) ≠ -1) := by
  unfold isl
  have e1 : xw (8 + (p : Int)) = ((8 + p : Nat) : Int) := by rw [xw_id (by omega) (by omega)]; omega
  rw [xw_nat (by omega), e1, toNat_nat, hL.xpl (by omega)]
  have h3 : ((p : Int) < 3) := by omega
  simp [h3]
theorem ptr_cases {p : Int} (hp : xw p = p) : ¬ (0 ≤ xw p ∧ xw p < 3) ∨ ∃ i : Nat, i < 3 ∧ p = (i : Int) := by
  by_cases h : 0 ≤ xw p ∧ xw p < 3
  · exact Or.inr ⟨p.toNat, by omega, by omega⟩
  · exact Or.inl h
theorem e_mark (T : Int) (hT0 : 0 ≤ T) (hT : T ≤ 600) (p1 : Int) (hp1 : xw p1 = p1) (p2 : Int) (hp2 : p2 = 0 ∨ p2 = 1) (h0 h1 h2 h3 h4 h5 h6 h7 h8 h9 h10 h11 h12 h13 h14 h15 h16 h17 h18 h19 h20 h21 h22 h23 h24 m : Ob) (hI : INV T h1 h3 [h4, h5, h6, h7, h8, h9, h10, h11, h12, h13, h14, h15, h16] m) : Same (T + 1) (md_X7_mark_0 p1 p2 h0 h2 h17 h18 h19 h20 h21 h22 h23 h24 (h1, h3, h4, h5, h6, h7, h8, h9, h10, h11, h12, h13, h14, h15, h16)) (md_X8_mark_0 p1 p2 m) := by
  have hI0 := hI
  obtain ⟨i1, i2, i3⟩ := hI
  simp only [md_X7_mark_0, mg_X7_mark_0, md_X8_mark_0, mg_X8_mark_0, md_X8_mark_26, mg_X8_mark_26, md_X8_mark_52, mg_X8_mark_52, bz_0, ks_e, oqV_t, oqO_V, if_true]
  rcases hdl_cases hp1 with hf | ⟨i, hi, rfl⟩
  · rw [inS_f hf, thrM_f hf]
    exact ⟨_, _, _, rfl, rfl, hI0.mono (by omega)⟩
  · rw [i2.thrq hi]
    cases hu : inS (h1 0 7) (i : Int)
    · exact ⟨_, _, _, rfl, rfl, hI0.mono (by omega)⟩
    · obtain ⟨x1, x2⟩ := ixn (c := 53) 53 rfl (by decide) hi
      have hq := ((i2.2.1 i hi).2.2 hu).2.2.2.1
      obtain ⟨c1, c2⟩ := Ch_mark hi i1 i2
      obtain ⟨m2, a, c, d⟩ := act_n (m1 := xset (ksO m) 1 (53 + i) (bz (!inS (h1 0 8) (i : Int)))) hI0 c1 (by rw [xs1]; exact c2) (fun k hk => ks_2 m hk) rfl rfl
      simp only [x1, x2, hq, if_true, Bool.true_eq_false, if_false]
      rcases hp2 with rfl | rfl
      · cases hb : inS (h1 0 8) (i : Int)
        · exact ⟨_, _, _, rfl, rfl, hI0.mono (by omega)⟩
        · rw [hb] at a
          have a' : ov_X8_keepsAct (xset (ksO m) 1 (53 + i) 0) = RV [m2] := a
          simp only [xw0, bz_0, Bool.true_eq_false, if_false, if_true, pd_t i3.1, x1, x2, a', oqV_t, oqO_V]
          exact ⟨_, _, _, rfl, rfl, d⟩
      · cases hb : inS (h1 0 8) (i : Int)
        · rw [hb] at a
          have a' : ov_X8_keepsAct (xset (ksO m) 1 (53 + i) 1) = RV [m2] := a
          simp only [xw10, xw1, bz_1, Bool.false_eq_true, if_false, if_true, pd_t i3.1, x1, x2, a', oqV_t, oqO_V]
          exact ⟨_, _, _, rfl, rfl, d⟩
        · exact ⟨_, _, _, rfl, rfl, hI0.mono (by omega)⟩
theorem e_drop (T : Int) (hT0 : 0 ≤ T) (hT : T ≤ 600) (p1 : Int) (hp1 : xw p1 = p1) (h0 h1 h2 h3 h4 h5 h6 h7 h8 h9 h10 h11 h12 h13 h14 h15 h16 h17 h18 h19 h20 h21 h22 h23 h24 m : Ob) (hI : INV T h1 h3 [h4, h5, h6, h7, h8, h9, h10, h11, h12, h13, h14, h15, h16] m) : Same (T + 1) (md_X7_drop_0 p1 h0 h2 h17 h18 h19 h20 h21 h22 h23 h24 (h1, h3, h4, h5, h6, h7, h8, h9, h10, h11, h12, h13, h14, h15, h16)) (md_X8_drop_0 p1 m) := by
  have hI0 := hI
  obtain ⟨i1, i2, i3⟩ := hI
  simp only [md_X7_drop_0, mg_X7_drop_0, md_X8_drop_0, mg_X8_drop_0, bz_0, ks_e, oqV_t, oqO_V, if_true]
  rcases hdl_cases hp1 with hf | ⟨i, hi, rfl⟩
  · rw [inS_f hf, thrM_f hf]
    exact ⟨_, _, _, rfl, rfl, hI0.mono (by omega)⟩
  · rw [i2.thrq hi]
    cases hu : inS (h1 0 7) (i : Int)
    · exact ⟨_, _, _, rfl, rfl, hI0.mono (by omega)⟩
    · obtain ⟨x1, x2⟩ := ixn (c := 29) 29 rfl (by decide) hi
      obtain ⟨x3, x4⟩ := ixn (c := 5) 5 rfl (by decide) hi
      have hl := i1.1.2.2.2.2.2 i hi
      have hq := (i2.2.1 i hi).2.1
      simp only [x1, x2, x3, x4, hq, xin_nat hi (show 8 ≤ 2147483648 by omega), xin_nat (show i < 11 by omega) (show 11 ≤ 2147483648 by omega), xw_nat (show i < 2147483648 by omega), toNat_nat, xw_id (x := h1 4 i) (by omega) (by omega), if_true, Bool.true_eq_false, if_false]
      by_cases hz : h1 4 i ≤ 0
      · obtain ⟨c1, c2⟩ := Ch_drop hi i1 i2 (by omega)
        obtain ⟨m2, a, c, d⟩ := act_n (m1 := xset (ksO m) 1 (5 + i) 0) hI0 c1 (by rw [xs1]; exact c2) (fun k hk => ks_2 m hk) rfl rfl
        rw [if_pos hz, if_pos hz, if_pos (pd_t i3.1)]
        simp only [a, oqV_t, oqO_V, if_true]
        exact ⟨_, _, _, rfl, rfl, d⟩
      · rw [if_neg hz, if_neg hz]
        exact ⟨_, _, _, rfl, rfl, hI0.mono (by omega)⟩
theorem e_least (T : Int) (hT0 : 0 ≤ T) (hT : T ≤ 600) (p1 : Int) (hp1 : xw p1 = p1) (p2 : Int) (hp2 : xw p2 = p2) (h0 h1 h2 h3 h4 h5 h6 h7 h8 h9 h10 h11 h12 h13 h14 h15 h16 h17 h18 h19 h20 h21 h22 h23 h24 m : Ob) (hI : INV T h1 h3 [h4, h5, h6, h7, h8, h9, h10, h11, h12, h13, h14, h15, h16] m) : Same (T + 1) (md_X7_least_0 p1 p2 h0 h2 h17 h18 h19 h20 h21 h22 h23 h24 (h1, h3, h4, h5, h6, h7, h8, h9, h10, h11, h12, h13, h14, h15, h16)) (md_X8_least_0 p1 p2 m) := by
  have hI0 := hI
  obtain ⟨i1, i2, i3⟩ := hI
  simp only [md_X7_least_0, mg_X7_least_0, md_X8_least_0, mg_X8_least_0, bz_0, ks_e, oqV_t, oqO_V, if_true]
  rcases hdl_cases hp1 with hf | ⟨i, hi, rfl⟩
  · rw [ful_f hf, fulM_f hf]
    exact ⟨_, _, _, rfl, rfl, hI0.mono (by omega)⟩
  · rw [i2.fulq i1.1 hi]
    cases hu : ful h1 (i : Int)
    · exact ⟨_, _, _, rfl, rfl, hI0.mono (by omega)⟩
    · have hf := (i1.1.fu hi).mp hu
      obtain ⟨u1, u2, u3, u4⟩ := i2.use hi hf
      obtain ⟨w1, w2, w3, w4, w5⟩ := (i2.2.1 i hi).2.2 u1
      obtain ⟨y1, y2, y3, y4⟩ := (i1.2.1 i hi).1 u1
      have hz := i1.1.2.2.2.1 i (by omega)
      obtain ⟨x1, x2⟩ := ixn (c := 21) 21 rfl (by decide) hi
      obtain ⟨x3, x4⟩ := ixn (c := 37) 37 rfl (by decide) hi
      simp only [ks_1, x1, x2, x3, x4, w1, w2, xin_nat hi (show 8 ≤ 2147483648 by omega), xin_nat (show i < 11 by omega) (show 11 ≤ 2147483648 by omega), xw_nat (show i < 2147483648 by omega), toNat_nat, xw_id (x := h1 2 i) (by omega) (by omega), xw_id (x := h1 5 i) (by omega) (by omega), if_true, Bool.true_eq_false, if_false, xlr_xw, xlr_s (p := 1) (by decide) (by decide), xlr_s (p := h1 2 i) (by omega) (by omega), Bool.and_self, hp2]
      have hx : xlr p2 = true := by rw [← hp2]; exact xlr_xw
      simp only [hx, if_true]
      by_cases b1 : p2 < 1
      · have : inn p2 1 (h1 2 i) = false := by unfold inn; simp; omega
        rw [if_pos b1, this]
        exact ⟨_, _, _, rfl, rfl, hI0.mono (by omega)⟩
      · by_cases b2 : p2 > h1 2 i
        · have : inn p2 1 (h1 2 i) = false := by unfold inn; simp; omega
          rw [if_neg b1, if_pos b2, this]
          exact ⟨_, _, _, rfl, rfl, hI0.mono (by omega)⟩
        · have : inn p2 1 (h1 2 i) = true := by unfold inn; simp; omega
          rw [if_neg b1, if_neg b2, this]
          simp only [Bool.true_eq_false, if_false, Bool.and_self, if_true]
          by_cases b3 : p2 = h1 5 i
          · rw [if_pos b3, if_pos b3.symm]
            exact ⟨_, _, _, rfl, rfl, hI0.mono (by omega)⟩
          · rw [if_neg b3, if_neg (show ¬ h1 5 i = p2 from fun z => b3 z.symm)]
            obtain ⟨c1, c2⟩ := Ch_least hi i1 i2 (v := p2) (by omega) (by omega)
            obtain ⟨m2, a, c, d⟩ := act_n (m1 := xset (ksO m) 1 (37 + i) p2) hI0 c1 (by rw [xs1]; exact c2) (fun k hk => ks_2 m hk) rfl rfl
            simp only [a, oqV_t, oqO_V, if_true, pd_t i3.1]
            exact ⟨_, _, _, rfl, rfl, d⟩
theorem e_purge (T : Int) (hT0 : 0 ≤ T) (hT : T ≤ 600) (p1 : Int) (hp1 : xw p1 = p1) (h0 h1 h2 h3 h4 h5 h6 h7 h8 h9 h10 h11 h12 h13 h14 h15 h16 h17 h18 h19 h20 h21 h22 h23 h24 m : Ob) (hI : INV T h1 h3 [h4, h5, h6, h7, h8, h9, h10, h11, h12, h13, h14, h15, h16] m) : Same (T + 1) (md_X7_purge_0 p1 h0 h2 h17 h18 h19 h20 h21 h22 h23 h24 (h1, h3, h4, h5, h6, h7, h8, h9, h10, h11, h12, h13, h14, h15, h16)) (md_X8_purge_0 p1 m) := by
  have hI0 := hI
  obtain ⟨i1, i2, i3⟩ := hI
  simp only [md_X7_purge_0, mg_X7_purge_0, md_X8_purge_0, mg_X8_purge_0, bz_0, ks_e, oqV_t, oqO_V, if_true]
  rcases hdl_cases hp1 with hf | ⟨i, hi, rfl⟩
  · have e1 : mov h1 p1 = false := by unfold mov; rw [ful_f hf]; rfl
    have e2 : cgoM m p1 = false := by unfold cgoM looM; rw [fulM_f hf]; rfl
    rw [e1, e2]
    exact ⟨_, _, _, rfl, rfl, hI0.mono (by omega)⟩
  · have e2 : cgoM m (i : Int) = (mov h1 (i : Int) && inS (h1 0 8) (i : Int)) := by
      unfold cgoM
      rw [i2.looq i1.1 hi]
      cases hm : mov h1 (i : Int) with
      | false => rfl
      | true =>
        have hf := mov_full i1.1 hi hm
        obtain ⟨u1, -⟩ := i2.use hi hf
        rw [xw_nat (by omega), toNat_nat, ((i2.2.1 i hi).2.2 u1).2.2.2.1]
        cases inS (h1 0 8) (i : Int) <;> rfl
    rw [e2]
    cases hm : mov h1 (i : Int)
    · exact ⟨_, _, _, rfl, rfl, hI0.mono (by omega)⟩
    · cases hb : inS (h1 0 8) (i : Int)
      · exact ⟨_, _, _, rfl, rfl, hI0.mono (by omega)⟩
      · have hf := mov_full i1.1 hi hm
        obtain ⟨u1, -⟩ := i2.use hi hf
        have hl : h1 4 i = 0 := by
          unfold mov at hm
          rw [Bool.and_eq_true, xw_nat (by omega), toNat_nat] at hm
          have := i1.1.2.2.2.2.2 i hi
          have h2 := of_decide_eq_true hm.2
          rwa [xw_id (by omega) (by omega)] at h2
        obtain ⟨x3, x4⟩ := ixn (c := 5) 5 rfl (by decide) hi
        obtain ⟨c1, c2⟩ := Ch_purge hi i1 i2 u1 hl
        obtain ⟨m2, a, c, d⟩ := act_n (m1 := xset (ksO m) 1 (5 + i) 2) hI0 c1 (by rw [xs1]; exact c2) (fun k hk => ks_2 m hk) rfl rfl
        have he : ov_X8_empties (i : Int) (ksO m) = RV [xset (ksO m) 1 (5 + i) 2] := by
          rw [ov_X8_empties_e]
          simp only [md_X8_empties_0, mg_X8_empties_0, x3, x4, if_true]
        simp only [he, a, oqV_t, oqO_V, if_true, pd_t i3.1, Bool.true_eq_false, if_false, Bool.and_self, xin_nat (show i < 11 by omega) (show 11 ≤ 2147483648 by omega), xw_nat (show i < 2147483648 by omega), toNat_nat]
        exact ⟨_, _, _, rfl, rfl, d⟩
theorem e_policy (T : Int) (hT0 : 0 ≤ T) (hT : T ≤ 600) (p1 : Int) (hp1 : xw p1 = p1) (h0 h1 h2 h3 h4 h5 h6 h7 h8 h9 h10 h11 h12 h13 h14 h15 h16 h17 h18 h19 h20 h21 h22 h23 h24 m : Ob) (hI : INV T h1 h3 [h4, h5, h6, h7, h8, h9, h10, h11, h12, h13, h14, h15, h16] m) : Same (T + 1) (md_X7_policy_0 p1 h0 h2 h17 h18 h19 h20 h21 h22 h23 h24 (h1, h3, h4, h5, h6, h7, h8, h9, h10, h11, h12, h13, h14, h15, h16)) (md_X8_policy_0 p1 m) := by
  have hI0 := hI
  obtain ⟨i1, i2, i3⟩ := hI
  have hx : xlr p1 = true := by rw [← hp1]; exact xlr_xw
  have e2 : m 1 2 = h1 0 12 := i2.1.2.2.1
  have hpo := i1.2.2.2.2.1
  simp only [md_X7_policy_0, mg_X7_policy_0, md_X8_policy_0, mg_X8_policy_0, bz_0, ks_e, oqV_t, oqO_V, if_true, hp1, hx, xlr_s (p := 0) (by decide) (by decide), xlr_s (p := 4) (by decide) (by decide), Bool.and_self, ks_1, e2, xw_id (x := h1 0 12) (by omega) (by omega)]
  by_cases b1 : p1 < 0
  · have : inn p1 0 4 = false := by unfold inn; simp; omega
    rw [if_pos b1, this]
    exact ⟨_, _, _, rfl, rfl, hI0.mono (by omega)⟩
  · by_cases b2 : p1 > 4
    · have : inn p1 0 4 = false := by unfold inn; simp; omega
      rw [if_neg b1, if_pos b2, this]
      exact ⟨_, _, _, rfl, rfl, hI0.mono (by omega)⟩
    · have : inn p1 0 4 = true := by unfold inn; simp; omega
      rw [if_neg b1, if_neg b2, this]
      simp only [Bool.true_eq_false, if_false]
      by_cases b3 : p1 = h1 0 12
      · rw [if_pos b3, if_pos b3.symm]
        exact ⟨_, _, _, rfl, rfl, hI0.mono (by omega)⟩
      · rw [if_neg b3, if_neg (show ¬ h1 0 12 = p1 from fun z => b3 z.symm)]
        obtain ⟨c1, c2⟩ := Ch_policy i1 i2 (v := p1) (by omega) (by omega)
        obtain ⟨m2, a, c, d⟩ := act_n (m1 := xset (ksO m) 1 2 p1) hI0 c1 (by rw [xs1]; exact c2) (fun k hk => ks_2 m hk) rfl rfl
        simp only [a, oqV_t, oqO_V, if_true, pd_t i3.1]
        exact ⟨_, _, _, rfl, rfl, d⟩
theorem e_unfix (T : Int) (hT0 : 0 ≤ T) (hT : T ≤ 600) (p1 : Int) (hp1 : xw p1 = p1) (h0 h1 h2 h3 h4 h5 h6 h7 h8 h9 h10 h11 h12 h13 h14 h15 h16 h17 h18 h19 h20 h21 h22 h23 h24 m : Ob) (hI : INV T h1 h3 [h4, h5, h6, h7, h8, h9, h10, h11, h12, h13, h14, h15, h16] m) : Same (T + 1) (md_X7_unfix_0 p1 h0 h2 h17 h18 h19 h20 h21 h22 h23 h24 (h1, h3, h4, h5, h6, h7, h8, h9, h10, h11, h12, h13, h14, h15, h16)) (md_X8_unfix_0 p1 m) := by
  have hI0 := hI
  obtain ⟨i1, i2, i3⟩ := hI
  simp only [md_X7_unfix_0, mg_X7_unfix_0, md_X8_unfix_0, mg_X8_unfix_0, bz_0, ks_e, oqV_t, oqO_V, if_true]
  rcases ptr_cases hp1 with hf | ⟨p, hp, rfl⟩
  · rw [isl_f hf, islM_f hf]
    exact ⟨_, _, _, rfl, rfl, hI0.mono (by omega)⟩
  · rw [i2.islq i1.1 hp, isl_nat i1.1 hp]
    cases hu : decide (h1 1 (8 + p) ≠ -1)
    · exact ⟨_, _, _, rfl, rfl, hI0.mono (by omega)⟩
    · obtain ⟨x3, x4⟩ := ixn (c := 69) 69 rfl (by decide) (show p < 8 by omega)
      have e1 : xw (8 + (p : Int)) = ((8 + p : Nat) : Int) := by rw [xw_id (by omega) (by omega)]; omega
      obtain ⟨c1, c2⟩ := Ch_unfix hp i1 i2
      obtain ⟨m2, a, c, d⟩ := act_n (m1 := xset (ksO m) 1 (69 + p) 0) hI0 c1 (by rw [xs1]; exact c2) (fun k hk => ks_2 m hk) rfl rfl
      simp only [Bool.true_eq_false, if_false, xin_of (i := 8 + (p : Int)) (n := 11) (by rw [e1]; omega) (by rw [e1]; omega), e1, toNat_nat, x3, x4, a, oqV_t, oqO_V, if_true, pd_t i3.1]
      exact ⟨_, _, _, rfl, rfl, d⟩
