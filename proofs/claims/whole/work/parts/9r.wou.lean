theorem e_would (T : Int) (hT0 : 0 ≤ T) (hT : T ≤ 600) (p1 : Int) (hp1 : xw p1 = p1) (p2 : Int) (hp2 : xw p2 = p2) (h0 h1 h2 h3 h4 h5 h6 h7 h8 h9 h10 h11 h12 h13 h14 h15 h16 h17 h18 h19 h20 h21 h22 h23 h24 m : Ob) (hI : INV T h1 h3 [h4, h5, h6, h7, h8, h9, h10, h11, h12, h13, h14, h15, h16] m) : Same (T + 1) (md_X7_would_0 p1 p2 h0 h1 h3 h4 h5 h6 h7 h8 h9 h10 h11 h12 h13 h14 h15 h16 h17 h18 h23 h24 (h2, h19, h20, h21, h22)) (md_X8_would_0 p1 p2 m) := by
  have hI0 := hI
  obtain ⟨i1, i2, i3⟩ := hI
  have hL := i1.1
  have x1 : xlr p1 = true := by rw [← hp1]; exact xlr_xw
  have x2 : xlr p2 = true := by rw [← hp2]; exact xlr_xw
  by_cases a1 : 1 ≤ p1 ∧ p1 ≤ 199
  · have hin1 : inn p1 1 199 = true := by rw [inn_e]; exact decide_eq_true a1
    have hak : ask p1 = true := by rw [ask_e hp1]; exact decide_eq_true a1
    by_cases a2 : 0 ≤ p2 ∧ p2 ≤ 4
    · have hin2 : inn p2 0 4 = true := by rw [inn_e]; exact decide_eq_true a2
      have hHc : HI T (cpyO h2 h1) := HI_Sam (Sam_cpy _ _) i1
      have hRc : Rel (cpyO h2 h1) (ksO m 1) := Rel_Sam (Sam_cpy _ _) hL i2
      obtain ⟨m1, b1, b2⟩ := v_fits hHc (m := ksO m) hRc (n := p1 + 1) (by omega) (by omega) (Or.inl rfl) h19 h20 h21 h22
      have hlb : ov_X8_laysBack m1 = RV [lbO m1] := (ov_X8_laysBack_e m1).trans (r_laysBack xfu (xfu_ge (by decide)) m1)
      have hg := pd_t (p := LW (cpyO h2 h1) ∧ Lst (cpyO h2 h1) ∧ 1 ≤ p1 + 1 ∧ p1 + 1 ≤ 200) ⟨hHc.1, lst_of hHc hRc, by omega, by omega⟩
      simp only [md_X7_would_0, mg_X7_would_0, md_X8_would_0, mg_X8_would_0, bz_0, ks_e, oqV_t, oqO_V, if_true, hp1, hp2, x1, x2, xlr_s (p := 1) (by decide) (by decide), xlr_s (p := 199) (by decide) (by decide), xlr_s (p := 0) (by decide) (by decide), xlr_s (p := 4) (by decide) (by decide), Bool.and_self, hin1, hin2, hak, Bool.true_eq_false, if_false, b1, oqI_t, oqR_I, oqO_I, hlb, hg]
      rw [if_neg (show ¬ p2 < 0 by omega), if_pos (show p2 ≤ 4 by omega)]
      generalize fsF h19 h20 h21 h22 (cpyO h2 h1) (p1 + 1) (-1) = R at *
      obtain ⟨t1, t2, t3, t4, t5, t6, t7, t8, t9, t10⟩ := b2
      have hfin : INV (T + 1) h1 h3 [h4, h5, h6, h7, h8, h9, h10, h11, h12, h13, h14, h15, h16] (lbO m1) := by
        refine INV.mono (T := T) ⟨i1, Rel_cong hL (fun k hk => ?_) i2, InvP_frame i3 (by show m1 3 = m 3; rw [t5]; rfl) (by show m1 0 3 = m 0 3; rw [t6 3 (by decide) (by decide) (by decide) (by decide) (by decide)]; rfl) (by show m1 0 4 = m 0 4; rw [t6 4 (by decide) (by decide) (by decide) (by decide) (by decide)]; rfl)⟩ (by omega)
        show (if 1 = 1 ∧ k < 735 then m1 2 k else m1 1 k) = m 1 k
        rw [if_pos ⟨rfl, hk⟩, t4]
        exact ks_2 m hk
      rcases t3 with e | e
      · rw [e, if_pos xwm1, if_neg (show ¬ xw (-1) ≥ 0 by decide)]
        exact ⟨_, _, _, rfl, rfl, hfin⟩
      · obtain ⟨f1, f2, -⟩ := id e
        have y2 := t1.1.2.1
        have y3 := t1.1.2.2.1
        have hx : xw R.1 = R.1 := xw_id (by omega) (by omega)
        rw [hx, if_neg (show ¬ R.1 = -1 by omega), if_pos (show R.1 ≥ 0 by omega)]
        have l19 : lbO m1 0 19 = R.2.1 0 1 := t7
        have l20 : lbO m1 0 20 = R.2.1 0 3 := t8
        have l21 : lbO m1 0 21 = R.2.1 0 2 := t9
        have l0 : m1 1 0 = R.2.2.2.2.2 0 9 := t2.szq
        by_cases c0 : p2 = 0
        · rw [if_pos c0, if_pos c0, l19]
          exact ⟨_, _, _, rfl, rfl, hfin⟩
        rw [if_neg c0, if_neg c0]
        by_cases c1 : p2 = 1
        · rw [if_pos c1, if_pos c1, l20]
          exact ⟨_, _, _, rfl, rfl, hfin⟩
        rw [if_neg c1, if_neg c1]
        by_cases c2 : p2 = 2
        · rw [if_pos c2, if_pos c2]
          exact ⟨_, _, _, rfl, rfl, hfin⟩
        rw [if_neg c2, if_neg c2]
        by_cases c3 : p2 = 3
        · rw [if_pos c3, if_pos c3, l0]
          exact ⟨_, _, _, rfl, rfl, hfin⟩
        rw [if_neg c3, if_neg c3, l21]
        exact ⟨_, _, _, rfl, rfl, hfin⟩
    · have hin2 : inn p2 0 4 = false := by rw [inn_e]; exact decide_eq_false a2
      simp only [md_X7_would_0, mg_X7_would_0, md_X8_would_0, mg_X8_would_0, bz_0, if_true, hp1, hp2, x1, x2, xlr_s (p := 1) (by decide) (by decide), xlr_s (p := 199) (by decide) (by decide), xlr_s (p := 0) (by decide) (by decide), xlr_s (p := 4) (by decide) (by decide), Bool.and_self, hin1, hin2, hak, Bool.true_eq_false, if_false]
      by_cases c0 : p2 < 0
      · rw [if_pos c0]
        exact ⟨_, _, _, rfl, rfl, hI0.mono (by omega)⟩
      · rw [if_neg c0, if_neg (show ¬ p2 ≤ 4 by omega)]
        exact ⟨_, _, _, rfl, rfl, hI0.mono (by omega)⟩
  · have hin1 : inn p1 1 199 = false := by rw [inn_e]; exact decide_eq_false a1
    have hak : ask p1 = false := by rw [ask_e hp1]; exact decide_eq_false a1
    simp only [md_X7_would_0, mg_X7_would_0, md_X8_would_0, mg_X8_would_0, bz_0, if_true, hp1, x1, xlr_s (p := 1) (by decide) (by decide), xlr_s (p := 199) (by decide) (by decide), Bool.and_self, hin1, hak]
    exact ⟨_, _, _, rfl, rfl, hI0.mono (by omega)⟩
