theorem e_compact (T : Int) (hT0 : 0 ≤ T) (hT : T ≤ 600) (h0 h1 h2 h3 h4 h5 h6 h7 h8 h9 h10 h11 h12 h13 h14 h15 h16 h17 h18 h19 h20 h21 h22 h23 h24 m : Ob) (hI : INV T h1 h3 [h4, h5, h6, h7, h8, h9, h10, h11, h12, h13, h14, h15, h16] m) : Same (T + 1) (md_X7_compact_0 h0 h2 h17 h18 h19 h20 h21 h22 h23 h24 (h1, h3, h4, h5, h6, h7, h8, h9, h10, h11, h12, h13, h14, h15, h16)) (md_X8_compact_0 m) := by
  have hI0 := hI
  obtain ⟨i1, i2, i3⟩ := hI
  obtain ⟨m1, o1, o2, o3⟩ := fo_e (m := ksO m) i1.1 i2
  obtain ⟨m2, s1, s2, s3, s4, s5⟩ := v_slides i1 (own_frame (m := ksO m) i2 o2) o3 201 (by decide)
  obtain ⟨m3, a, c, d⟩ := act_n (m1 := m2) hI0 s2 s3 (fun k hk => by rw [s5 2 (by decide) (by decide), o2 2 (by decide)]; exact ks_2 m hk) (by rw [s5 3 (by decide) (by decide), o2 3 (by decide)]; rfl) (by rw [s5 0 (by decide) (by decide), o2 0 (by decide)]; rfl)
  have hm : ov_X8_moved m3 = RI (mvsF (keeO h3) (finO (sld h1 201).2 (-1)) [svK h3 0 h4 h1, svK h3 1 h5 h1, svK h3 2 h6 h1, svK h3 3 h7 h1, svK h3 4 h8 h1, svK h3 5 h9 h1, svK h3 6 h10 h1, svK h3 7 h11 h1, svK h3 8 h12 h1, svK h3 9 h13 h1, svK h3 10 h14 h1, svK h3 11 h15 h1, svK h3 12 h16 h1]) [m3] := (ov_X8_moved_e m3).trans (r_moved d xfu (xfu_ge (by decide)))
  simp only [md_X7_compact_0, mg_X7_compact_0, md_X8_compact_0, mg_X8_compact_0, ks_e, oqV_t, oqO_V, if_true, o1, s1, oqI_t, oqO_I, a, hm, oqR_I, pd_rfl, pd_T, pd_t i3.1, pd_t i1.1, pd_t (p := PG (keeO h3) ∧ ((keeO h3) 0 3 = 0 ∨ (keeO h3) 0 3 = 1 ∧ 1 ≤ (keeO h3) 0 2)) ⟨d.2.2.1, d.2.2.2.1⟩]
  exact ⟨_, _, _, rfl, rfl, d⟩
