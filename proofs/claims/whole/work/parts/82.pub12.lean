theorem e_high (T : Int) (hT0 : 0 ≤ T) (hT : T ≤ 600) (p1 : Int) (hp1 : xw p1 = p1) (h0 h1 h2 h3 h4 h5 h6 h7 h8 h9 h10 h11 h12 h13 h14 h15 h16 h17 h18 h19 h20 h21 h22 h23 h24 m : Ob) (hI : INV T h1 h3 [h4, h5, h6, h7, h8, h9, h10, h11, h12, h13, h14, h15, h16] m) : Same (T + 1) (md_X7_high_0 p1 h0 h2 h17 h18 h19 h20 h21 h22 h23 (h1, h3, h4, h5, h6, h7, h8, h9, h10, h11, h12, h13, h14, h15, h16, h24)) (md_X8_high_0 p1 m) := by
  have hI0 := hI
  obtain ⟨i1, i2, i3⟩ := hI
  unfold md_X8_high_0 mg_X8_high_0
  simp only [md_X7_high_0, mg_X7_high_0, md_X7_high_54, mg_X7_high_54, bz_0, ks_e, oqV_t, oqO_V, if_true]
  rcases hdl_cases hp1 with hf | ⟨i, hi, rfl⟩
  · have e1 : mov h1 p1 = false := by unfold mov; rw [ful_f hf]; rfl
    have e2 : looM m p1 = false := by unfold looM; rw [fulM_f hf]; rfl
    rw [e1, e2]
    exact ⟨_, _, _, rfl, rfl, hI0.mono (by omega)⟩
  · rw [i2.looq i1.1 hi]
    cases hm : mov h1 (i : Int)
    · exact ⟨_, _, _, rfl, rfl, hI0.mono (by omega)⟩
    · have hL := i1.1
      have hf := mov_full hL hi hm
      have hz := hL.2.2.2.1 i (by omega)
      have hs := hL.2.1
      have hs2 := hL.2.2.1
      obtain ⟨m', a1, a2⟩ := r_highest (m := ksO m) i1 i2 hi hf (a := 0) (n := 0) (by omega) (by omega) (by omega)
      have hful := (hL.fu hi).mpr hf
      have hy : hiP h1 (i : Int) 0 0 (hiF h1 (i : Int) 0 0) ∧ 0 ≤ hiF h1 (i : Int) 0 0 ∧ hiF h1 (i : Int) 0 0 < 200 := by
        unfold hiF
        rw [hful, if_pos rfl, xop_eq]
        rcases gmx_cases (hiP h1 (i : Int) 0 0) 200 with ⟨w1, w2, w3, w4⟩ | ⟨w1, w2⟩
        · exact ⟨w3, w1, w2⟩
        · exfalso
          refine w2 (h1 1 i) (by omega) (by omega) ⟨by omega, by rw [toNat_nat]; omega, fun c c1 c2 => ⟨fun l hl hc => ?_, by omega⟩⟩
          rw [toNat_nat] at c2
          have hcv : cvd h1 i c := ⟨hf, c1, by omega⟩
          rw [hL.cv1 hl (by omega) hc hcv, inS_one i hi i (by omega)]
          simp
      have hLy := hL.hi hi hful hy.1
      obtain ⟨c1, c2⟩ := Ch_place hi i1 i2 hf (v := hiF h1 (i : Int) 0 0) (by omega) hLy
      obtain ⟨d1, d2⟩ := Ch_locks hi c1 c2 (v := 1) (by omega) (by omega) (by rw [xeq]; omega)
      obtain ⟨x1, x2⟩ := ixn (c := 13) 13 rfl (by decide) hi
      obtain ⟨x3, x4⟩ := ixn (c := 29) 29 rfl (by decide) hi
      have hq1 : (xset (xset m' 1 (13 + i) (hiF h1 (i : Int) 0 0)) 1 (29 + i) 1) 1 = (fun k => if k = 29 + i then 1 else if k = 13 + i then hiF h1 (i : Int) 0 0 else m 1 k) := by
        rw [xs1, xs1, a2 1 (by decide)]
        rfl
      obtain ⟨m2, m3, b1, b2, b3, b4⟩ := act_i (m1 := xset (xset m' 1 (13 + i) (hiF h1 (i : Int) 0 0)) 1 (29 + i) 1) hi hI0 d1 (by rw [hq1]; exact d2) (fun k hk => (congrFun (a2 2 (by decide)) k).trans (ks_2 m hk)) (a2 3 (by decide)) (congrFun (a2 0 (by decide)) 3)
      have e9 : m3 1 (13 + i) = hiF h1 (i : Int) 0 0 := by
        rw [b3, hq1]
        (try dsimp only)
        rw [if_neg (by omega), if_neg (by omega), if_neg (by omega), if_pos rfl]
      have e8 : (finO (xset (xset h1 1 i (hiF h1 (i : Int) 0 0)) 4 i 1) (i : Int)) 1 i = hiF h1 (i : Int) 0 0 := by
        rw [finO_i _ hi]
        exact xeq
      have hg : pd (LW h1 ∧ 0 ≤ (i : Int) ∧ (i : Int) < 8 ∧ 0 ≤ (0 : Int) ∧ 0 ≤ (0 : Int) ∧ (0 : Int) + (0 : Int) ≤ 200 ∧ (1 ≤ (0 : Int) ∨ True)) = true := pd_t ⟨hL, by omega, by omega, by omega, by omega, by omega, Or.inr trivial⟩
      rw [if_neg (show ¬ true = false by simp), if_neg (show ¬ true = false by simp), if_pos (pd_t i3.1), if_pos hg, if_neg (show ¬ xw (hiF h1 (i : Int) 0 0) = -1 by rw [xw_id (by omega) (by omega)]; omega)]
      simp only [xin_nat hi (show 8 ≤ 2147483648 by omega), xin_nat (show i < 11 by omega) (show 11 ≤ 2147483648 by omega), xw_nat (show i < 2147483648 by omega), toNat_nat, if_true, a1, oqI_t, oqR_I, oqO_I, x1, x2, x3, x4, b1, b2, oqV_t, oqO_V, e9, e8]
      exact ⟨_, _, _, rfl, rfl, b4⟩
