theorem r_isTorn0 {h m : Ob} (hL : LW h) (hR : Rel h (m 1)) {a v b : Int} (h0 : 0 ≤ a) (h1 : a < h 0 9) (hv : xw v = v) (hb : b = 0 ∨ b = 1) : ov_X8_isTorn a v b m = RI (bz (torF h a v b)) [m] := by
  obtain ⟨z1, z2, z3, z4, z5, z6⟩ := id hL
  rw [ov_X8_isTorn_e]
  have ha : xw a = a := xw_id (by omega) (by omega)
  have hvr : -2147483648 ≤ v ∧ v < 2147483648 := by rw [xw_def] at hv; omega
  unfold torF
  simp only [md_X8_isTorn_0, mg_X8_isTorn_0, hv, ha]
  by_cases c1 : v < 64
  · rw [if_pos c1]
    simp [c1, bz]
  · rw [if_neg c1, hR.szq, xdiv_pos (u := v) (by omega) (by decide) (by decide), xrem_pos (u := v) (by omega) (by decide) (by decide), hv, hL.xsz]
    rw [xw_id (x := v / 64) (by omega) (by omega), xw_id (x := h 0 9 - a) (by omega) (by omega), xw_id (x := a + v / 64) (by omega) (by omega), xw_id (x := v % 64) (by omega) (by omega)]
    have d1 : decide (v < 64) = false := by simp; omega
    rw [d1]
    by_cases c2 : v / 64 ≤ h 0 9 - a
    · rw [if_pos c2]
      have d2 : decide (a + v / 64 ≤ h 0 9) = true := by simp; omega
      rw [d2]
      simp only [Bool.not_true, Bool.or_false, Bool.false_or]
      by_cases c3 : v % 64 = 0
      · rw [if_pos c3, if_pos c3]
        rcases hb with rfl | rfl <;> rfl
      · rw [if_neg c3, if_neg c3]
        by_cases c4 : v % 64 > 8
        · rw [if_pos c4]
          by_cases c5 : 33 ≤ v % 64 ∧ v % 64 < 36
          · obtain ⟨p, hp⟩ : ∃ p : Nat, v % 64 = 33 + (p : Int) := ⟨(v % 64 - 33).toNat, by omega⟩
            have hp3 : p < 3 := by omega
            have eh : holF (v % 64) = ((8 + p : Nat) : Int) := by
              unfold holF
              rw [xw_id (x := v % 64) (by omega) (by omega), if_neg (by omega), if_pos c5]
              omega
            have e33 : v % 64 - 33 = (p : Int) := by omega
            have e72 : 72 + v % 64 - 33 = 72 + (p : Int) := by omega
            have e69 : 69 + v % 64 - 33 = 69 + (p : Int) := by omega
            obtain ⟨x3, x4⟩ := ixn (c := 72) 72 rfl (by decide) (show p < 8 by omega)
            obtain ⟨x5, x6⟩ := ixn (c := 69) 69 rfl (by decide) (show p < 8 by omega)
            have hz := z4 (8 + p) (by omega)
            rw [eh, e33, e72, e69, xw_nat (show 8 + p < 2147483648 by omega), toNat_nat, hR.islq hL hp3, x3, x4, x5, x6, hL.xpl (by omega), xw_id (x := h 2 (8 + p) + 1) (by omega) (by omega)]
            simp only [bz_0, if_true]
            have d3 : decide (((8 + p : Nat) : Int) = -1) = false := by simp; omega
            rw [d3, Bool.false_or]
            rcases hR.2.2.1 p hp3 with ⟨u1, u2⟩ | ⟨u1, u2, u3⟩
            · rw [u1]
              have : ¬ ((-1 : Int) = a) := by omega
              simp [this, bz]
            · rw [if_neg (by simp [u1]), u2, u3, hL.xpl (by omega), xw_id (x := h 2 (8 + p) + 1) (by omega) (by omega)]
              by_cases e1 : h 1 (8 + p) = a
              · rw [if_pos e1]
                by_cases e2 : h 2 (8 + p) + 1 = v / 64
                · rw [if_pos e2]; simp [e1, e2, bz]
                · rw [if_neg e2]; simp [e2, bz]
              · rw [if_neg e1]; simp [e1, bz]
          · have eh : holF (v % 64) = -1 := by
              unfold holF
              rw [xw_id (x := v % 64) (by omega) (by omega), if_neg (by omega), if_neg c5]
            have ei : islM m (v % 64 - 33) = false := islM_f (by rw [xw_id (by omega) (by omega)]; omega)
            rw [eh, ei]
            simp only [bz_0, if_true, xwm1]
            simp [bz]
        · rw [if_neg c4]
          obtain ⟨i, hi⟩ : ∃ i : Nat, v % 64 = 1 + (i : Int) := ⟨(v % 64 - 1).toNat, by omega⟩
          have h8 : i < 8 := by omega
          have eh : holF (v % 64) = (i : Int) := by
            unfold holF
            rw [xw_id (x := v % 64) (by omega) (by omega), if_pos (by omega)]
            omega
          have e1' : v % 64 - 1 = (i : Int) := by omega
          have e13 : 13 + v % 64 - 1 = 13 + (i : Int) := by omega
          obtain ⟨x3, x4⟩ := ixn (c := 13) 13 rfl (by decide) h8
          have hz := z4 i (by omega)
          rw [eh, e1', e13, xw_nat (show i < 2147483648 by omega), toNat_nat, hR.fulq hL h8, x3, x4, hL.xpl (by omega), xw_id (x := h 2 i + 1) (by omega) (by omega), hdl_nat h8]
          simp only [bz_0, if_true]
          have d3 : decide ((i : Int) = -1) = false := by simp
          rw [d3, Bool.false_or]
          by_cases hf : h 1 i = -1
          · have hn : ful h (i : Int) = false := by
              cases hq : ful h (i : Int) with
              | false => rfl
              | true => exact absurd hf ((hL.fu h8).mp hq)
            have : ¬ ((-1 : Int) = a) := by omega
            rw [hn, hf]
            simp [this, bz]
          · obtain ⟨u1, u2, u3, u4⟩ := hR.use h8 hf
            rw [(hL.fu h8).mpr hf, if_neg (by simp), u3, hR.lenq h8 u1, hL.xpl (by omega), xw_id (x := h 2 i + 1) (by omega) (by omega)]
            by_cases e1 : h 1 i = a
            · rw [if_pos e1]
              by_cases e2 : h 2 i + 1 = v / 64
              · rw [if_pos e2]; simp [e1, e2, bz]
              · rw [if_neg e2]; simp [e2, bz]
            · rw [if_neg e1]; simp [e1, bz]
    · rw [if_neg c2]
      have d2 : decide (a + v / 64 ≤ h 0 9) = false := by simp; omega
      rw [d2]
      simp [bz]
theorem xdiv_xw (v c : Int) : xdiv (xw v) c = xdiv v c := by unfold xdiv; rw [xI_xw]
theorem xrem_xw (v c : Int) : xrem (xw v) c = xrem v c := by unfold xrem; rw [xI_xw]
theorem torF_xw (h : Ob) (a v b : Int) : torF h a (xw v) b = torF h a v b := by unfold torF; rw [xdiv_xw, xrem_xw, xw_xw]
theorem r_isTorn {h m : Ob} (hL : LW h) (hR : Rel h (m 1)) {a v b : Int} (h0 : 0 ≤ a) (h1 : a < h 0 9) (hb : b = 0 ∨ b = 1) : ov_X8_isTorn a v b m = RI (bz (torF h a v b)) [m] := by
  have := r_isTorn0 (v := xw v) hL hR h0 h1 (xw_xw v) hb
  rw [torF_xw, ov_X8_isTorn_e] at this
  rw [ov_X8_isTorn_e, ← this]
  simp only [md_X8_isTorn_0, mg_X8_isTorn_0, xdiv_xw, xrem_xw, xw_xw]
theorem torF_no {h : Ob} (hL : LW h) {a v b : Int} (h0 : 0 ≤ a) (h1 : a < h 0 9) (ht : torF h a v b = false) : 64 ≤ xw v ∧ xdiv v 64 = xw v / 64 ∧ a + xw v / 64 ≤ h 0 9 := by
  have hs := hL.2.2.1
  have hs2 := hL.2.1
  have hvr : -2147483648 ≤ xw v ∧ xw v < 2147483648 := by rw [xw_def]; omega
  unfold torF at ht
  simp only [Bool.or_eq_false_iff, decide_eq_false_iff_not, Bool.not_eq_false', decide_eq_true_eq] at ht
  obtain ⟨⟨a1, a2⟩, -⟩ := ht
  have e := xdiv_pos (u := v) (c := 64) (by omega) (by decide) (by decide)
  rw [e, hL.xsz, xw_id (by omega) (by omega)] at a2
  exact ⟨by omega, e, a2⟩
theorem e_torn (T : Int) (hT0 : 0 ≤ T) (hT : T ≤ 600) (p1 : Int) (hp1 : xw p1 = p1) (p2 : Int) (hp2 : xw p2 = p2) (h0 h1 h2 h3 h4 h5 h6 h7 h8 h9 h10 h11 h12 h13 h14 h15 h16 h17 h18 h19 h20 h21 h22 h23 h24 m : Ob) (hI : INV T h1 h3 [h4, h5, h6, h7, h8, h9, h10, h11, h12, h13, h14, h15, h16] m) : Same (T + 1) (md_X7_torn_0 p1 p2 h0 h1 h2 h3 h4 h5 h6 h7 h8 h9 h10 h11 h12 h13 h14 h15 h16 h17 h18 h19 h20 h21 h22 h23 h24 xfu ()) (md_X8_torn_0 p1 p2 xfu m) := by
  have hI0 := hI
  obtain ⟨i1, i2, i3⟩ := hI
  obtain ⟨z1, z2, z3, -⟩ := id i1.1
  have x1 : xlr p1 = true := by rw [← hp1]; exact xlr_xw
  have e0 : m 1 0 = h1 0 9 := i2.szq
  obtain ⟨m', a, b, c⟩ := fo_e i1.1 i2
  have i2' := own_frame i2 b
  have e0' : xw (m' 1 0) = h1 0 9 := by rw [i2'.szq]; exact i1.1.xsz
  have hex : ∀ (n : Nat) (at_ w : Int) (f : Nat), 0 ≤ at_ → at_ ≤ h1 0 9 → (h1 0 9 - at_).toNat ≤ n → n < f → (w = 0 ∨ w = 1) → ∃ r : Int, tlp (lb_X7_torn_19 p1 p2 h0 h1 h2 h3 h4 h5 h6 h7 h8 h9 h10 h11 h12 h13 h14 h15 h16 h17 h18 h19 h20 h21 h22 h23 h24 xfu) f (w, at_) = RI r [h0, h1, h2, h3, h4, h5, h6, h7, h8, h9, h10, h11, h12, h13, h14, h15, h16, h17, h18, h19, h20, h21, h22, h23, h24] ∧ tlp (lb_X8_torn_30 p1 p2 xfu) f (w, at_, m') = RI r [m'] := by
    intro n
    induction n with
    | zero =>
      intro at_ w f q1 q2 q3 q4 hw
      cases f with
      | zero => omega
      | succ f =>
        have hat : at_ = h1 0 9 := by omega
        subst hat
        refine ⟨-1, ?_, ?_⟩
        · rw [tlp_succ]
          simp only [lb_X7_torn_19, mg_X7_torn_19]
          rw [if_pos (by omega)]
        · rw [tlp_succ]
          simp only [lb_X8_torn_30, mg_X8_torn_30, e0', i1.1.xsz]
          rw [if_pos (by omega)]
    | succ n ih =>
      intro at_ w f q1 q2 q3 q4 hw
      cases f with
      | zero => omega
      | succ f =>
        by_cases hlt : at_ < h1 0 9
        · have hat : xw at_ = at_ := xw_id (by omega) (by omega)
          have hxb : xb w = true := by rcases hw with rfl | rfl <;> rfl
          have step : ∀ v : Int, ∃ r : Int, md_X7_torn_50 p1 p2 h0 h1 h2 h3 h4 h5 h6 h7 h8 h9 h10 h11 h12 h13 h14 h15 h16 h17 h18 h19 h20 h21 h22 h23 h24 xfu (tlp (lb_X7_torn_19 p1 p2 h0 h1 h2 h3 h4 h5 h6 h7 h8 h9 h10 h11 h12 h13 h14 h15 h16 h17 h18 h19 h20 h21 h22 h23 h24 xfu) f) (w, at_, v) = RI r [h0, h1, h2, h3, h4, h5, h6, h7, h8, h9, h10, h11, h12, h13, h14, h15, h16, h17, h18, h19, h20, h21, h22, h23, h24] ∧ md_X8_torn_57 p1 p2 xfu (tlp (lb_X8_torn_30 p1 p2 xfu) f) (w, at_, v, m') = RI r [m'] := by
            intro v
            simp only [md_X7_torn_50, mg_X7_torn_50, md_X7_torn_83, mg_X7_torn_83, md_X8_torn_57, mg_X8_torn_57, md_X8_torn_87, mg_X8_torn_87, r_isTorn i1.1 i2' q1 hlt hw, oqR_I, pd_rfl, pd_T, if_true, bz_0, pd_t i1.1, hxb, Bool.and_self]
            cases ht : torF h1 at_ v w
            · obtain ⟨t1, t2, t3⟩ := torF_no i1.1 q1 hlt ht
              have em : xmax 1 (xdiv v 64) = xdiv v 64 := by
                rw [t2]
                unfold xmax
                rw [xw1, xw_id (by omega) (by omega)]
                split
                · rfl
                · omega
              rw [em, t2]
              simp only [if_true]
              by_cases hr : xw (xrem v 64) = 0
              · rw [if_pos hr, if_pos hr]
                exact ih _ 1 f (by omega) (by omega) (by omega) (by omega) (Or.inr rfl)
              · rw [if_neg hr, if_neg hr]
                exact ih _ 0 f (by omega) (by omega) (by omega) (by omega) (Or.inl rfl)
            · exact ⟨_, rfl, rfl⟩
          rw [tlp_succ, tlp_succ]
          simp only [lb_X7_torn_19, mg_X7_torn_19, lb_X8_torn_30, mg_X8_torn_30, e0', i1.1.xsz, hat, hp1, pd_t i1.1, if_true]
          rw [if_neg (show ¬ at_ ≥ h1 0 9 by omega), if_neg (show ¬ at_ ≥ h1 0 9 by omega)]
          by_cases hk : at_ = p1
          · rw [if_pos hk, if_pos hk]
            exact step p2
          · rw [if_neg hk, if_neg hk]
            simp only [r_cellAt i1 i2' c q1 hlt, oqR_I, pd_rfl, pd_T, if_true]
            exact step _
        · have hat : at_ = h1 0 9 := by omega
          subst hat
          refine ⟨-1, ?_, ?_⟩
          · rw [tlp_succ]
            simp only [lb_X7_torn_19, mg_X7_torn_19]
            rw [if_pos (by omega)]
          · rw [tlp_succ]
            simp only [lb_X8_torn_30, mg_X8_torn_30, e0', i1.1.xsz]
            rw [if_pos (by omega)]
  have hsc : isc h1 p1 = inn p1 0 (h1 0 9 - 1) := by
    unfold isc inn
    rw [hp1, i1.1.xsz]
    congr 1
    simp only [decide_eq_decide]
    omega
  unfold md_X7_torn_0 mg_X7_torn_0 md_X8_torn_0 mg_X8_torn_0 md_X7_torn_19 md_X8_torn_30
  simp only [hsc, bz_0, hp1, x1, e0, xlr_s (p := 0) (by decide) (by decide), xw_id (x := h1 0 9 - 1) (by omega) (by omega), xlr_s (p := h1 0 9 - 1) (by omega) (by omega), Bool.and_self, if_true, a, oqV_t, oqO_V]
  cases inn p1 0 (h1 0 9 - 1)
  · exact ⟨_, _, _, rfl, rfl, hI0.mono (by omega)⟩
  · obtain ⟨r, r1, r2⟩ := hex 200 0 0 xfu (by omega) (by omega) (by omega) (Nat.lt_of_lt_of_le (by decide) (xfu_ge (n := 1000) (by decide))) (Or.inl rfl)
    exact ⟨r, _, _, r1, r2, (INV_frame hI0 b).mono (by omega)⟩
