theorem inS0 {i : Nat} (hi : i < 8) : inS 0 (i : Int) = false := by
  have : ∀ i : Fin 8, inS 0 ((i : Nat) : Int) = false := by decide
  exact this ⟨i, hi⟩
theorem beg_inv {T : Int} {h P m : Ob} {K : List Ob} (hI : INV T h P K m) {a b : Int} (h1 : 8 ≤ a) (h2 : a ≤ b) (h3 : b ≤ 200) (hT : 0 ≤ T) : INV T (begO h a b) (fgtO P) K (bgM m a b) := by
  obtain ⟨i1, i2, i3⟩ := hI
  have e1 : ∀ i, i < 11 → begO h a b 1 i = -1 := fun i hi => by unfold begO; rw [if_pos ⟨rfl, hi⟩]
  have e2 : ∀ i, begO h a b 2 i = h 2 i := fun i => rfl
  have e4 : ∀ i, i < 8 → begO h a b 4 i = 0 := fun i hi => by unfold begO; rw [if_neg (by omega), if_pos ⟨rfl, hi⟩]
  have q0 : ∀ k, 2 ≤ k → k < 735 → bgM m a b 1 k = 0 := fun k k1 k2 => by unfold bgM; rw [if_pos ⟨rfl, k2⟩, if_neg (by omega), if_neg (by omega)]
  have hu : ∀ i : Nat, i < 8 → inS (begO h a b 0 7) (i : Int) = false := fun i hi => inS0 hi
  refine ⟨⟨⟨h1, h2, h3, fun i hi => ?_, fun i j hi hj _ hn => absurd (e1 i hi) hn, fun i hi => by rw [e4 i hi]; omega⟩, fun i hi => ⟨fun z => (by rw [hu i hi] at z; cases z), fun _ => e4 i hi⟩, ⟨Int.le_refl _, hT⟩, ⟨Int.le_refl _, by show (0 : Int) ≤ 9 * T; omega⟩, ⟨Int.le_refl _, show (0 : Int) ≤ 4 by decide⟩, ⟨Int.le_refl _, show (0 : Int) < 256 by decide⟩, ⟨Int.le_refl _, show (0 : Int) < 256 by decide⟩⟩, ⟨⟨rfl, rfl, q0 2 (by decide) (by decide), q0 3 (by decide) (by decide), q0 4 (by decide) (by decide)⟩, fun i hi => ?_, fun p hp => Or.inl ⟨e1 _ (by omega), q0 _ (by omega) (by omega)⟩, fun i hi hn => absurd (e1 i hi) hn⟩, ⟨⟨i3.1.1, i3.1.2.1, Int.le_refl _, show (0 : Int) ≤ 12 by decide⟩, Or.inl rfl, rfl, rfl, fun i hi => ?_⟩⟩
  · have hz := i1.1.2.2.2.1 i hi
    rw [e1 i hi, e2]
    exact ⟨hz.1, hz.2.1, Or.inl rfl⟩
  · unfold RelH
    refine ⟨Or.inl ⟨hu i hi, e1 i (by omega), q0 _ (by omega) (by omega)⟩, ?_, fun z => ?_⟩
    · rw [e4 i hi]
      exact q0 _ (by omega) (by omega)
    · rw [hu i hi] at z; cases z
  · have : (i : Int) < 0 := hi
    omega
theorem e_start (T : Int) (hT0 : 0 ≤ T) (hT : T ≤ 600) (p1 : Int) (hp1 : xw p1 = p1) (p2 : Int) (hp2 : xw p2 = p2) (h0 h1 h2 h3 h4 h5 h6 h7 h8 h9 h10 h11 h12 h13 h14 h15 h16 h17 h18 h19 h20 h21 h22 h23 h24 m : Ob) (hI : INV T h1 h3 [h4, h5, h6, h7, h8, h9, h10, h11, h12, h13, h14, h15, h16] m) : Same (T + 1) (md_X7_start_0 p1 p2 h0 h2 h4 h5 h6 h7 h8 h9 h10 h11 h12 h13 h14 h15 h16 h17 h18 h19 h20 h21 h22 h23 h24 (h1, h3)) (md_X8_start_0 p1 p2 m) := by
  have hI0 := hI
  have x1 : xlr p1 = true := by rw [← hp1]; exact xlr_xw
  have x2 : xlr p2 = true := by rw [← hp2]; exact xlr_xw
  simp only [md_X7_start_0, mg_X7_start_0, md_X8_start_0, mg_X8_start_0, bz_0, hp1, hp2, x1, x2, xlr_s (p := 8) (by decide) (by decide), xlr_s (p := 200) (by decide) (by decide), Bool.and_self, if_true]
  by_cases b1 : p1 < 8
  · have : inn p1 8 200 = false := by unfold inn; simp; omega
    rw [if_pos b1, this]
    exact ⟨_, _, _, rfl, rfl, hI0.mono (by omega)⟩
  · rw [if_neg b1]
    by_cases b2 : p1 > p2
    · rw [if_pos b2]
      have e2 : inn p2 p1 200 = false := by unfold inn; simp; omega
      rw [e2]
      cases inn p1 8 200 <;> exact ⟨_, _, _, rfl, rfl, hI0.mono (by omega)⟩
    · rw [if_neg b2]
      by_cases b3 : p2 ≤ 200
      · have e1 : inn p1 8 200 = true := by unfold inn; simp; omega
        have e2 : inn p2 p1 200 = true := by unfold inn; simp; omega
        rw [if_pos b3, e1, e2]
        exact ⟨_, _, _, rfl, rfl, (beg_inv hI0 (by omega) (by omega) b3 hT0).mono (by omega)⟩
      · have e2 : inn p2 p1 200 = false := by unfold inn; simp; omega
        rw [if_neg b3, e2]
        cases inn p1 8 200 <;> exact ⟨_, _, _, rfl, rfl, hI0.mono (by omega)⟩
theorem nb_of {h : Ob} {k : Int} (hc : ∀ i, i < 11 → ¬ cvd h i k) : Nb h k := by
  intro i hi hp hk
  have := hc i hi
  unfold cvd at this
  by_cases h2 : k ≤ h 1 i + h 2 i
  · exact absurd ⟨hp, by omega, h2⟩ this
  · omega
theorem find_cv {h : Ob} (hL : LW h) {k : Int} (p : Nat → Bool) (hp : ∀ i, i < 11 → (p i = true ↔ cvd h i k)) : (∃ i, i < 11 ∧ cvd h i k ∧ (List.range 11).find? p = some i) ∨ ((∀ i, i < 11 → ¬ cvd h i k) ∧ (List.range 11).find? p = none) := by
  cases hf : (List.range 11).find? p with
  | none =>
    right
    refine ⟨fun i hi hc => ?_, rfl⟩
    rw [List.find?_eq_none] at hf
    exact hf i (List.mem_range.mpr hi) ((hp i hi).mpr hc)
  | some i =>
    left
    have h1 := List.mem_range.mp (List.mem_of_find?_eq_some hf)
    exact ⟨i, h1, (hp i h1).mp (List.find?_some hf), rfl⟩
theorem r_cellAt {T : Int} {h m : Ob} (hH : HI T h) (hR : Rel h (m 1)) (hO : Own h (m 4)) {k : Int} (h0 : 0 ≤ k) (h1 : k < h 0 9) : ov_X8_cellAt k m = RI (celF h k) [m] := by
  have hL := hH.1
  obtain ⟨z1, z2, z3, z4, z5, z6⟩ := id hL
  rw [ov_X8_cellAt_e]
  have hk : xw k = k := xw_id (by omega) (by omega)
  have hw := hO k.toNat (by omega)
  rw [show ((k.toNat : Nat) : Int) = k by omega] at hw
  have hx := hO.xwq (k := k.toNat) (by omega)
  unfold celF
  rw [hk, if_pos ⟨h0, h1⟩]
  rcases find_cv hL (k := k) (fun i => !decide (h 1 i = -1) && decide (h 1 i ≤ k) && decide (k ≤ h 1 i + h 2 i)) (fun i hi => by unfold cvd; simp [and_assoc]) with ⟨i, hi, hcv, hfd⟩ | ⟨hn, hfd⟩
  · rw [hfd]
    dsimp only
    have hoc := hw.1 i hi hcv
    have hz := z4 i hi
    obtain ⟨c1, c2, c3⟩ := hcv
    by_cases h8 : i < 8
    · have eo : oc i = 1 + (i : Int) := by unfold oc; rw [if_pos h8]
      obtain ⟨u1, u2, u3, u4⟩ := hR.use h8 c1
      obtain ⟨x3, x4⟩ := ixn (c := 13) 13 rfl (by decide) h8
      have eow : ownF (i : Int) = 1 + (i : Int) := by unfold ownF; rw [xw_nat (by omega), if_neg (by omega), if_pos (by omega)]
      have e13 : 13 + (1 + (i : Int)) - 1 = 13 + (i : Int) := by omega
      have e1 : 1 + (i : Int) - 1 = (i : Int) := by omega
      simp only [md_X8_cellAt_0, mg_X8_cellAt_0, xin_of (i := k) (n := 200) (by omega) (by omega), if_true, hk, hoc, eo, xw_id (x := 1 + (i : Int)) (by omega) (by omega), e13, e1, x3, x4, u3, hL.xpl hi, hdl_nat h8, hR.lenq h8 u1, eow]
      rw [if_pos (show 1 + (i : Int) ≤ 32 by omega), if_neg (show ¬ 1 + (i : Int) ≤ 0 by omega)]
      by_cases hkb : k = h 1 i
      · rw [if_pos hkb, if_pos hkb]
      · rw [if_neg hkb, if_neg hkb]
        obtain ⟨j, hj⟩ : ∃ j : Nat, (j : Int) = k - h 1 i - 1 := ⟨(k - h 1 i - 1).toNat, by omega⟩
        have e75 : 75 + 60 * (i : Int) + k - h 1 i - 1 = 75 + 60 * (i : Int) + (j : Int) := by omega
        obtain ⟨y1, y2⟩ := ixc (i := i) (k := j) hi (by omega)
        rw [e75, y1, if_pos rfl, y2, hR.2.2.2 i hi c1 j (by omega), ← hj, (conF_nat hL hi (by omega)).1]
    · have eo : oc i = 25 + (i : Int) := by unfold oc; rw [if_neg h8]
      obtain ⟨p, rfl⟩ : ∃ p, i = 8 + p := ⟨i - 8, by omega⟩
      have hp : p < 3 := by omega
      rcases hR.2.2.1 p hp with ⟨u1, u2⟩ | ⟨u1, u2, u3⟩
      · exact absurd u1 c1
      obtain ⟨x3, x4⟩ := ixn (c := 72) 72 rfl (by decide) (show p < 8 by omega)
      obtain ⟨x5, x6⟩ := ixn (c := 69) 69 rfl (by decide) (show p < 8 by omega)
      have eow : ownF ((8 + p : Nat) : Int) = 25 + ((8 + p : Nat) : Int) := by unfold ownF; rw [xw_nat (by omega), if_neg (by omega), if_neg (by omega)]; omega
      have e72 : 72 + (25 + ((8 + p : Nat) : Int)) - 33 = 72 + (p : Int) := by omega
      have e69 : 69 + (25 + ((8 + p : Nat) : Int)) - 33 = 69 + (p : Int) := by omega
      have e8 : 8 + (25 + ((8 + p : Nat) : Int)) - 33 = ((8 + p : Nat) : Int) := by omega
      simp only [md_X8_cellAt_0, mg_X8_cellAt_0, xin_of (i := k) (n := 200) (by omega) (by omega), if_true, hk, hoc, eo, xw_id (x := 25 + ((8 + p : Nat) : Int)) (by omega) (by omega), e72, e69, e8, x3, x4, x5, x6, u2, u3, hL.xpl hi, eow]
      rw [if_neg (show ¬ 25 + ((8 + p : Nat) : Int) ≤ 32 by omega)]
      by_cases hkb : k = h 1 (8 + p)
      · rw [if_pos hkb, if_pos hkb]
      · rw [if_neg hkb, if_neg hkb]
        obtain ⟨j, hj⟩ : ∃ j : Nat, (j : Int) = k - h 1 (8 + p) - 1 := ⟨(k - h 1 (8 + p) - 1).toNat, by omega⟩
        have e75 : 75 + 60 * ((8 + p : Nat) : Int) + k - h 1 (8 + p) - 1 = 75 + 60 * ((8 + p : Nat) : Int) + (j : Int) := by omega
        obtain ⟨y1, y2⟩ := ixc (i := 8 + p) (k := j) hi (by omega)
        rw [e75, y1, if_pos rfl, y2, hR.2.2.2 (8 + p) hi c1 j (by omega), ← hj, (conF_nat hL hi (by omega)).1]
  · rw [hfd]
    dsimp only
    have ho := hw.2 hn
    have hN := nb_of hn
    have hb : ov_X8_behind k m = RI (nxt h k (h 0 9)) [m] := (ov_X8_behind_e _ _).trans (r_behind xfu (xfu_ge (by decide)) hL hR hO h0 h1 hN)
    simp only [md_X8_cellAt_0, mg_X8_cellAt_0, md_X8_cellAt_167, mg_X8_cellAt_167, xin_of (i := k) (n := 200) (by omega) (by omega), if_true, hk, hx, ho, hb, oqR_I, pd_rfl, pd_T]
    rw [if_pos (by decide), if_pos (by decide)]
    by_cases hk0 : k = 0
    · rw [if_pos hk0, if_pos (pd_t (Or.inl hk0))]
    · rw [if_neg hk0]
      have hk1 : xw (k - 1) = k - 1 := xw_id (by omega) (by omega)
      rw [xin_of (i := k - 1) (n := 200) (by rw [hk1]; omega) (by rw [hk1]; omega), if_pos rfl, hk1, hO.xwq (k := (k - 1).toNat) (by omega)]
      have hw1 := hO.at0 (k := (k - 1).toNat) (by omega)
      rw [show (((k - 1).toNat : Nat) : Int) = k - 1 by omega] at hw1
      by_cases hp : m 4 (k - 1).toNat = 0
      · rw [if_pos hp]
        have hnc := hw1.mp hp
        rw [if_neg]
        intro hpd
        rcases pd_of hpd with z | ⟨i, hi, c1, c2⟩
        · exact hk0 z
        · have hz := z4 i hi
          exact hnc i hi ⟨c1, by omega, by omega⟩
      · rw [if_neg hp, if_pos (pd_t ?_)]
        right
        by_cases hex : ∃ i, i < 11 ∧ cvd h i (k - 1)
        · obtain ⟨i, hi, c1, c2, c3⟩ := hex
          refine ⟨i, hi, c1, ?_⟩
          by_cases hle : k ≤ h 1 i + h 2 i
          · exact absurd ⟨c1, by omega, hle⟩ (hn i hi)
          · omega
        · exact absurd (hw1.mpr (fun i hi hc => hex ⟨i, hi, hc⟩)) hp
theorem e_cell (T : Int) (hT0 : 0 ≤ T) (hT : T ≤ 600) (p1 : Int) (hp1 : xw p1 = p1) (h0 h1 h2 h3 h4 h5 h6 h7 h8 h9 h10 h11 h12 h13 h14 h15 h16 h17 h18 h19 h20 h21 h22 h23 h24 m : Ob) (hI : INV T h1 h3 [h4, h5, h6, h7, h8, h9, h10, h11, h12, h13, h14, h15, h16] m) : Same (T + 1) (md_X7_cell_0 p1 h0 h1 h2 h3 h4 h5 h6 h7 h8 h9 h10 h11 h12 h13 h14 h15 h16 h17 h18 h19 h20 h21 h22 h23 h24 ()) (md_X8_cell_0 p1 m) := by
  have hI0 := hI
  obtain ⟨i1, i2, i3⟩ := hI
  obtain ⟨z1, z2, z3, -⟩ := id i1.1
  have x1 : xlr p1 = true := by rw [← hp1]; exact xlr_xw
  have e0 : m 1 0 = h1 0 9 := i2.szq
  obtain ⟨m', a, b, c⟩ := fo_e i1.1 i2
  simp only [md_X7_cell_0, mg_X7_cell_0, md_X8_cell_0, mg_X8_cell_0, bz_0, hp1, x1, e0, xlr_s (p := 0) (by decide) (by decide), xw_id (x := h1 0 9 - 1) (by omega) (by omega), xlr_s (p := h1 0 9 - 1) (by omega) (by omega), Bool.and_self, if_true, pd_t i1.1, a, oqV_t, oqO_V]
  by_cases hc : 0 ≤ p1 ∧ p1 < h1 0 9
  · have : inn p1 0 (h1 0 9 - 1) = true := by unfold inn; simp; omega
    rw [this]
    simp only [Bool.true_eq_false, if_false, r_cellAt i1 (own_frame i2 b) c hc.1 hc.2, oqR_I, pd_rfl, pd_T, if_true]
    exact ⟨_, _, _, rfl, rfl, (INV_frame hI0 b).mono (by omega)⟩
  · have : inn p1 0 (h1 0 9 - 1) = false := by unfold inn; simp; omega
    have e : celF h1 p1 = 0 := by unfold celF; rw [hp1, if_neg hc]
    rw [this, e]
    exact ⟨_, _, _, rfl, rfl, hI0.mono (by omega)⟩
