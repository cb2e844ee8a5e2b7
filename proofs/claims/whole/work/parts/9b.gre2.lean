theorem p9b : ∀ i : Nat, i < 9 → 1 ≤ 256 / 2 ^ i ∧ 256 / 2 ^ i ≤ 256 ∧ 256 / 2 ^ (i + 1) = 256 / 2 ^ i / 2 ∧ (256 / 2 ^ i = 2 * (256 / 2 ^ (i + 1)) ∨ (256 / 2 ^ i = 1 ∧ 256 / 2 ^ (i + 1) = 0)) := by decide
theorem e_greatest (T : Int) (hT0 : 0 ≤ T) (hT : T ≤ 600) (p1 : Int) (hp1 : xw p1 = p1) (h0 h1 h2 h3 h4 h5 h6 h7 h8 h9 h10 h11 h12 h13 h14 h15 h16 h17 h18 h19 h20 h21 h22 h23 h24 m : Ob) (hI : INV T h1 h3 [h4, h5, h6, h7, h8, h9, h10, h11, h12, h13, h14, h15, h16] m) : Same (T + 1) (md_X7_greatest_0 p1 h0 h1 h3 h4 h5 h6 h7 h8 h9 h10 h11 h12 h13 h14 h15 h16 h19 h20 h21 h22 h23 h24 xfu (h2, h17, h18)) (md_X8_greatest_0 p1 xfu m) := by
  have hI0 := hI
  obtain ⟨i1, i2, i3⟩ := hI
  have hL := i1.1
  obtain ⟨z1, z2, z3, z4, -⟩ := id hL
  have hf := xfu_ge (n := 5000) (by decide)
  have x1 : xlr p1 = true := by rw [← hp1]; exact xlr_xw
  by_cases hp : p1 = 0 ∨ p1 = 1 ∨ p1 = 2
  · obtain ⟨H, v, m', a1, a2, a3, a4, a5, a6, a7, a8, a9, a10, a11⟩ := r_great i1 i2 hp
    rw [a1]
    generalize hV : (if v - 1 ≤ 0 then (0 : Int) else v - 1) = V
    generalize hw : (if p1 = 2 then xand (movS h1) (xxor (goS h1) (-1)) else movS h1) = w at a7
    have hV1 : 0 ≤ V ∧ V ≤ 199 ∧ ∀ n : Int, 1 ≤ n → (n ≤ V ↔ n + 1 ≤ v) := by
      rw [← hV]
      split
      · exact ⟨by omega, by omega, fun n hn => by omega⟩
      · exact ⟨by omega, by omega, fun n hn => by omega⟩
    obtain ⟨v1, v2, v3⟩ := hV1
    have hRd : RdG h1 (h1 0 10) := ⟨hL, z2, z3⟩
    have key : ∀ t : Ob, LW t → its t w = its H w → ∃ pk, md_X7_greatest_66 p1 h0 h1 h3 h4 h5 h6 h7 h8 h9 h10 h11 h12 h13 h14 h15 h16 h19 h20 h21 h22 h23 h24 xfu (w, t, h17, h18) = RI V [h0, h1, t, h3, h4, h5, h6, h7, h8, h9, h10, h11, h12, h13, h14, h15, h16, rdO h17 (rnl h1 (movS h1) (h1 0 10)), pk, h19, h20, h21, h22, h23, h24] := by
      intro t hLt hit
      have hgi : ∀ (q : Ob) (n : Int), 1 ≤ n → n ≤ 199 → gi (pkA (pkF q t w) (n + 1)) (rdO h17 (rnl h1 (movS h1) (h1 0 10))) = decide (n ≤ V) ∧ pd (GiG (pkA (pkF q t w) (n + 1)) (rdO h17 (rnl h1 (movS h1) (h1 0 10)))) = true := fun q n hn1 hn2 => by
        obtain ⟨g1, g2⟩ := gi_h hL hLt q h17 w (movS h1) (n := n + 1) (by omega) (by omega) z2 z3
        refine ⟨?_, g2⟩
        rw [g1, hit, ← propext (a7 (n + 1) (by omega)), ← propext (v3 n hn1), pd_dec]
      obtain ⟨⟨fd, pk⟩, ⟨q1, q2, q3⟩, q4⟩ := loop_ex (B := lb_X7_greatest_99 p1 h0 h1 h3 h4 h5 h6 h7 h8 h9 h10 h11 h12 h13 h14 h15 h16 h19 h20 h21 h22 h23 h24 xfu) 9 (fun (q : Int × Ob) => RI q.1 [h0, h1, t, h3, h4, h5, h6, h7, h8, h9, h10, h11, h12, h13, h14, h15, h16, rdO h17 (rnl h1 (movS h1) (h1 0 10)), q.2, h19, h20, h21, h22, h23, h24]) (fun i (q : Int × Ob) => (w, q.1, ((256 / 2 ^ i : Nat) : Int), t, rdO h17 (rnl h1 (movS h1) (h1 0 10)), q.2)) (fun i (q : Int × Ob) => 0 ≤ q.1 ∧ q.1 ≤ V ∧ (V < q.1 + 2 * ((256 / 2 ^ i : Nat) : Int) ∨ ((256 / 2 ^ i : Nat) : Int) = 0 ∧ V = q.1)) (fun i q hi hI => by
          obtain ⟨k1, k2, k3⟩ := hI
          obtain ⟨b1, b2, b3, b4⟩ := p9b i hi
          generalize hb : 256 / 2 ^ i = b at b1 b2 b3 b4 k3
          rw [b3] at b4 ⊢
          have hxb : xw (b : Int) = b := xw_nat (by omega)
          have hxd : xdiv (b : Int) 2 = ((b / 2 : Nat) : Int) := by rw [xdiv_pos (by omega) (by decide) (by decide), hxb]; omega
          have hxs : xw (q.1 + (b : Int)) = q.1 + b := xw_id (by omega) (by omega)
          by_cases hask : q.1 + (b : Int) ≤ 199
          · obtain ⟨g1, g2⟩ := hgi q.2 (q.1 + b) (by omega) hask
            have hak : ask (q.1 + (b : Int)) = true := by
              unfold ask
              rw [hxs]
              simp
              omega
            by_cases hle : q.1 + (b : Int) ≤ V
            · rw [decide_eq_true hle] at g1
              refine ⟨(q.1 + (b : Int), giO xfu (pkA (pkF q.2 t w) (q.1 + (b : Int) + 1)) (rdO h17 (rnl h1 (movS h1) (h1 0 10)))), fun k => ?_, by show 0 ≤ q.1 + (b : Int); omega, hle, ?_⟩
              · simp only [lb_X7_greatest_99, mg_X7_greatest_99, md_X7_greatest_144, mg_X7_greatest_144, hxb, hak, bz_0, Bool.true_eq_false, if_false, g1, g2, if_true, hxd]
                rw [if_neg (show ¬ (b : Int) ≤ 0 by omega)]
              · show V < q.1 + (b : Int) + 2 * ((b / 2 : Nat) : Int) ∨ ((b / 2 : Nat) : Int) = 0 ∧ V = q.1 + (b : Int)
                omega
            · rw [decide_eq_false hle] at g1
              refine ⟨(q.1, giO xfu (pkA (pkF q.2 t w) (q.1 + (b : Int) + 1)) (rdO h17 (rnl h1 (movS h1) (h1 0 10)))), fun k => ?_, k1, k2, ?_⟩
              · simp only [lb_X7_greatest_99, mg_X7_greatest_99, md_X7_greatest_144, mg_X7_greatest_144, hxb, hak, bz_0, Bool.true_eq_false, if_false, g1, g2, if_true, hxd]
                rw [if_neg (show ¬ (b : Int) ≤ 0 by omega)]
              · show V < q.1 + 2 * ((b / 2 : Nat) : Int) ∨ ((b / 2 : Nat) : Int) = 0 ∧ V = q.1
                omega
          · have hak : ask (q.1 + (b : Int)) = false := by
              unfold ask
              rw [hxs]
              simp
              omega
            refine ⟨(q.1, q.2), fun k => ?_, k1, k2, ?_⟩
            · simp only [lb_X7_greatest_99, mg_X7_greatest_99, md_X7_greatest_144, mg_X7_greatest_144, hxb, hak, bz_0, if_true, hxd]
              rw [if_neg (show ¬ (b : Int) ≤ 0 by omega)]
            · show V < q.1 + 2 * ((b / 2 : Nat) : Int) ∨ ((b / 2 : Nat) : Int) = 0 ∧ V = q.1
              omega) (fun k q hI => by
          simp only [lb_X7_greatest_99, mg_X7_greatest_99]
          rw [if_pos (show xw ((256 / 2 ^ 9 : Nat) : Int) ≤ 0 by decide)]) 9 0 xfu (0, h18) (by omega) (by omega) ⟨Int.le_refl _, v1, Or.inl (by show V < 0 + 2 * ((256 / 2 ^ 0 : Nat) : Int); omega)⟩
      have hfd : fd = V := by
        dsimp only at q1 q2 q3
        have : ((256 / 2 ^ 9 : Nat) : Int) = 0 := by decide
        omega
      refine ⟨pk, ?_⟩
      simp only [md_X7_greatest_66, mg_X7_greatest_66, pd_t hRd, if_true]
      refine Eq.trans ?_ (q4.trans (by rw [hfd]))
      rfl
    have fin : ∀ (t pk : Ob), Same (T + 1) (RI V [h0, h1, t, h3, h4, h5, h6, h7, h8, h9, h10, h11, h12, h13, h14, h15, h16, rdO h17 (rnl h1 (movS h1) (h1 0 10)), pk, h19, h20, h21, h22, h23, h24]) (RI V [m']) := fun t pk => ⟨_, _, _, rfl, rfl, INV.mono (T := T) ⟨i1, a8, InvP_frame i3 a9 a10 a11⟩ (by omega)⟩
    have hc1 : ∀ i, i < 11 → cpyO h2 h1 1 i = h1 1 i := fun i hi => by unfold cpyO; rw [if_pos (by omega)]
    have hc2 : ∀ i, i < 11 → cpyO h2 h1 2 i = h1 2 i := fun i hi => by unfold cpyO; rw [if_pos (by omega)]
    have hc4 : ∀ i, i < 8 → cpyO h2 h1 4 i = h1 4 i := fun i hi => by unfold cpyO; rw [if_pos (by omega)]
    have hc5 : ∀ i, i < 8 → cpyO h2 h1 5 i = h1 5 i := fun i hi => by unfold cpyO; rw [if_pos (by omega)]
    have hc9 : cpyO h2 h1 0 9 = h1 0 9 := by unfold cpyO; rw [if_pos (by omega)]
    have hc10 : cpyO h2 h1 0 10 = h1 0 10 := by unfold cpyO; rw [if_pos (by omega)]
    have hit : ∀ t : Ob, (∀ i, i < 8 → t 2 i = H 2 i) → its t w = its H w := fun t ht => by
      unfold its
      exact List.map_congr_left (fun i hi => by rw [ht i (List.mem_range.mp (List.mem_filter.mp hi).1)])
    by_cases hp0 : p1 = 0
    · obtain ⟨pk, hk⟩ := key (cpyO h2 h1) (LW_ext hL hc9 hc10 hc1 hc2 hc4) (hit _ (fun i hi => by rw [hc2 i (by omega), a6 i, if_neg (by omega)]))
      have : md_X7_greatest_0 p1 h0 h1 h3 h4 h5 h6 h7 h8 h9 h10 h11 h12 h13 h14 h15 h16 h19 h20 h21 h22 h23 h24 xfu (h2, h17, h18) = md_X7_greatest_66 p1 h0 h1 h3 h4 h5 h6 h7 h8 h9 h10 h11 h12 h13 h14 h15 h16 h19 h20 h21 h22 h23 h24 xfu (w, cpyO h2 h1, h17, h18) := by
        simp only [md_X7_greatest_0, mg_X7_greatest_0, md_X7_greatest_34, mg_X7_greatest_34, hp1]
        rw [if_neg (show ¬ p1 < 0 by omega), if_pos (show p1 ≤ 2 by omega), if_pos (show p1 < 1 by omega), if_neg (show ¬ p1 = 2 by omega)]
        rw [if_neg (show ¬ p1 = 2 by omega)] at hw
        rw [hw]
      rw [this, hk]
      exact fin _ _
    · have hms : ∀ i : Nat, i < 8 → mov (cpyO h2 h1) (i : Int) = mov h1 (i : Int) := fun i hi => mov_off (fun i hi => hc1 i (by omega)) hc4 hi
      have hs2 : ∀ i, i < 11 → sqaO (cpyO h2 h1) 2 i = H 2 i := fun i hi => by
        rw [sqaO_e]
        have := sqf_2 (cpyO h2 h1) 8 (by omega) i
        unfold sqf at this
        unfold sqaOI
        rw [this, a6 i]
        by_cases h8 : i < 8
        · rw [hms i h8, hc2 i hi, hc5 i h8]
          exact ifc ⟨fun z => ⟨by omega, z⟩, fun z => z.2⟩ _ _
        · rw [if_neg (fun z => h8 z.1), if_neg (fun z => h8 z.2.1), hc2 i hi]
      have hso : ∀ j k, j ≠ 2 → sqaO (cpyO h2 h1) j k = cpyO h2 h1 j k := fun j k hj => by
        rw [sqaO_e]
        exact sqf_off (cpyO h2 h1) 8 j k hj
      obtain ⟨pk, hk⟩ := key (sqaO (cpyO h2 h1)) (LW_ext a4.1 (by rw [hso 0 9 (by decide), hc9, a5 0 9 (by decide)]) (by rw [hso 0 10 (by decide), hc10, a5 0 10 (by decide)]) (fun i hi => by rw [hso 1 i (by decide), hc1 i hi, a5 1 i (by decide)]) hs2 (fun i hi => by rw [hso 4 i (by decide), hc4 i hi, a5 4 i (by decide)])) (hit _ (fun i hi => hs2 i (by omega)))
      have : md_X7_greatest_0 p1 h0 h1 h3 h4 h5 h6 h7 h8 h9 h10 h11 h12 h13 h14 h15 h16 h19 h20 h21 h22 h23 h24 xfu (h2, h17, h18) = md_X7_greatest_66 p1 h0 h1 h3 h4 h5 h6 h7 h8 h9 h10 h11 h12 h13 h14 h15 h16 h19 h20 h21 h22 h23 h24 xfu (w, sqaO (cpyO h2 h1), h17, h18) := by
        simp only [md_X7_greatest_0, mg_X7_greatest_0, md_X7_greatest_34, mg_X7_greatest_34, hp1]
        rw [if_neg (show ¬ p1 < 0 by omega), if_pos (show p1 ≤ 2 by omega), if_neg (show ¬ p1 < 1 by omega)]
        by_cases hp2 : p1 = 2
        · rw [if_pos hp2] at hw ⊢
          rw [hw]
        · rw [if_neg hp2] at hw ⊢
          rw [hw]
      rw [this, hk]
      exact fin _ _
  · have hno : inn p1 0 2 = false := by rw [inn_e]; exact decide_eq_false (by omega)
    have e8 : md_X8_greatest_0 p1 xfu m = RI (-1) [m] := by
      simp only [md_X8_greatest_0, mg_X8_greatest_0, hp1, x1, xlr_s (p := 0) (by decide) (by decide), xlr_s (p := 2) (by decide) (by decide), Bool.and_self, if_true, hno, bz_0]
    rw [e8]
    simp only [md_X7_greatest_0, mg_X7_greatest_0, hp1]
    by_cases hneg : p1 < 0
    · rw [if_pos hneg]
      exact ⟨_, _, _, rfl, rfl, hI0.mono (by omega)⟩
    · rw [if_neg hneg, if_neg (show ¬ p1 ≤ 2 by omega)]
      exact ⟨_, _, _, rfl, rfl, hI0.mono (by omega)⟩
