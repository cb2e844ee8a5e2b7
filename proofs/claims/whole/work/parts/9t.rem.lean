theorem rem_parts {h : Ob} {i : Nat} (hi : i < 8) {at_ : Int} {z : Nat} (hz : z ≤ 60) {h' : Ob} (hh : h' = finO (xset (layO h (i : Int) at_ (z : Int)) 0 13 (layO h (i : Int) at_ (z : Int) 0 13 + layO h (i : Int) at_ (z : Int) 6 i)) (i : Int)) :
    (∀ k, h' 1 k = if k = i then at_ else h 1 k) ∧ (∀ k, h' 2 k = if k = i then (z : Int) else h 2 k) ∧ (∀ k, h' 3 k = if 60 * i ≤ k ∧ k < 60 * i + z then 0 else h 3 k) ∧ (∀ k, h' 4 k = h 4 k) ∧ (∀ k, h' 5 k = h 5 k) ∧ (∀ k, h' 6 k = h 6 k) ∧ (∀ k, h' 7 k = if k = i then h 0 11 + 1 else h 7 k) ∧ (∀ k, h' 0 k = if k = 11 then h 0 11 + 1 else if k = 13 then h 0 13 + h 6 i else h 0 k) := by
  obtain ⟨e1, e2, e3, e4⟩ := lay_parts (h := h) (w := i) (by omega) (at_ := at_) hz
  have e0 := e4 0 (by decide) (by decide) (by decide)
  have e44 := e4 4 (by decide) (by decide) (by decide)
  have e5 := e4 5 (by decide) (by decide) (by decide)
  have e6 := e4 6 (by decide) (by decide) (by decide)
  have e7 := e4 7 (by decide) (by decide) (by decide)
  subst hh
  rw [finO_i _ hi]
  generalize layO h (i : Int) at_ (z : Int) = g at *
  refine ⟨fun k => ?_, fun k => ?_, fun k => ?_, fun k => ?_, fun k => ?_, fun k => ?_, fun k => ?_, fun k => ?_⟩
  · simp [xset, e1]
  · simp [xset, e2]
  · simp [xset, e3]
  · simp [xset, e44]
  · simp [xset, e5]
  · simp [xset, e6]
  · simp [xset, e7, e0]
  · simp [xset, e0, e6]
theorem lay_rem {T : Int} {h m : Ob} (hH : HI T h) (hR : Rel h (m 1)) {i : Nat} (hi : i < 8) (hu : inS (h 0 7) (i : Int) = true) (hp : h 1 i = -1) {at_ : Int} {z : Nat} (hz1 : 1 ≤ z) (hz : z ≤ 60) (ez : h 2 i = (z : Int)) (hF : Fre h at_ ((z : Int) + 1)) {M : Ob} (hM : M = xset (ccO (xset (xset m 1 (5 + i) 1) 1 (13 + i) at_) i 0 60) 1 4 (ccO (xset (xset m 1 (5 + i) 1) 1 (13 + i) at_) i 0 60 1 4 + ccO (xset (xset m 1 (5 + i) 1) 1 (13 + i) at_) i 0 60 1 (45 + i))) :
    HI (T + 1) (finO (xset (layO h (i : Int) at_ (z : Int)) 0 13 (layO h (i : Int) at_ (z : Int) 0 13 + layO h (i : Int) at_ (z : Int) 6 i)) (i : Int)) ∧ Rel (finO (xset (layO h (i : Int) at_ (z : Int)) 0 13 (layO h (i : Int) at_ (z : Int) 0 13 + layO h (i : Int) at_ (z : Int) 6 i)) (i : Int)) (fun k => if k = 61 + i then M 1 3 + 1 else if k = 3 then M 1 3 + 1 else M 1 k) := by
  have hLn := LW_lay hH.1 (w := i) (by omega) hz1 hz hF
  obtain ⟨l1, l2, -, l4⟩ := lay_parts (h := h) (w := i) (by omega) (at_ := at_) hz
  have l0 := l4 0 (by decide) (by decide) (by decide)
  generalize hh : finO (xset (layO h (i : Int) at_ (z : Int)) 0 13 (layO h (i : Int) at_ (z : Int) 0 13 + layO h (i : Int) at_ (z : Int) 6 i)) (i : Int) = h'
  obtain ⟨P1, P2, P3, P4, P5, P6, P7, P0⟩ := rem_parts hi hz hh.symm
  have hN1 : ∀ k, ccO (xset (xset m 1 (5 + i) 1) 1 (13 + i) at_) i 0 60 1 k = if 75 + 60 * i + 0 ≤ k ∧ k < 75 + 60 * i + 60 then 0 else if k = 13 + i then at_ else if k = 5 + i then 1 else m 1 k := fun k => by
    simp only [xs1, cc1]
  obtain ⟨hr1, hr2, hr3⟩ := hR.2.1 i hi
  obtain ⟨v1, v2, v3, v4, v5⟩ := hr3 hu
  obtain ⟨b1, b2, b3, b4, b5, b6, b7⟩ := (hH.2.1 i hi).1 hu
  have hl0 := (hH.2.1 i hi).2 hp
  have n4 : ccO (xset (xset m 1 (5 + i) 1) 1 (13 + i) at_) i 0 60 1 4 = h 0 13 := by
    rw [hN1, if_neg (by omega), if_neg (by omega), if_neg (by omega)]
    exact hR.1.2.2.2.2
  have n45 : ccO (xset (xset m 1 (5 + i) 1) 1 (13 + i) at_) i 0 60 1 (45 + i) = h 6 i := by
    rw [hN1, if_neg (by omega), if_neg (by omega), if_neg (by omega)]
    exact v3
  have hM1 : ∀ k, M 1 k = if k = 4 then h 0 13 + h 6 i else if 75 + 60 * i + 0 ≤ k ∧ k < 75 + 60 * i + 60 then 0 else if k = 13 + i then at_ else if k = 5 + i then 1 else m 1 k := fun k => by
    rw [hM, n4, n45, xs1]
    (try dsimp only)
    rw [hN1]
  have m3 : M 1 3 = h 0 11 := by
    rw [hM1, if_neg (by omega), if_neg (by omega), if_neg (by omega), if_neg (by omega)]
    exact hR.1.2.2.2.1
  rw [m3]
  have hcl := hH.2.2.1
  have hbl := hH.2.2.2.1
  have q7 : h' 0 7 = h 0 7 := P0 7
  have q8 : h' 0 8 = h 0 8 := P0 8
  have q9 : h' 0 9 = h 0 9 := P0 9
  have q10 : h' 0 10 = h 0 10 := P0 10
  have q11 : h' 0 11 = h 0 11 + 1 := P0 11
  have q12 : h' 0 12 = h 0 12 := P0 12
  have q13 : h' 0 13 = h 0 13 + h 6 i := P0 13
  have p1 : h' 1 i = at_ := by rw [P1, if_pos rfl]
  have p2 : h' 2 i = (z : Int) := by rw [P2, if_pos rfl]
  have p7 : h' 7 i = h 0 11 + 1 := by rw [P7, if_pos rfl]
  have hat := hF.1
  refine Ch2 hi hH hR ⟨q9, q10, q12⟩ ⟨by omega, by omega⟩ ⟨by omega, by omega⟩ ⟨?_, ?_⟩ (fun j hj hji => ⟨by rw [P1, if_neg hji], by rw [P2, if_neg hji]⟩) (fun j hj hji => ⟨P4 j, P5 j, P6 j, by rw [P7, if_neg hji], by rw [q7], by rw [q8]⟩) (fun j hj hji k hk => ?_) (fun k hk hn k3 k4 hc => ?_) ?_ ?_ (fun k hk => ?_) ⟨fun _ => ?_, fun _ => by rw [P4]; exact hl0⟩ (by rw [q7]; exact hH.2.2.2.2.2.1) (by rw [q8]; exact hH.2.2.2.2.2.2)
  · (try dsimp only)
    rw [if_neg (by omega), if_pos rfl, q11]
  · (try dsimp only)
    rw [if_neg (by omega), if_neg (by omega), hM1, if_pos rfl, q13]
  · rw [P3, if_neg (by omega)]
  · obtain ⟨n1, n2, n3, n4, n5, n6, n7, n8⟩ := hn
    (try dsimp only)
    rw [if_neg n8, if_neg k3, hM1, if_neg k4, if_neg (by omega), if_neg n2, if_neg n1]
  · refine LW_of hLn (fun j hj => ⟨by rw [P1, l1], by rw [P2, l2]⟩) (by rw [q9, l0]) (by rw [q10, l0]) (fun j hj => ?_)
    rw [P4]
    exact hH.1.2.2.2.2.2 j hj
  · unfold RelH
    (try dsimp only)
    rw [q7, q8, hu, p1, p2, P4, P5, P6, p7]
    refine ⟨Or.inr (Or.inl ⟨rfl, by omega, ?_, ?_⟩), ?_, fun _ => ⟨?_, ?_, ?_, ?_, ?_⟩⟩
    · rw [if_neg (by omega), if_neg (by omega), hM1, if_neg (by omega), if_neg (by omega), if_neg (by omega), if_pos rfl]
    · rw [if_neg (by omega), if_neg (by omega), hM1, if_neg (by omega), if_neg (by omega), if_pos rfl]
    · rw [if_neg (by omega), if_neg (by omega), hM1, if_neg (by omega), if_neg (by omega), if_neg (by omega), if_neg (by omega)]
      exact hr2
    · rw [if_neg (by omega), if_neg (by omega), hM1, if_neg (by omega), if_neg (by omega), if_neg (by omega), if_neg (by omega), ← ez]
      exact v1
    · rw [if_neg (by omega), if_neg (by omega), hM1, if_neg (by omega), if_neg (by omega), if_neg (by omega), if_neg (by omega)]
      exact v2
    · rw [if_neg (by omega), if_neg (by omega), hM1, if_neg (by omega), if_neg (by omega), if_neg (by omega), if_neg (by omega)]
      exact v3
    · rw [if_neg (by omega), if_neg (by omega), hM1, if_neg (by omega), if_neg (by omega), if_neg (by omega), if_neg (by omega)]
      exact v4
    · rw [if_pos rfl]
  · rw [p2] at hk
    (try dsimp only)
    rw [if_neg (by omega), if_neg (by omega), hM1, if_neg (by omega), if_pos (by omega), P3, if_pos (by omega)]
  · rw [p2, P5, P6, p7, q11]
    omega
theorem e_remake (T : Int) (hT0 : 0 ≤ T) (hT : T ≤ 600) (p1 : Int) (hp1 : xw p1 = p1) (h0 h1 h2 h3 h4 h5 h6 h7 h8 h9 h10 h11 h12 h13 h14 h15 h16 h17 h18 h19 h20 h21 h22 h23 h24 m : Ob) (hI : INV T h1 h3 [h4, h5, h6, h7, h8, h9, h10, h11, h12, h13, h14, h15, h16] m) : Same (T + 1) (md_X7_remake_0 p1 h0 h2 h17 h18 h23 h24 (h1, h3, h4, h5, h6, h7, h8, h9, h10, h11, h12, h13, h14, h15, h16, h19, h20, h21, h22)) (md_X8_remake_0 p1 m) := by
  have hI0 := hI
  obtain ⟨i1, i2, i3⟩ := hI
  have hL := i1.1
  rcases hdl_cases hp1 with hf | ⟨i, hi, rfl⟩
  · have hk : knd h1 p1 = 0 := by unfold knd; rw [inS_f hf]; rfl
    simp only [md_X7_remake_0, mg_X7_remake_0, md_X8_remake_0, mg_X8_remake_0, bz_0, hk, hf, if_true]
    rw [if_neg (show ¬ xw 0 = 2 by decide)]
    exact ⟨_, _, _, rfl, rfl, hI0.mono (by omega)⟩
  · obtain ⟨x1, x2⟩ := ixn (c := 5) 5 rfl (by decide) hi
    obtain ⟨y1, y2⟩ := ixn (c := 21) 21 rfl (by decide) hi
    obtain ⟨y7, y8⟩ := ixn (c := 45) 45 rfl (by decide) hi
    have hxi : xw (i : Int) = (i : Int) := xw_nat (by omega)
    by_cases hE : inS (h1 0 7) (i : Int) = true ∧ h1 1 i = -1
    · obtain ⟨hu, hp⟩ := hE
      have hful : ful h1 (i : Int) = false := by
        cases hq : ful h1 (i : Int) with
        | false => rfl
        | true => exact absurd hp ((hL.fu hi).mp hq)
      have hk : knd h1 (i : Int) = 2 := by unfold knd; rw [hu, hful]; rfl
      have hst : m 1 (5 + i) = 2 := by
        rcases (i2.2.1 i hi).1 with ⟨a, b, c⟩ | ⟨a, b, c, d⟩ | ⟨a, b, c⟩
        · rw [hu] at a; cases a
        · exact absurd hp b
        · exact c
      have hb := (i1.2.1 i hi).1 hu
      have hb2 := hL.2.2.2.1 i (by omega)
      obtain ⟨z, ez⟩ : ∃ z : Nat, h1 2 i = (z : Int) := ⟨(h1 2 i).toNat, by omega⟩
      have k21 : ksO m 1 (21 + i) = (z : Int) := (((i2.2.1 i hi).2.2 hu).1).trans ez
      obtain ⟨m1, b1, b2⟩ := v_fits i1 (m := ksO m) i2 (n := (z : Int) + 1) (by omega) (by omega) (Or.inl rfl) h19 h20 h21 h22
      have hg := pd_t (p := LW h1 ∧ Lst h1 ∧ 1 ≤ (z : Int) + 1 ∧ (z : Int) + 1 ≤ 200) ⟨hL, lst_of i1 i2, by omega, by omega⟩
      simp only [md_X7_remake_0, mg_X7_remake_0, md_X8_remake_0, mg_X8_remake_0, bz_0, hk, hdl_nat hi, Bool.true_eq_false, if_false, x1, x2, hst, ks_e, oqV_t, oqO_V, if_true, y1, y2, k21, hxi, toNat_nat, ez, xin_nat (show i < 11 by omega) (show 11 ≤ 2147483648 by omega), xin_nat (show i < 8 by omega) (show 8 ≤ 2147483648 by omega), b1, oqI_t, oqR_I, oqO_I, hg, pd_t i3.1, y7, y8]
      rw [if_pos (show xw 2 = 2 by decide), if_pos (show xw 2 = 2 by decide)]
      generalize fsF h19 h20 h21 h22 h1 ((z : Int) + 1) (-1) = R at *
      obtain ⟨t1, t2, t3, t4, t5, t6, t7, t8, t9, t10⟩ := b2
      have u3 : m1 3 = m 3 := by rw [t5]; rfl
      have u03 : m1 0 3 = m 0 3 := by rw [t6 3 (by decide) (by decide) (by decide) (by decide) (by decide)]; rfl
      have u04 : m1 0 4 = m 0 4 := by rw [t6 4 (by decide) (by decide) (by decide) (by decide) (by decide)]; rfl
      rcases t3 with e | e
      · rw [e, if_pos xwm1, if_neg (show ¬ xw (-1) ≥ 0 by decide)]
        have hlb : ov_X8_laysBack m1 = RV [lbO m1] := (ov_X8_laysBack_e m1).trans (r_laysBack xfu (xfu_ge (by decide)) m1)
        simp only [hlb, oqV_t, oqO_V, if_true]
        have hRl : Rel h1 (lbO m1 1) := by
          refine Rel_cong hL (fun k hk => ?_) i2
          show (if 1 = 1 ∧ k < 735 then m1 2 k else m1 1 k) = m 1 k
          rw [if_pos ⟨rfl, hk⟩, t4]
          exact ks_2 m hk
        have := fail_inv (h' := R.2.2.2.2.2) (m1 := lbO m1) hI0 hRl u3 u03 u04
        exact ⟨_, _, _, rfl, rfl, this.mono (by omega)⟩
      · obtain ⟨f1, f2, -⟩ := id e
        have w2 := t1.1.2.1
        have w3 := t1.1.2.2.1
        have hx : xw R.1 = R.1 := xw_id (by omega) (by omega)
        rw [hx, if_neg (show ¬ R.1 = -1 by omega), if_pos (show R.1 ≥ 0 by omega)]
        have hu' : inS (R.2.2.2.2.2 0 7) (i : Int) = true := by rw [t10.2.2 0 7 (by decide) (by decide) (by decide)]; exact hu
        obtain ⟨hp', hz0⟩ := t10.1 i (by omega) hp
        have hz' : R.2.2.2.2.2 2 i = (z : Int) := hz0.trans ez
        rw [hz']
        have hHR := lay_rem t1 t2 hi hu' hp' (at_ := R.1) (z := z) (by omega) (by omega) hz' e rfl
        simp only [v_fills m1 hi, oqV_t, oqO_V, if_true]
        obtain ⟨m2, m3, c1, c2, c3, c4⟩ := act_g hi hI0 hHR (fun k hk => by
          show m1 2 k = m 1 k
          rw [t4]
          exact ks_2 m hk) u3 u03
        simp only [c1, c2, oqV_t, oqO_V, if_true]
        exact ⟨_, _, _, rfl, rfl, c4⟩
    · have hk : (knd h1 (i : Int) = 0 ∧ m 1 (5 + i) = 0) ∨ (knd h1 (i : Int) = 1 ∧ m 1 (5 + i) = 1) := by
        unfold knd
        rcases (i2.2.1 i hi).1 with ⟨a, b, c⟩ | ⟨a, b, c, d⟩ | ⟨a, b, c⟩
        · left
          rw [a]
          exact ⟨rfl, c⟩
        · right
          rw [a, (hL.fu hi).mpr b]
          exact ⟨rfl, c⟩
        · exact absurd ⟨a, b⟩ hE
      simp only [md_X7_remake_0, mg_X7_remake_0, md_X8_remake_0, mg_X8_remake_0, bz_0, hdl_nat hi, Bool.true_eq_false, if_false, x1, x2, if_true]
      rcases hk with ⟨k1, k2⟩ | ⟨k1, k2⟩
      · rw [k1, k2, if_neg (show ¬ xw 0 = 2 by decide), if_neg (show ¬ xw 0 = 2 by decide)]
        exact ⟨_, _, _, rfl, rfl, hI0.mono (by omega)⟩
      · rw [k1, k2, if_neg (show ¬ xw 1 = 2 by decide), if_neg (show ¬ xw 1 = 2 by decide)]
        exact ⟨_, _, _, rfl, rfl, hI0.mono (by omega)⟩
