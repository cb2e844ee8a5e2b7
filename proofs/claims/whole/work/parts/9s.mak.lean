theorem desc_at {g : Ob} {i : Nat} (hi : i < 8) (c : Int) : descO g (i : Int) c = xset (xset (xset (xset (xset g 0 7 (xor_ (g 0 7) (xshl 1 (i : Int)))) 0 8 (xand (g 0 8) (xxor (xshl 1 (i : Int)) (-1)))) 4 i 0) 6 i c) 5 i (g 2 i) := by
  unfold descO
  rw [if_pos (hdl_nat hi), xw_nat (by omega), toNat_nat]
theorem new_parts {h : Ob} {i : Nat} (hi : i < 8) {at_ c : Int} {z : Nat} (hz : z ≤ 60) {h' : Ob} (hh : h' = finO (descO (layO h (i : Int) at_ (z : Int)) (i : Int) c) (i : Int)) :
    (∀ k, h' 1 k = if k = i then at_ else h 1 k) ∧ (∀ k, h' 2 k = if k = i then (z : Int) else h 2 k) ∧ (∀ k, h' 3 k = if 60 * i ≤ k ∧ k < 60 * i + z then 0 else h 3 k) ∧ (∀ k, h' 4 k = if k = i then 0 else h 4 k) ∧ (∀ k, h' 5 k = if k = i then (z : Int) else h 5 k) ∧ (∀ k, h' 6 k = if k = i then c else h 6 k) ∧ (∀ k, h' 7 k = if k = i then h 0 11 + 1 else h 7 k) ∧ (∀ k, h' 0 k = if k = 11 then h 0 11 + 1 else if k = 8 then xand (h 0 8) (xxor (xshl 1 (i : Int)) (-1)) else if k = 7 then xor_ (h 0 7) (xshl 1 (i : Int)) else h 0 k) := by
  obtain ⟨e1, e2, e3, e4⟩ := lay_parts (h := h) (w := i) (by omega) (at_ := at_) hz
  have e0 := e4 0 (by decide) (by decide) (by decide)
  have e44 := e4 4 (by decide) (by decide) (by decide)
  have e5 := e4 5 (by decide) (by decide) (by decide)
  have e6 := e4 6 (by decide) (by decide) (by decide)
  have e7 := e4 7 (by decide) (by decide) (by decide)
  subst hh
  rw [finO_i _ hi, desc_at hi]
  generalize layO h (i : Int) at_ (z : Int) = g at *
  have g2 : g 2 i = (z : Int) := by rw [e2, if_pos rfl]
  refine ⟨fun k => ?_, fun k => ?_, fun k => ?_, fun k => ?_, fun k => ?_, fun k => ?_, fun k => ?_, fun k => ?_⟩
  · simp [xset, e1]
  · simp [xset, e2]
  · simp [xset, e3]
  · simp [xset, e44]
  · simp [xset, e5, g2]
  · simp [xset, e6]
  · simp [xset, e7, e0]
  · simp [xset, e0]
theorem lay_new {T : Int} {h m : Ob} (hH : HI T h) (hR : Rel h (m 1)) {i : Nat} (hi : i < 8) (hu : inS (h 0 7) (i : Int) = false) {at_ c : Int} {z : Nat} (hz1 : 1 ≤ z) (hz : z ≤ 60) (hc0 : 0 ≤ c) (hc9 : c ≤ 9) (hF : Fre h at_ ((z : Int) + 1)) {M : Ob} (hM : M = xset (xset (xset (xset (xset (ccO (xset (xset m 1 (5 + i) 1) 1 (13 + i) at_) i 0 60) 1 (21 + i) (z : Int)) 1 (29 + i) 0) 1 (37 + i) (z : Int)) 1 (45 + i) c) 1 (53 + i) 0) :
    HI (T + 1) (finO (descO (layO h (i : Int) at_ (z : Int)) (i : Int) c) (i : Int)) ∧ Rel (finO (descO (layO h (i : Int) at_ (z : Int)) (i : Int) c) (i : Int)) (fun k => if k = 61 + i then M 1 3 + 1 else if k = 3 then M 1 3 + 1 else M 1 k) := by
  have hLn := LW_lay hH.1 (w := i) (by omega) hz1 hz hF
  obtain ⟨l1, l2, -, l4⟩ := lay_parts (h := h) (w := i) (by omega) (at_ := at_) hz
  have l0 := l4 0 (by decide) (by decide) (by decide)
  generalize hh : finO (descO (layO h (i : Int) at_ (z : Int)) (i : Int) c) (i : Int) = h'
  obtain ⟨P1, P2, P3, P4, P5, P6, P7, P0⟩ := new_parts hi hz hh.symm
  have hM1 : ∀ k, M 1 k = if k = 53 + i then 0 else if k = 45 + i then c else if k = 37 + i then (z : Int) else if k = 29 + i then 0 else if k = 21 + i then (z : Int) else if 75 + 60 * i + 0 ≤ k ∧ k < 75 + 60 * i + 60 then 0 else if k = 13 + i then at_ else if k = 5 + i then 1 else m 1 k := fun k => by
    rw [hM]
    simp only [xs1, cc1]
  have m3 : M 1 3 = h 0 11 := by
    rw [hM1, if_neg (by omega), if_neg (by omega), if_neg (by omega), if_neg (by omega), if_neg (by omega), if_neg (by omega), if_neg (by omega), if_neg (by omega)]
    exact hR.1.2.2.2.1
  rw [m3]
  obtain ⟨s1, s2⟩ := hH.2.2.2.2.2.1
  obtain ⟨s3, s4⟩ := hH.2.2.2.2.2.2
  have hcl := hH.2.2.1
  have hbl := hH.2.2.2.1
  have q7 : h' 0 7 = xor_ (h 0 7) (xshl 1 (i : Int)) := P0 7
  have q8 : h' 0 8 = xand (h 0 8) (xxor (xshl 1 (i : Int)) (-1)) := P0 8
  have q9 : h' 0 9 = h 0 9 := P0 9
  have q10 : h' 0 10 = h 0 10 := P0 10
  have q11 : h' 0 11 = h 0 11 + 1 := P0 11
  have q12 : h' 0 12 = h 0 12 := P0 12
  have q13 : h' 0 13 = h 0 13 := P0 13
  have i7 : ∀ j : Nat, j < 8 → inS (h' 0 7) (j : Int) = (inS (h 0 7) (j : Int) || decide (j = i)) := fun j hj => by rw [q7, inS_or _ _ hj, inS_one i hi j (by omega)]
  have i8 : ∀ j : Nat, j < 8 → inS (h' 0 8) (j : Int) = (inS (h 0 8) (j : Int) && !decide (j = i)) := fun j hj => by rw [q8, inS_and _ _ hj, inS_not _ hj, inS_one i hi j (by omega)]
  have p1 : h' 1 i = at_ := by rw [P1, if_pos rfl]
  have p2 : h' 2 i = (z : Int) := by rw [P2, if_pos rfl]
  have p4 : h' 4 i = 0 := by rw [P4, if_pos rfl]
  have p5 : h' 5 i = (z : Int) := by rw [P5, if_pos rfl]
  have p6 : h' 6 i = c := by rw [P6, if_pos rfl]
  have p7 : h' 7 i = h 0 11 + 1 := by rw [P7, if_pos rfl]
  have hat := hF.1
  refine Ch2 hi hH hR ⟨q9, q10, q12⟩ ⟨by omega, by omega⟩ ⟨by omega, by omega⟩ ⟨?_, ?_⟩ (fun j hj hji => ⟨by rw [P1, if_neg hji], by rw [P2, if_neg hji]⟩) (fun j hj hji => ⟨by rw [P4, if_neg hji], by rw [P5, if_neg hji], by rw [P6, if_neg hji], by rw [P7, if_neg hji], ?_, ?_⟩) (fun j hj hji k hk => ?_) (fun k hk hn k3 k4 hc => ?_) ?_ ?_ (fun k hk => ?_) ⟨fun _ => ?_, fun _ => p4⟩ (by rw [q7]; exact (bx s1 s2 hi).2.2) (by rw [q8]; exact (bx s3 s4 hi).2.1)
  · (try dsimp only)
    rw [if_neg (by omega), if_pos rfl, q11]
  · (try dsimp only)
    rw [if_neg (by omega), if_neg (by omega), hM1, if_neg (by omega), if_neg (by omega), if_neg (by omega), if_neg (by omega), if_neg (by omega), if_neg (by omega), if_neg (by omega), if_neg (by omega), q13]
    exact hR.1.2.2.2.2
  · rw [i7 j hj, decide_eq_false hji, Bool.or_false]
  · rw [i8 j hj, decide_eq_false hji, Bool.not_false, Bool.and_true]
  · rw [P3, if_neg (by omega)]
  · obtain ⟨n1, n2, n3, n4, n5, n6, n7, n8⟩ := hn
    (try dsimp only)
    rw [if_neg n8, if_neg k3, hM1, if_neg n7, if_neg n6, if_neg n5, if_neg n4, if_neg n3, if_neg (by omega), if_neg n2, if_neg n1]
  · refine LW_of hLn (fun j hj => ⟨by rw [P1, l1], by rw [P2, l2]⟩) (by rw [q9, l0]) (by rw [q10, l0]) (fun j hj => ?_)
    have := hH.1.2.2.2.2.2 j hj
    rw [P4]
    split <;> omega
  · unfold RelH
    have hin : inS (h' 0 7) (i : Int) = true := by rw [i7 i hi, decide_eq_true rfl, Bool.or_true]
    have hn8 : inS (h' 0 8) (i : Int) = false := by rw [i8 i hi, decide_eq_true rfl, Bool.not_true, Bool.and_false]
    (try dsimp only)
    rw [hin, hn8, p1, p2, p4, p5, p6, p7]
    refine ⟨Or.inr (Or.inl ⟨rfl, by omega, ?_, ?_⟩), ?_, fun _ => ⟨?_, ?_, ?_, ?_, ?_⟩⟩
    · rw [if_neg (by omega), if_neg (by omega), hM1, if_neg (by omega), if_neg (by omega), if_neg (by omega), if_neg (by omega), if_neg (by omega), if_neg (by omega), if_neg (by omega), if_pos rfl]
    · rw [if_neg (by omega), if_neg (by omega), hM1, if_neg (by omega), if_neg (by omega), if_neg (by omega), if_neg (by omega), if_neg (by omega), if_neg (by omega), if_pos rfl]
    · rw [if_neg (by omega), if_neg (by omega), hM1, if_neg (by omega), if_neg (by omega), if_neg (by omega), if_pos rfl]
    · rw [if_neg (by omega), if_neg (by omega), hM1, if_neg (by omega), if_neg (by omega), if_neg (by omega), if_neg (by omega), if_pos rfl]
    · rw [if_neg (by omega), if_neg (by omega), hM1, if_neg (by omega), if_neg (by omega), if_pos rfl]
    · rw [if_neg (by omega), if_neg (by omega), hM1, if_neg (by omega), if_pos rfl]
    · rw [if_neg (by omega), if_neg (by omega), hM1, if_pos rfl]
      rfl
    · rw [if_pos rfl]
  · rw [p2] at hk
    (try dsimp only)
    rw [if_neg (by omega), if_neg (by omega), hM1, if_neg (by omega), if_neg (by omega), if_neg (by omega), if_neg (by omega), if_neg (by omega), if_pos (by omega), P3, if_pos (by omega)]
  · rw [p2, p5, p6, p7, q11]
    omega
theorem e_make (T : Int) (hT0 : 0 ≤ T) (hT : T ≤ 600) (p1 : Int) (hp1 : xw p1 = p1) (p2 : Int) (hp2 : xw p2 = p2) (h0 h1 h2 h3 h4 h5 h6 h7 h8 h9 h10 h11 h12 h13 h14 h15 h16 h17 h18 h19 h20 h21 h22 h23 h24 m : Ob) (hI : INV T h1 h3 [h4, h5, h6, h7, h8, h9, h10, h11, h12, h13, h14, h15, h16] m) : Same (T + 1) (md_X7_make_0 p1 p2 h0 h2 h17 h18 h23 h24 (h1, h3, h4, h5, h6, h7, h8, h9, h10, h11, h12, h13, h14, h15, h16, h19, h20, h21, h22)) (md_X8_make_0 p1 p2 xfu m) := by
  have hI0 := hI
  obtain ⟨i1, i2, i3⟩ := hI
  have hL := i1.1
  have x1 : xlr p1 = true := by rw [← hp1]; exact xlr_xw
  have x2 : xlr p2 = true := by rw [← hp2]; exact xlr_xw
  have hf := xfu_ge (n := 5000) (by decide)
  have hlp : md_X8_make_0 p1 p2 xfu m = md_X8_make_25 p1 p2 xfu ((if ffu h1 = -1 then 8 else ffu h1), m) := by
    have := loop_find (B := lb_X8_make_2 p1 p2 xfu) 8 (fun i => !inS (h1 0 7) (i : Int)) (fun r => md_X8_make_25 p1 p2 xfu (if r = -1 then 8 else r, m)) (fun i => ((i : Int), m)) (fun k i hi => by
      obtain ⟨x1, x2⟩ := ixn (c := 5) 5 rfl (by decide) hi
      simp only [lb_X8_make_2, mg_X8_make_2, xw_nat (show i < 2147483648 by omega), x1, x2, if_true]
      rw [if_neg (show ¬ (i : Int) ≥ 8 by omega)]
      rcases i2.2.1 i hi with ⟨⟨a, b, c⟩ | ⟨a, b, c, d⟩ | ⟨a, b, c⟩, -⟩
      · rw [c, if_pos (show xw 0 = 0 by decide)]
        simp only [a, Bool.not_false, if_true]
        rw [if_neg (show ¬ (i : Int) = -1 by omega)]
      · rw [c, if_neg (show ¬ xw 1 = 0 by decide)]
        simp only [a, Bool.not_true, Bool.false_eq_true, if_false]
        rfl
      · rw [c, if_neg (show ¬ xw 2 = 0 by decide)]
        simp only [a, Bool.not_true, Bool.false_eq_true, if_false]
        rfl) (fun k => by
      simp only [lb_X8_make_2, mg_X8_make_2]
      rw [if_pos (show xw ((8 : Nat) : Int) ≥ 8 by decide)]
      rfl) xfu (by omega)
    rw [ffu_e]
    unfold ffuI
    exact this
  by_cases a3 : ffu h1 = -1
  · rw [hlp, if_pos a3]
    simp only [md_X7_make_0, mg_X7_make_0, md_X8_make_25, mg_X8_make_25, bz_0, a3, hp2]
    rw [if_pos (show xw 8 = 8 by decide)]
    by_cases b1 : siz p1 = false
    · rw [if_pos b1]
      exact ⟨_, _, _, rfl, rfl, hI0.mono (by omega)⟩
    rw [if_neg b1]
    by_cases b2 : p2 < 0
    · rw [if_pos b2]
      exact ⟨_, _, _, rfl, rfl, hI0.mono (by omega)⟩
    rw [if_neg b2]
    by_cases b3 : p2 > 9
    · rw [if_pos b3]
      exact ⟨_, _, _, rfl, rfl, hI0.mono (by omega)⟩
    rw [if_neg b3, if_pos xwm1]
    exact ⟨_, _, _, rfl, rfl, hI0.mono (by omega)⟩
  · obtain ⟨i, hi, hfu, hun⟩ : ∃ i : Nat, i < 8 ∧ ffu h1 = (i : Int) ∧ inS (h1 0 7) (i : Int) = false := by
      rw [ffu_e] at a3 ⊢
      unfold ffuI at a3 ⊢
      rcases lfind_cases (fun i => !inS (h1 0 7) (i : Int)) 8 with ⟨i, c1, c2, -, c4⟩ | ⟨-, c2⟩
      · exact ⟨i, c1, c4, by simpa using c2⟩
      · exact absurd c2 a3
    rw [hlp, if_neg a3, hfu]
    by_cases a1 : 1 ≤ p1 ∧ p1 ≤ 60
    · have hin1 : inn p1 1 60 = true := by rw [inn_e]; exact decide_eq_true a1
      have hsz : siz p1 = true := by rw [siz_inn hp1]; exact hin1
      by_cases a2 : 0 ≤ p2 ∧ p2 ≤ 9
      · have hin2 : inn p2 0 9 = true := by rw [inn_e]; exact decide_eq_true a2
        obtain ⟨z, rfl⟩ : ∃ z : Nat, p1 = (z : Int) := ⟨p1.toNat, by omega⟩
        obtain ⟨m1, b1, b2⟩ := v_fits i1 (m := ksO m) i2 (n := (z : Int) + 1) (by omega) (by omega) (Or.inl rfl) h19 h20 h21 h22
        have hg := pd_t (p := LW h1 ∧ Lst h1 ∧ 1 ≤ (z : Int) + 1 ∧ (z : Int) + 1 ≤ 200) ⟨hL, lst_of i1 i2, by omega, by omega⟩
        obtain ⟨-, -⟩ := ixn (c := 5) 5 rfl (by decide) hi
        obtain ⟨y1, y2⟩ := ixn (c := 21) 21 rfl (by decide) hi
        obtain ⟨y3, y4⟩ := ixn (c := 29) 29 rfl (by decide) hi
        obtain ⟨y5, y6⟩ := ixn (c := 37) 37 rfl (by decide) hi
        obtain ⟨y7, y8⟩ := ixn (c := 45) 45 rfl (by decide) hi
        obtain ⟨y9, y10⟩ := ixn (c := 53) 53 rfl (by decide) hi
        have hxi : xw (i : Int) = (i : Int) := xw_nat (by omega)
        simp only [md_X7_make_0, mg_X7_make_0, md_X8_make_25, mg_X8_make_25, bz_0, ks_e, oqV_t, oqO_V, if_true, hp1, hp2, x1, x2, xlr_s (p := 1) (by decide) (by decide), xlr_s (p := 60) (by decide) (by decide), xlr_s (p := 0) (by decide) (by decide), xlr_s (p := 9) (by decide) (by decide), Bool.and_self, hin1, hin2, hsz, hfu, hxi, Bool.true_eq_false, if_false, b1, oqI_t, oqR_I, oqO_I, hg, pd_t i3.1, y1, y2, y3, y4, y5, y6, y7, y8, y9, y10]
        rw [if_neg (show ¬ p2 < 0 by omega), if_neg (show ¬ p2 > 9 by omega), if_neg (show ¬ (i : Int) = -1 by omega), if_neg (show ¬ (i : Int) = 8 by omega)]
        generalize fsF h19 h20 h21 h22 h1 ((z : Int) + 1) (-1) = R at *
        obtain ⟨t1, t2, t3, t4, t5, t6, t7, t8, t9, t10⟩ := b2
        have u3 : m1 3 = m 3 := by rw [t5]; rfl
        have u03 : m1 0 3 = m 0 3 := by rw [t6 3 (by decide) (by decide) (by decide) (by decide) (by decide)]; rfl
        have u04 : m1 0 4 = m 0 4 := by rw [t6 4 (by decide) (by decide) (by decide) (by decide) (by decide)]; rfl
        rcases t3 with e | e
        · rw [e, if_pos xwm1, if_neg (show ¬ xw (-1) ≥ 0 by decide)]
          have hlb : ov_X8_laysBack m1 = RV [lbO m1] := (ov_X8_laysBack_e m1).trans (r_laysBack xfu (xfu_ge (by decide)) m1)
          simp only [hlb, oqV_t, oqO_V, if_true]
          have hRl : Rel h1 (lbO m1 1) := by
            refine Rel_cong hL (fun k hk => ?_) i2
            show (if 1 = 1 ∧ k < 735 then m1 2 k else m1 1 k) = m 1 k
            rw [if_pos ⟨rfl, hk⟩, t4]
            exact ks_2 m hk
          have := fail_inv (h' := R.2.2.2.2.2) (m1 := lbO m1) hI0 hRl u3 u03 u04
          exact ⟨_, _, _, rfl, rfl, this.mono (by omega)⟩
        · obtain ⟨f1, f2, -⟩ := id e
          have w2 := t1.1.2.1
          have w3 := t1.1.2.2.1
          have hx : xw R.1 = R.1 := xw_id (by omega) (by omega)
          rw [hx, if_neg (show ¬ R.1 = -1 by omega), if_pos (show R.1 ≥ 0 by omega)]
          have hu' : inS (R.2.2.2.2.2 0 7) (i : Int) = false := by rw [t10.2.2 0 7 (by decide) (by decide) (by decide)]; exact hun
          have hHR := lay_new t1 t2 hi hu' (at_ := R.1) (c := p2) (z := z) (by omega) (by omega) a2.1 a2.2 e rfl
          simp only [v_fills m1 hi, oqV_t, oqO_V, if_true]
          obtain ⟨m2, m3, c1, c2, c3, c4⟩ := act_g hi hI0 hHR (fun k hk => by
            show m1 2 k = m 1 k
            rw [t4]
            exact ks_2 m hk) u3 u03
          simp only [c1, c2, oqV_t, oqO_V, if_true]
          exact ⟨_, _, _, rfl, rfl, c4⟩
      · have hin2 : inn p2 0 9 = false := by rw [inn_e]; exact decide_eq_false a2
        simp only [md_X7_make_0, mg_X7_make_0, md_X8_make_25, mg_X8_make_25, bz_0, if_true, hp1, hp2, x1, x2, xlr_s (p := 1) (by decide) (by decide), xlr_s (p := 60) (by decide) (by decide), xlr_s (p := 0) (by decide) (by decide), xlr_s (p := 9) (by decide) (by decide), Bool.and_self, hin1, hin2, hsz, hfu, xw_nat (show i < 2147483648 by omega), Bool.true_eq_false, if_false]
        rw [if_neg (show ¬ (i : Int) = 8 by omega)]
        by_cases c0 : p2 < 0
        · rw [if_pos c0]
          exact ⟨_, _, _, rfl, rfl, hI0.mono (by omega)⟩
        · rw [if_neg c0, if_pos (show p2 > 9 by omega)]
          exact ⟨_, _, _, rfl, rfl, hI0.mono (by omega)⟩
    · have hin1 : inn p1 1 60 = false := by rw [inn_e]; exact decide_eq_false a1
      have hsz : siz p1 = false := by rw [siz_inn hp1]; exact hin1
      simp only [md_X7_make_0, mg_X7_make_0, md_X8_make_25, mg_X8_make_25, bz_0, if_true, hp1, x1, xlr_s (p := 1) (by decide) (by decide), xlr_s (p := 60) (by decide) (by decide), Bool.and_self, hin1, hsz, xw_nat (show i < 2147483648 by omega)]
      rw [if_neg (show ¬ (i : Int) = 8 by omega)]
      exact ⟨_, _, _, rfl, rfl, hI0.mono (by omega)⟩
