theorem ixn {c : Int} (n : Nat) (hc : c = n) (hn : n ≤ 700) {i : Nat} (hi : i < 8) : xin (c + (i : Int)) 735 = true ∧ (xw (c + (i : Int))).toNat = n + i := by
  obtain ⟨a, b⟩ := ixm (a := (i : Int)) n hc hn (hdl_nat hi)
  rw [xw_nat (by omega), toNat_nat] at b
  exact ⟨a, b⟩
theorem xs1 (m : Ob) (c : Nat) (v : Int) : (xset m 1 c v) 1 = fun k => if k = c then v else m 1 k := by
  funext k
  simp [xset]
theorem inS_xor (s t : Int) {i : Nat} (hi : i < 8) : inS (xxor s t) (i : Int) = (inS s (i : Int) ^^ inS t (i : Int)) := by
  rw [inS_bit _ hi, inS_bit _ hi, inS_bit _ hi]
  unfold xxor
  rw [xI_of, Int32.toBitVec_xor, BitVec.getLsbD_xor]
theorem bx_c : ∀ n : Fin 256, ∀ i : Fin 8, 0 ≤ xxor ((n : Nat) : Int) (xshl 1 ((i : Nat) : Int)) ∧ xxor ((n : Nat) : Int) (xshl 1 ((i : Nat) : Int)) < 256 ∧ 0 ≤ xand ((n : Nat) : Int) (xxor (xshl 1 ((i : Nat) : Int)) (-1)) ∧ xand ((n : Nat) : Int) (xxor (xshl 1 ((i : Nat) : Int)) (-1)) < 256 ∧ 0 ≤ xor_ ((n : Nat) : Int) (xshl 1 ((i : Nat) : Int)) ∧ xor_ ((n : Nat) : Int) (xshl 1 ((i : Nat) : Int)) < 256 := by decide +kernel
theorem bx {s : Int} (h1 : 0 ≤ s) (h2 : s < 256) {i : Nat} (hi : i < 8) : (0 ≤ xxor s (xshl 1 (i : Int)) ∧ xxor s (xshl 1 (i : Int)) < 256) ∧ (0 ≤ xand s (xxor (xshl 1 (i : Int)) (-1)) ∧ xand s (xxor (xshl 1 (i : Int)) (-1)) < 256) ∧ (0 ≤ xor_ s (xshl 1 (i : Int)) ∧ xor_ s (xshl 1 (i : Int)) < 256) := by
  have := bx_c ⟨s.toNat, by omega⟩ ⟨i, hi⟩
  simp only [show ((s.toNat : Nat) : Int) = s by omega] at this
  exact ⟨⟨this.1, this.2.1⟩, ⟨this.2.2.1, this.2.2.2.1⟩, this.2.2.2.2⟩
def nine (i k : Nat) : Prop := k ≠ 5 + i ∧ k ≠ 13 + i ∧ k ≠ 21 + i ∧ k ≠ 29 + i ∧ k ≠ 37 + i ∧ k ≠ 45 + i ∧ k ≠ 53 + i ∧ k ≠ 61 + i
/-- one handle is changed -/
theorem Ch {T : Int} {h h' : Ob} {q q' : Nat → Int} {i : Nat} (hi : i < 8) (hH : HI T h) (hR : Rel h q)
    (e0 : ∀ k, 9 ≤ k → k < 14 → h' 0 k = h 0 k) (eo : ∀ j, j < 11 → j ≠ i → h' 1 j = h 1 j ∧ h' 2 j = h 2 j)
    (eo2 : ∀ j : Nat, j < 8 → j ≠ i → h' 4 j = h 4 j ∧ h' 5 j = h 5 j ∧ h' 6 j = h 6 j ∧ h' 7 j = h 7 j ∧ inS (h' 0 7) (j : Int) = inS (h 0 7) (j : Int) ∧ inS (h' 0 8) (j : Int) = inS (h 0 8) (j : Int))
    (ec : h' 3 = h 3) (eq : ∀ k, k < 735 → nine i k → q' k = q k) (hL : LW h') (hR' : RelH h' q' i) (hc : h' 1 i ≠ -1 → h 1 i ≠ -1 ∧ h' 2 i ≤ h 2 i)
    (hB : (inS (h' 0 7) (i : Int) = true → 1 ≤ h' 2 i ∧ 1 ≤ h' 5 i ∧ h' 5 i ≤ h' 2 i ∧ 0 ≤ h' 6 i ∧ h' 6 i ≤ 9 ∧ 0 ≤ h' 7 i ∧ h' 7 i ≤ h 0 11) ∧ (h' 1 i = -1 → h' 4 i = 0)) (h7 : 0 ≤ h' 0 7 ∧ h' 0 7 < 256) (h8 : 0 ≤ h' 0 8 ∧ h' 0 8 < 256) : HI T h' ∧ Rel h' q' := by
  obtain ⟨a1, a2, a3, a4, a5, a6, a7⟩ := hH
  obtain ⟨⟨r0, r1, r2, r3, r4⟩, rh, rp, rc⟩ := hR
  refine ⟨⟨hL, fun j hj => ?_, by rw [e0 11 (by decide) (by decide)]; exact a3, by rw [e0 13 (by decide) (by decide)]; exact a4, by rw [e0 12 (by decide) (by decide)]; exact a5, h7, h8⟩, ?_, fun j hj => ?_, fun p hp => ?_, fun j hj hne k hk => ?_⟩
  · rw [e0 11 (by decide) (by decide)]
    by_cases hji : j = i
    · subst hji; exact hB
    · obtain ⟨b1, b2⟩ := eo j (by omega) hji
      obtain ⟨c1, c2, c3, c4, c5, c6⟩ := eo2 j hj hji
      rw [b1, b2, c1, c2, c3, c4, c5]
      exact a2 j hj
  · rw [e0 9 (by decide) (by decide), e0 10 (by decide) (by decide), e0 11 (by decide) (by decide), e0 12 (by decide) (by decide), e0 13 (by decide) (by decide), eq 0 (by decide) (by unfold nine; omega), eq 1 (by decide) (by unfold nine; omega), eq 2 (by decide) (by unfold nine; omega), eq 3 (by decide) (by unfold nine; omega), eq 4 (by decide) (by unfold nine; omega)]
    exact ⟨r0, r1, r2, r3, r4⟩
  · by_cases hji : j = i
    · subst hji; exact hR'
    · obtain ⟨b1, b2⟩ := eo j (by omega) hji
      obtain ⟨c1, c2, c3, c4, c5, c6⟩ := eo2 j hj hji
      have := rh j hj
      unfold RelH at this ⊢
      rw [b1, b2, c1, c2, c3, c4, c5, c6, eq (5 + j) (by omega) (by unfold nine; omega), eq (13 + j) (by omega) (by unfold nine; omega), eq (21 + j) (by omega) (by unfold nine; omega), eq (29 + j) (by omega) (by unfold nine; omega), eq (37 + j) (by omega) (by unfold nine; omega), eq (45 + j) (by omega) (by unfold nine; omega), eq (53 + j) (by omega) (by unfold nine; omega), eq (61 + j) (by omega) (by unfold nine; omega)]
      exact this
  · obtain ⟨b1, b2⟩ := eo (8 + p) (by omega) (by omega)
    have := rp p hp
    unfold RelP at this ⊢
    rw [b1, b2, eq (69 + p) (by omega) (by unfold nine; omega), eq (72 + p) (by omega) (by unfold nine; omega)]
    exact this
  · have hz := hL.2.2.2.1 j hj
    rw [ec, eq _ (by omega) (by unfold nine; omega)]
    by_cases hji : j = i
    · subst hji
      obtain ⟨d1, d2⟩ := hc hne
      exact rc j hj d1 k (by omega)
    · obtain ⟨b1, b2⟩ := eo j hj hji
      exact rc j hj (by rw [← b1]; exact hne) k (by omega)
theorem LW_rm {h : Ob} (hL : LW h) (i : Nat) : LW (xset h 1 i (-1)) := by
  obtain ⟨z1, z2, z3, z4, z5, z6⟩ := hL
  refine ⟨z1, z2, z3, fun j hj => ?_, fun j l hj hl hjl h1 h2 => ?_, z6⟩
  · have := z4 j hj
    show 0 ≤ h 2 j ∧ h 2 j ≤ 60 ∧ ((if 1 = 1 ∧ j = i then -1 else h 1 j) = -1 ∨ _)
    by_cases hji : j = i
    · exact ⟨this.1, this.2.1, Or.inl (by rw [if_pos ⟨rfl, hji⟩])⟩
    · have e : xset h 1 i (-1) 1 j = h 1 j := by show (if 1 = 1 ∧ j = i then -1 else h 1 j) = _; rw [if_neg (fun z => hji z.2)]
      rw [if_neg (fun z => hji z.2), e]
      exact this
  · have e : ∀ j, xset h 1 i (-1) 1 j ≠ -1 → xset h 1 i (-1) 1 j = h 1 j := by
      intro j hn
      by_cases hji : j = i
      · exact absurd (show (if 1 = 1 ∧ j = i then -1 else h 1 j) = -1 by rw [if_pos ⟨rfl, hji⟩]) hn
      · show (if 1 = 1 ∧ j = i then -1 else h 1 j) = _
        rw [if_neg (fun z => hji z.2)]
    have e1 := e j h1
    have e2 := e l h2
    have e3 : h 1 j ≠ -1 := by rw [← e1]; exact h1
    have e4 : h 1 l ≠ -1 := by rw [← e2]; exact h2
    rw [e1, e2]
    exact z5 j l hj hl hjl e3 e4
theorem LW_locks {h : Ob} (hL : LW h) {i : Nat} {v : Int} (h0 : 0 ≤ v) (h1 : v ≤ 7) : LW (xset h 4 i v) := by
  obtain ⟨z1, z2, z3, z4, z5, z6⟩ := hL
  refine ⟨z1, z2, z3, z4, z5, fun j hj => ?_⟩
  have := z6 j hj
  show 0 ≤ (if 4 = 4 ∧ j = i then v else h 4 j) ∧ (if 4 = 4 ∧ j = i then v else h 4 j) ≤ 7
  split <;> omega
theorem xne {h : Ob} {b i j : Nat} {v : Int} (hji : j ≠ i) : xset h b i v b j = h b j := by
  show (if b = b ∧ j = i then v else h b j) = _
  rw [if_neg (fun z => hji z.2)]
theorem xeq {h : Ob} {b i : Nat} {v : Int} : xset h b i v b i = v := by
  show (if b = b ∧ i = i then v else h b i) = _
  rw [if_pos ⟨rfl, rfl⟩]
theorem Ch_locks {T : Int} {h : Ob} {q : Nat → Int} {i : Nat} (hi : i < 8) (hH : HI T h) (hR : Rel h q) {v : Int} (h0 : 0 ≤ v) (h1 : v ≤ 7) (hf : h 1 i ≠ -1) : HI T (xset h 4 i v) ∧ Rel (xset h 4 i v) (fun k => if k = 29 + i then v else q k) := by
  have hr := hR.2.1 i hi
  have hb := hH.2.1 i hi
  refine Ch hi hH hR (fun k _ _ => rfl) (fun j _ _ => ⟨rfl, rfl⟩) (fun j hj hji => ⟨xne hji, rfl, rfl, rfl, rfl, rfl⟩) rfl (fun k _ hk => ?_) (LW_locks hH.1 h0 h1) ?_ (fun hne => ⟨hne, Int.le_refl _⟩) ⟨hb.1, fun z => absurd z hf⟩ hH.2.2.2.2.2.1 hH.2.2.2.2.2.2
  · (try dsimp only); rw [if_neg hk.2.2.2.1]
  · unfold RelH at hr ⊢
    dsimp only
    rw [if_neg (by omega), if_neg (by omega), if_pos rfl, if_neg (by omega), if_neg (by omega), if_neg (by omega), if_neg (by omega), if_neg (by omega)]
    exact ⟨hr.1, xeq.symm, hr.2.2⟩
theorem e_lock (T : Int) (hT0 : 0 ≤ T) (hT : T ≤ 600) (p1 : Int) (hp1 : xw p1 = p1) (h0 h1 h2 h3 h4 h5 h6 h7 h8 h9 h10 h11 h12 h13 h14 h15 h16 h17 h18 h19 h20 h21 h22 h23 h24 m : Ob) (hI : INV T h1 h3 [h4, h5, h6, h7, h8, h9, h10, h11, h12, h13, h14, h15, h16] m) : Same (T + 1) (md_X7_lock_0 p1 h0 h2 h17 h18 h19 h20 h21 h22 h23 h24 (h1, h3, h4, h5, h6, h7, h8, h9, h10, h11, h12, h13, h14, h15, h16)) (md_X8_lock_0 p1 m) := by
  have hI0 := hI
  obtain ⟨i1, i2, i3⟩ := hI
  simp only [md_X7_lock_0, mg_X7_lock_0, md_X8_lock_0, mg_X8_lock_0, bz_0, ks_e, oqV_t, oqO_V, if_true]
  rcases hdl_cases hp1 with hf | ⟨i, hi, rfl⟩
  · rw [ful_f hf, fulM_f hf]
    exact ⟨_, _, _, rfl, rfl, hI0.mono (by omega)⟩
  · rw [i2.fulq i1.1 hi]
    cases hu : ful h1 (i : Int)
    · exact ⟨_, _, _, rfl, rfl, hI0.mono (by omega)⟩
    · have hf := (i1.1.fu hi).mp hu
      obtain ⟨x1, x2⟩ := ixn (c := 29) 29 rfl (by decide) hi
      have hl := i1.1.2.2.2.2.2 i hi
      have hq := (i2.2.1 i hi).2.1
      simp only [ks_1, x1, x2, hq, xin_nat hi (show 8 ≤ 2147483648 by omega), xw_nat (show i < 2147483648 by omega), toNat_nat, xw_id (x := h1 4 i) (by omega) (by omega), if_true, Bool.true_eq_false, if_false]
      by_cases h7 : h1 4 i = 7
      · rw [if_neg (by omega), if_pos h7]
        exact ⟨_, _, _, rfl, rfl, hI0.mono (by omega)⟩
      · rw [if_pos (by omega), if_neg h7]
        obtain ⟨c1, c2⟩ := Ch_locks hi i1 i2 (v := h1 4 i + 1) (by omega) (by omega) hf
        obtain ⟨m2, m3, a, b, c, d⟩ := act_i (m1 := xset (ksO m) 1 (29 + i) (h1 4 i + 1)) hi hI0 c1 (by rw [xs1]; exact c2) (fun k hk => ks_2 m hk) rfl rfl
        have e9 : m3 1 (29 + i) = h1 4 i + 1 := by
          rw [c]
          dsimp only
          rw [if_neg (by omega), if_neg (by omega)]
          exact xeq
        have e8 : (finO (xset h1 4 i (h1 4 i + 1)) (i : Int)) 4 i = h1 4 i + 1 := by
          rw [finO_i _ hi]
          exact xeq
        simp only [a, b, oqV_t, oqO_V, if_true, pd_t i3.1, e9, e8]
        exact ⟨_, _, _, rfl, rfl, d⟩
theorem e_unlock (T : Int) (hT0 : 0 ≤ T) (hT : T ≤ 600) (p1 : Int) (hp1 : xw p1 = p1) (h0 h1 h2 h3 h4 h5 h6 h7 h8 h9 h10 h11 h12 h13 h14 h15 h16 h17 h18 h19 h20 h21 h22 h23 h24 m : Ob) (hI : INV T h1 h3 [h4, h5, h6, h7, h8, h9, h10, h11, h12, h13, h14, h15, h16] m) : Same (T + 1) (md_X7_unlock_0 p1 h0 h2 h17 h18 h19 h20 h21 h22 h23 h24 (h1, h3, h4, h5, h6, h7, h8, h9, h10, h11, h12, h13, h14, h15, h16)) (md_X8_unlock_0 p1 m) := by
  have hI0 := hI
  obtain ⟨i1, i2, i3⟩ := hI
  simp only [md_X7_unlock_0, mg_X7_unlock_0, md_X8_unlock_0, mg_X8_unlock_0, bz_0, ks_e, oqV_t, oqO_V, if_true]
  rcases hdl_cases hp1 with hf | ⟨i, hi, rfl⟩
  · rw [ful_f hf, hf]
    exact ⟨_, _, _, rfl, rfl, hI0.mono (by omega)⟩
  · obtain ⟨x1, x2⟩ := ixn (c := 29) 29 rfl (by decide) hi
    have hl := i1.1.2.2.2.2.2 i hi
    have hq := (i2.2.1 i hi).2.1
    simp only [hdl_nat hi, ks_1, x1, x2, hq, xin_nat hi (show 8 ≤ 2147483648 by omega), xw_nat (show i < 2147483648 by omega), toNat_nat, xw_id (x := h1 4 i) (by omega) (by omega), if_true, Bool.true_eq_false, if_false]
    by_cases h7 : h1 4 i = 0
    · rw [if_neg (show ¬ h1 4 i ≥ 1 by omega), if_pos h7]
      cases hu : ful h1 (i : Int) <;> exact ⟨_, _, _, rfl, rfl, hI0.mono (by omega)⟩
    · have hf : h1 1 i ≠ -1 := fun z => h7 ((i1.2.1 i hi).2 z)
      rw [if_pos (show h1 4 i ≥ 1 by omega), if_neg h7, (i1.1.fu hi).mpr hf]
      obtain ⟨c1, c2⟩ := Ch_locks hi i1 i2 (v := h1 4 i - 1) (by omega) (by omega) hf
      obtain ⟨m2, a, c, d⟩ := act_n (m1 := xset (ksO m) 1 (29 + i) (h1 4 i - 1)) hI0 c1 (by rw [xs1]; exact c2) (fun k hk => ks_2 m hk) rfl rfl
      have e9 : m2 1 (29 + i) = h1 4 i - 1 := by
        rw [c]
        dsimp only
        rw [if_neg (by omega)]
        exact xeq
      have e8 : (finO (xset h1 4 i (h1 4 i - 1)) (-1)) 4 i = h1 4 i - 1 := by
        rw [finO_n]
        exact xeq
      simp only [a, oqV_t, oqO_V, if_true, pd_t i3.1, e9, e8, Bool.true_eq_false, if_false]
      exact ⟨_, _, _, rfl, rfl, d⟩
