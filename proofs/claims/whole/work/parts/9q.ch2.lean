theorem lst_of {T : Int} {h : Ob} {q : Nat → Int} (hH : HI T h) (hR : Rel h q) : Lst h := fun i hi hp => by
  have hu := (hR.use hi hp).1
  have h1 := (hH.2.1 i hi).1 hu
  have h2 := hH.1.2.2.2.1 i (by omega)
  omega
theorem inS_or (s t : Int) {i : Nat} (hi : i < 8) : inS (xor_ s t) (i : Int) = (inS s (i : Int) || inS t (i : Int)) := by
  rw [inS_bit _ hi, inS_bit _ hi, inS_bit _ hi]
  unfold xor_
  rw [xI_of, Int32.toBitVec_or, BitVec.getLsbD_or]
theorem LW_of {g h : Ob} (hL : LW g) (e : ∀ i, i < 11 → h 1 i = g 1 i ∧ h 2 i = g 2 i) (e9 : h 0 9 = g 0 9) (e10 : h 0 10 = g 0 10) (e4 : ∀ i, i < 8 → 0 ≤ h 4 i ∧ h 4 i ≤ 7) : LW h := by
  obtain ⟨z1, z2, z3, z4, z5, z6⟩ := hL
  refine ⟨by omega, by omega, by omega, fun i hi => ?_, fun i j hi hj hij => ?_, e4⟩
  · obtain ⟨a, b⟩ := e i hi
    rw [a, b, e9]
    exact z4 i hi
  · obtain ⟨a, b⟩ := e i hi
    obtain ⟨c, d⟩ := e j hj
    rw [a, b, c, d]
    exact z5 i j hi hj hij
/-- one handle is changed, its contents too, and the time goes on -/
theorem Ch2 {T T' : Int} {h h' : Ob} {q q' : Nat → Int} {i : Nat} (hi : i < 8) (hH : HI T h) (hR : Rel h q)
    (e0 : h' 0 9 = h 0 9 ∧ h' 0 10 = h 0 10 ∧ h' 0 12 = h 0 12) (e11 : h 0 11 ≤ h' 0 11 ∧ h' 0 11 ≤ T') (e13 : 0 ≤ h' 0 13 ∧ h' 0 13 ≤ 9 * T') (eq0 : q' 3 = h' 0 11 ∧ q' 4 = h' 0 13)
    (eo : ∀ j, j < 11 → j ≠ i → h' 1 j = h 1 j ∧ h' 2 j = h 2 j)
    (eo2 : ∀ j : Nat, j < 8 → j ≠ i → h' 4 j = h 4 j ∧ h' 5 j = h 5 j ∧ h' 6 j = h 6 j ∧ h' 7 j = h 7 j ∧ inS (h' 0 7) (j : Int) = inS (h 0 7) (j : Int) ∧ inS (h' 0 8) (j : Int) = inS (h 0 8) (j : Int))
    (ec : ∀ j, j < 11 → j ≠ i → ∀ k, k < 60 → h' 3 (60 * j + k) = h 3 (60 * j + k)) (eq : ∀ k, k < 735 → nine i k → k ≠ 3 → k ≠ 4 → ¬ (75 + 60 * i ≤ k ∧ k < 75 + 60 * i + 60) → q' k = q k) (hL : LW h') (hR' : RelH h' q' i) (hc : ∀ k : Nat, (k : Int) < h' 2 i → q' (75 + 60 * i + k) = h' 3 (60 * i + k))
    (hB : (inS (h' 0 7) (i : Int) = true → 1 ≤ h' 2 i ∧ 1 ≤ h' 5 i ∧ h' 5 i ≤ h' 2 i ∧ 0 ≤ h' 6 i ∧ h' 6 i ≤ 9 ∧ 0 ≤ h' 7 i ∧ h' 7 i ≤ h' 0 11) ∧ (h' 1 i = -1 → h' 4 i = 0)) (h7 : 0 ≤ h' 0 7 ∧ h' 0 7 < 256) (h8 : 0 ≤ h' 0 8 ∧ h' 0 8 < 256) : HI T' h' ∧ Rel h' q' := by
  obtain ⟨a1, a2, a3, a4, a5, a6, a7⟩ := hH
  obtain ⟨⟨r0, r1, r2, r3, r4⟩, rh, rp, rc⟩ := hR
  obtain ⟨e9, e10, e12⟩ := e0
  refine ⟨⟨hL, fun j hj => ?_, ⟨by omega, by omega⟩, e13, by rw [e12]; exact a5, h7, h8⟩, ?_, fun j hj => ?_, fun p hp => ?_, fun j hj hne k hk => ?_⟩
  · by_cases hji : j = i
    · subst hji; exact hB
    · obtain ⟨b1, b2⟩ := eo j (by omega) hji
      obtain ⟨c1, c2, c3, c4, c5, c6⟩ := eo2 j hj hji
      rw [b1, b2, c1, c2, c3, c4, c5]
      refine ⟨fun hu => ?_, (a2 j hj).2⟩
      have := (a2 j hj).1 hu
      omega
  · rw [e9, e10, e12, ← eq0.1, ← eq0.2, eq 0 (by decide) (by unfold nine; omega) (by decide) (by decide) (by omega), eq 1 (by decide) (by unfold nine; omega) (by decide) (by decide) (by omega), eq 2 (by decide) (by unfold nine; omega) (by decide) (by decide) (by omega)]
    exact ⟨r0, r1, r2, rfl, rfl⟩
  · by_cases hji : j = i
    · subst hji; exact hR'
    · obtain ⟨b1, b2⟩ := eo j (by omega) hji
      obtain ⟨c1, c2, c3, c4, c5, c6⟩ := eo2 j hj hji
      have := rh j hj
      unfold RelH at this ⊢
      have qq : ∀ c, c + j < 69 → 5 ≤ c → nine i (c + j) → q' (c + j) = q (c + j) := fun c c1 c2 c3 => eq _ (by omega) c3 (by omega) (by omega) (by omega)
      rw [b1, b2, c1, c2, c3, c4, c5, c6, qq 5 (by omega) (by omega) (by unfold nine; omega), qq 13 (by omega) (by omega) (by unfold nine; omega), qq 21 (by omega) (by omega) (by unfold nine; omega), qq 29 (by omega) (by omega) (by unfold nine; omega), qq 37 (by omega) (by omega) (by unfold nine; omega), qq 45 (by omega) (by omega) (by unfold nine; omega), qq 53 (by omega) (by omega) (by unfold nine; omega), qq 61 (by omega) (by omega) (by unfold nine; omega)]
      exact this
  · obtain ⟨b1, b2⟩ := eo (8 + p) (by omega) (by omega)
    have := rp p hp
    unfold RelP at this ⊢
    rw [b1, b2, eq (69 + p) (by omega) (by unfold nine; omega) (by omega) (by omega) (by omega), eq (72 + p) (by omega) (by unfold nine; omega) (by omega) (by omega) (by omega)]
    exact this
  · have hz := hL.2.2.2.1 j hj
    by_cases hji : j = i
    · subst hji
      exact hc k hk
    · obtain ⟨b1, b2⟩ := eo j hj hji
      rw [b1] at hne
      rw [b2] at hk hz
      rw [ec j hj hji k (by omega), eq _ (by omega) (by unfold nine; omega) (by omega) (by omega) (by omega)]
      exact rc j hj hne k hk
/-- the end of an act that touches a handle, whatever it was before -/
theorem act_g {T : Int} {P h h1 m m1 : Ob} {k0 k1 k2 k3 k4 k5 k6 k7 k8 k9 k10 k11 k12 : Ob} {i : Nat} (hi : i < 8) (hI : INV T h P [k0, k1, k2, k3, k4, k5, k6, k7, k8, k9, k10, k11, k12] m) (hH : HI (T + 1) (finO h1 (i : Int)) ∧ Rel (finO h1 (i : Int)) (fun k => if k = 61 + i then m1 1 3 + 1 else if k = 3 then m1 1 3 + 1 else m1 1 k)) (e2 : ∀ k, k < 735 → m1 2 k = m 1 k) (e3 : m1 3 = m 3) (e03 : m1 0 3 = m 0 3) : ∃ m2 m3, ov_X8_keepsAct m1 = RV [m2] ∧ ov_X8_touches (i : Int) m2 = RV [m3] ∧ m3 1 = (fun k => if k = 61 + i then m1 1 3 + 1 else if k = 3 then m1 1 3 + 1 else m1 1 k) ∧ INV (T + 1) (finO h1 (i : Int)) (keeO P) [svK P 0 k0 h, svK P 1 k1 h, svK P 2 k2 h, svK P 3 k3 h, svK P 4 k4 h, svK P 5 k5 h, svK P 6 k6 h, svK P 7 k7 h, svK P 8 k8 h, svK P 9 k9 h, svK P 10 k10 h, svK P 11 k11 h, svK P 12 k12 h] m3 := by
  obtain ⟨i1, i2, i3⟩ := hI
  obtain ⟨m2, a, b, c⟩ := i3.act (h := h) i1 (Rel_cong i1.1 e2 i2) e3 e03
  have e4 : m2 1 3 = m1 1 3 + 1 := by rw [c]; rfl
  have hm3 : (xset m2 1 (61 + i) (m2 1 3)) 1 = (fun k => if k = 61 + i then m1 1 3 + 1 else if k = 3 then m1 1 3 + 1 else m1 1 k) := by
    funext k
    show (if 1 = 1 ∧ k = 61 + i then m2 1 3 else m2 1 k) = _
    rw [e4, c]
    simp
  refine ⟨m2, _, (ov_X8_keepsAct_e m1).trans a, (ov_X8_touches_e _ _).trans (r_touches hi m2), hm3, hH.1, by rw [hm3]; exact hH.2, ?_⟩
  obtain ⟨d1, d2, d3, d4, d5⟩ := b.mono (show T ≤ T + 1 by omega)
  exact ⟨d1, d2, d3, d4, d5⟩
theorem cc1 (m : Ob) (w a b : Nat) : (ccO m w a b) 1 = fun k => if 75 + 60 * w + a ≤ k ∧ k < 75 + 60 * w + b then 0 else m 1 k := by
  funext k
  unfold ccO
  simp only [true_and]
theorem v_fills (m : Ob) {i : Nat} (hi : i < 8) (at_ : Int) : ov_X8_fills (i : Int) at_ m = RV [ccO (xset (xset m 1 (5 + i) 1) 1 (13 + i) at_) i 0 60] := by
  obtain ⟨x1, x2⟩ := ixn (c := 5) 5 rfl (by decide) hi
  obtain ⟨x3, x4⟩ := ixn (c := 13) 13 rfl (by decide) hi
  have hcc := v_clearsContents (xset (xset m 1 (5 + i) 1) 1 (13 + i) at_) (w := i) (a := 0) (b := 60) (by omega) (by omega) (by omega) rfl (rfl : (0 : Int) = ((0 : Nat) : Int)) (rfl : (60 : Int) = ((60 : Nat) : Int))
  rw [ov_X8_fills_e]
  simp only [md_X8_fills_0, mg_X8_fills_0, x1, x2, x3, x4, if_true, hcc, oqV_t, oqO_V]
