noncomputable def aftF (s h : Ob) (p : Int) (R : Int → Option Rt) : Option Rt :=
  if xw (hwX s p) = -1 then R (-1)
  else if xin (hwX s p) 11 then (
    if xw (bz (ful h (hwX s p))) = 0 then R (-2)
    else if xw (bz (iscon h (hwX s p) (p - s 1 (xw (hwX s p)).toNat - 1))) = 0 then R (-2)
    else if xin (hwX s p) 11 then R (h 1 (xw (hwX s p)).toNat + 1 + (p - s 1 (xw (hwX s p)).toNat - 1)) else none) else none
theorem r_after {T : Int} {s h m : Ob} (hS : HI T s) (hH : HI T h) (hR : Rel h (m 1)) {u : Nat} (hu : u < 12) (e3 : m 0 3 = ((u + 1 : Nat) : Int)) (e4 : m 0 4 = 1) (hA : Rel s (fun k => m 3 (735 * u + k))) {p : Int} (hp : xw p = p) : ∃ v, (∀ R, aftF s h p R = R v) ∧ md_X8_after_0 p m xfu () = RI v [m] := by
  have hpr : -2147483648 ≤ p ∧ p < 2147483648 := by rw [xw_def] at hp; omega
  have hLs := hS.1
  have hL := hH.1
  have key : md_X8_after_0 p m xfu () = (fun v : Int => if v = -1 then RI (-1) [m] else RI (if ful h v && decide (p - s 1 v.toNat - 1 < h 2 v.toNat) then h 1 v.toNat + 1 + (p - s 1 v.toNat - 1) else -2) [m]) (hwc s p) := by
    have e1 : md_X8_after_0 p m xfu () = tlp (lb_X8_after_2 p m xfu) xfu (((0 : Nat) : Int)) := rfl
    rw [e1]
    unfold hwc lfind
    refine loop_find 8 (fun (i : Nat) => ful s (i : Int) && (decide (xw (s 1 i) < xw p) && decide (xw p ≤ xw (s 1 i + s 2 i)))) (fun v : Int => if v = -1 then RI (-1) [m] else RI (if ful h v && decide (p - s 1 v.toNat - 1 < h 2 v.toNat) then h 1 v.toNat + 1 + (p - s 1 v.toNat - 1) else -2) [m]) (fun i => (i : Int)) (fun k i hi => ?_) (fun k => ?_) xfu (by have := xfu_ge (n := 1000) (by decide); omega)
    · have a5 : ov_X8_ahead (5 + (i : Int)) m = RI (m 3 (735 * u + (5 + i))) [m] := (ov_X8_ahead_e _ _).trans (r_ahead (c := 5 + i) (by omega) hu e3 (by omega))
      have a13 : ov_X8_ahead (13 + (i : Int)) m = RI (m 3 (735 * u + (13 + i))) [m] := (ov_X8_ahead_e _ _).trans (r_ahead (c := 13 + i) (by omega) hu e3 (by omega))
      have a21 : ov_X8_ahead (21 + (i : Int)) m = RI (m 3 (735 * u + (21 + i))) [m] := (ov_X8_ahead_e _ _).trans (r_ahead (c := 21 + i) (by omega) hu e3 (by omega))
      have hz := hLs.2.2.2.1 i (by omega)
      have hzh := hL.2.2.2.1 i (by omega)
      have hs9 := hLs.2.1
      have hs10 := hLs.2.2.1
      have hxi : xw (i : Int) = i := xw_nat (by omega)
      obtain ⟨x1, x2⟩ := ixn (c := 21) 21 rfl (by decide) hi
      obtain ⟨x3, x4⟩ := ixn (c := 13) 13 rfl (by decide) hi
      simp only [lb_X8_after_2, mg_X8_after_2, md_X8_after_106, mg_X8_after_106, hxi, e4, a5, a13, a21, oqR_I, pd_rfl, pd_T, if_true, hp, bz_0, hR.fulq hL hi, x1, x2, x3, x4, toNat_nat]
      rw [if_neg (show ¬ (i : Int) ≥ 8 by omega), if_neg (show ¬ xw 1 = 0 by decide)]
      have ei : (i : Int) + 1 = ((i + 1 : Nat) : Int) := by omega
      rw [ei]
      rcases (hA.2.1 i hi).1 with ⟨b1, b2, b3⟩ | ⟨b1, b2, b3, b4⟩ | ⟨b1, b2, b3⟩
      · dsimp only at b3
        have hn : ful s (i : Int) = false := by
          cases hq : ful s (i : Int) with
          | false => rfl
          | true => exact absurd b2 ((hLs.fu hi).mp hq)
        rw [b3, hn, if_neg (by decide)]
        simp
      · have b5 := ((hA.2.1 i hi).2.2 b1).1
        dsimp only at b3 b4 b5
        rw [b3, b4, b5, (hLs.fu hi).mpr b2, if_pos (by decide), hLs.xpl (show i < 11 by omega), xw_id (x := s 1 i + s 2 i) (by omega) (by omega)]
        by_cases hneg : p < 0
        · rw [if_pos hneg]
          have d1 : decide (s 1 i < p) = false := by simp; omega
          rw [d1]
          simp
        · rw [if_neg hneg, xw_id (x := p - s 1 i - 1) (by omega) (by omega), xw_id (x := s 2 i - 1) (by omega) (by omega), xlr_s (p := p - s 1 i - 1) (by omega) (by omega), xlr_s (p := 0) (by decide) (by decide), xlr_s (p := s 2 i - 1) (by omega) (by omega)]
          simp only [Bool.and_self, if_true]
          by_cases hin : s 1 i < p ∧ p ≤ s 1 i + s 2 i
          · have d0 : inn (p - s 1 i - 1) 0 (s 2 i - 1) = true := by unfold inn; simp; omega
            have d1 : decide (s 1 i < p) = true := by simp; omega
            have d2 : decide (p ≤ s 1 i + s 2 i) = true := by simp; omega
            rw [d0, d1, d2]
            simp only [Bool.true_eq_false, if_false, Bool.and_self, if_true]
            rw [if_neg (show ¬ (i : Int) = -1 by omega)]
            cases hfl : ful h (i : Int)
            · simp
            · have hfn := (hL.fu hi).mp hfl
              obtain ⟨u1, u2, u3, u4⟩ := hR.use hi hfn
              rw [u3, u4, xw_id (x := h 2 i) (by omega) (by omega)]
              by_cases hlt : p - s 1 i - 1 < h 2 i
              · rw [if_neg (show ¬ true = false by simp), if_neg (show ¬ p - s 1 i - 1 ≥ h 2 i by omega)]
                simp [hlt]
              · rw [if_neg (show ¬ true = false by simp), if_pos (show p - s 1 i - 1 ≥ h 2 i by omega)]
                simp [hlt]
          · have d0 : inn (p - s 1 i - 1) 0 (s 2 i - 1) = false := by unfold inn; simp; omega
            have d1 : (decide (s 1 i < p) && decide (p ≤ s 1 i + s 2 i)) = false := by simp; omega
            rw [d0, d1]
            simp
      · dsimp only at b3
        have hn : ful s (i : Int) = false := by
          cases hq : ful s (i : Int) with
          | false => rfl
          | true => exact absurd b2 ((hLs.fu hi).mp hq)
        rw [b3, hn, if_neg (by decide)]
        simp
    · simp only [lb_X8_after_2, mg_X8_after_2]
      rw [if_pos (by decide)]
      rfl
  have hcs : hwc s p = -1 ∨ ∃ i : Nat, i < 8 ∧ hwc s p = (i : Int) ∧ h 1 i = h 1 i ∧ s 1 i ≠ -1 ∧ s 1 i < p ∧ p ≤ s 1 i + s 2 i := by
    unfold hwc lfind
    cases hf : (List.range 8).find? (fun (i : Nat) => ful s (i : Int) && (decide (xw (s 1 i) < xw p) && decide (xw p ≤ xw (s 1 i + s 2 i)))) with
    | none => exact Or.inl rfl
    | some i =>
      right
      have hi := List.mem_range.mp (List.mem_of_find?_eq_some hf)
      have hc := List.find?_some hf
      simp only [Bool.and_eq_true, decide_eq_true_eq] at hc
      have hz := hLs.2.2.2.1 i (by omega)
      have hs9 := hLs.2.1
      have hs10 := hLs.2.2.1
      rw [hLs.xpl (by omega), xw_id (x := s 1 i + s 2 i) (by omega) (by omega), hp] at hc
      exact ⟨i, hi, rfl, rfl, (hLs.fu hi).mp hc.1, hc.2.1, hc.2.2⟩
  rcases hcs with hc | ⟨i, hi, hc, -, c1, c2, c3⟩
  · refine ⟨-1, fun R => ?_, ?_⟩
    · unfold aftF
      rw [hwX_e, hc, if_pos xwm1]
    · rw [key, hc]
      rfl
  · have hzs := hLs.2.2.2.1 i (by omega)
    have hs9 := hLs.2.1
    have hs10 := hLs.2.2.1
    have hxk : xw (p - s 1 i - 1) = p - s 1 i - 1 := xw_id (by omega) (by omega)
    refine ⟨if ful h (i : Int) && decide (p - s 1 i - 1 < h 2 i) then h 1 i + 1 + (p - s 1 i - 1) else -2, fun R => ?_, ?_⟩
    · unfold aftF
      rw [hwX_e, hc, xw_nat (show i < 2147483648 by omega), if_neg (show ¬ (i : Int) = -1 by omega), toNat_nat, iscon_nat hL (show i < 11 by omega) hxk]
      simp only [xin_nat (show i < 11 by omega) (show 11 ≤ 2147483648 by omega), if_true, bz_0]
      cases ful h (i : Int)
      · simp
      · by_cases hlt : p - s 1 i - 1 < h 2 i
        · have d0 : inn (p - s 1 i - 1) 0 (h 2 i - 1) = true := by unfold inn; simp; omega
          rw [d0]
          simp [hlt]
        · have d0 : inn (p - s 1 i - 1) 0 (h 2 i - 1) = false := by unfold inn; simp; omega
          rw [d0]
          simp [hlt]
    · rw [key, hc]
      show (if (i : Int) = -1 then _ else _) = _
      rw [if_neg (by omega), toNat_nat]
theorem aft_0 (p1 : Int) (h0 h1 h2 h3 h4 h5 h6 h7 h8 h9 h10 h11 h12 h13 h14 h15 h16 h17 h18 h19 h20 h21 h22 h23 h24 : Ob) : md_X7_after_10020 p1 h0 h1 h2 h3 h4 h5 h6 h7 h8 h9 h10 h11 h12 h13 h14 h15 h16 h17 h18 h19 h20 h21 h22 h23 h24 () = aftF h4 h1 p1 (fun r => RI r [h0, h1, h2, h3, h4, h5, h6, h7, h8, h9, h10, h11, h12, h13, h14, h15, h16, h17, h18, h19, h20, h21, h22, h23, h24]) := rfl
theorem aft_1 (p1 : Int) (h0 h1 h2 h3 h4 h5 h6 h7 h8 h9 h10 h11 h12 h13 h14 h15 h16 h17 h18 h19 h20 h21 h22 h23 h24 : Ob) : md_X7_after_20020 p1 h0 h1 h2 h3 h4 h5 h6 h7 h8 h9 h10 h11 h12 h13 h14 h15 h16 h17 h18 h19 h20 h21 h22 h23 h24 () = aftF h5 h1 p1 (fun r => RI r [h0, h1, h2, h3, h4, h5, h6, h7, h8, h9, h10, h11, h12, h13, h14, h15, h16, h17, h18, h19, h20, h21, h22, h23, h24]) := rfl
theorem aft_2 (p1 : Int) (h0 h1 h2 h3 h4 h5 h6 h7 h8 h9 h10 h11 h12 h13 h14 h15 h16 h17 h18 h19 h20 h21 h22 h23 h24 : Ob) : md_X7_after_30020 p1 h0 h1 h2 h3 h4 h5 h6 h7 h8 h9 h10 h11 h12 h13 h14 h15 h16 h17 h18 h19 h20 h21 h22 h23 h24 () = aftF h6 h1 p1 (fun r => RI r [h0, h1, h2, h3, h4, h5, h6, h7, h8, h9, h10, h11, h12, h13, h14, h15, h16, h17, h18, h19, h20, h21, h22, h23, h24]) := rfl
theorem aft_3 (p1 : Int) (h0 h1 h2 h3 h4 h5 h6 h7 h8 h9 h10 h11 h12 h13 h14 h15 h16 h17 h18 h19 h20 h21 h22 h23 h24 : Ob) : md_X7_after_40020 p1 h0 h1 h2 h3 h4 h5 h6 h7 h8 h9 h10 h11 h12 h13 h14 h15 h16 h17 h18 h19 h20 h21 h22 h23 h24 () = aftF h7 h1 p1 (fun r => RI r [h0, h1, h2, h3, h4, h5, h6, h7, h8, h9, h10, h11, h12, h13, h14, h15, h16, h17, h18, h19, h20, h21, h22, h23, h24]) := rfl
theorem aft_4 (p1 : Int) (h0 h1 h2 h3 h4 h5 h6 h7 h8 h9 h10 h11 h12 h13 h14 h15 h16 h17 h18 h19 h20 h21 h22 h23 h24 : Ob) : md_X7_after_50020 p1 h0 h1 h2 h3 h4 h5 h6 h7 h8 h9 h10 h11 h12 h13 h14 h15 h16 h17 h18 h19 h20 h21 h22 h23 h24 () = aftF h8 h1 p1 (fun r => RI r [h0, h1, h2, h3, h4, h5, h6, h7, h8, h9, h10, h11, h12, h13, h14, h15, h16, h17, h18, h19, h20, h21, h22, h23, h24]) := rfl
theorem aft_5 (p1 : Int) (h0 h1 h2 h3 h4 h5 h6 h7 h8 h9 h10 h11 h12 h13 h14 h15 h16 h17 h18 h19 h20 h21 h22 h23 h24 : Ob) : md_X7_after_60020 p1 h0 h1 h2 h3 h4 h5 h6 h7 h8 h9 h10 h11 h12 h13 h14 h15 h16 h17 h18 h19 h20 h21 h22 h23 h24 () = aftF h9 h1 p1 (fun r => RI r [h0, h1, h2, h3, h4, h5, h6, h7, h8, h9, h10, h11, h12, h13, h14, h15, h16, h17, h18, h19, h20, h21, h22, h23, h24]) := rfl
theorem aft_6 (p1 : Int) (h0 h1 h2 h3 h4 h5 h6 h7 h8 h9 h10 h11 h12 h13 h14 h15 h16 h17 h18 h19 h20 h21 h22 h23 h24 : Ob) : md_X7_after_70020 p1 h0 h1 h2 h3 h4 h5 h6 h7 h8 h9 h10 h11 h12 h13 h14 h15 h16 h17 h18 h19 h20 h21 h22 h23 h24 () = aftF h10 h1 p1 (fun r => RI r [h0, h1, h2, h3, h4, h5, h6, h7, h8, h9, h10, h11, h12, h13, h14, h15, h16, h17, h18, h19, h20, h21, h22, h23, h24]) := rfl
theorem aft_7 (p1 : Int) (h0 h1 h2 h3 h4 h5 h6 h7 h8 h9 h10 h11 h12 h13 h14 h15 h16 h17 h18 h19 h20 h21 h22 h23 h24 : Ob) : md_X7_after_80020 p1 h0 h1 h2 h3 h4 h5 h6 h7 h8 h9 h10 h11 h12 h13 h14 h15 h16 h17 h18 h19 h20 h21 h22 h23 h24 () = aftF h11 h1 p1 (fun r => RI r [h0, h1, h2, h3, h4, h5, h6, h7, h8, h9, h10, h11, h12, h13, h14, h15, h16, h17, h18, h19, h20, h21, h22, h23, h24]) := rfl
theorem aft_8 (p1 : Int) (h0 h1 h2 h3 h4 h5 h6 h7 h8 h9 h10 h11 h12 h13 h14 h15 h16 h17 h18 h19 h20 h21 h22 h23 h24 : Ob) : md_X7_after_90020 p1 h0 h1 h2 h3 h4 h5 h6 h7 h8 h9 h10 h11 h12 h13 h14 h15 h16 h17 h18 h19 h20 h21 h22 h23 h24 () = aftF h12 h1 p1 (fun r => RI r [h0, h1, h2, h3, h4, h5, h6, h7, h8, h9, h10, h11, h12, h13, h14, h15, h16, h17, h18, h19, h20, h21, h22, h23, h24]) := rfl
theorem aft_9 (p1 : Int) (h0 h1 h2 h3 h4 h5 h6 h7 h8 h9 h10 h11 h12 h13 h14 h15 h16 h17 h18 h19 h20 h21 h22 h23 h24 : Ob) : md_X7_after_100020 p1 h0 h1 h2 h3 h4 h5 h6 h7 h8 h9 h10 h11 h12 h13 h14 h15 h16 h17 h18 h19 h20 h21 h22 h23 h24 () = aftF h13 h1 p1 (fun r => RI r [h0, h1, h2, h3, h4, h5, h6, h7, h8, h9, h10, h11, h12, h13, h14, h15, h16, h17, h18, h19, h20, h21, h22, h23, h24]) := rfl
theorem aft_10 (p1 : Int) (h0 h1 h2 h3 h4 h5 h6 h7 h8 h9 h10 h11 h12 h13 h14 h15 h16 h17 h18 h19 h20 h21 h22 h23 h24 : Ob) : md_X7_after_110020 p1 h0 h1 h2 h3 h4 h5 h6 h7 h8 h9 h10 h11 h12 h13 h14 h15 h16 h17 h18 h19 h20 h21 h22 h23 h24 () = aftF h14 h1 p1 (fun r => RI r [h0, h1, h2, h3, h4, h5, h6, h7, h8, h9, h10, h11, h12, h13, h14, h15, h16, h17, h18, h19, h20, h21, h22, h23, h24]) := rfl
theorem aft_11 (p1 : Int) (h0 h1 h2 h3 h4 h5 h6 h7 h8 h9 h10 h11 h12 h13 h14 h15 h16 h17 h18 h19 h20 h21 h22 h23 h24 : Ob) : md_X7_after_120020 p1 h0 h1 h2 h3 h4 h5 h6 h7 h8 h9 h10 h11 h12 h13 h14 h15 h16 h17 h18 h19 h20 h21 h22 h23 h24 () = aftF h15 h1 p1 (fun r => RI r [h0, h1, h2, h3, h4, h5, h6, h7, h8, h9, h10, h11, h12, h13, h14, h15, h16, h17, h18, h19, h20, h21, h22, h23, h24]) := rfl
theorem aft_12 (p1 : Int) (h0 h1 h2 h3 h4 h5 h6 h7 h8 h9 h10 h11 h12 h13 h14 h15 h16 h17 h18 h19 h20 h21 h22 h23 h24 : Ob) : md_X7_after_130020 p1 h0 h1 h2 h3 h4 h5 h6 h7 h8 h9 h10 h11 h12 h13 h14 h15 h16 h17 h18 h19 h20 h21 h22 h23 h24 () = aftF h16 h1 p1 (fun r => RI r [h0, h1, h2, h3, h4, h5, h6, h7, h8, h9, h10, h11, h12, h13, h14, h15, h16, h17, h18, h19, h20, h21, h22, h23, h24]) := rfl
theorem e_after (T : Int) (hT0 : 0 ≤ T) (hT : T ≤ 600) (p1 : Int) (hp1 : xw p1 = p1) (h0 h1 h2 h3 h4 h5 h6 h7 h8 h9 h10 h11 h12 h13 h14 h15 h16 h17 h18 h19 h20 h21 h22 h23 h24 m : Ob) (hI : INV T h1 h3 [h4, h5, h6, h7, h8, h9, h10, h11, h12, h13, h14, h15, h16] m) : Same (T + 1) (md_X7_after_0 p1 h0 h1 h2 h3 h4 h5 h6 h7 h8 h9 h10 h11 h12 h13 h14 h15 h16 h17 h18 h19 h20 h21 h22 h23 h24 ()) (md_X8_after_0 p1 m xfu ()) := by
  have hI0 := hI
  obtain ⟨i1, i2, i3⟩ := hI
  obtain ⟨⟨g1, g2, g3, g4⟩, j2, j3, j4, j5⟩ := id i3
  unfold md_X7_after_0 mg_X7_after_0
  rcases j2 with j2 | ⟨j2, j6⟩
  · rw [j2]
    have e8 : md_X8_after_0 p1 m xfu () = RI (-1) [m] := by
      have e1 : md_X8_after_0 p1 m xfu () = tlp (lb_X8_after_2 p1 m xfu) xfu 0 := rfl
      rw [e1]
      obtain ⟨f, hf⟩ : ∃ f, xfu = f + 1 := ⟨xfu - 1, by have := xfu_ge (n := 1) (by decide); omega⟩
      generalize hB : lb_X8_after_2 p1 m xfu = B
      rw [hf, tlp_succ, ← hB]
      simp only [lb_X8_after_2, mg_X8_after_2, j4, j2]
      rw [if_neg (by decide), if_pos (by decide)]
    rw [e8]
    simp only [xw0, if_true]
    exact ⟨_, _, _, rfl, rfl, hI0.mono (by omega)⟩
  · obtain ⟨u, hu0⟩ : ∃ u : Nat, (u : Int) = h3 0 2 - 1 := ⟨(h3 0 2 - 1).toNat, by omega⟩
    obtain ⟨s1, s2⟩ := kpk_u i3 hu0
    obtain ⟨v, v1, v2⟩ := r_after (T := T) s1 i1 i2 (u := u) (by omega) (by rw [j3]; omega) (by rw [j4, j2]) s2 hp1
    rw [v2]
    refine ⟨v, [h0, h1, h2, h3, h4, h5, h6, h7, h8, h9, h10, h11, h12, h13, h14, h15, h16, h17, h18, h19, h20, h21, h22, h23, h24], m, ?_, rfl, hI0.mono (by omega)⟩
    rw [if_neg (show ¬ xw (h3 0 3) = 0 by rw [j2]; decide), if_pos (pd_t (p := PG h3 ∧ 1 ≤ h3 0 2) ⟨⟨g1, g2, g3, g4⟩, j6⟩)]
    obtain ⟨j, hj, q1, q2⟩ := fl13 (a := h3 0 1 + h3 0 2 + -1) (by omega) (by omega)
    unfold kpk at v1
    rw [q1, toNat_nat] at v1
    rw [q2]
    have hc : j = 0 ∨ j = 1 ∨ j = 2 ∨ j = 3 ∨ j = 4 ∨ j = 5 ∨ j = 6 ∨ j = 7 ∨ j = 8 ∨ j = 9 ∨ j = 10 ∨ j = 11 ∨ j = 12 := by omega
    rcases hc with rfl | rfl | rfl | rfl | rfl | rfl | rfl | rfl | rfl | rfl | rfl | rfl | rfl
    · rw [if_pos (show ((0 : Nat) : Int) = 0 by omega), aft_0]
      exact v1 _
    · rw [if_neg (show ¬ ((1 : Nat) : Int) = 0 by omega), if_pos (show ((1 : Nat) : Int) = 1 by omega), aft_1]
      exact v1 _
    · rw [if_neg (show ¬ ((2 : Nat) : Int) = 0 by omega), if_neg (show ¬ ((2 : Nat) : Int) = 1 by omega), if_pos (show ((2 : Nat) : Int) = 2 by omega), aft_2]
      exact v1 _
    · rw [if_neg (show ¬ ((3 : Nat) : Int) = 0 by omega), if_neg (show ¬ ((3 : Nat) : Int) = 1 by omega), if_neg (show ¬ ((3 : Nat) : Int) = 2 by omega), if_pos (show ((3 : Nat) : Int) = 3 by omega), aft_3]
      exact v1 _
    · rw [if_neg (show ¬ ((4 : Nat) : Int) = 0 by omega), if_neg (show ¬ ((4 : Nat) : Int) = 1 by omega), if_neg (show ¬ ((4 : Nat) : Int) = 2 by omega), if_neg (show ¬ ((4 : Nat) : Int) = 3 by omega), if_pos (show ((4 : Nat) : Int) = 4 by omega), aft_4]
      exact v1 _
    · rw [if_neg (show ¬ ((5 : Nat) : Int) = 0 by omega), if_neg (show ¬ ((5 : Nat) : Int) = 1 by omega), if_neg (show ¬ ((5 : Nat) : Int) = 2 by omega), if_neg (show ¬ ((5 : Nat) : Int) = 3 by omega), if_neg (show ¬ ((5 : Nat) : Int) = 4 by omega), if_pos (show ((5 : Nat) : Int) = 5 by omega), aft_5]
      exact v1 _
    · rw [if_neg (show ¬ ((6 : Nat) : Int) = 0 by omega), if_neg (show ¬ ((6 : Nat) : Int) = 1 by omega), if_neg (show ¬ ((6 : Nat) : Int) = 2 by omega), if_neg (show ¬ ((6 : Nat) : Int) = 3 by omega), if_neg (show ¬ ((6 : Nat) : Int) = 4 by omega), if_neg (show ¬ ((6 : Nat) : Int) = 5 by omega), if_pos (show ((6 : Nat) : Int) = 6 by omega), aft_6]
      exact v1 _
    · rw [if_neg (show ¬ ((7 : Nat) : Int) = 0 by omega), if_neg (show ¬ ((7 : Nat) : Int) = 1 by omega), if_neg (show ¬ ((7 : Nat) : Int) = 2 by omega), if_neg (show ¬ ((7 : Nat) : Int) = 3 by omega), if_neg (show ¬ ((7 : Nat) : Int) = 4 by omega), if_neg (show ¬ ((7 : Nat) : Int) = 5 by omega), if_neg (show ¬ ((7 : Nat) : Int) = 6 by omega), if_pos (show ((7 : Nat) : Int) = 7 by omega), aft_7]
      exact v1 _
    · rw [if_neg (show ¬ ((8 : Nat) : Int) = 0 by omega), if_neg (show ¬ ((8 : Nat) : Int) = 1 by omega), if_neg (show ¬ ((8 : Nat) : Int) = 2 by omega), if_neg (show ¬ ((8 : Nat) : Int) = 3 by omega), if_neg (show ¬ ((8 : Nat) : Int) = 4 by omega), if_neg (show ¬ ((8 : Nat) : Int) = 5 by omega), if_neg (show ¬ ((8 : Nat) : Int) = 6 by omega), if_neg (show ¬ ((8 : Nat) : Int) = 7 by omega), if_pos (show ((8 : Nat) : Int) = 8 by omega), aft_8]
      exact v1 _
    · rw [if_neg (show ¬ ((9 : Nat) : Int) = 0 by omega), if_neg (show ¬ ((9 : Nat) : Int) = 1 by omega), if_neg (show ¬ ((9 : Nat) : Int) = 2 by omega), if_neg (show ¬ ((9 : Nat) : Int) = 3 by omega), if_neg (show ¬ ((9 : Nat) : Int) = 4 by omega), if_neg (show ¬ ((9 : Nat) : Int) = 5 by omega), if_neg (show ¬ ((9 : Nat) : Int) = 6 by omega), if_neg (show ¬ ((9 : Nat) : Int) = 7 by omega), if_neg (show ¬ ((9 : Nat) : Int) = 8 by omega), if_pos (show ((9 : Nat) : Int) = 9 by omega), aft_9]
      exact v1 _
    · rw [if_neg (show ¬ ((10 : Nat) : Int) = 0 by omega), if_neg (show ¬ ((10 : Nat) : Int) = 1 by omega), if_neg (show ¬ ((10 : Nat) : Int) = 2 by omega), if_neg (show ¬ ((10 : Nat) : Int) = 3 by omega), if_neg (show ¬ ((10 : Nat) : Int) = 4 by omega), if_neg (show ¬ ((10 : Nat) : Int) = 5 by omega), if_neg (show ¬ ((10 : Nat) : Int) = 6 by omega), if_neg (show ¬ ((10 : Nat) : Int) = 7 by omega), if_neg (show ¬ ((10 : Nat) : Int) = 8 by omega), if_neg (show ¬ ((10 : Nat) : Int) = 9 by omega), if_pos (show ((10 : Nat) : Int) = 10 by omega), aft_10]
      exact v1 _
    · rw [if_neg (show ¬ ((11 : Nat) : Int) = 0 by omega), if_neg (show ¬ ((11 : Nat) : Int) = 1 by omega), if_neg (show ¬ ((11 : Nat) : Int) = 2 by omega), if_neg (show ¬ ((11 : Nat) : Int) = 3 by omega), if_neg (show ¬ ((11 : Nat) : Int) = 4 by omega), if_neg (show ¬ ((11 : Nat) : Int) = 5 by omega), if_neg (show ¬ ((11 : Nat) : Int) = 6 by omega), if_neg (show ¬ ((11 : Nat) : Int) = 7 by omega), if_neg (show ¬ ((11 : Nat) : Int) = 8 by omega), if_neg (show ¬ ((11 : Nat) : Int) = 9 by omega), if_neg (show ¬ ((11 : Nat) : Int) = 10 by omega), if_pos (show ((11 : Nat) : Int) = 11 by omega), aft_11]
      exact v1 _
    · rw [if_neg (show ¬ ((12 : Nat) : Int) = 0 by omega), if_neg (show ¬ ((12 : Nat) : Int) = 1 by omega), if_neg (show ¬ ((12 : Nat) : Int) = 2 by omega), if_neg (show ¬ ((12 : Nat) : Int) = 3 by omega), if_neg (show ¬ ((12 : Nat) : Int) = 4 by omega), if_neg (show ¬ ((12 : Nat) : Int) = 5 by omega), if_neg (show ¬ ((12 : Nat) : Int) = 6 by omega), if_neg (show ¬ ((12 : Nat) : Int) = 7 by omega), if_neg (show ¬ ((12 : Nat) : Int) = 8 by omega), if_neg (show ¬ ((12 : Nat) : Int) = 9 by omega), if_neg (show ¬ ((12 : Nat) : Int) = 10 by omega), if_neg (show ¬ ((12 : Nat) : Int) = 11 by omega), if_pos (show ((12 : Nat) : Int) = 12 by omega), aft_12]
      exact v1 _
