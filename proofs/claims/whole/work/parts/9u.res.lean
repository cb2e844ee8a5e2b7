theorem nb_end {h : Ob} (hL : LW h) {i : Nat} (hi : i < 11) (hf : h 1 i ≠ -1) : Nb h (h 1 i + h 2 i + 1) := fun j hj hp hlt => by
  obtain ⟨z1, z2, z3, z4, z5, z6⟩ := hL
  have a := z4 i hi
  have b := z4 j hj
  by_cases e : j = i
  · subst e; omega
  · have := z5 i j hi hj (Ne.symm e) hf hp
    omega
theorem frb_c {h : Ob} (hL : LW h) {i : Nat} (hi : i < 8) (hf : h 1 i ≠ -1) {E : Int} (hE : E = h 1 i + h 2 i + 1) : (frb h (i : Int) = 0 ∧ (h 0 9 ≤ E ∨ (E < h 0 9 ∧ hol h E ≠ -1))) ∨ (E < h 0 9 ∧ hol h E = -1 ∧ frb h (i : Int) = nxt h E (h 0 9) - E ∧ E < nxt h E (h 0 9) ∧ nxt h E (h 0 9) ≤ h 0 9 ∧ (∀ j, j < 11 → h 1 j ≠ E) ∧ ∀ j, j < 11 → E < h 1 j → nxt h E (h 0 9) ≤ h 1 j) := by
  have hN := nb_end hL (show i < 11 by omega) hf
  rw [← hE] at hN
  obtain ⟨z1, z2, z3, z4, z5, z6⟩ := id hL
  have a := z4 i (by omega)
  have hxE : xw (h 1 i + h 2 i + 1) = E := by rw [hE]; exact xw_id (by omega) (by omega)
  have hfr : frb h (i : Int) = if h 0 9 ≤ E then 0 else if xw (hol h E) = -1 then nxt h E (h 0 9) - E else 0 := by
    unfold frb
    rw [(hL.fu hi).mpr hf, if_pos rfl, xw_nat (by omega), toNat_nat, hL.xsz, hxE, ← hE]
  by_cases h1 : h 0 9 ≤ E
  · left
    rw [hfr, if_pos h1]
    exact ⟨rfl, Or.inl h1⟩
  · rw [if_neg h1] at hfr
    rcases hL.blk (k := E) (e := h 0 9) (by omega) (by omega) (by omega) hN with ⟨j, b1, b2, b3, -⟩ | ⟨b1, b2, b3⟩
    · left
      rw [b3, xw_nat (by omega), if_neg (by omega)] at hfr
      exact ⟨hfr, Or.inr ⟨by omega, by rw [b3]; omega⟩⟩
    · right
      rw [b2, if_pos xwm1] at hfr
      obtain ⟨c1, c2, c3, -⟩ := hL.nxt_free (k := E) (e := h 0 9) (by omega) (by omega) (by omega) b1
      exact ⟨by omega, b2, hfr, c1, c2, b1, c3⟩
theorem v_canStretch {T : Int} {h m : Ob} (hH : HI T h) (hR : Rel h (m 1)) {i : Nat} (hi : i < 8) (hf : h 1 i ≠ -1) {d : Int} (hd : 1 ≤ d) (hd2 : d ≤ 60) : ∃ m', ov_X8_canStretch (i : Int) d m = RI (bz (decide (d ≤ frb h (i : Int)))) [m'] ∧ ∀ j, j ≠ 4 → m' j = m j := by
  have hL := hH.1
  obtain ⟨m1, o1, o2, o3⟩ := fo_e hL hR
  have hR1 : Rel h (m1 1) := own_frame hR o2
  obtain ⟨u1, u2, u3, u4⟩ := hR1.use hi hf
  obtain ⟨x1, x2⟩ := ixn (c := 13) 13 rfl (by decide) hi
  have a := hL.2.2.2.1 i (by omega)
  obtain ⟨z1, z2, z3, -⟩ := id hL
  have hle : lenM m1 (i : Int) = h 2 i + 1 := hR1.lenq hi u1
  have hE : h 1 i + (h 2 i + 1) = h 1 i + h 2 i + 1 := by omega
  have hxE : xw (h 1 i + h 2 i + 1) = h 1 i + h 2 i + 1 := xw_id (by omega) (by omega)
  have hsz : xw (m1 1 0) = h 0 9 := by rw [hR1.szq]; exact hL.xsz
  have hxd : xw d = d := xw_id (by omega) (by omega)
  have hN := nb_end hL (show i < 11 by omega) hf
  refine ⟨m1, ?_, o2⟩
  rw [ov_X8_canStretch_e]
  simp only [md_X8_canStretch_0, mg_X8_canStretch_0, o1, oqV_t, oqO_V, if_true, x1, x2, hdl_nat hi, u3, hle, hE, hxE, hsz, hxd]
  have hfc := frb_c hL hi hf rfl
  generalize h 1 i + h 2 i + 1 = E at *
  by_cases h1 : h 0 9 ≤ E
  · rw [if_pos (show E ≥ h 0 9 from h1)]
    rcases hfc with ⟨f1, -⟩ | ⟨f1, -⟩
    · rw [f1, decide_eq_false (by omega)]
      rfl
    · omega
  · rw [if_neg (show ¬ E ≥ h 0 9 from h1), xin_of (i := E) (n := 200) (by omega) (by omega), if_pos rfl]
    have ew := o3.xwq (k := E.toNat) (by omega)
    have eh := o3.holq hL (k := E.toNat) (by omega) (by rw [show ((E.toNat : Nat) : Int) = E by omega]; exact hN)
    rw [show ((E.toNat : Nat) : Int) = E by omega] at eh
    rw [ew]
    rcases hfc with ⟨f1, f2⟩ | ⟨f1, f2, f3, f4, f5, -⟩
    · have : hol h E ≠ -1 := by
        rcases f2 with f2 | f2
        · omega
        · exact f2.2
      rw [if_neg (fun y => this (eh.mp y)), f1, decide_eq_false (by omega)]
      rfl
    · have hb : ov_X8_behind E m1 = RI (nxt h E (h 0 9)) [m1] := (ov_X8_behind_e _ _).trans (r_behind xfu (xfu_ge (by decide)) hL hR1 o3 (by omega) (by omega) hN)
      rw [if_pos (eh.mpr f2)]
      simp only [hb, oqR_I, pd_rfl, pd_T, if_true, f3]
      rw [xw_id (x := nxt h E (h 0 9) - E) (by omega) (by omega)]
      by_cases hq : d ≤ nxt h E (h 0 9) - E
      · rw [if_neg (by omega), decide_eq_true hq]
        rfl
      · rw [if_pos (by omega), decide_eq_false hq]
        rfl
theorem rs_parts {h : Ob} {i : Nat} (hi : i < 8) {at_ : Int} {o z : Nat} (ho : o ≤ 60) (hz : z ≤ 60) (eo : h 2 i = (o : Int)) (e5 : 0 ≤ h 5 i ∧ h 5 i ≤ 60) {h' : Ob} (hh : h' = finO (xset (xset (clrO (xset h 1 i at_) (i : Int) (xset h 1 i at_ 2 i) (z : Int)) 2 i (z : Int)) 5 i (xmin (xset (clrO (xset h 1 i at_) (i : Int) (xset h 1 i at_ 2 i) (z : Int)) 2 i (z : Int) 5 i) (z : Int))) (i : Int)) :
    (∀ k, h' 1 k = if k = i then at_ else h 1 k) ∧ (∀ k, h' 2 k = if k = i then (z : Int) else h 2 k) ∧ (∀ k, h' 3 k = if 60 * i + o ≤ k ∧ k < 60 * i + z then 0 else h 3 k) ∧ (∀ k, h' 4 k = h 4 k) ∧ (∀ k, h' 5 k = if k = i then (if (z : Int) < h 5 i then (z : Int) else h 5 i) else h 5 k) ∧ (∀ k, h' 6 k = h 6 k) ∧ (∀ k, h' 7 k = if k = i then h 0 11 + 1 else h 7 k) ∧ (∀ k, h' 0 k = if k = 11 then h 0 11 + 1 else h 0 k) := by
  have e2 : xset h 1 i at_ 2 i = (o : Int) := by rw [xset_part _ _ _ _ (by decide)]; exact eo
  have hcl : clrO (xset h 1 i at_) (i : Int) (o : Int) (z : Int) = fun j k => if j = 3 ∧ 60 * i + o ≤ k ∧ k < 60 * i + z then 0 else xset h 1 i at_ j k := by
    unfold clrO
    rw [xw_nat (show i < 2147483648 by omega), xw_nat (show o < 2147483648 by omega), xw_nat (show z < 2147483648 by omega), if_pos ⟨by omega, by omega, by omega⟩]
    funext j k
    by_cases c : j = 3 ∧ 60 * i + o ≤ k ∧ k < 60 * i + z
    · rw [if_pos c, if_pos (by omega)]
    · rw [if_neg c, if_neg (by omega)]
  have hmn : xmin (h 5 i) (z : Int) = if (z : Int) < h 5 i then (z : Int) else h 5 i := by
    unfold xmin
    rw [xw_nat (by omega), xw_id (x := h 5 i) (by omega) (by omega)]
  rw [e2, hcl] at hh
  have h55 : (xset (fun j k => if j = 3 ∧ 60 * i + o ≤ k ∧ k < 60 * i + z then 0 else xset h 1 i at_ j k) 2 i (z : Int)) 5 i = h 5 i := by simp [xset]
  rw [h55, hmn, finO_i _ hi] at hh
  subst hh
  refine ⟨fun k => ?_, fun k => ?_, fun k => ?_, fun k => ?_, fun k => ?_, fun k => ?_, fun k => ?_, fun k => ?_⟩ <;> simp [xset]
theorem lay_rs {T : Int} {h : Ob} {q q' : Nat → Int} (hH : HI T h) (hR : Rel h q) {i : Nat} (hi : i < 8) (hf : h 1 i ≠ -1) {at_ : Int} (hat : at_ ≠ -1) {o z : Nat} (hz1 : 1 ≤ z) (hz : z ≤ 60) (eo : h 2 i = (o : Int)) {h' : Ob} (hLn : ∀ g : Ob, (∀ k, g 1 k = if k = i then at_ else h 1 k) → (∀ k, g 2 k = if k = i then (z : Int) else h 2 k) → g 0 9 = h 0 9 → g 0 10 = h 0 10 → (∀ k, k < 8 → g 4 k = h 4 k) → LW g) (hh : h' = finO (xset (xset (clrO (xset h 1 i at_) (i : Int) (xset h 1 i at_ 2 i) (z : Int)) 2 i (z : Int)) 5 i (xmin (xset (clrO (xset h 1 i at_) (i : Int) (xset h 1 i at_ 2 i) (z : Int)) 2 i (z : Int) 5 i) (z : Int))) (i : Int))
    (hq : ∀ k, k < 735 → q' k = if k = 61 + i then h 0 11 + 1 else if k = 3 then h 0 11 + 1 else if 75 + 60 * i + o ≤ k ∧ k < 75 + 60 * i + z then 0 else if k = 37 + i then (if (z : Int) < h 5 i then (z : Int) else h 5 i) else if k = 21 + i then (z : Int) else if k = 13 + i then at_ else q k) : HI (T + 1) h' ∧ Rel h' q' := by
  obtain ⟨hu, u2, u3, u4⟩ := hR.use hi hf
  obtain ⟨hr1, hr2, hr3⟩ := hR.2.1 i hi
  obtain ⟨v1, v2, v3, v4, v5⟩ := hr3 hu
  obtain ⟨b1, b2, b3, b4, b5, b6, b7⟩ := (hH.2.1 i hi).1 hu
  have hzi := hH.1.2.2.2.1 i (by omega)
  obtain ⟨P1, P2, P3, P4, P5, P6, P7, P0⟩ := rs_parts hi (o := o) (z := z) (by omega) hz eo ⟨by omega, by omega⟩ hh
  have hcl := hH.2.2.1
  have hbl := hH.2.2.2.1
  have q7 : h' 0 7 = h 0 7 := P0 7
  have q8 : h' 0 8 = h 0 8 := P0 8
  have q9 : h' 0 9 = h 0 9 := P0 9
  have q10 : h' 0 10 = h 0 10 := P0 10
  have q11 : h' 0 11 = h 0 11 + 1 := P0 11
  have q12 : h' 0 12 = h 0 12 := P0 12
  have q13 : h' 0 13 = h 0 13 := P0 13
  have p1 : h' 1 i = at_ := by rw [P1, if_pos rfl]
  have p2 : h' 2 i = (z : Int) := by rw [P2, if_pos rfl]
  have p5 : h' 5 i = if (z : Int) < h 5 i then (z : Int) else h 5 i := by rw [P5, if_pos rfl]
  have p7 : h' 7 i = h 0 11 + 1 := by rw [P7, if_pos rfl]
  have hmn : 1 ≤ h' 5 i ∧ h' 5 i ≤ (z : Int) := by
    rw [p5]
    split <;> omega
  refine Ch2 hi hH hR ⟨q9, q10, q12⟩ ⟨by omega, by omega⟩ ⟨by omega, by omega⟩ ⟨?_, ?_⟩ (fun j hj hji => ⟨by rw [P1, if_neg hji], by rw [P2, if_neg hji]⟩) (fun j hj hji => ⟨P4 j, by rw [P5, if_neg hji], P6 j, by rw [P7, if_neg hji], by rw [q7], by rw [q8]⟩) (fun j hj hji k hk => ?_) (fun k hk hn k3 k4 hc => ?_) (hLn h' P1 P2 q9 q10 (fun k _ => P4 k)) ?_ (fun k hk => ?_) ⟨fun _ => ?_, fun y => absurd (p1.symm.trans y) hat⟩ (by rw [q7]; exact hH.2.2.2.2.2.1) (by rw [q8]; exact hH.2.2.2.2.2.2)
  · rw [hq 3 (by omega), if_neg (by omega), if_pos rfl, q11]
  · rw [hq 4 (by omega), if_neg (by omega), if_neg (by omega), if_neg (by omega), if_neg (by omega), if_neg (by omega), if_neg (by omega), q13]
    exact hR.1.2.2.2.2
  · rw [P3, if_neg (by omega)]
  · obtain ⟨n1, n2, n3, n4, n5, n6, n7, n8⟩ := hn
    rw [hq k hk, if_neg n8, if_neg k3, if_neg (by omega), if_neg n5, if_neg n3, if_neg n2]
  · unfold RelH
    rw [q7, q8, hu, p1, p2, P4, p5, P6, p7]
    refine ⟨Or.inr (Or.inl ⟨rfl, hat, ?_, ?_⟩), ?_, fun _ => ⟨?_, ?_, ?_, ?_, ?_⟩⟩
    · rw [hq (5 + i) (by omega), if_neg (by omega), if_neg (by omega), if_neg (by omega), if_neg (by omega), if_neg (by omega), if_neg (by omega)]
      exact u2
    · rw [hq (13 + i) (by omega), if_neg (by omega), if_neg (by omega), if_neg (by omega), if_neg (by omega), if_neg (by omega), if_pos rfl]
    · rw [hq (29 + i) (by omega), if_neg (by omega), if_neg (by omega), if_neg (by omega), if_neg (by omega), if_neg (by omega), if_neg (by omega)]
      exact hr2
    · rw [hq (21 + i) (by omega), if_neg (by omega), if_neg (by omega), if_neg (by omega), if_neg (by omega), if_pos rfl]
    · rw [hq (37 + i) (by omega), if_neg (by omega), if_neg (by omega), if_neg (by omega), if_pos rfl]
    · rw [hq (45 + i) (by omega), if_neg (by omega), if_neg (by omega), if_neg (by omega), if_neg (by omega), if_neg (by omega), if_neg (by omega)]
      exact v3
    · rw [hq (53 + i) (by omega), if_neg (by omega), if_neg (by omega), if_neg (by omega), if_neg (by omega), if_neg (by omega), if_neg (by omega)]
      exact v4
    · rw [hq (61 + i) (by omega), if_pos rfl]
  · rw [p2] at hk
    rw [hq (75 + 60 * i + k) (by omega), if_neg (by omega), if_neg (by omega), P3]
    by_cases c : o ≤ k
    · rw [if_pos (by omega), if_pos (by omega)]
    · rw [if_neg (by omega), if_neg (by omega), if_neg (by omega), if_neg (by omega), if_neg (by omega)]
      exact hR.2.2.2 i (by omega) hf k (by omega)
  · rw [p2, P6, p7, q11]
    omega
