theorem hi_not {h : Ob} {b : Nat} {a n y : Int} (hz : 0 ≤ h 2 b) (hP : hiP h (b : Int) a n y) : ¬ (a ≤ y ∧ y < a + n) := by
  unfold hiP at hP
  rw [toNat_nat] at hP
  exact (hP.2.2 y (Int.le_refl _) (by omega)).2
theorem r_clears_loop {T : Int} {a n : Int} (ha : 0 ≤ a) (hn : 0 ≤ n) (han : a + n ≤ 200) : ∀ (W : List Nat) (t0 k f : Nat) (h s r : Ob), HI T h → Rel h (s 1) → Way h a (a + n) W → s 0 23 = ((t0 + W.length : Nat) : Int) → (∀ t (ht : t < W.length), s 16 (t0 + t) = ((W[t] : Nat) : Int)) → t0 + W.length ≤ 8 → W.length ≤ k → W.length < f → ∃ m', tlp (lb_X8_clears_8 a n xfu) f ((t0 : Int), s) = RI (bz (clI a n k r h).1) [m'] ∧ HI T (clI a n k r h).2.2 ∧ Rel (clI a n k r h).2.2 (m' 1) ∧ ∀ j, j ≠ 1 → j ≠ 4 → m' j = s j := by
  intro W
  induction W with
  | nil =>
    intro t0 k f h s r hH hR hW h1 h2 h3 h4 h5
    have hfw := fwF_way hH.1 (n := n) ha hW
    obtain ⟨f', rfl⟩ : ∃ f', f = f' + 1 := ⟨f - 1, by omega⟩
    have hcl : clI a n k r h = (true, r, h) := by
      cases k with
      | zero => unfold clI; rw [hfw]; rfl
      | succ k => unfold clI; rw [if_pos hfw]
    rw [hcl]
    refine ⟨s, ?_, hH, hR, fun j _ _ => rfl⟩
    rw [tlp_succ]
    simp only [lb_X8_clears_8, mg_X8_clears_8, h1]
    rw [if_pos (by simp)]
    rfl
  | cons w W ih =>
    intro t0 k f h s r hH hR hW h1 h2 h3 h4 h5
    have hL := hH.1
    have hfw := fwF_way hL (n := n) ha hW
    have hw := (hW.1 w).mp List.mem_cons_self
    obtain ⟨f', rfl⟩ : ∃ f', f = f' + 1 := ⟨f - 1, by omega⟩
    simp only [List.length_cons] at h1 h3 h4 h5
    obtain ⟨k', rfl⟩ : ∃ k', k = k' + 1 := ⟨k - 1, by omega⟩
    have hs0 : s 16 t0 = (w : Int) := by have := h2 0 (by simp); simpa using this
    obtain ⟨m', a1, a2⟩ := r_highest (m := s) hH hR hw.1 hw.2.1 ha hn han
    have hx0 : xw (t0 : Int) = t0 := xw_nat (by omega)
    have hx1 : xw ((t0 + (W.length + 1) : Nat) : Int) = ((t0 + (W.length + 1) : Nat) : Int) := xw_nat (by omega)
    obtain ⟨x1, x2⟩ := ixn (c := 13) 13 rfl (by decide) hw.1
    have hm16 : m' 16 t0 = (w : Int) := by rw [a2 16 (by decide)]; exact hs0
    rw [tlp_succ]
    simp only [lb_X8_clears_8, mg_X8_clears_8, h1, hx0, hx1, toNat_nat, xin_nat (show t0 < 8 by omega) (show 8 ≤ 2147483648 by omega), if_true, hs0, a1, oqI_t, oqR_I, oqO_I, hm16, x1, x2]
    rw [if_neg (by omega)]
    unfold clI
    have hfw' : fwF h a n = (w : Int) := hfw
    rw [hfw', if_neg (show ¬ (w : Int) = -1 by omega), toNat_nat]
    rcases hi_cases hL hw.1 a n with he | ⟨e1, e2, e3⟩
    · rw [he, if_neg (show ¬ xw (-1) ≥ 0 by decide), if_pos rfl]
      exact ⟨m', rfl, hH, own_frame hR a2, fun j _ j4 => a2 j j4⟩
    · have hy0 : 0 ≤ hiF h (w : Int) a n := e2.1
      rw [if_neg (show ¬ hiF h (w : Int) a n = -1 by omega), if_pos (show xw (hiF h (w : Int) a n) ≥ 0 by rw [xw_id (by omega) (by omega)]; exact hy0)]
      have hLy := hL.hi hw.1 e1 e2
      have hz := hL.2.2.2.1 w (by omega)
      obtain ⟨c1, c2⟩ := Ch_place hw.1 hH (own_frame hR a2) hw.2.1 (v := hiF h (w : Int) a n) (by omega) hLy
      have hWt := hW.tail (hi_not hz.1 e2)
      have et : (t0 : Int) + 1 = ((t0 + 1 : Nat) : Int) := by omega
      rw [et]
      obtain ⟨m2, b1, b2, b3, b4⟩ := ih (t0 + 1) k' f' (xset h 1 w (hiF h (w : Int) a n)) (xset m' 1 (13 + w) (hiF h (w : Int) a n)) (hiO r h (w : Int)) c1 (by rw [xs1]; exact c2) hWt (by
          show m' 0 23 = _
          rw [a2 0 (by decide), h1]
          congr 1
          omega) (fun t ht => by
          show m' 16 (t0 + 1 + t) = _
          rw [a2 16 (by decide)]
          have := h2 (t + 1) (by simp; omega)
          rw [show t0 + 1 + t = t0 + (t + 1) by omega, this]
          simp) (by omega) (by omega) (by omega)
      refine ⟨m2, b1, b2, b3, fun j j1 j4 => ?_⟩
      rw [b4 j j1 j4]
      funext q
      show (if j = 1 ∧ q = 13 + w then _ else m' j q) = _
      rw [if_neg (fun z => j1 z.1), a2 j j4]
theorem v_clears {T : Int} {h m : Ob} (hH : HI T h) (hR : Rel h (m 1)) (hO : Own h (m 4)) {a n : Int} (ha : 0 ≤ a) (hn : 1 ≤ n) (han : a + n ≤ h 0 9) (hNb : Nb h a) (hop : iop h a n = true) (r : Ob) : ∃ m', ov_X8_clears a n m = RI (bz (clF r h a n).1) [m'] ∧ HI T (clF r h a n).2.2 ∧ Rel (clF r h a n).2.2 (m' 1) ∧ (∀ j, j ≠ 0 → j ≠ 1 → j ≠ 4 → j ≠ 16 → m' j = m j) ∧ ∀ q, q ≠ 23 → m' 0 q = m 0 q := by
  have hs := hH.1.2.1
  have hs2 := hH.1.2.2.1
  obtain ⟨m1, W, w1, w2, w3, w4, w5, w6⟩ := r_fillsWay hH hR hO ha hn han hNb (pd_of hop)
  have hlen := w2.len
  obtain ⟨m2, b1, b2, b3, b4⟩ := r_clears_loop (T := T) (n := n) ha (by omega) (by omega) W 0 8 xfu h m1 r hH (by rw [w5 1 (by decide) (by decide)]; exact hR) w2 (by rw [w3]; simp) (fun t ht => by rw [Nat.zero_add]; exact w4 t ht) (by omega) (by omega) (by have := xfu_ge (n := 1000) (by decide); omega)
  rw [clF_e]
  refine ⟨m2, ?_, b2, b3, fun j j0 j1 j4 j16 => (b4 j j1 j4).trans (w5 j j0 j16), fun q hq => ?_⟩
  · rw [ov_X8_clears_e]
    simp only [md_X8_clears_0, mg_X8_clears_0, w1, oqV_t, oqO_V, if_true]
    exact b1
  · rw [b4 0 (by decide) (by decide)]
    exact w6 q hq
def OP (h : Ob) (x n : Int) : Prop := x ∈ wls h (h 0 9) ∧ x + n ≤ h 0 9 ∧ iop h x n = true
theorem v_isOpen {h m : Ob} (hL : LW h) (hR : Rel h (m 1)) (hO : Own h (m 4)) {x n : Int} (h0 : 0 ≤ x) (h1 : x < h 0 9) (hn : 1 ≤ n) (hn2 : n ≤ 200) : ov_X8_isOpen x n m = RI (bz (pd (OP h x n))) [m] := by
  obtain ⟨z1, z2, z3, z4, z5, -⟩ := id hL
  rw [ov_X8_isOpen_e]
  have hx : xw x = x := xw_id (by omega) (by omega)
  have hxn : xw (x + n) = x + n := xw_id (by omega) (by omega)
  have hsz : xw (m 1 0) = h 0 9 := by rw [hR.szq]; exact hL.xsz
  have ho := hO x.toNat (by omega)
  rw [show ((x.toNat : Nat) : Int) = x by omega] at ho
  have hox := hO.xwq (k := x.toNat) (by omega)
  by_cases hend : x + n > h 0 9
  · have : ¬ OP h x n := fun z => by have := z.2.1; omega
    rw [pd_f this]
    simp only [md_X8_isOpen_0, mg_X8_isOpen_0, hxn, hsz]
    rw [if_pos hend]
    rfl
  · -- the loop over the cells
    have loop : ∀ (d f : Nat) (k : Int), (x + n - k).toNat = d → d < f → x ≤ k → k ≤ x + n → (∀ c, x ≤ c → c < k → ¬ fxd h c) → tlp (lb_X8_isOpen_71 x n m xfu) f k = RI (bz (iop h x n)) [m] := by
      intro d
      induction d with
      | zero =>
        intro f k q1 q2 q3 q4 q5
        obtain ⟨f', rfl⟩ : ∃ f', f = f' + 1 := ⟨f - 1, by omega⟩
        rw [tlp_succ]
        simp only [lb_X8_isOpen_71, mg_X8_isOpen_71, hxn]
        rw [if_pos (by rw [xw_id (x := k) (by omega) (by omega)]; omega)]
        have : iop h x n = true := pd_t (fun c c1 c2 => q5 c c1 (by omega))
        rw [this]
        rfl
      | succ d ih =>
        intro f k q1 q2 q3 q4 q5
        obtain ⟨f', rfl⟩ : ∃ f', f = f' + 1 := ⟨f - 1, by omega⟩
        rw [tlp_succ]
        simp only [lb_X8_isOpen_71, mg_X8_isOpen_71, hxn]
        rw [if_neg (by rw [xw_id (x := k) (by omega) (by omega)]; omega)]
        have hfa := r_isFixedAt hL hR hO (k := k) (by omega) (by omega)
        by_cases hc : ∃ i, i < 11 ∧ cvd h i k
        · obtain ⟨i, hi, hcv⟩ := hc
          have hfi : ov_X8_isFixedAt k m = RI (bz (!mov h (i : Int))) [m] := (ov_X8_isFixedAt_e _ _).trans (hfa.1 i hi hcv)
          simp only [hfi, oqR_I, pd_rfl, pd_T, if_true, bz_0]
          cases hmv : mov h (i : Int)
          · have : iop h x n = false := pd_f (fun z => z k q3 (by omega) ⟨i, hi, hcv, hmv⟩)
            rw [this]
            simp [bz]
          · simp only [Bool.not_true, if_true]
            refine ih f' (k + 1) (by omega) (by omega) (by omega) (by omega) (fun c c1 c2 => ?_)
            by_cases hck : c = k
            · rw [hck]
              rintro ⟨j, hj, hcj, hmj⟩
              have := hL.cv1 hj hi hcj hcv
              subst this
              rw [hmv] at hmj
              cases hmj
            · exact q5 c c1 (by omega)
        · have hfi : ov_X8_isFixedAt k m = RI 0 [m] := (ov_X8_isFixedAt_e _ _).trans (hfa.2 (fun i hi hcv => hc ⟨i, hi, hcv⟩))
          simp only [hfi, oqR_I, pd_rfl, pd_T, if_true, xw0]
          refine ih f' (k + 1) (by omega) (by omega) (by omega) (by omega) (fun c c1 c2 => ?_)
          by_cases hck : c = k
          · rw [hck]
            rintro ⟨j, hj, hcj, hmj⟩
            exact hc ⟨j, hj, hcj⟩
          · exact q5 c c1 (by omega)
    have hlp : md_X8_isOpen_69 x n m xfu () = RI (bz (iop h x n)) [m] := loop n.toNat xfu x (by omega) (by have := xfu_ge (n := 1000) (by decide); omega) (Int.le_refl _) (by omega) (fun c c1 c2 => by omega)
    have hx1 : xw (x - 1) = x - 1 := xw_id (by omega) (by omega)
    simp only [md_X8_isOpen_0, mg_X8_isOpen_0, md_X8_isOpen_43, mg_X8_isOpen_43, hxn, hsz, hx, hox, xin_of (i := x) (n := 200) (by omega) (by omega), if_true, hlp]
    rw [if_neg hend]
    have inw : x ∈ wls h (h 0 9) → bz (pd (OP h x n)) = bz (iop h x n) := by
      intro hm
      cases hi : iop h x n with
      | true => rw [pd_t ⟨hm, by omega, hi⟩]
      | false => rw [pd_f (fun z => by have z3 := z.2.2; rw [hi] at z3; cases z3)]
    by_cases hc : ∃ i, i < 11 ∧ cvd h i x
    · obtain ⟨i, hi, hcv⟩ := hc
      obtain ⟨c1, c2, c3⟩ := id hcv
      have hoc := ho.1 i hi hcv
      have hpos := oc_pos i
      rw [hoc]
      rw [if_neg (show ¬ oc i ≤ 0 by omega), if_neg (show ¬ oc i = 0 by omega)]
      by_cases hbx : h 1 i = x
      · have hm : x ∈ wls h (h 0 9) := by rw [← hbx]; exact (hL.wlsc (Int.le_refl _) (by omega)).2.1 i hi c1
        rw [inw hm]
        by_cases h8 : i < 8
        · have eo : oc i = 1 + (i : Int) := by unfold oc; rw [if_pos h8]
          obtain ⟨u1, u2, u3, u4⟩ := hR.use h8 c1
          obtain ⟨x3, x4⟩ := ixn (c := 13) 13 rfl (by decide) h8
          rw [eo, show 13 + (1 + (i : Int)) - 1 = 13 + (i : Int) by omega, x3, if_pos rfl, x4, u3, hL.xpl hi, if_pos hbx]
        · have hfx : iop h x n = false := pd_f (fun z => z x (Int.le_refl _) (by omega) ⟨i, hi, hcv, mov_hi (by omega) hi⟩)
          have hle := oc_le hi
          have hxi : xw (13 + oc i - 1) = 13 + oc i - 1 := xw_id (by omega) (by omega)
          rw [hfx, xin_of (i := 13 + oc i - 1) (n := 735) (by rw [hxi]; omega) (by rw [hxi]; omega), if_pos rfl]
          split <;> rfl
      · have hnm : ¬ OP h x n := by
          intro z
          have hNb := ((hL.wls_mem (Int.le_refl _) (by omega) x).mp z.1).2.2.1
          have := hNb i hi c1 (by omega)
          omega
        rw [pd_f hnm]
        by_cases h8 : i < 8
        · have eo : oc i = 1 + (i : Int) := by unfold oc; rw [if_pos h8]
          obtain ⟨u1, u2, u3, u4⟩ := hR.use h8 c1
          obtain ⟨x3, x4⟩ := ixn (c := 13) 13 rfl (by decide) h8
          rw [eo, show 13 + (1 + (i : Int)) - 1 = 13 + (i : Int) by omega, x3, if_pos rfl, x4, u3, hL.xpl hi, if_neg hbx]
          rfl
        · have hfx : iop h x n = false := pd_f (fun z => z x (Int.le_refl _) (by omega) ⟨i, hi, hcv, mov_hi (by omega) hi⟩)
          have hle := oc_le hi
          have hxi : xw (13 + oc i - 1) = 13 + oc i - 1 := xw_id (by omega) (by omega)
          rw [hfx, xin_of (i := 13 + oc i - 1) (n := 735) (by rw [hxi]; omega) (by rw [hxi]; omega), if_pos rfl]
          split <;> rfl
    · have hn0 : ∀ i, i < 11 → ¬ cvd h i x := fun i hi hcv => hc ⟨i, hi, hcv⟩
      rw [ho.2 hn0, if_pos (by decide), if_pos rfl]
      by_cases hx0 : x ≤ 0
      · rw [if_pos hx0, inw ((hL.wls_mem (Int.le_refl _) (by omega) x).mpr ⟨h0, h1, nb_of hn0, Or.inl (by omega)⟩)]
      · rw [if_neg hx0, xin_of (i := x - 1) (n := 200) (by rw [hx1]; omega) (by rw [hx1]; omega), if_pos rfl, hx1, hO.xwq (k := (x - 1).toNat) (by omega)]
        have hw1 := hO.at0 (k := (x - 1).toNat) (by omega)
        rw [show (((x - 1).toNat : Nat) : Int) = x - 1 by omega] at hw1
        by_cases hp : m 4 (x - 1).toNat = 0
        · rw [if_pos hp]
          have hnc := hw1.mp hp
          have hnm : ¬ OP h x n := by
            intro z
            rcases ((hL.wls_mem (Int.le_refl _) (by omega) x).mp z.1).2.2.2 with w | ⟨l, hl, hpl, w⟩
            · omega
            · have hzl := z4 l hl
              rcases w with w | w
              · exact hn0 l hl ⟨hpl, by omega, by omega⟩
              · exact hnc l hl ⟨hpl, by omega, by omega⟩
          rw [pd_f hnm]
          rfl
        · rw [if_neg hp]
          have hex : ∃ i, i < 11 ∧ cvd h i (x - 1) := by
            by_cases hq : ∃ i, i < 11 ∧ cvd h i (x - 1)
            · exact hq
            · exact absurd (hw1.mpr (fun i hi hcv => hq ⟨i, hi, hcv⟩)) hp
          obtain ⟨l, hl, d1, d2, d3⟩ := hex
          have hle : h 1 l + h 2 l + 1 = x := by
            by_cases hq : x ≤ h 1 l + h 2 l
            · exact absurd ⟨d1, by omega, hq⟩ (hn0 l hl)
            · omega
          rw [inw ((hL.wls_mem (Int.le_refl _) (by omega) x).mpr ⟨h0, h1, nb_of hn0, Or.inr ⟨l, hl, d1, Or.inr hle⟩⟩)]
