theorem rd_map (r : Ob) (L : List (Int × Int)) : (List.range (rdO r L 0 2).toNat).map (fun i => rdO r L 2 i) = L.map (fun q => q.2) := by
  rw [rdO_cnt, toNat_nat]
  apply List.ext_getElem
  · simp
  · intro i h1 h2
    simp only [List.length_map] at h2
    rw [List.getElem_map, List.getElem_map, List.getElem_range]
    exact (rdO_at r (List.getElem?_eq_getElem h2)).2
theorem celR_map (r : Ob) (L : List (Int × Int)) : celR (rdO r L) = (L.map (fun q => q.2)).foldl (fun (c x : Int) => c + x) 0 := by
  rw [← rd_map r L, List.foldl_map]
  rfl
theorem lonR_map (r : Ob) (L : List (Int × Int)) : lonR (rdO r L) = (L.map (fun q => q.2)).foldl (fun (c x : Int) => xmax c x) 0 := by
  rw [← rd_map r L, List.foldl_map]
  rfl
noncomputable def frg (h : Ob) (e : Int) (s : Int × Int × Int) (k : Int) : Int × Int × Int := if hol h k = -1 then (s.1 + (nxt h k e - k), (if xw (nxt h k e - k) ≤ xw s.2.1 then s.2.1 else nxt h k e - k), s.2.2 + 1) else s
theorem frg_fold (h : Ob) (e : Int) : ∀ (W : List Int) (s : Int × Int × Int), W.foldl (frg h e) s = ((((W.filter (fun k => decide (hol h k = -1))).map (fun k => (k, nxt h k e - k))).map (fun q => q.2)).foldl (fun (c x : Int) => c + x) s.1, (((W.filter (fun k => decide (hol h k = -1))).map (fun k => (k, nxt h k e - k))).map (fun q => q.2)).foldl (fun (c x : Int) => xmax c x) s.2.1, s.2.2 + ((W.filter (fun k => decide (hol h k = -1))).length : Int))
  | [], s => by simp
  | k :: W, s => by
    rw [List.foldl_cons, frg_fold h e W, List.filter_cons]
    unfold frg
    by_cases hh : hol h k = -1
    · rw [if_pos hh]
      have hx : xmax s.2.1 (nxt h k e - k) = if xw (nxt h k e - k) ≤ xw s.2.1 then s.2.1 else nxt h k e - k := by
        unfold xmax
        by_cases hc : xw s.2.1 < xw (nxt h k e - k)
        · rw [if_pos hc, if_neg (by omega)]
        · rw [if_neg hc, if_pos (by omega)]
      simp only [hh, decide_true, if_true, List.map_cons, List.foldl_cons, List.length_cons, hx]
      congr 2
      push_cast
      omega
    · rw [if_neg hh]
      simp [hh]
theorem e_free (T : Int) (hT0 : 0 ≤ T) (hT : T ≤ 600) (p1 : Int) (hp1 : xw p1 = p1) (h0 h1 h2 h3 h4 h5 h6 h7 h8 h9 h10 h11 h12 h13 h14 h15 h16 h17 h18 h19 h20 h21 h22 h23 h24 m : Ob) (hI : INV T h1 h3 [h4, h5, h6, h7, h8, h9, h10, h11, h12, h13, h14, h15, h16] m) : Same (T + 1) (md_X7_free_0 p1 h0 h1 h2 h3 h4 h5 h6 h7 h8 h9 h10 h11 h12 h13 h14 h15 h16 h18 h19 h20 h21 h22 h23 h24 h17) (md_X8_free_0 p1 xfu m) := by
  have hI0 := hI
  obtain ⟨i1, i2, i3⟩ := hI
  have hL := i1.1
  obtain ⟨z1, z2, z3, -⟩ := id hL
  have x1 : xlr p1 = true := by rw [← hp1]; exact xlr_xw
  obtain ⟨m', a, b, c⟩ := fo_e hL i2
  have i2' := own_frame i2 b
  have e0' : m' 1 0 = h1 0 9 := i2'.szq
  obtain ⟨m2, g1, g2, g3, g4, g5⟩ := r_fillsGaps i1 i2' c (Int.le_refl (h1 0 9)) (by omega)
  have hfin : INV T h1 h3 [h4, h5, h6, h7, h8, h9, h10, h11, h12, h13, h14, h15, h16] m2 := ⟨i1, by rw [g4 1 (by decide) (by decide) (by decide) (by decide) (by decide)]; exact i2', InvP_frame i3 (by rw [g4 3 (by decide) (by decide) (by decide) (by decide) (by decide), b 3 (by decide)]) (by rw [g5 3 (by decide) (by decide), b 0 (by decide)]) (by rw [g5 4 (by decide) (by decide), b 0 (by decide)])⟩
  have hrk : ∀ s, rk (rdO h17 (rnl h1 s (h1 0 9))) = true := fun s => (hL.gaps h17 s).1
  have hRd : RdG h1 (h1 0 9) := ⟨hL, Int.le_refl _, by omega⟩
  have hlp := loop_walk (B := lb_X8_free_28 p1 xfu) (h := h1) (e := h1 0 9) (fun k (s : Int × Int × Int) => (s.1, s.2.1, s.2.2, k, m')) (fun s k => .inl (frg h1 (h1 0 9) s k)) (fun s => if p1 = 0 then RI s.1 [m2] else if p1 = 1 then RI s.2.1 [m2] else if p1 = 2 then RI s.2.2 [m2] else RI (m2 0 8) [m2]) (fun k _ => Nb h1 k) (fun k a b => ⟨(hL.nxc a b (by omega) (by omega)).1, (hL.nxc a b (by omega) (by omega)).2.1⟩)
    (fun kk k s a' b' hN => by
      have hn := hL.nxc a' b' (Int.le_refl _) (by omega)
      have hb : ov_X8_behind k m' = RI (nxt h1 k (h1 0 9)) [m'] := (ov_X8_behind_e _ _).trans (r_behind xfu (xfu_ge (by decide)) hL i2' c a' b' hN)
      have hk : xw k = k := xw_id (by omega) (by omega)
      have ew := c.xwq (k := k.toNat) (by omega)
      have eh := c.holq hL (k := k.toNat) (by omega) (by rw [show ((k.toNat : Nat) : Int) = k by omega]; exact hN)
      rw [show ((k.toNat : Nat) : Int) = k by omega] at eh
      refine ⟨?_, fun s' _ => ?_⟩
      · simp only [lb_X8_free_28, mg_X8_free_28, md_X8_free_80, mg_X8_free_80, md_X8_free_84, mg_X8_free_84, hk, e0', hL.xsz, hb, oqR_I, pd_rfl, pd_T, if_true, xin_of (i := k) (n := 200) (by omega) (by omega), ew]
        rw [if_neg (show ¬ k ≥ h1 0 9 by omega), hn.2.2]
        unfold frg
        by_cases hh : hol h1 k = -1
        · rw [if_pos (eh.mpr hh), if_pos hh]
          by_cases hc : xw (nxt h1 k (h1 0 9) - k) ≤ xw s.2.1
          · rw [if_pos hc, if_pos hc]
          · rw [if_neg hc, if_neg hc]
        · rw [if_neg (fun z => hh (eh.mp z)), if_neg hh]
      · rw [hn.2.2]
        exact hL.nb_nxt a' b' (by omega) hN)
    (fun kk s _ => by
      simp only [lb_X8_free_28, mg_X8_free_28, e0', hL.xsz, g1, oqV_t, oqO_V, if_true, hp1]
      rw [if_pos (show h1 0 9 ≥ h1 0 9 by omega)]) wfu xfu 0 (0, 0, 0) (by omega) (by omega) (by rw [wfu_e]; omega) (by rw [wfu_e]; have := xfu_ge (n := 1000) (by decide); omega) hL.nb0
  rw [show wlk h1 (h1 0 9) wfu 0 = wls h1 (h1 0 9) from (wls_e _ _).symm, wrun_inl, frg_fold, ← rnl0 hL (Int.le_refl _) (by omega), ← celR_map h17, ← lonR_map h17] at hlp
  have hcnt : (((wls h1 (h1 0 9)).filter (fun k => decide (hol h1 k = -1))).length : Int) = rdO h17 (rnl h1 0 (h1 0 9)) 0 2 := by
    rw [rdO_cnt, rnl0 hL (Int.le_refl _) (by omega), List.length_map]
  have h8 : md_X8_free_28 p1 xfu (0, 0, 0, 0, m') = tlp (lb_X8_free_28 p1 xfu) xfu (0, 0, 0, 0, m') := rfl
  unfold md_X8_free_0 mg_X8_free_0
  simp only [md_X7_free_0, mg_X7_free_0, bz_0, hp1, x1, xlr_s (p := 0) (by decide) (by decide), xlr_s (p := 3) (by decide) (by decide), Bool.and_self, if_true, a, oqV_t, oqO_V, pd_t hRd, hrk, h8, hlp, hcnt, Int.zero_add]
  by_cases c3 : p1 = 3
  · subst c3
    rw [rdO_cnt, ← g2.1]
    exact ⟨_, _, _, rfl, rfl, hfin.mono (by omega)⟩
  · rw [if_neg c3]
    by_cases hc : 0 ≤ p1 ∧ p1 ≤ 2
    · have hc : p1 = 0 ∨ p1 = 1 ∨ p1 = 2 := by omega
      rcases hc with rfl | rfl | rfl <;> exact ⟨_, _, _, rfl, rfl, hfin.mono (by omega)⟩
    · have : inn p1 0 3 = false := by unfold inn; simp; omega
      rw [this, if_neg (by omega), if_neg (by omega), if_neg (by omega)]
      exact ⟨_, _, _, rfl, rfl, hI0.mono (by omega)⟩
