theorem e_block (T : Int) (hT0 : 0 ≤ T) (hT : T ≤ 600) (p1 : Int) (hp1 : xw p1 = p1) (p2 : Int) (hp2 : xw p2 = p2) (h0 h1 h2 h3 h4 h5 h6 h7 h8 h9 h10 h11 h12 h13 h14 h15 h16 h17 h18 h19 h20 h21 h22 h23 h24 m : Ob) (hI : INV T h1 h3 [h4, h5, h6, h7, h8, h9, h10, h11, h12, h13, h14, h15, h16] m) : Same (T + 1) (md_X7_block_0 p1 p2 h0 h1 h2 h3 h4 h5 h6 h7 h8 h9 h10 h11 h12 h13 h14 h15 h16 h17 h18 h19 h20 h21 h22 h23 h24 ()) (md_X8_block_0 p1 p2 xfu m) := by
  have hI0 := hI
  obtain ⟨i1, i2, i3⟩ := hI
  have hL := i1.1
  obtain ⟨z1, z2, z3, -⟩ := id hL
  have x2 : xlr p2 = true := by rw [← hp2]; exact xlr_xw
  obtain ⟨m', a, b, c⟩ := fo_e hL i2
  have i2' := own_frame i2 b
  have e0' : xw (m' 1 0) = h1 0 9 := by rw [i2'.szq]; exact hL.xsz
  have hb : ∀ k, 0 ≤ k → k < h1 0 9 → Nb h1 k → ov_X8_behind k m' = RI (nxt h1 k (h1 0 9)) [m'] := fun k q1 q2 hN => (ov_X8_behind_e _ _).trans (r_behind xfu (xfu_ge (by decide)) hL i2' c q1 q2 hN)
  have loop : ∀ (n : Nat), p1 = (n : Int) → ∀ (t f i : Nat) (k : Int), 0 ≤ k → k ≤ h1 0 9 → (h1 0 9 - k).toNat ≤ t → t < f → i ≤ n → Nb h1 k → tlp (lb_X8_block_27 p1 p2 xfu) f (k, (i : Int), m') = md_X8_block_55 p1 p2 xfu (((wlk h1 (h1 0 9) t k)[n - i]?).getD (h1 0 9), m') := by
    intro n hn t
    have hpn : -2147483648 ≤ p1 ∧ p1 < 2147483648 := by rw [xw_def] at hp1; omega
    induction t with
    | zero =>
      intro f i k q1 q2 q3 q4 q5 hN
      cases f with
      | zero => omega
      | succ f =>
        have hk : k = h1 0 9 := by omega
        subst hk
        rw [tlp_succ]
        simp only [lb_X8_block_27, mg_X8_block_27, e0', hL.xsz, wlk, List.getElem?_nil, Option.getD_none]
        split
        · rfl
        · first
          | rfl
          | rw [if_pos (by omega)]
    | succ t ih =>
      intro f i k q1 q2 q3 q4 q5 hN
      cases f with
      | zero => omega
      | succ f =>
        rw [tlp_succ]
        have hki : xw (i : Int) = i := xw_nat (by omega)
        have hkk : xw k = k := xw_id (by omega) (by omega)
        simp only [lb_X8_block_27, mg_X8_block_27, e0', hki, hp1, hkk]
        by_cases hke : k < h1 0 9
        · have hnx := hL.nxc (k := k) q1 hke (Int.le_refl _) (by omega)
          unfold wlk
          rw [if_pos hke]
          by_cases hin : (i : Int) ≥ p1
          · rw [if_pos hin]
            have : n - i = 0 := by omega
            rw [this]
            rfl
          · rw [if_neg hin, if_neg (by omega)]
            simp only [hb k q1 hke hN, oqR_I, pd_rfl, pd_T, if_true]
            have e1 : (i : Int) + 1 = ((i + 1 : Nat) : Int) := by omega
            rw [e1, ih f (i + 1) _ (by omega) (by omega) (by omega) (by omega) (by omega) (hL.nb_nxt q1 hke (by omega) hN), hnx.2.2]
            have e2 : n - i = (n - (i + 1)) + 1 := by omega
            rw [e2, List.getElem?_cons_succ]
        · have hk : k = h1 0 9 := by omega
          subst hk
          unfold wlk
          rw [if_neg (show ¬ h1 0 9 < h1 0 9 by omega)]
          simp only [List.getElem?_nil, Option.getD_none]
          split
          · rfl
          · first
            | rfl
            | rw [if_pos (by omega)]
  unfold md_X8_block_0 mg_X8_block_0
  simp only [md_X7_block_0, mg_X7_block_0, bz_0, hp1, hp2, x2, xlr_s (p := 0) (by decide) (by decide), xlr_s (p := 2) (by decide) (by decide), Bool.and_self, if_true, pd_t hL, a, oqV_t, oqO_V]
  by_cases hneg : p1 < 0
  · have ex : xnth (wls h1 (h1 0 9)) p1 = -1 := by unfold xnth; rw [hp1, if_neg (by omega)]
    rw [if_pos hneg, ex, if_pos xwm1]
    exact ⟨_, _, _, rfl, rfl, hI0.mono (by omega)⟩
  · rw [if_neg hneg]
    obtain ⟨n, hn⟩ : ∃ n : Nat, p1 = (n : Int) := ⟨p1.toNat, by omega⟩
    have ex : xnth (wls h1 (h1 0 9)) p1 = ((wls h1 (h1 0 9))[n]?).getD (-1) := by
      unfold xnth
      rw [hp1, if_pos (by omega), hn, toNat_nat]
    have hlp : md_X8_block_27 p1 p2 xfu (0, 0, m') = md_X8_block_55 p1 p2 xfu (((wls h1 (h1 0 9))[n]?).getD (h1 0 9), m') := by
      have := loop n hn 256 xfu 0 0 (by omega) (by omega) (by omega) (Nat.lt_of_lt_of_le (by decide) (xfu_ge (n := 1000) (by decide))) (by omega) hL.nb0
      rw [wls_e]
      unfold wlsI
      rw [wfu_e]
      exact this
    rw [hlp, ex]
    obtain ⟨w1, w2, w3⟩ := hL.wlsc (Int.le_refl _) (by omega)
    cases hg : (wls h1 (h1 0 9))[n]? with
    | none =>
      simp only [Option.getD_none, md_X8_block_55, mg_X8_block_55, e0', hL.xsz]
      rw [if_pos xwm1, if_neg (show ¬ h1 0 9 < h1 0 9 by omega)]
      cases inn p2 0 2
      · exact ⟨_, _, _, rfl, rfl, hI0.mono (by omega)⟩
      · exact ⟨_, _, _, rfl, rfl, (INV_frame hI0 b).mono (by omega)⟩
    | some k =>
      obtain ⟨k1, k2, k3⟩ := w1 k (List.mem_of_getElem? hg)
      have hkk : xw k = k := xw_id (by omega) (by omega)
      have hnx := hL.nxc (k := k) k1 k2 (Int.le_refl _) (by omega)
      simp only [Option.getD_some, md_X8_block_55, mg_X8_block_55, e0', hkk, hb k k1 k2 k3, oqR_I, pd_rfl, pd_T, if_true, hp2, xin_of (i := k) (n := 200) (by omega) (by omega)]
      rw [if_neg (show ¬ k = -1 by omega), if_pos k2]
      have eo : m' 4 k.toNat = ownF (hol h1 k) := by
        rcases hL.blk (k := k) (e := h1 0 9) k1 k2 (by omega) k3 with ⟨i, b1, b2, b3, b4, b5, b6⟩ | ⟨b1, b2, b3⟩
        · have := (c k.toNat (by omega)).1 i b1 (by rw [show ((k.toNat : Nat) : Int) = k by omega]; exact b6 k (Int.le_refl _) (by omega))
          rw [this, b3]
          unfold oc ownF
          rw [xw_nat (by omega), if_neg (show ¬ (i : Int) = -1 by omega)]
          by_cases h8 : i < 8
          · rw [if_pos h8, if_pos (by omega)]
          · rw [if_neg h8, if_neg (by omega)]
            omega
        · have := (c k.toNat (by omega)).2 (by rw [show ((k.toNat : Nat) : Int) = k by omega]; exact b3 k (Int.le_refl _) (by omega))
          rw [this, b2]
          rfl
      rw [eo]
      by_cases c0 : p2 = 0
      · subst c0
        exact ⟨_, _, _, rfl, rfl, (INV_frame hI0 b).mono (by omega)⟩
      · by_cases c1 : p2 = 1
        · subst c1
          exact ⟨_, _, _, rfl, rfl, (INV_frame hI0 b).mono (by omega)⟩
        · by_cases c2 : p2 = 2
          · subst c2
            exact ⟨_, _, _, rfl, rfl, (INV_frame hI0 b).mono (by omega)⟩
          · have : inn p2 0 2 = false := by unfold inn; simp; omega
            rw [this, if_neg c0, if_neg c1, if_neg c2]
            exact ⟨_, _, _, rfl, rfl, hI0.mono (by omega)⟩
