theorem oc_pos (i : Nat) : 1 ≤ oc i := by unfold oc; split <;> omega
theorem oc_le {i : Nat} (hi : i < 11) : oc i ≤ 35 := by unfold oc; split <;> omega
theorem oc_inj {i j : Nat} (hi : i < 11) (hj : j < 11) (h : oc i = oc j) : i = j := by
  unfold oc at h
  split at h <;> split at h <;> omega
theorem oc_xw {i : Nat} (hi : i < 11) : xw (oc i) = oc i := by
  have := oc_pos i
  have := oc_le hi
  exact xw_id (by omega) (by omega)
theorem Own.xwq {h : Ob} {w : Nat → Int} (hO : Own h w) {k : Nat} (hk : (k : Int) < h 0 9) : xw (w k) = w k := by
  by_cases hc : ∃ i, i < 11 ∧ cvd h i (k : Int)
  · obtain ⟨i, hi, hcv⟩ := hc
    rw [(hO k hk).1 i hi hcv, oc_xw hi]
  · rw [(hO k hk).2 (fun i hi hcv => hc ⟨i, hi, hcv⟩)]
    decide
theorem Own.at0 {h : Ob} {w : Nat → Int} (hO : Own h w) {k : Nat} (hk : (k : Int) < h 0 9) : w k = 0 ↔ ∀ i, i < 11 → ¬ cvd h i (k : Int) := by
  constructor
  · intro e i hi hcv
    have := (hO k hk).1 i hi hcv
    have := oc_pos i
    omega
  · exact (hO k hk).2
theorem Own.holq {h : Ob} (hL : LW h) {w : Nat → Int} (hO : Own h w) {k : Nat} (hk : (k : Int) < h 0 9) (hN : Nb h (k : Int)) : w k = 0 ↔ hol h (k : Int) = -1 := by
  obtain ⟨z1, z2, z3, -⟩ := id hL
  have hq := hL.nxc (k := (k : Int)) (by omega) hk (Int.le_refl _) (by omega)
  rw [hO.at0 hk]
  rcases hL.blk (k := (k : Int)) (e := h 0 9) (by omega) hk (by omega) hN with ⟨i, b1, b2, b3, b4, b5, b6⟩ | ⟨b1, b2, b3⟩
  · constructor
    · intro e
      exact absurd (b6 (k : Int) (Int.le_refl _) (by omega)) (e i b1)
    · intro e
      rw [b3] at e
      omega
  · exact ⟨fun _ => b2, fun _ => b3 (k : Int) (Int.le_refl _) (by omega)⟩
theorem r_behind (f : Nat) (hf : 1000 ≤ f) {h m : Ob} (hL : LW h) (hR : Rel h (m 1)) (hO : Own h (m 4)) {a : Int} (h0 : 0 ≤ a) (h1 : a < h 0 9) (hN : Nb h a) : md_X8_behind_0 a m f () = RI (nxt h a (h 0 9)) [m] := by
  obtain ⟨z1, z2, z3, -⟩ := id hL
  have hq := hL.nxc (k := a) h0 h1 (Int.le_refl _) (by omega)
  have hsz : xw (m 1 0) = h 0 9 := by rw [hR.szq]; exact hL.xsz
  have hn1 : a < nxt h a (h 0 9) := by omega
  have hn2 : nxt h a (h 0 9) ≤ h 0 9 := by omega
  have same : ∀ k : Nat, a ≤ (k : Int) → (k : Int) < nxt h a (h 0 9) → m 4 k = m 4 a.toNat := by
    intro k k1 k2
    rcases hL.blk h0 h1 (by omega) hN with ⟨i, b1, b2, b3, b4, b5, b6⟩ | ⟨b1, b2, b3⟩
    · rw [(hO k (by omega)).1 i b1 (b6 _ k1 k2), (hO a.toNat (by omega)).1 i b1 (b6 _ (by omega) (by omega))]
    · rw [(hO k (by omega)).2 (b3 _ k1 k2), (hO a.toNat (by omega)).2 (b3 _ (by omega) (by omega))]
  have diff : nxt h a (h 0 9) < h 0 9 → m 4 (nxt h a (h 0 9)).toNat ≠ m 4 a.toNat := by
    intro hlt e
    rcases hL.blk h0 h1 (by omega) hN with ⟨i, b1, b2, b3, b4, b5, b6⟩ | ⟨b1, b2, b3⟩
    · have e1 := (hO a.toNat (by omega)).1 i b1 (b6 _ (by omega) (by omega))
      rw [e1] at e
      by_cases hc : ∃ j, j < 11 ∧ cvd h j (((nxt h a (h 0 9)).toNat : Nat) : Int)
      · obtain ⟨j, hj, hcj⟩ := hc
        rw [(hO _ (by omega)).1 j hj hcj] at e
        have := oc_inj hj b1 e
        subst this
        obtain ⟨c1, c2, c3⟩ := hcj
        omega
      · rw [(hO _ (by omega)).2 (fun j hj hcj => hc ⟨j, hj, hcj⟩)] at e
        have := oc_pos i
        omega
    · rw [(hO a.toNat (by omega)).2 (b3 _ (by omega) (by omega))] at e
      obtain ⟨c1, c2, c3, c4⟩ := hL.nxt_free h0 h1 (by omega) b1
      rcases c4 with c4 | ⟨j, hj, c4⟩
      · omega
      · have hz := hL.2.2.2.1 j hj
        rw [(hO _ (by omega)).1 j hj ⟨by omega, by omega, by omega⟩] at e
        have := oc_pos j
        omega
  have ha : xw a = a := xw_id (by omega) (by omega)
  refine tlp_inv (B := lb_X8_behind_2 a m f) (fun k => a ≤ k ∧ k ≤ nxt h a (h 0 9)) (fun k => (nxt h a (h 0 9) - k).toNat) (fun _ => RI (nxt h a (h 0 9)) [m]) ?_ f a ⟨Int.le_refl _, by omega⟩ (by omega)
  rintro k ⟨k1, k2⟩
  have hk : xw k = k := xw_id (by omega) (by omega)
  by_cases hk3 : k = nxt h a (h 0 9)
  · right
    intro kk
    simp only [lb_X8_behind_2, mg_X8_behind_2, hsz, hk, ha]
    by_cases hend : k ≥ h 0 9
    · rw [if_pos hend, hk3]
    · rw [if_neg hend, xin_of (i := k) (n := 200) (by omega) (by omega), xin_of (i := a) (n := 200) (by omega) (by omega)]
      have e1 := hO.xwq (k := k.toNat) (by omega)
      have e2 := hO.xwq (k := a.toNat) (by omega)
      simp only [if_true, e1, e2]
      rw [if_neg (by rw [hk3]; exact diff (by omega)), hk3]
  · left
    refine ⟨k + 1, fun kk => ?_, ⟨by omega, by omega⟩, by omega, rfl⟩
    simp only [lb_X8_behind_2, mg_X8_behind_2, hsz, hk, ha]
    rw [if_neg (by omega), xin_of (i := k) (n := 200) (by omega) (by omega), xin_of (i := a) (n := 200) (by omega) (by omega)]
    have e1 := hO.xwq (k := k.toNat) (by omega)
    have e2 := hO.xwq (k := a.toNat) (by omega)
    simp only [if_true, e1, e2]
    rw [if_pos (same k.toNat (by omega) (by omega))]
theorem mov_hi {h : Ob} {i : Nat} (hi : 8 ≤ i) (hi2 : i < 11) : mov h (i : Int) = false := by
  have : hdl (i : Int) = false := by
    unfold hdl
    rw [xw_nat (by omega)]
    simp
    omega
  unfold mov ful
  rw [this]
  rfl
/-- a cell of a block that can't be moved -/
theorem r_isFixedAt {h m : Ob} (hL : LW h) (hR : Rel h (m 1)) (hO : Own h (m 4)) {k : Int} (h0 : 0 ≤ k) (h1 : k < h 0 9) : (∀ i, i < 11 → cvd h i k → md_X8_isFixedAt_0 k m () = RI (bz (!mov h (i : Int))) [m]) ∧ ((∀ i, i < 11 → ¬ cvd h i k) → md_X8_isFixedAt_0 k m () = RI 0 [m]) := by
  obtain ⟨z1, z2, z3, z4, z5, z6⟩ := id hL
  have hk : xw k = k := xw_id (by omega) (by omega)
  have hw := hO k.toNat (by omega)
  rw [show ((k.toNat : Nat) : Int) = k by omega] at hw
  refine ⟨fun i hi hcv => ?_, fun hn => ?_⟩
  · simp only [md_X8_isFixedAt_0, mg_X8_isFixedAt_0, xin_of (i := k) (n := 200) (by omega) (by omega), if_true, hk, hw.1 i hi hcv, oc_xw hi]
    by_cases h8 : i < 8
    · have e1 : oc i = 1 + (i : Int) := by unfold oc; rw [if_pos h8]
      have e2 : (29 + oc i) - 1 = 29 + (i : Int) := by omega
      obtain ⟨x1, x2⟩ := ixm (a := (i : Int)) (c := 29) 29 rfl (by decide) (hdl_nat h8)
      rw [xw_nat (by omega), toNat_nat] at x2
      rw [if_neg (by omega), if_neg (by omega), e2, x1, if_pos rfl, x2, (hR.2.1 i h8).2.1]
      have hl := z6 i h8
      have hm : mov h (i : Int) = decide (h 4 i = 0) := by
        unfold mov
        rw [(hL.fu h8).mpr hcv.1, xw_nat (by omega), toNat_nat, xw_id (by omega) (by omega)]
        rfl
      rw [hm, xw_id (by omega) (by omega)]
      by_cases hz : h 4 i = 0
      · rw [if_pos (by omega)]; simp [hz, bz]
      · rw [if_neg (by omega)]; simp [hz, bz]
    · have e1 : oc i = 25 + (i : Int) := by unfold oc; rw [if_neg h8]
      rw [if_pos (by omega), mov_hi (by omega) hi]
      rfl
  · simp only [md_X8_isFixedAt_0, mg_X8_isFixedAt_0, xin_of (i := k) (n := 200) (by omega) (by omega), if_true, hk, hw.2 hn]
    rw [if_neg (by decide), if_pos (by decide)]
theorem r_isLooseAt {h m : Ob} (hL : LW h) (hR : Rel h (m 1)) (hO : Own h (m 4)) {k : Int} (h0 : 0 ≤ k) (h1 : k < h 0 9) : (∀ i, i < 11 → cvd h i k → md_X8_isLooseAt_0 k m () = RI (bz (mov h (i : Int))) [m]) ∧ ((∀ i, i < 11 → ¬ cvd h i k) → md_X8_isLooseAt_0 k m () = RI 0 [m]) := by
  obtain ⟨z1, z2, z3, z4, z5, z6⟩ := id hL
  have hk : xw k = k := xw_id (by omega) (by omega)
  have hw := hO k.toNat (by omega)
  rw [show ((k.toNat : Nat) : Int) = k by omega] at hw
  have hx := r_isFixedAt hL hR hO h0 h1
  refine ⟨fun i hi hcv => ?_, fun hn => ?_⟩
  · have := oc_pos i
    simp only [md_X8_isLooseAt_0, mg_X8_isLooseAt_0, xin_of (i := k) (n := 200) (by omega) (by omega), if_true, hk, hw.1 i hi hcv, oc_xw hi, ov_X8_isFixedAt_e, hx.1 i hi hcv, oqR_I, pd_rfl, pd_T, bz_0]
    rw [if_neg (by omega)]
    cases mov h (i : Int) <;> rfl
  · simp only [md_X8_isLooseAt_0, mg_X8_isLooseAt_0, xin_of (i := k) (n := 200) (by omega) (by omega), if_true, hk, hw.2 hn]
    rw [if_pos (by decide)]
/-- a loop along the blocks, of the reference -/
theorem r_walk {B : (Int → Option Rt) → Int → Option Rt} {h : Ob} (hL : LW h) (p : Int → Bool) (r : Int → Option Rt) (R : Option Rt) (h1 : ∀ kk k, 0 ≤ k → k < h 0 9 → Nb h k → B kk k = if p k then r k else kk (nxt h k (h 0 9))) (h2 : ∀ kk, B kk (h 0 9) = R) (f : Nat) (hf : 1000 ≤ f) : tlp B f 0 = match (wls h (h 0 9)).find? p with | some k => r k | none => R := by
  obtain ⟨z1, z2, z3, -⟩ := id hL
  have key : ∀ (t f : Nat) (k : Int), 0 ≤ k → k ≤ h 0 9 → (h 0 9 - k).toNat ≤ t → t < f → Nb h k → tlp B f k = match (wlk h (h 0 9) t k).find? p with | some k => r k | none => R := by
    intro t
    induction t with
    | zero =>
      intro f k a b c d _
      have e : k = h 0 9 := by omega
      subst e
      cases f with
      | zero => omega
      | succ f => exact h2 _
    | succ t ih =>
      intro f k a b c d hN
      cases f with
      | zero => omega
      | succ f =>
        by_cases hk : k < h 0 9
        · have hq := hL.nxc (k := k) a hk (Int.le_refl _) (by omega)
          show B (tlp B f) k = _
          rw [h1 _ k a hk hN]
          unfold wlk
          rw [if_pos hk, List.find?_cons]
          cases hp : p k with
          | true => simp
          | false =>
            simp only [Bool.false_eq_true, if_false]
            rw [hq.2.2]
            exact ih f _ (by omega) (by omega) (by omega) (by omega) (hL.nb_nxt a hk (by omega) hN)
        · have e : k = h 0 9 := by omega
          subst e
          unfold wlk
          rw [if_neg hk]
          exact h2 _
  rw [wls_e]
  unfold wlsI
  rw [wfu_e]
  exact key 256 f 0 (by omega) (by omega) (by omega) (by omega) hL.nb0
theorem r_firstFree (f : Nat) (hf : 1000 ≤ f) {h m : Ob} (hL : LW h) (hR : Rel h (m 1)) (hO : Own h (m 4)) (n : Int) : md_X8_firstFree_0 n m f () = RI (ffr h n) [m] := by
  obtain ⟨z1, z2, z3, -⟩ := id hL
  have hsz : xw (m 1 0) = h 0 9 := by rw [hR.szq]; exact hL.xsz
  refine (r_walk (B := lb_X8_firstFree_2 n m f) hL (fun k => decide (hol h k = -1) && decide (xw n ≤ nxt h k (h 0 9) - k)) (fun k => RI k [m]) (RI (-1) [m]) (fun kk k a b hN => ?_) (fun kk => ?_) f hf).trans ?_
  · have hb := r_behind xfu (xfu_ge (by decide)) hL hR hO a b hN
    have hk : xw k = k := xw_id (by omega) (by omega)
    have hq := hL.nxc (k := k) a b (Int.le_refl _) (by omega)
    have ew := hO.xwq (k := k.toNat) (by omega)
    have eh := hO.holq hL (k := k.toNat) (by omega) (by rw [show ((k.toNat : Nat) : Int) = k by omega]; exact hN)
    rw [show ((k.toNat : Nat) : Int) = k by omega] at eh
    simp only [lb_X8_firstFree_2, mg_X8_firstFree_2, md_X8_firstFree_34, mg_X8_firstFree_34, hsz, hk, xin_of (i := k) (n := 200) (by omega) (by omega), if_true, ov_X8_behind_e, hb, oqR_I, pd_rfl, pd_T, ew]
    rw [if_neg (by omega), xw_id (x := nxt h k (h 0 9) - k) (by omega) (by omega)]
    by_cases hc : hol h k = -1
    · rw [if_pos (eh.mpr hc)]
      by_cases hd : xw n ≤ nxt h k (h 0 9) - k
      · rw [if_neg (by omega)]
        simp [hc, hd]
      · rw [if_pos (by omega)]
        simp [hc, hd]
    · rw [if_neg (fun z => hc (eh.mp z))]
      simp [hc]
  · simp only [lb_X8_firstFree_2, mg_X8_firstFree_2, hsz, hL.xsz]
    rw [if_pos (by omega)]
  · rw [ffr_e]
    unfold ffrI
    cases (wls h (h 0 9)).find? (fun k => decide (hol h k = -1) && decide (xw n ≤ nxt h k (h 0 9) - k)) <;> rfl
