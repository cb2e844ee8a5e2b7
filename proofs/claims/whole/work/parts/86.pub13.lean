theorem Sam.trans {h g k : Ob} (h1 : Sam h g) (h2 : Sam g k) : Sam h k := by
  obtain ⟨a1, a2, a3, a4⟩ := h1
  obtain ⟨b1, b2, b3, b4⟩ := h2
  refine ⟨fun i hi => ⟨(b1 i hi).1.trans (a1 i hi).1, (b1 i hi).2.trans (a1 i hi).2⟩, fun i hi => (b2 i hi).trans (a2 i hi), fun i hi => ?_, fun k k1 k2 => (b4 k k1 k2).trans (a4 k k1 k2)⟩
  obtain ⟨c1, c2, c3, c4⟩ := a3 i hi
  obtain ⟨d1, d2, d3, d4⟩ := b3 i hi
  exact ⟨d1.trans c1, d2.trans c2, d3.trans c3, d4.trans c4⟩
/-- an act that fails leaves all as it was -/
theorem fail_inv {T : Int} {P h h' m m1 : Ob} {k0 k1 k2 k3 k4 k5 k6 k7 k8 k9 k10 k11 k12 : Ob} (hI : INV T h P [k0, k1, k2, k3, k4, k5, k6, k7, k8, k9, k10, k11, k12] m) (hR : Rel h (m1 1)) (e3 : m1 3 = m 3) (e03 : m1 0 3 = m 0 3) (e04 : m1 0 4 = m 0 4) : INV T (cpyO h' (kpk P 0 [svK P 0 k0 h, svK P 1 k1 h, svK P 2 k2 h, svK P 3 k3 h, svK P 4 k4 h, svK P 5 k5 h, svK P 6 k6 h, svK P 7 k7 h, svK P 8 k8 h, svK P 9 k9 h, svK P 10 k10 h, svK P 11 k11 h, svK P 12 k12 h])) P [svK P 0 k0 h, svK P 1 k1 h, svK P 2 k2 h, svK P 3 k3 h, svK P 4 k4 h, svK P 5 k5 h, svK P 6 k6 h, svK P 7 k7 h, svK P 8 k8 h, svK P 9 k9 h, svK P 10 k10 h, svK P 11 k11 h, svK P 12 k12 h] m1 := by
  obtain ⟨i1, i2, i3⟩ := hI
  obtain ⟨⟨g1, g2, g3, g4⟩, j2, j3, j4, j5⟩ := id i3
  have hsv : ∀ j : Nat, j < 13 → getO [svK P 0 k0 h, svK P 1 k1 h, svK P 2 k2 h, svK P 3 k3 h, svK P 4 k4 h, svK P 5 k5 h, svK P 6 k6 h, svK P 7 k7 h, svK P 8 k8 h, svK P 9 k9 h, svK P 10 k10 h, svK P 11 k11 h, svK P 12 k12 h] j = if (P 0 1 + P 0 2) % 13 = (j : Int) then cpyO (getO [k0, k1, k2, k3, k4, k5, k6, k7, k8, k9, k10, k11, k12] j) h else getO [k0, k1, k2, k3, k4, k5, k6, k7, k8, k9, k10, k11, k12] j := by
    intro j hj
    rw [svK_get P h k0 k1 k2 k3 k4 k5 k6 k7 k8 k9 k10 k11 k12 j hj]
    unfold svK
    rw [flm_e]
  have hs : Sam h (kpk P 0 [svK P 0 k0 h, svK P 1 k1 h, svK P 2 k2 h, svK P 3 k3 h, svK P 4 k4 h, svK P 5 k5 h, svK P 6 k6 h, svK P 7 k7 h, svK P 8 k8 h, svK P 9 k9 h, svK P 10 k10 h, svK P 11 k11 h, svK P 12 k12 h]) := by
    unfold kpk
    rw [flm_e, Int.add_zero, hsv _ (by omega), if_pos (by omega)]
    exact Sam_cpy _ _
  have hs2 : Sam h (cpyO h' (kpk P 0 [svK P 0 k0 h, svK P 1 k1 h, svK P 2 k2 h, svK P 3 k3 h, svK P 4 k4 h, svK P 5 k5 h, svK P 6 k6 h, svK P 7 k7 h, svK P 8 k8 h, svK P 9 k9 h, svK P 10 k10 h, svK P 11 k11 h, svK P 12 k12 h])) := hs.trans (Sam_cpy _ _)
  refine ⟨HI_Sam hs2 i1, Rel_Sam hs2 i1.1 hR, ⟨g1, g2, g3, g4⟩, j2, by rw [e03]; exact j3, by rw [e04]; exact j4, fun i hi => ?_⟩
  rw [hsv _ (by omega), if_neg (by omega), e3]
  exact j5 i hi
theorem siz_inn {p : Int} (hp : xw p = p) : siz p = inn p 1 60 := by unfold siz inn; rw [hp]
theorem e_reserve (T : Int) (hT0 : 0 ≤ T) (hT : T ≤ 600) (p1 : Int) (hp1 : xw p1 = p1) (h0 h1 h2 h3 h4 h5 h6 h7 h8 h9 h10 h11 h12 h13 h14 h15 h16 h17 h18 h19 h20 h21 h22 h23 h24 m : Ob) (hI : INV T h1 h3 [h4, h5, h6, h7, h8, h9, h10, h11, h12, h13, h14, h15, h16] m) : Same (T + 1) (md_X7_reserve_0 p1 h0 h2 h17 h18 h19 h20 h21 h22 (h1, h3, h4, h5, h6, h7, h8, h9, h10, h11, h12, h13, h14, h15, h16, h23, h24)) (md_X8_reserve_0 p1 m) := by
  have hI0 := hI
  obtain ⟨i1, i2, i3⟩ := hI
  have hx : xlr p1 = true := by rw [← hp1]; exact xlr_xw
  simp only [md_X7_reserve_0, mg_X7_reserve_0, md_X8_reserve_0, mg_X8_reserve_0, bz_0, ks_e, oqV_t, oqO_V, if_true, siz_inn hp1, hp1, hx, xlr_s (p := 1) (by decide) (by decide), xlr_s (p := 60) (by decide) (by decide), Bool.and_self]
  cases hin : inn p1 1 60
  · exact ⟨_, _, _, rfl, rfl, hI0.mono (by omega)⟩
  · have hr : 1 ≤ p1 ∧ p1 ≤ 60 := by unfold inn at hin; simpa using hin
    obtain ⟨m', a1, a2, a3, a4, a5, a6, a7⟩ := v_clearsFirst (m := ksO m) (n := p1 + 1) i1 i2 (fun k hk => ks_2 m hk) (by omega) (by omega) h24
    have hcf : (cfF h24 h1 (p1 + 1)).1 = -1 ∨ 0 ≤ (cfF h24 h1 (p1 + 1)).1 ∧ (cfF h24 h1 (p1 + 1)).1 < 200 := by
      rw [cfF_e]
      have hmem : ∀ (l : List Int) (r : Ob), (∀ k ∈ l, 0 ≤ k ∧ k < 200) → (cfI h1 (p1 + 1) l r).1 = -1 ∨ 0 ≤ (cfI h1 (p1 + 1) l r).1 ∧ (cfI h1 (p1 + 1) l r).1 < 200 := by
        intro l
        induction l with
        | nil => intro r _; exact Or.inl rfl
        | cons k l ih =>
          intro r hk
          unfold cfI
          split
          · exact Or.inl rfl
          · split
            · split
              · exact Or.inr (hk k List.mem_cons_self)
              · exact ih _ (fun x hx => hk x (List.mem_cons_of_mem _ hx))
            · exact ih _ (fun x hx => hk x (List.mem_cons_of_mem _ hx))
      refine hmem _ _ (fun k hk => ?_)
      have := (i1.1.wlsc (Int.le_refl _) (by have := i1.1.2.1; have := i1.1.2.2.1; omega)).1 k hk
      have := i1.1.2.1
      have := i1.1.2.2.1
      omega
    simp only [a1, oqI_t, oqR_I, oqO_I, if_true, Bool.true_eq_false, if_false, pd_t i3.1, pd_t (p := LW h1 ∧ 1 ≤ p1 + 1 ∧ p1 + 1 ≤ 200) ⟨i1.1, by omega, by omega⟩]
    rcases hcf with hc | ⟨hc1, hc2⟩
    · rw [hc, if_pos xwm1, if_neg (show ¬ xw (-1) ≥ 0 by decide)]
      have hh := a7 hc
      rw [hh] at a3
      have := fail_inv (h' := (cfF h24 h1 (p1 + 1)).2.2) (m1 := m') hI0 a3 a5 (a6 3 (by decide)) (a6 4 (by decide))
      exact ⟨_, _, _, rfl, rfl, this.mono (by omega)⟩
    · rw [xw_id (by omega) (by omega), if_neg (show ¬ (cfF h24 h1 (p1 + 1)).1 = -1 by omega), if_pos (show (cfF h24 h1 (p1 + 1)).1 ≥ 0 by omega)]
      obtain ⟨m2, b1, b2, b3⟩ := act_n (m1 := m') hI0 a2 a3 (fun k hk => (congrFun a4 k).trans (ks_2 m hk)) a5 (a6 3 (by decide))
      simp only [b1, oqV_t, oqO_V, if_true]
      exact ⟨_, _, _, rfl, rfl, b3⟩
