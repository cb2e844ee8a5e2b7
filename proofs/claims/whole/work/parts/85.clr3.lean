theorem filt_step {x : Int} : ∀ {l : List Int}, l.Pairwise (· < ·) → l.filter (fun y => decide (x ≤ y)) = if x ∈ l then x :: l.filter (fun y => decide (x + 1 ≤ y)) else l.filter (fun y => decide (x + 1 ≤ y))
  | [], _ => by simp
  | a :: l, hs => by
    obtain ⟨h1, h2⟩ := List.pairwise_cons.mp hs
    have ih := filt_step (x := x) h2
    by_cases hax : a = x
    · subst hax
      have hn : a ∉ l := fun z => by have := h1 a z; omega
      rw [if_neg hn] at ih
      rw [if_pos List.mem_cons_self, List.filter_cons, List.filter_cons, ih]
      have d1 : decide (a ≤ a) = true := by simp
      have d2 : decide (a + 1 ≤ a) = false := by simp; omega
      rw [d1, d2]
      rfl
    · have hm : x ∈ a :: l ↔ x ∈ l := by
        rw [List.mem_cons]
        exact ⟨fun z => z.resolve_left (fun e => hax e.symm), Or.inr⟩
      rw [List.filter_cons, List.filter_cons, ih]
      by_cases hlt : a < x
      · have d1 : decide (x ≤ a) = false := by simp; omega
        have d2 : decide (x + 1 ≤ a) = false := by simp; omega
        rw [d1, d2]
        by_cases hx : x ∈ l
        · rw [if_pos hx, if_pos (hm.mpr hx)]
          try rfl
        · rw [if_neg hx, if_neg (fun z => hx (hm.mp z))]
          try rfl
      · have hx : x ∉ l := fun z => by have := h1 x z; omega
        have d1 : decide (x ≤ a) = true := by simp; omega
        have d2 : decide (x + 1 ≤ a) = true := by simp; omega
        rw [if_neg hx, if_neg (fun z => hx (hm.mp z)), d1, d2]
theorem cfI_far {h : Ob} {n : Int} : ∀ (l : List Int) (r : Ob), (∀ k ∈ l, h 0 9 < k + n) → cfI h n l r = (-1, r, h)
  | [], r, _ => rfl
  | k :: l, r, hk => by
    unfold cfI
    rw [if_pos (hk k List.mem_cons_self)]
theorem v_clearsFirst {T : Int} {h m : Ob} (hH : HI T h) (hR : Rel h (m 1)) (hA : ∀ k, k < 735 → m 2 k = m 1 k) {n : Int} (hn : 1 ≤ n) (hn2 : n ≤ 200) (r : Ob) : ∃ m', ov_X8_clearsFirst n m = RI (cfF r h n).1 [m'] ∧ HI T (cfF r h n).2.2 ∧ Rel (cfF r h n).2.2 (m' 1) ∧ m' 2 = m 2 ∧ m' 3 = m 3 ∧ (∀ q, q ≠ 23 → m' 0 q = m 0 q) ∧ ((cfF r h n).1 = -1 → (cfF r h n).2.2 = h) := by
  have hL := hH.1
  obtain ⟨z1, z2, z3, -⟩ := id hL
  obtain ⟨m0, o1, o2, o3⟩ := fo_e hL hR
  have hws := (hL.wlsc (Int.le_refl (h 0 9)) (by omega)).2.2
  have hwm := fun x => hL.wls_mem (Int.le_refl (h 0 9)) (by omega) x
  have hRA : Rel h (m 2) := Rel_cong hL hA hR
  have loop : ∀ (d f : Nat) (x : Int) (s r : Ob), (h 0 9 - x).toNat = d → d < f → 0 ≤ x → x ≤ h 0 9 → Rel h (s 1) → Own h (s 4) → s 2 = m 2 → s 3 = m 3 → (∀ q, q ≠ 23 → s 0 q = m 0 q) → ∃ m', tlp (lb_X8_clearsFirst_6 n xfu) f (x, s) = RI (cfI h n ((wls h (h 0 9)).filter (fun y => decide (x ≤ y))) r).1 [m'] ∧ HI T (cfI h n ((wls h (h 0 9)).filter (fun y => decide (x ≤ y))) r).2.2 ∧ Rel (cfI h n ((wls h (h 0 9)).filter (fun y => decide (x ≤ y))) r).2.2 (m' 1) ∧ m' 2 = m 2 ∧ m' 3 = m 3 ∧ (∀ q, q ≠ 23 → m' 0 q = m 0 q) ∧ ((cfI h n ((wls h (h 0 9)).filter (fun y => decide (x ≤ y))) r).1 = -1 → (cfI h n ((wls h (h 0 9)).filter (fun y => decide (x ≤ y))) r).2.2 = h) := by
    intro d
    induction d with
    | zero =>
      intro f x s r q1 q2 q3 q4 q5 q6 q7 q8 q9
      have hx : x = h 0 9 := by omega
      subst hx
      obtain ⟨f', rfl⟩ : ∃ f', f = f' + 1 := ⟨f - 1, by omega⟩
      have hnil : (wls h (h 0 9)).filter (fun y => decide (h 0 9 ≤ y)) = [] := by
        rw [List.filter_eq_nil_iff]
        intro y hy
        have := ((hwm y).mp hy).2.1
        simp
        omega
      rw [hnil]
      refine ⟨s, ?_, hH, q5, q7, q8, q9, fun _ => rfl⟩
      rw [tlp_succ]
      simp only [lb_X8_clearsFirst_6, mg_X8_clearsFirst_6]
      have hsz : xw (s 1 0) = h 0 9 := by rw [q5.szq]; exact hL.xsz
      rw [if_pos (by rw [hsz, hL.xsz]; omega)]
      rfl
    | succ d ih =>
      intro f x s r q1 q2 q3 q4 q5 q6 q7 q8 q9
      obtain ⟨f', rfl⟩ : ∃ f', f = f' + 1 := ⟨f - 1, by omega⟩
      have hsz : xw (s 1 0) = h 0 9 := by rw [q5.szq]; exact hL.xsz
      have hx : xw x = x := xw_id (by omega) (by omega)
      have hop := v_isOpen hL q5 q6 (x := x) q3 (by omega) hn hn2
      rw [tlp_succ]
      simp only [lb_X8_clearsFirst_6, mg_X8_clearsFirst_6, md_X8_clearsFirst_47, mg_X8_clearsFirst_47, hsz, hx, hop, oqR_I, pd_rfl, pd_T, if_true, bz_0]
      rw [if_neg (show ¬ x ≥ h 0 9 by omega)]
      by_cases hO : OP h x n
      · obtain ⟨p1, p2, p3⟩ := id hO
        rw [pd_t hO, if_neg (by simp)]
        have hNb := ((hwm x).mp p1).2.2.1
        obtain ⟨m1, b1, b2, b3, b4, b5⟩ := v_clears hH q5 q6 q3 hn p2 hNb p3 r
        rw [filt_step hws, if_pos p1]
        unfold cfI
        rw [if_neg (show ¬ h 0 9 < x + n by omega), p3, if_pos rfl]
        simp only [b1, oqI_t, oqR_I, oqO_I, if_true, bz_0]
        cases hcl : (clF r h x n).1
        · simp only [if_true, Bool.false_eq_true, if_false]
          have hlb : ov_X8_laysBack m1 = RV [lbO m1] := (ov_X8_laysBack_e m1).trans (r_laysBack xfu (xfu_ge (by decide)) m1)
          have hRl : Rel h (lbO m1 1) := by
            refine Rel_cong hL (fun k hk => ?_) hRA
            show (if 1 = 1 ∧ k < 735 then m1 2 k else m1 1 k) = m 2 k
            rw [if_pos ⟨rfl, hk⟩, b4 2 (by decide) (by decide) (by decide) (by decide), q7]
          obtain ⟨m2, c1, c2, c3⟩ := fo_e hL hRl
          simp only [hlb, c1, oqV_t, oqO_V, if_true]
          refine ih f' (x + 1) m2 _ (by omega) (by omega) (by omega) (by omega) (own_frame hRl c2) c3 ?_ ?_ (fun q hq => ?_)
          · rw [c2 2 (by decide)]
            show m1 2 = m 2
            rw [b4 2 (by decide) (by decide) (by decide) (by decide), q7]
          · rw [c2 3 (by decide)]
            show m1 3 = m 3
            rw [b4 3 (by decide) (by decide) (by decide) (by decide), q8]
          · rw [c2 0 (by decide)]
            show m1 0 q = m 0 q
            rw [b5 q hq, q9 q hq]
        · simp only [Bool.true_eq_false, if_false, if_true]
          refine ⟨m1, rfl, b2, b3, ?_, ?_, fun q hq => ?_, fun e => ?_⟩
          · rw [b4 2 (by decide) (by decide) (by decide) (by decide), q7]
          · rw [b4 3 (by decide) (by decide) (by decide) (by decide), q8]
          · rw [b5 q hq, q9 q hq]
          · have e' : x = -1 := e
            omega
      · rw [pd_f hO, if_pos rfl]
        have heq : cfI h n ((wls h (h 0 9)).filter (fun y => decide (x ≤ y))) r = cfI h n ((wls h (h 0 9)).filter (fun y => decide (x + 1 ≤ y))) r := by
          rw [filt_step hws]
          by_cases hm : x ∈ wls h (h 0 9)
          · rw [if_pos hm]
            by_cases hend : h 0 9 < x + n
            · rw [cfI_far _ r (fun k hk => ?_), cfI_far _ r (fun k hk => ?_)]
              · have := (List.mem_filter.mp hk).2
                simp at this
                omega
              · rcases List.mem_cons.mp hk with rfl | hk
                · exact hend
                · have := (List.mem_filter.mp hk).2
                  simp at this
                  omega
            · have hi : iop h x n = false := by
                cases hq : iop h x n with
                | false => rfl
                | true => exact absurd ⟨hm, by omega, hq⟩ hO
              conv => lhs; unfold cfI
              rw [if_neg hend, hi, if_neg (by simp)]
          · rw [if_neg hm]
        rw [heq]
        exact ih f' (x + 1) s r (by omega) (by omega) (by omega) (by omega) q5 q6 q7 q8 q9
  have hR0 := own_frame hR o2
  obtain ⟨m', a1, a2, a3, a4, a5, a6, a7⟩ := loop (h 0 9).toNat xfu 0 m0 r (by omega) (by have := xfu_ge (n := 1000) (by decide); omega) (by omega) (by omega) hR0 o3 (o2 2 (by decide)) (o2 3 (by decide)) (fun q _ => by rw [o2 0 (by decide)])
  have hall : (wls h (h 0 9)).filter (fun y => decide ((0 : Int) ≤ y)) = wls h (h 0 9) := by
    rw [List.filter_eq_self]
    intro y hy
    have := ((hwm y).mp hy).1
    simpa using this
  rw [hall] at a1 a2 a3 a7
  rw [cfF_e]
  refine ⟨m', ?_, a2, a3, a4, a5, a6, a7⟩
  rw [ov_X8_clearsFirst_e]
  simp only [md_X8_clearsFirst_0, mg_X8_clearsFirst_0, o1, oqV_t, oqO_V, if_true]
  exact a1
