theorem r_arrangesBest {m : Ob} {G K : Nat} (hA : AC m G K) {b : List Nat} (hb1 : b.length = K) (hb2 : ∀ a ∈ b, a < G) (hb3 : ∀ i, i < K → m 14 i = (wat b i : Int)) {B : Nat → Nat} (hB : ∀ i, i < K → m 7 i = (B i : Int) ∧ B i < 8) (hBi : ∀ i j, i < K → j < K → B i = B j → i = j) :
    ∃ mq, (∀ j, j ≠ 1 → j ≠ 15 → mq j = m j) ∧ (∀ i, i < K → mq 1 (13 + B i) = m 5 (wat b i) + lop (fun i => lenM m (m 7 i)) b (wat b i) i) ∧ (∀ k, (∀ i, i < K → k ≠ 13 + B i) → mq 1 k = m 1 k) ∧ (∀ g, g < G → mq 15 g = lop (fun i => lenM m (m 7 i)) b g K) ∧ ov_X8_arrangesBest m = (if oqV (ov_X8_fillsOwners mq) then RV [oqO (ov_X8_fillsOwners mq) 0] else none) := by
  obtain ⟨a1, a2, a3, a4, a5, a6⟩ := hA
  have hf := xfu_ge (n := 5000) (by decide)
  generalize hld : (fun i => lenM m (m 7 i)) = l at *
  have hli : ∀ i, lenM m (m 7 i) = l i := fun i => by rw [← hld]
  rw [ov_X8_arrangesBest_e]
  have e1 : md_X8_arrangesBest_0 xfu m = tlp (lb_X8_arrangesBest_2 xfu) xfu (((0 : Nat) : Int), m) := rfl
  rw [e1]
  obtain ⟨m1, ⟨q1, q2⟩, q3⟩ := loop_ex (B := lb_X8_arrangesBest_2 xfu) G (fun (q : Ob) => md_X8_arrangesBest_25 xfu (((0 : Nat) : Int), q)) (fun g (q : Ob) => ((g : Int), q)) (fun g (q : Ob) => (∀ j, j ≠ 15 → q j = m j) ∧ ∀ g', g' < g → q 15 g' = 0) (fun g q hg hI => by
      obtain ⟨k1, k2⟩ := hI
      have e8 : q 0 8 = (G : Int) := by rw [k1 0 (by decide)]; exact a1
      refine ⟨xset q 15 g 0, fun k => ?_, fun j hj => ?_, fun g' hg' => ?_⟩
      · simp only [lb_X8_arrangesBest_2, mg_X8_arrangesBest_2, e8, xw_nat (show g < 2147483648 by omega), xw_nat (show G < 2147483648 by omega), xin_nat (show g < 16 by omega) (show 16 ≤ 2147483648 by omega), toNat_nat, if_true]
        rw [if_neg (show ¬ (g : Int) ≥ (G : Int) by omega)]
        rfl
      · funext z
        rw [xset_part _ _ _ _ hj, k1 j hj]
      · by_cases hgg : g' = g
        · subst hgg; rw [xset_same]
        · rw [xset_idx _ _ _ _ hgg]; exact k2 g' (by omega)) (fun k q hI => by
      have e8 : q 0 8 = (G : Int) := by rw [hI.1 0 (by decide)]; exact a1
      simp only [lb_X8_arrangesBest_2, mg_X8_arrangesBest_2, e8]
      rw [if_pos (show xw (G : Int) ≥ xw (G : Int) by omega)]
      rfl) G 0 xfu m (by omega) (by omega) ⟨fun _ _ => rfl, fun g' hg' => by omega⟩
  rw [q3]
  obtain ⟨mq, ⟨u1, u2, u3, u4⟩, u5⟩ := loop_ex (B := lb_X8_arrangesBest_25 xfu) K (fun (q : Ob) => (if oqV (ov_X8_fillsOwners q) then RV [oqO (ov_X8_fillsOwners q) 0] else none)) (fun i (q : Ob) => ((i : Int), q)) (fun i (q : Ob) => (∀ j, j ≠ 1 → j ≠ 15 → q j = m j) ∧ (∀ i', i' < i → q 1 (13 + B i') = m 5 (wat b i') + lop l b (wat b i') i') ∧ (∀ k, (∀ i', i' < i → k ≠ 13 + B i') → q 1 k = m 1 k) ∧ ∀ g, g < G → q 15 g = lop l b g i) (fun i q hi hI => by
      obtain ⟨k1, k2, k3, k4⟩ := hI
      obtain ⟨b1, b2⟩ := hB i hi
      have e11 : q 0 11 = (K : Int) := by rw [k1 0 (by decide) (by decide)]; exact a2
      have e14 : q 14 i = (wat b i : Int) := by rw [k1 14 (by decide) (by decide)]; exact hb3 i hi
      have e7 : q 7 i = (B i : Int) := by rw [k1 7 (by decide) (by decide)]; exact b1
      have e5 : q 5 (wat b i) = m 5 (wat b i) := by rw [k1 5 (by decide) (by decide)]
      have hwi : wat b i < G := wat_lt hb2 (by omega)
      have e15 := k4 (wat b i) hwi
      obtain ⟨x1, x2⟩ := ixn (c := 13) 13 rfl (by decide) b2
      have s14 : ∀ (p : Nat) (x : Int), xset q 1 p x 14 i = (wat b i : Int) := fun p x => e14
      have s7 : ∀ (p : Nat) (x : Int), xset q 1 p x 7 i = (B i : Int) := fun p x => e7
      have s15 : ∀ (p : Nat) (x : Int), xset q 1 p x 15 (wat b i) = lop l b (wat b i) i := fun p x => e15
      have sM : ∀ (x : Int), lenM (xset q 1 (13 + B i) x) (B i : Int) = l i := fun x => by
        rw [← hli i, b1, lenM_nat _ b2, lenM_nat _ b2]
        rw [xset_idx _ _ _ _ (show 21 + B i ≠ 13 + B i by omega), k3 (21 + B i) (fun i' hi' => by have := (hB i' (by omega)).2; omega)]
      refine ⟨xset (xset q 1 (13 + B i) (m 5 (wat b i) + lop l b (wat b i) i)) 15 (wat b i) (lop l b (wat b i) i + l i), fun k => ?_, fun j j1 j15 => ?_, fun i' hi' => ?_, fun k hk => ?_, fun g hg => ?_⟩
      · simp only [lb_X8_arrangesBest_25, mg_X8_arrangesBest_25, xw_nat (show i < 2147483648 by omega), e11, xw_nat (show K < 2147483648 by omega), xin_nat (show i < 8 by omega) (show 8 ≤ 2147483648 by omega), toNat_nat, e14, xin_nat (show wat b i < 16 by omega) (show 16 ≤ 2147483648 by omega), xw_nat (show wat b i < 2147483648 by omega), e7, x1, x2, if_true, e5, e15, s14, s7, s15, sM, hdl_nat b2]
        rw [if_neg (show ¬ (i : Int) ≥ (K : Int) by omega)]
        rfl
      · funext z
        rw [xset_part _ _ _ _ j15, xset_part _ _ _ _ j1, k1 j j1 j15]
      · rw [xset_part _ _ _ _ (show 1 ≠ 15 by decide)]
        by_cases hii : i' = i
        · subst hii; rw [xset_same]
        · rw [xset_idx _ _ _ _ (fun z => hii (hBi i' i (by omega) hi (by omega)))]
          exact k2 i' (by omega)
      · rw [xset_part _ _ _ _ (show 1 ≠ 15 by decide), xset_idx _ _ _ _ (hk i (by omega))]
        exact k3 k (fun i' hi' => hk i' (by omega))
      · rw [lop_succ]
        by_cases hgw : g = wat b i
        · rw [if_pos hgw.symm, hgw, xset_same]
        · rw [if_neg (fun z => hgw z.symm), xset_idx _ _ _ _ hgw, xset_part _ _ _ _ (show 15 ≠ 1 by decide), k4 g hg]
          omega) (fun k q hI => by
      have e11 : q 0 11 = (K : Int) := by rw [hI.1 0 (by decide) (by decide)]; exact a2
      simp only [lb_X8_arrangesBest_25, mg_X8_arrangesBest_25, e11]
      rw [if_pos (show xw (K : Int) ≥ xw (K : Int) by omega)]) K 0 xfu m1 (by omega) (by omega) ⟨fun j _ j15 => q1 j j15, fun i' hi' => by omega, fun k _ => by rw [q1 1 (by decide)], fun g hg => q2 g hg⟩
  exact ⟨mq, u1, u2, u3, u4, u5⟩
/-- the movable blocks lie elsewhere -/
theorem Rel_places {T : Int} {h h' : Ob} {q q' : Nat → Int} (hH : HI T h) (hR : Rel h q) (hL : LW h') (e : ∀ j i, j ≠ 1 → h' j i = h j i) (ef : ∀ i : Nat, i < 11 → mov h (i : Int) = false → h' 1 i = h 1 i) (em : ∀ i : Nat, i < 8 → mov h (i : Int) = true → h' 1 i ≠ -1 ∧ q' (13 + i) = h' 1 i) (eq : ∀ k, k < 735 → (∀ i : Nat, i < 8 → mov h (i : Int) = true → k ≠ 13 + i) → q' k = q k) : HI T h' ∧ Rel h' q' := by
  have hL0 := hH.1
  obtain ⟨a1, a2, a3, a4, a5, a6, a7⟩ := hH
  obtain ⟨⟨r0, r1, r2, r3, r4⟩, rh, rp, rc⟩ := id hR
  have e0 : ∀ k, h' 0 k = h 0 k := fun k => e 0 k (by decide)
  have hm8 : ∀ i : Nat, i < 11 → mov h (i : Int) = true → i < 8 := fun i hi hm => by
    have := mov_lt hm
    rw [xw_nat (by omega)] at this
    omega
  have eqs : ∀ k, k < 735 → (k < 13 ∨ 21 ≤ k) → q' k = q k := fun k hk hc => eq k hk (fun i hi _ => by omega)
  refine ⟨⟨hL, fun i hi => ?_, by rw [e0]; exact a3, by rw [e0]; exact a4, by rw [e0]; exact a5, by rw [e0]; exact a6, by rw [e0]; exact a7⟩, ?_, fun i hi => ?_, fun p hp => ?_, fun i hi hne k hk => ?_⟩
  · rw [e0, e0, e 2 i (by decide), e 4 i (by decide), e 5 i (by decide), e 6 i (by decide), e 7 i (by decide)]
    refine ⟨(a2 i hi).1, fun z => ?_⟩
    cases hm : mov h (i : Int) with
    | true => exact absurd z (em i hi hm).1
    | false => exact (a2 i hi).2 (by rw [← ef i (by omega) hm]; exact z)
  · rw [e0, e0, e0, e0, e0, eqs 0 (by decide) (by omega), eqs 1 (by decide) (by omega), eqs 2 (by decide) (by omega), eqs 3 (by decide) (by omega), eqs 4 (by decide) (by omega)]
    exact ⟨r0, r1, r2, r3, r4⟩
  · have hr := rh i hi
    unfold RelH at hr ⊢
    rw [e0, e0, e 2 i (by decide), e 4 i (by decide), e 5 i (by decide), e 6 i (by decide), e 7 i (by decide), eqs (5 + i) (by omega) (by omega), eqs (29 + i) (by omega) (by omega), eqs (21 + i) (by omega) (by omega), eqs (37 + i) (by omega) (by omega), eqs (45 + i) (by omega) (by omega), eqs (53 + i) (by omega) (by omega), eqs (61 + i) (by omega) (by omega)]
    refine ⟨?_, hr.2⟩
    cases hm : mov h (i : Int) with
    | true =>
      have hfl := mov_full hL0 hi hm
      obtain ⟨u1, u2, -⟩ := hR.use hi hfl
      exact Or.inr (Or.inl ⟨u1, (em i hi hm).1, u2, (em i hi hm).2⟩)
    | false =>
      rw [ef i (by omega) hm, eq (13 + i) (by omega) (fun j hj hmj z => by
        have : i = j := by omega
        rw [this, hmj] at hm
        cases hm)]
      exact hr.1
  · have hr := rp p hp
    unfold RelP at hr ⊢
    have hm : mov h ((8 + p : Nat) : Int) = false := by
      cases hq : mov h ((8 + p : Nat) : Int) with
      | false => rfl
      | true => have := hm8 (8 + p) (by omega) hq; omega
    rw [ef (8 + p) (by omega) hm, e 2 (8 + p) (by decide), eqs (69 + p) (by omega) (by omega), eqs (72 + p) (by omega) (by omega)]
    exact hr
  · have hz := hL.2.2.2.1 i hi
    rw [e 2 i (by decide)] at hk hz
    rw [e 3 _ (by decide), eqs _ (by omega) (by omega)]
    refine rc i hi (fun z => ?_) k hk
    cases hm : mov h (i : Int) with
    | true => exact mov_full hL0 (hm8 i hi hm) hm z
    | false => exact hne (by rw [ef i hi hm]; exact z)
/-- the gap in which a place lies -/
theorem rwF_at {h : Ob} (hL : LW h) (r : Ob) {s e : Int} (he1 : h 0 9 ≤ e) (he : e ≤ 200) {p : Int} (h0 : 0 ≤ p) (h1 : p < 200) {g : Nat} (hg : g < (rnl h s e).length) (hp1 : (rnl h s e)[g].1 ≤ p) (hp2 : p < (rnl h s e)[g].1 + (rnl h s e)[g].2) : rwF (rdO r (rnl h s e)) p = (g : Int) := by
  have h8 := hL.1
  have hM := hL.mr (s := s) (e := e) he1 he
  have hs := MR_sorted hM
  have hx : ∀ i (hi : i < (rnl h s e).length), xw (rdO r (rnl h s e) 1 i) = (rnl h s e)[i].1 ∧ xw (rdO r (rnl h s e) 1 i + rdO r (rnl h s e) 2 i) = (rnl h s e)[i].1 + (rnl h s e)[i].2 := fun i hi => by
    obtain ⟨e1, e2⟩ := rdO_at r (List.getElem?_eq_getElem hi)
    have := MR_mem hM _ (List.getElem_mem hi)
    rw [e1, e2]
    exact ⟨xw_id (by omega) (by omega), xw_id (by omega) (by omega)⟩
  have hxp : xw p = p := xw_id (by omega) (by omega)
  unfold rwF
  rw [rdO_cnt, toNat_nat]
  rcases lfind_cases (fun i => decide (xw (rdO r (rnl h s e) 1 i) ≤ xw p) && decide (xw p < xw (rdO r (rnl h s e) 1 i + rdO r (rnl h s e) 2 i))) (rnl h s e).length with ⟨i, i1, i2, -, i4⟩ | ⟨i1, -⟩
  · rw [i4]
    simp only [Bool.and_eq_true, decide_eq_true_eq, (hx i i1).1, (hx i i1).2, hxp] at i2
    have : i = g := by
      rcases Nat.lt_trichotomy i g with z | z | z
      · have := List.pairwise_iff_getElem.mp hs i g i1 hg z
        omega
      · exact z
      · have := List.pairwise_iff_getElem.mp hs g i hg i1 z
        omega
    rw [this]
  · have := i1 g hg
    simp only [(hx g hg).1, (hx g hg).2, hxp] at this
    simp at this
    omega
