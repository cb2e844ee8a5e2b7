theorem rnl_len2 {h : Ob} (hL : LW h) {e : Int} (he1 : h 0 9 ≤ e) (he : e ≤ 200) : (rnl h (movS h) e).length + (mvl h).length ≤ 12 := by
  have hmv : (mvl h).length ≤ (List.range 11).countP (fun (i : Nat) => mov h (i : Int)) := by
    have h1 := (Bh_perm hL).length_eq
    rw [Bh_len, ← List.countP_eq_length_filter] at h1
    rw [h1]
    exact List.Sublist.countP_le (List.range_sublist.mpr (by omega))
  have hall := List.length_eq_countP_add_countP (fun (i : Nat) => mov h (i : Int)) (l := List.range 11)
  rw [List.length_range] at hall
  suffices hs : (rnl h (movS h) e).length ≤ (List.range 11).countP (fun (i : Nat) => decide (¬ mov h (i : Int) = true)) + 1 by omega
  rw [rnl_e]
  unfold rnlI
  rw [List.length_reverse]
  have hcn : ∀ k : Int, (List.range 11).countP (fun (i : Nat) => !mov h (i : Int) && (!decide (h 1 i = -1) && decide (h 1 i < k))) ≤ (List.range 11).countP (fun (i : Nat) => decide (¬ mov h (i : Int) = true)) := fun k => List.countP_mono_left (fun i _ hi => by
    simp only [Bool.and_eq_true, Bool.not_eq_true'] at hi
    simp [hi.1])
  have hmono : ∀ k k' : Int, k ≤ k' → (List.range 11).countP (fun (i : Nat) => !mov h (i : Int) && (!decide (h 1 i = -1) && decide (h 1 i < k))) ≤ (List.range 11).countP (fun (i : Nat) => !mov h (i : Int) && (!decide (h 1 i = -1) && decide (h 1 i < k'))) := fun k k' hk => List.countP_mono_left (fun i _ hi => by
    simp only [Bool.and_eq_true, decide_eq_true_eq] at hi ⊢
    exact ⟨hi.1, hi.2.1, by omega⟩)
  have := wls_fold (S := Bool × List (Int × Int)) hL he1 he (rst h (movS h) e) (fun k q => (q.1 = true → q.2 ≠ []) ∧ q.2.length ≤ (List.range 11).countP (fun (i : Nat) => !mov h (i : Int) && (!decide (h 1 i = -1) && decide (h 1 i < k))) + (if q.1 then 1 else 0)) (fun k q hk hke hN hq => ?_) (false, []) ⟨fun z => by simp at z, by simp⟩
  · have h1 := hcn e
    have h2 := this.2
    split at h2 <;> omega
  · obtain ⟨go, Q⟩ := q
    obtain ⟨i1, i2⟩ := hq
    dsimp only at i1 i2
    have hlt : k < nxt h k e := by
      have := hL.nxc hk hke he1 he
      omega
    have hm := hmono k (nxt h k e) (by omega)
    cases hop : (decide (hol h k = -1) || inS (movS h) (hol h k)) with
    | false =>
      simp only [rst, hop, Bool.false_eq_true, if_false]
      refine ⟨fun z => absurd z (by simp), ?_⟩
      simp only [Bool.or_eq_false_iff, decide_eq_false_iff_not] at hop
      have hcl : (List.range 11).countP (fun (i : Nat) => !mov h (i : Int) && (!decide (h 1 i = -1) && decide (h 1 i < k))) + 1 ≤ (List.range 11).countP (fun (i : Nat) => !mov h (i : Int) && (!decide (h 1 i = -1) && decide (h 1 i < nxt h k e))) := by
        rcases hL.holc (k := k) hk (by omega) with ⟨i, g1, g2, g3⟩ | ⟨g1, g3⟩
        · have hnm : mov h (i : Int) = false := by
            have := hop.2
            rw [g3, movS_in h g1] at this
            exact this
          refine countP_lt _ _ (fun x hx => ?_) (List.range 11) i (List.mem_range.mpr g1) ?_ ?_
          · simp only [Bool.and_eq_true, decide_eq_true_eq] at hx ⊢
            exact ⟨hx.1, hx.2.1, by omega⟩
          · simp only [hnm, Bool.not_false, Bool.true_and, Bool.and_eq_true, Bool.not_eq_true', decide_eq_false_iff_not, decide_eq_true_eq]; omega
          · simp only [hnm, Bool.not_false, Bool.true_and, Bool.and_eq_false_iff, decide_eq_false_iff_not]; omega
        · exact absurd g3 hop.1
      have : (if go = true then 1 else 0) ≤ 1 := by split <;> omega
      omega
    | true =>
      simp only [rst, hop, if_true]
      cases go with
      | false =>
        simp only [Bool.false_eq_true, if_false] at i2 ⊢
        exact ⟨fun _ => by simp, by simp only [List.length_cons]; omega⟩
      | true =>
        simp only [if_true] at i2 ⊢
        match Q, i1 rfl with
        | (qb, ql) :: t, _ =>
          simp only [List.length_cons] at i2 ⊢
          exact ⟨fun _ => by simp, by omega⟩
theorem ways_bd {G K : Nat} (h : G + K ≤ 12) (hK : K ≤ 8) : G ^ K ≤ 78125 := by
  have h1 : G ^ K ≤ (12 - K) ^ K := Nat.pow_le_pow_left (by omega) K
  have h2 : ∀ K : Nat, K ≤ 8 → (12 - K) ^ K ≤ 78125 := by decide
  exact Nat.le_trans h1 (h2 K hK)
theorem ldw_cong {l l' : Nat → Int} {g : Nat} : ∀ {w : List Nat} {k : Nat}, (∀ j, k ≤ j → j < k + w.length → l j = l' j) → ldw l k w g = ldw l' k w g
  | [], _, _ => rfl
  | a :: w, k, h => by
    show (if a = g then l k else 0) + ldw l (k + 1) w g = (if a = g then l' k else 0) + ldw l' (k + 1) w g
    rw [ldw_cong (fun j h1 h2 => h j (by omega) (by show j < k + (w.length + 1); omega)), h k (Nat.le_refl _) (by show k < k + (w.length + 1); omega)]
theorem mvw_cong {o o' : Nat → Int} : ∀ {w : List Nat} {k : Nat}, (∀ j, k ≤ j → j < k + w.length → o j = o' j) → mvw o k w = mvw o' k w
  | [], _, _ => rfl
  | a :: w, k, h => by
    show (if (a : Int) = o k then (0 : Int) else 1) + mvw o (k + 1) w = (if (a : Int) = o' k then 0 else 1) + mvw o' (k + 1) w
    rw [mvw_cong (fun j h1 h2 => h j (by omega) (by show j < k + (w.length + 1); omega)), h k (Nat.le_refl _) (by show k < k + (w.length + 1); omega)]
theorem Val_cong {G K : Nat} {n : Int} {l l' sz sz' : Nat → Int} (hl : ∀ j, j < K → l j = l' j) (hs : ∀ g, g < G → sz g = sz' g) {w : List Nat} (h : Val G n l sz K w) : Val G n l' sz' K w := by
  obtain ⟨h1, h2, h3, g, h4, h5⟩ := h
  have e : ∀ g, ldw l 0 w g = ldw l' 0 w g := fun g => ldw_cong (fun j _ hj => hl j (by omega))
  exact ⟨h1, h2, fun g hg => by rw [← e, ← hs g hg]; exact h3 g hg, g, h4, by rw [← e, ← hs g h4]; exact h5⟩
theorem Bst_cong {G K : Nat} {n : Int} {l l' o o' sz sz' : Nat → Int} (hl : ∀ j, j < K → l j = l' j) (ho : ∀ j, j < K → o j = o' j) (hs : ∀ g, g < G → sz g = sz' g) {w : List Nat} (h : Bst G n l o sz K w) : Bst G n l' o' sz' K w := by
  obtain ⟨h1, h2⟩ := h
  refine ⟨Val_cong hl hs h1, fun w' hw' => ?_⟩
  have hw := Val_cong (fun j hj => (hl j hj).symm) (fun g hg => (hs g hg).symm) hw'
  have := h2 w' hw
  rw [mvw_cong (o := o) (o' := o') (w := w) (fun j _ hj => ho j (by have := h1.1; omega)), mvw_cong (o := o) (o' := o') (w := w') (fun j _ hj => ho j (by have := hw.1; omega))] at this
  exact this
theorem wat_zero (K : Nat) {i : Nat} : wat (List.replicate K 0) i = 0 := by
  unfold wat
  rw [List.getElem?_replicate]
  split <;> rfl
/-- all ways are looked through: the best is kept -/
theorem r_ways {m : Ob} {G K : Nat} (hA : AC m G K) (hG : 1 ≤ G) (hGK : G + K ≤ 12) {n : Int} (hn1 : 1 ≤ n) (hn2 : n ≤ 200) (hex : ∃ w, Val G n (fun i => lenM m (m 7 i)) (m 6) K w) :
    ∃ mm b, Bst G n (fun i => lenM m (m 7 i)) (m 8) (m 6) K b ∧ (∀ i, i < K → mm 14 i = (wat b i : Int)) ∧ (∀ j, j ≠ 13 → j ≠ 14 → j ≠ 15 → mm j = m j) ∧ md_X8_arranges_35 n xfu (9, 0, m) = (if oqV (ov_X8_arrangesBest mm) then md_X8_arranges_130 n xfu (0, oqO (ov_X8_arrangesBest mm) 0) else none) := by
  have hA0 := hA
  obtain ⟨a1, a2, a3, a4, a5, a6⟩ := hA
  have hf := xfu_ge (n := 100000) (by decide)
  have hwb := ways_bd hGK a3
  generalize hld : (fun i => lenM m (m 7 i)) = l at *
  -- the first way
  obtain ⟨m1, ⟨q1, q2⟩, q3⟩ := loop_ex (B := lb_X8_arranges_35 n xfu) K (fun (q : Ob) => md_X8_arranges_58 n xfu (9, 1, q)) (fun i (q : Ob) => (9, (i : Int), q)) (fun i (q : Ob) => (∀ j, j ≠ 13 → q j = m j) ∧ ∀ i', i' < i → q 13 i' = 0) (fun i q hi hI => by
      obtain ⟨k1, k2⟩ := hI
      have e11 : q 0 11 = (K : Int) := by rw [k1 0 (by decide)]; exact a2
      refine ⟨xset q 13 i 0, fun k => ?_, fun j hj => ?_, fun i' hi' => ?_⟩
      · simp only [lb_X8_arranges_35, mg_X8_arranges_35, e11, xw_nat (show i < 2147483648 by omega), xw_nat (show K < 2147483648 by omega), xin_nat (show i < 8 by omega) (show 8 ≤ 2147483648 by omega), toNat_nat, if_true]
        rw [if_neg (show ¬ (i : Int) ≥ (K : Int) by omega)]
        rfl
      · funext z
        rw [xset_part _ _ _ _ hj, k1 j hj]
      · by_cases hgg : i' = i
        · subst hgg; rw [xset_same]
        · rw [xset_idx _ _ _ _ hgg]; exact k2 i' (by omega)) (fun k q hI => by
      have e11 : q 0 11 = (K : Int) := by rw [hI.1 0 (by decide)]; exact a2
      simp only [lb_X8_arranges_35, mg_X8_arranges_35, e11]
      rw [if_pos (show xw (K : Int) ≥ xw (K : Int) by omega)]) K 0 xfu m (by omega) (by omega) ⟨fun _ _ => rfl, fun g' hg' => by omega⟩
  have hGpos : 0 < G ^ K := Nat.pow_pos (by omega)
  obtain ⟨⟨few, mm⟩, ⟨u1, -, u2⟩, u3⟩ := loop_ex (B := lb_X8_arranges_58 n xfu) (G ^ K) (fun (q : Int × Ob) => (if oqV (ov_X8_arrangesBest q.2) then md_X8_arranges_130 n xfu (0, oqO (ov_X8_arrangesBest q.2) 0) else none)) (fun t (q : Int × Ob) => (q.1, (if t < G ^ K then 1 else 0), q.2)) (fun t (q : Int × Ob) => (∀ j, j ≠ 13 → j ≠ 14 → j ≠ 15 → q.2 j = m j) ∧ (t < G ^ K → ∃ w : List Nat, w.length = K ∧ (∀ a ∈ w, a < G) ∧ Nw G w = t ∧ ∀ i, i < K → q.2 13 i = (wat w i : Int)) ∧ ((q.1 = 9 ∧ ∀ w, Val G n l (m 6) K w → ¬ Nw G w < t) ∨ ∃ b : List Nat, Val G n l (m 6) K b ∧ Nw G b < t ∧ q.1 = mvw (m 8) 0 b ∧ (∀ i, i < K → q.2 14 i = (wat b i : Int)) ∧ ∀ w', Val G n l (m 6) K w' → Nw G w' < t → mvw (m 8) 0 b < mvw (m 8) 0 w' ∨ (mvw (m 8) 0 b = mvw (m 8) 0 w' ∧ Nw G b ≤ Nw G w'))) (fun t q ht hI => by
      obtain ⟨few, mm⟩ := q
      obtain ⟨k1, k2, k3⟩ := hI
      dsimp only at k1 k2 k3
      obtain ⟨w, w1, w2, w3, w4⟩ := k2 ht
      have hAm : AC mm G K := hA0.cong (by rw [k1 0 (by decide) (by decide) (by decide)]) (by rw [k1 0 (by decide) (by decide) (by decide)]) (k1 1 (by decide) (by decide) (by decide)) (k1 6 (by decide) (by decide) (by decide)) (k1 7 (by decide) (by decide) (by decide)) (k1 8 (by decide) (by decide) (by decide))
      have hlm : (fun i => lenM mm (mm 7 i)) = l := by
        rw [← hld]
        funext i
        unfold lenM
        rw [k1 1 (by decide) (by decide) (by decide), k1 7 (by decide) (by decide) (by decide)]
      obtain ⟨v, m2, v1, v2, v3⟩ := r_othersBy hAm hn1 hn2 w1 w2 w4
      rw [hlm, k1 6 (by decide) (by decide) (by decide), k1 8 (by decide) (by decide) (by decide)] at v3
      have hmb := mvw_bd (m 8) 0 w
      have hvb : -1 ≤ v ∧ v ≤ 8 := by
        rcases v3 with ⟨-, z⟩ | ⟨-, z⟩
        · rw [z]; omega
        · omega
      have hfb : 0 ≤ few ∧ few ≤ 9 := by
        rcases k3 with ⟨z, -⟩ | ⟨b, b1, -, z, -⟩
        · omega
        · have := mvw_bd (m 8) 0 b
          have hb1 := b1.1
          rw [z]; omega
      -- the next way behind either end
      have next : ∀ (few' : Int) (m3 : Ob), (∀ j, j ≠ 14 → j ≠ 15 → m3 j = mm j) → ∃ m4 : Ob, (∀ k, md_X8_arranges_115 n xfu k (few', m3) = k (few', (if t + 1 < G ^ K then 1 else 0), m4)) ∧ (∀ j, j ≠ 13 → m4 j = m3 j) ∧ (t + 1 < G ^ K → ∃ w : List Nat, w.length = K ∧ (∀ a ∈ w, a < G) ∧ Nw G w = t + 1 ∧ ∀ i, i < K → m4 13 i = (wat w i : Int)) := by
        intro few' m3 hm3
        obtain ⟨m4, x1, x2⟩ := r_turnsOn (m := m3) hG a4 a3 (by rw [hm3 0 (by decide) (by decide), k1 0 (by decide) (by decide) (by decide)]; exact a1) (by rw [hm3 0 (by decide) (by decide), k1 0 (by decide) (by decide) (by decide)]; exact a2) w1 w2 (fun i hi => by rw [hm3 13 (by decide) (by decide)]; exact w4 i hi)
        refine ⟨m4, fun k => ?_, x1, fun hlt => ?_⟩
        · rcases x2 with ⟨x3, w', y1, y2, y3, y4⟩ | ⟨x3, x4⟩
          · have := Nw_lt y2
            rw [y1, y3, w3] at this
            simp only [md_X8_arranges_115, mg_X8_arranges_115, x3, oqI_t, oqR_I, oqO_I, if_true]
            rw [if_pos this]
          · rw [w3] at x4
            simp only [md_X8_arranges_115, mg_X8_arranges_115, x3, oqI_t, oqR_I, oqO_I, if_true]
            rw [if_neg (by omega)]
        · rcases x2 with ⟨x3, w', y1, y2, y3, y4⟩ | ⟨x3, x4⟩
          · exact ⟨w', y1, y2, by rw [y3, w3], y4⟩
          · rw [w3] at x4; omega
      have hin : xw (if t < G ^ K then (1 : Int) else 0) ≠ 0 := by rw [if_pos ht]; decide
      have hun : ∀ w', Val G n l (m 6) K w' → Nw G w' = t → w' = w := fun w' hw' e => Nw_inj (by rw [hw'.1, w1]) hw'.2.1 w2 (by rw [e, w3])
      by_cases hbet : 0 ≤ v ∧ v < few
      · obtain ⟨hV, hv⟩ : Val G n l (m 6) K w ∧ v = mvw (m 8) 0 w := by
          rcases v3 with z | ⟨-, z⟩
          · exact z
          · omega
        -- it is kept
        obtain ⟨m3, ⟨c1, c2⟩, c3⟩ := loop_exk (K := Int × Int × Ob → Option Rt) (B := fun k58 => lb_X8_arranges_86 n xfu k58) K (fun k58 (q : Ob) => md_X8_arranges_115 n xfu k58 (v, q)) (fun i (q : Ob) => (v, (i : Int), q)) (fun i (q : Ob) => (∀ j, j ≠ 14 → q j = m2 j) ∧ ∀ i', i' < i → q 14 i' = m2 13 i') (fun i q hi hI => by
            obtain ⟨z1, z2⟩ := hI
            have e11 : q 0 11 = (K : Int) := by rw [z1 0 (by decide), v2 0 (by decide)]; exact hAm.2.1
            refine ⟨xset q 14 i (q 13 i), fun k58 k => ?_, fun j hj => ?_, fun i' hi' => ?_⟩
            · simp only [lb_X8_arranges_86, mg_X8_arranges_86, e11, xw_nat (show i < 2147483648 by omega), xw_nat (show K < 2147483648 by omega), xin_nat (show i < 8 by omega) (show 8 ≤ 2147483648 by omega), toNat_nat, if_true]
              rw [if_neg (show ¬ (i : Int) ≥ (K : Int) by omega)]
              rfl
            · funext z
              rw [xset_part _ _ _ _ hj, z1 j hj]
            · by_cases hgg : i' = i
              · subst hgg; rw [xset_same, z1 13 (by decide)]
              · rw [xset_idx _ _ _ _ hgg]; exact z2 i' (by omega)) (fun k58 k q hI => by
            have e11 : q 0 11 = (K : Int) := by rw [hI.1 0 (by decide), v2 0 (by decide)]; exact hAm.2.1
            simp only [lb_X8_arranges_86, mg_X8_arranges_86, e11]
            rw [if_pos (show xw (K : Int) ≥ xw (K : Int) by omega)]) K 0 xfu m2 (by omega) (by omega) ⟨fun _ _ => rfl, fun i' hi' => by omega⟩
        obtain ⟨m4, d1, d2, d3⟩ := next v m3 (fun j h14 h15 => by rw [c1 j h14, v2 j h15])
        refine ⟨(v, m4), fun k => ?_, fun j h13 h14 h15 => ?_, d3, Or.inr ⟨w, hV, by omega, hv, fun i hi => ?_, fun w' hw' hlt => ?_⟩⟩
        · have h86 : md_X8_arranges_86 n xfu k (v, 0, m2) = _ := c3 k
          unfold lb_X8_arranges_58 mg_X8_arranges_58
          dsimp only
          rw [if_neg hin]
          simp only [v1, oqI_t, oqR_I, oqO_I, if_true, xw_id (x := v) (by omega) (by omega), xw_id (x := few) (by omega) (by omega)]
          rw [if_neg (show ¬ v < 0 by omega), if_neg (show ¬ v ≥ few by omega), h86, d1]
        · show m4 j = m j
          rw [d2 j h13, c1 j h14, v2 j h15, k1 j h13 h14 h15]
        · show m4 14 i = _
          rw [d2 14 (by decide), c2 i hi, v2 13 (by decide)]
          exact w4 i hi
        · by_cases hwt : Nw G w' = t
          · rw [hun w' hw' hwt]
            exact Or.inr ⟨rfl, Nat.le_refl _⟩
          · left
            rcases k3 with ⟨z1, z2⟩ | ⟨b, b1, b2, b3, b4, b5⟩
            · exact absurd (show Nw G w' < t by omega) (z2 w' hw')
            · have := b5 w' hw' (by omega)
              omega
      · have hkeep : ¬ Val G n l (m 6) K w ∨ (few ≤ mvw (m 8) 0 w) := by
          rcases v3 with ⟨z1, z2⟩ | ⟨z1, -⟩
          · right; omega
          · exact Or.inl z1
        obtain ⟨m4, d1, d2, d3⟩ := next few m2 (fun j _ h15 => v2 j h15)
        refine ⟨(few, m4), fun k => ?_, fun j h13 h14 h15 => ?_, d3, ?_⟩
        · unfold lb_X8_arranges_58 mg_X8_arranges_58
          dsimp only
          rw [if_neg hin]
          simp only [v1, oqI_t, oqR_I, oqO_I, if_true, xw_id (x := v) (by omega) (by omega), xw_id (x := few) (by omega) (by omega)]
          by_cases hneg : v < 0
          · rw [if_pos hneg, d1]
          · rw [if_neg hneg, if_pos (show v ≥ few by omega), d1]
        · show m4 j = m j
          rw [d2 j h13, v2 j h15, k1 j h13 h14 h15]
        · rcases k3 with ⟨z1, z2⟩ | ⟨b, b1, b2, b3, b4, b5⟩
          · refine Or.inl ⟨z1, fun w' hw' hlt => ?_⟩
            by_cases hwt : Nw G w' = t
            · have e := hun w' hw' hwt
              subst e
              rcases hkeep with z | z
              · exact z hw'
              · have := mvw_bd (m 8) 0 w'
                omega
            · exact z2 w' hw' (by omega)
          · refine Or.inr ⟨b, b1, by omega, b3, fun i hi => by show m4 14 i = _; rw [d2 14 (by decide), v2 14 (by decide)]; exact b4 i hi, fun w' hw' hlt => ?_⟩
            by_cases hwt : Nw G w' = t
            · have e := hun w' hw' hwt
              subst e
              rcases hkeep with z | z
              · exact absurd hw' z
              · omega
            · exact b5 w' hw' (by omega)) (fun k q hI => by
      unfold lb_X8_arranges_58 mg_X8_arranges_58
      dsimp only
      rw [if_neg (Nat.lt_irrefl _), if_pos xw0]) (G ^ K) 0 xfu (9, m1) (by omega) (by omega) ⟨fun j h13 _ _ => q1 j h13, fun _ => ⟨List.replicate K 0, by simp, fun a ha => by rw [(List.mem_replicate.mp ha).2]; omega, Nw_zero K, fun i hi => by rw [wat_zero]; exact q2 i hi⟩, Or.inl ⟨rfl, fun w _ => Nat.not_lt_zero _⟩⟩
  dsimp only at u1 u2 u3
  rw [if_pos hGpos] at u3
  rcases u2 with ⟨-, z⟩ | ⟨b, b1, b2, b3, b4, b5⟩
  · exfalso
    obtain ⟨w, hw⟩ := hex
    have := Nw_lt hw.2.1
    rw [hw.1] at this
    exact z w hw this
  · refine ⟨mm, b, ⟨b1, fun w' hw' => b5 w' hw' (by have := Nw_lt hw'.2.1; rw [hw'.1] at this; exact this)⟩, b4, u1, ?_⟩
    have st : md_X8_arranges_35 n xfu (9, 0, m) = tlp (lb_X8_arranges_35 n xfu) xfu (9, ((0 : Nat) : Int), m) := rfl
    rw [st, q3]
    exact u3
