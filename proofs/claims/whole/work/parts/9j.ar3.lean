theorem sm_front (f : Nat → Int) : ∀ n : Nat, sm f (n + 1) = f 0 + sm (fun i => f (i + 1)) n
  | 0 => by show 0 + f 0 = f 0 + 0; omega
  | n + 1 => by
    show sm f (n + 1) + f (n + 1) = f 0 + (sm (fun i => f (i + 1)) n + f (n + 1))
    rw [sm_front f n]
    omega
def wat (w : List Nat) (i : Nat) : Nat := w[i]?.getD 0
theorem wat_lt {w : List Nat} {G i : Nat} (hw : ∀ a ∈ w, a < G) (hi : i < w.length) : wat w i < G := by
  unfold wat
  rw [List.getElem?_eq_getElem hi]
  exact hw _ (List.getElem_mem hi)
theorem ldw_sm {l : Nat → Int} {g : Nat} : ∀ (w : List Nat) (k : Nat), ldw l k w g = sm (fun i => if wat w i = g then l (k + i) else 0) w.length
  | [], k => rfl
  | a :: w, k => by
    show (if a = g then l k else 0) + ldw l (k + 1) w g = sm _ (w.length + 1)
    rw [ldw_sm w (k + 1), sm_front]
    have e1 : (fun i => if wat (a :: w) (i + 1) = g then l (k + (i + 1)) else 0) = fun i => if wat w i = g then l (k + 1 + i) else 0 := funext fun i => by
      have : wat (a :: w) (i + 1) = wat w i := rfl
      rw [this, show k + (i + 1) = k + 1 + i by omega]
    rw [e1]
    rfl
theorem mvw_sm {o : Nat → Int} : ∀ (w : List Nat) (k : Nat), mvw o k w = sm (fun i => if (wat w i : Int) = o (k + i) then 0 else 1) w.length
  | [], k => rfl
  | a :: w, k => by
    show (if (a : Int) = o k then (0 : Int) else 1) + mvw o (k + 1) w = sm _ (w.length + 1)
    rw [mvw_sm w (k + 1), sm_front]
    have e1 : (fun i => if (wat (a :: w) (i + 1) : Int) = o (k + (i + 1)) then (0 : Int) else 1) = fun i => if (wat w i : Int) = o (k + 1 + i) then (0 : Int) else 1 := funext fun i => by
      have : wat (a :: w) (i + 1) = wat w i := rfl
      rw [this, show k + (i + 1) = k + 1 + i by omega]
    rw [e1]
    rfl
def lop (l : Nat → Int) (w : List Nat) (g i : Nat) : Int := sm (fun j => if wat w j = g then l j else 0) i
theorem lop_succ (l : Nat → Int) (w : List Nat) (g i : Nat) : lop l w g (i + 1) = lop l w g i + if wat w i = g then l i else 0 := rfl
theorem lop_all (l : Nat → Int) (w : List Nat) (g : Nat) : lop l w g w.length = ldw l 0 w g := by
  rw [ldw_sm]
  unfold lop
  exact sm_cong (fun i _ => by rw [Nat.zero_add])
theorem lop_bd {l : Nat → Int} {w : List Nat} {g K : Nat} (hl : ∀ j, j < K → 1 ≤ l j ∧ l j ≤ 61) : ∀ i, i ≤ K → 0 ≤ lop l w g i ∧ lop l w g i ≤ 61 * (i : Int)
  | 0, _ => ⟨Int.le_refl _, Int.le_refl _⟩
  | i + 1, hi => by
    have := lop_bd (w := w) (g := g) hl i (by omega)
    have h2 := hl i (by omega)
    rw [lop_succ]
    push_cast
    split <;> omega
/-- what the gaps and the looses are, for the ways -/
def AC (m : Ob) (G K : Nat) : Prop := m 0 8 = (G : Int) ∧ m 0 11 = (K : Int) ∧ K ≤ 8 ∧ G ≤ 12 ∧ (∀ g, g < G → 0 ≤ m 6 g ∧ m 6 g ≤ 200) ∧ ∀ i, i < K → (∃ b : Nat, b < 8 ∧ m 7 i = (b : Int)) ∧ (1 ≤ lenM m (m 7 i) ∧ lenM m (m 7 i) ≤ 61) ∧ 0 ≤ m 8 i ∧ m 8 i < 100
theorem AC.cong {m m' : Ob} {G K : Nat} (h : AC m G K) (e0 : m' 0 8 = m 0 8) (e11 : m' 0 11 = m 0 11) (e1 : m' 1 = m 1) (e6 : m' 6 = m 6) (e7 : m' 7 = m 7) (e8 : m' 8 = m 8) : AC m' G K := by
  obtain ⟨h1, h2, h3, h4, h5, h6⟩ := h
  refine ⟨by rw [e0]; exact h1, by rw [e11]; exact h2, h3, h4, by rw [e6]; exact h5, fun i hi => ?_⟩
  have : lenM m' (m' 7 i) = lenM m (m 7 i) := by unfold lenM; rw [e1, e7]
  rw [this, e7, e8]
  exact h6 i hi
theorem r_othersBy {m : Ob} {G K : Nat} (hA : AC m G K) {n : Int} (hn1 : 1 ≤ n) (hn2 : n ≤ 200) {w : List Nat} (hw1 : w.length = K) (hw2 : ∀ a ∈ w, a < G) (hw3 : ∀ i, i < K → m 13 i = (wat w i : Int)) :
    ∃ v m', ov_X8_othersBy n m = RI v [m'] ∧ (∀ j, j ≠ 15 → m' j = m j) ∧ ((Val G n (fun i => lenM m (m 7 i)) (m 6) K w ∧ v = mvw (m 8) 0 w) ∨ (¬ Val G n (fun i => lenM m (m 7 i)) (m 6) K w ∧ v = -1)) := by
  obtain ⟨a1, a2, a3, a4, a5, a6⟩ := hA
  have hf := xfu_ge (n := 5000) (by decide)
  have hxn : xw n = n := xw_id (by omega) (by omega)
  have hl : ∀ j, j < K → 1 ≤ lenM m (m 7 j) ∧ lenM m (m 7 j) ≤ 61 := fun j hj => (a6 j hj).2.1
  generalize hld : (fun i => lenM m (m 7 i)) = l at *
  have hli : ∀ i, lenM m (m 7 i) = l i := fun i => by rw [← hld]
  have hl : ∀ j, j < K → 1 ≤ l j ∧ l j ≤ 61 := fun j hj => by rw [← hli j]; exact hl j hj
  rw [ov_X8_othersBy_e]
  have e1 : md_X8_othersBy_0 n xfu m = tlp (lb_X8_othersBy_2 n xfu) xfu (((0 : Nat) : Int), m) := rfl
  rw [e1]
  obtain ⟨m1, ⟨q1, q2⟩, q3⟩ := loop_ex (B := lb_X8_othersBy_2 n xfu) G (fun (q : Ob) => md_X8_othersBy_27 n xfu (0, ((0 : Nat) : Int), q)) (fun g (q : Ob) => ((g : Int), q)) (fun g (q : Ob) => (∀ j, j ≠ 15 → q j = m j) ∧ ∀ g', g' < g → q 15 g' = 0) (fun g q hg hI => by
      obtain ⟨k1, k2⟩ := hI
      have e8 : q 0 8 = (G : Int) := by rw [k1 0 (by decide)]; exact a1
      refine ⟨xset q 15 g 0, fun k => ?_, fun j hj => ?_, fun g' hg' => ?_⟩
      · simp only [lb_X8_othersBy_2, mg_X8_othersBy_2, e8, xw_nat (show g < 2147483648 by omega), xw_nat (show G < 2147483648 by omega), xin_nat (show g < 16 by omega) (show 16 ≤ 2147483648 by omega), toNat_nat, if_true]
        rw [if_neg (show ¬ (g : Int) ≥ (G : Int) by omega)]
        rfl
      · funext z
        rw [xset_part _ _ _ _ hj, k1 j hj]
      · by_cases hgg : g' = g
        · subst hgg; rw [xset_same]
        · rw [xset_idx _ _ _ _ hgg]; exact k2 g' (by omega)) (fun k q hI => by
      have e8 : q 0 8 = (G : Int) := by rw [hI.1 0 (by decide)]; exact a1
      simp only [lb_X8_othersBy_2, mg_X8_othersBy_2, e8]
      rw [if_pos (show xw (G : Int) ≥ xw (G : Int) by omega)]
      rfl) G 0 xfu m (by omega) (by omega) ⟨fun _ _ => rfl, fun g' hg' => by omega⟩
  rw [q3]
  obtain ⟨⟨ot, m2⟩, ⟨u1, u2, u3⟩, u4⟩ := loop_ex (B := lb_X8_othersBy_27 n xfu) K (fun (q : Int × Ob) => md_X8_othersBy_93 n xfu (q.1, 0, ((0 : Nat) : Int), q.2)) (fun i (q : Int × Ob) => (q.1, (i : Int), q.2)) (fun i (q : Int × Ob) => (∀ j, j ≠ 15 → q.2 j = m j) ∧ q.1 = sm (fun i => if (wat w i : Int) = m 8 i then 0 else 1) i ∧ ∀ g, g < G → q.2 15 g = lop l w g i) (fun i q hi hI => by
      obtain ⟨ot, mm⟩ := q
      obtain ⟨k1, k2, k3⟩ := hI
      dsimp only at k1 k2 k3
      obtain ⟨⟨b, b1, b2⟩, b3, b4, b5⟩ := a6 i hi
      have e11 : mm 0 11 = (K : Int) := by rw [k1 0 (by decide)]; exact a2
      have e13 : mm 13 i = (wat w i : Int) := by rw [k1 13 (by decide)]; exact hw3 i hi
      have e7 : mm 7 i = (b : Int) := by rw [k1 7 (by decide)]; exact b2
      have e8 : mm 8 i = m 8 i := by rw [k1 8 (by decide)]
      have eM : lenM mm (b : Int) = l i := by rw [← hli i, b2]; unfold lenM; rw [k1 1 (by decide)]
      have hwi : wat w i < G := wat_lt hw2 (by omega)
      have s13 : ∀ (p : Nat) (x : Int), xset mm 15 p x 13 i = (wat w i : Int) := fun p x => e13
      have s8 : ∀ (p : Nat) (x : Int), xset mm 15 p x 8 i = m 8 i := fun p x => e8
      have hob : sm (fun i => if (wat w i : Int) = m 8 i then (0 : Int) else 1) (i + 1) = ot + (if (wat w i : Int) = m 8 i then 0 else 1) := by rw [k2]; rfl
      refine ⟨(ot + (if (wat w i : Int) = m 8 i then 0 else 1), xset mm 15 (wat w i) (mm 15 (wat w i) + l i)), fun k => ?_, fun j hj => ?_, hob.symm, fun g hg => ?_⟩
      · simp only [lb_X8_othersBy_27, mg_X8_othersBy_27, md_X8_othersBy_80, mg_X8_othersBy_80, xw_nat (show i < 2147483648 by omega), e11, xw_nat (show K < 2147483648 by omega), xin_nat (show i < 8 by omega) (show 8 ≤ 2147483648 by omega), toNat_nat, e13, xin_nat (show wat w i < 16 by omega) (show 16 ≤ 2147483648 by omega), xw_nat (show wat w i < 2147483648 by omega), e7, hdl_nat b1, if_true, eM, s13, s8, xw_id (x := m 8 i) (by omega) (by omega)]
        rw [if_neg (show ¬ (i : Int) ≥ (K : Int) by omega)]
        split <;> rfl
      · funext z
        show xset mm 15 _ _ j z = _
        rw [xset_part _ _ _ _ hj, k1 j hj]
      · show xset mm 15 (wat w i) _ 15 g = _
        rw [lop_succ]
        by_cases hgw : g = wat w i
        · rw [if_pos hgw.symm, hgw, xset_same, k3 _ hwi]
        · rw [if_neg (fun z => hgw z.symm), xset_idx _ _ _ _ hgw, k3 g hg]
          omega) (fun k q hI => by
      have e11 : q.2 0 11 = (K : Int) := by rw [hI.1 0 (by decide)]; exact a2
      simp only [lb_X8_othersBy_27, mg_X8_othersBy_27, e11]
      rw [if_pos (show xw (K : Int) ≥ xw (K : Int) by omega)]
      rfl) K 0 xfu (0, m1) (by omega) (by omega) ⟨q1, rfl, fun g hg => q2 g hg⟩
  dsimp only at u1 u2 u3 u4
  have hst : md_X8_othersBy_27 n xfu (0, ((0 : Nat) : Int), m1) = tlp (lb_X8_othersBy_27 n xfu) xfu (0, ((0 : Nat) : Int), m1) := rfl
  rw [hst, u4]
  have hload : ∀ g, g < G → m2 15 g = ldw l 0 w g := fun g hg => by rw [u3 g hg, ← hw1, lop_all]
  have hlb : ∀ g, g < G → 0 ≤ m2 15 g ∧ m2 15 g ≤ 61 * 8 := fun g hg => by
    have := lop_bd (w := w) (g := g) hl K (Nat.le_refl _)
    rw [u3 g hg]
    omega
  have hot : ot = mvw (m 8) 0 w := by
    rw [u2, mvw_sm, hw1]
    exact sm_cong (fun i _ => by rw [Nat.zero_add])
  have e6 : m2 6 = m 6 := u1 6 (by decide)
  have e8 : m2 0 8 = (G : Int) := by rw [u1 0 (by decide)]; exact a1
  have hx6 : ∀ g, g < G → xw (m 6 g) = m 6 g := fun g hg => by have := a5 g hg; exact xw_id (by omega) (by omega)
  have hx15 : ∀ g, g < G → xw (m2 15 g) = m2 15 g := fun g hg => by have := hlb g hg; exact xw_id (by omega) (by omega)
  have hstep : ∀ (g : Nat) (b : Bool), g < G → m2 15 g ≤ m 6 g → ∀ k, lb_X8_othersBy_93 n xfu k (ot, bz b, (g : Int), m2) = k (ot, bz (b || decide (n ≤ m 6 g - m2 15 g)), ((g + 1 : Nat) : Int), m2) := fun g b hg hle k => by
    have h6 := a5 g hg
    have h15 := hlb g hg
    simp only [lb_X8_othersBy_93, mg_X8_othersBy_93, md_X8_othersBy_144, mg_X8_othersBy_144, md_X8_othersBy_149, mg_X8_othersBy_149, e8, xw_nat (show g < 2147483648 by omega), xw_nat (show G < 2147483648 by omega), xin_nat (show g < 16 by omega) (show 16 ≤ 2147483648 by omega), toNat_nat, if_true, e6, hx6 g hg, hx15 g hg, hxn, bz_0, xw_id (x := m 6 g - m2 15 g) (by omega) (by omega)]
    rw [if_neg (show ¬ (g : Int) ≥ (G : Int) by omega), if_pos hle]
    cases b with
    | true =>
      rw [if_neg (by simp), Bool.true_or]
      rfl
    | false =>
      rw [if_pos rfl, Bool.false_or]
      by_cases hq : m 6 g - m2 15 g < n
      · rw [if_pos hq, decide_eq_false (show ¬ n ≤ m 6 g - m2 15 g by omega)]
        rfl
      · rw [if_neg hq, decide_eq_true (show n ≤ m 6 g - m2 15 g by omega)]
        rfl
  have hst2 : md_X8_othersBy_93 n xfu (ot, 0, ((0 : Nat) : Int), m2) = tlp (lb_X8_othersBy_93 n xfu) xfu (ot, bz false, ((0 : Nat) : Int), m2) := rfl
  rw [hst2]
  by_cases hall : ∀ g, g < G → m2 15 g ≤ m 6 g
  · obtain ⟨b, hb, hr⟩ := loop_ex (B := lb_X8_othersBy_93 n xfu) G (fun (b : Bool) => RI (if b = false then -1 else ot) [m2]) (fun g (b : Bool) => (ot, bz b, (g : Int), m2)) (fun g (b : Bool) => (b = true ↔ ∃ g', g' < g ∧ n ≤ m 6 g' - m2 15 g')) (fun g b hg hI => by
        refine ⟨b || decide (n ≤ m 6 g - m2 15 g), hstep g b hg (hall g hg), ?_⟩
        rw [Bool.or_eq_true, decide_eq_true_eq, hI]
        constructor
        · rintro (⟨g', h1, h2⟩ | h)
          · exact ⟨g', by omega, h2⟩
          · exact ⟨g, by omega, h⟩
        · rintro ⟨g', h1, h2⟩
          by_cases hgg : g' = g
          · subst hgg; exact Or.inr h2
          · exact Or.inl ⟨g', by omega, h2⟩) (fun k b _ => by
        simp only [lb_X8_othersBy_93, mg_X8_othersBy_93, e8, bz_0]
        rw [if_pos (show xw (G : Int) ≥ xw (G : Int) by omega)]
        split <;> rfl) G 0 xfu false (by omega) (by omega) ⟨fun z => (by cases z), fun ⟨g', h1, _⟩ => by omega⟩
    refine ⟨_, m2, hr, u1, ?_⟩
    cases b with
    | true =>
      obtain ⟨g', h1, h2⟩ := hb.mp rfl
      left
      refine ⟨⟨hw1, hw2, fun g hg => by rw [← hload g hg]; exact hall g hg, ⟨g', h1, by rw [← hload g' h1]; exact h2⟩⟩, ?_⟩
      rw [if_neg (by simp)]
      exact hot
    | false =>
      right
      refine ⟨fun z => ?_, by rw [if_pos rfl]⟩
      obtain ⟨-, -, -, g', h1, h2⟩ := z
      have := hb.mpr ⟨g', h1, by rw [hload g' h1]; exact h2⟩
      cases this
  · -- the first gap that is given too much
    have hmin : ∀ N, N ≤ G → (∀ g, g < N → m2 15 g ≤ m 6 g) ∨ ∃ g, g < N ∧ ¬ m2 15 g ≤ m 6 g ∧ ∀ g', g' < g → m2 15 g' ≤ m 6 g' := by
      intro N
      induction N with
      | zero => intro _; exact Or.inl (fun g hg => by omega)
      | succ N ih =>
        intro hN
        rcases ih (by omega) with h | ⟨g, h1, h2⟩
        · by_cases hq : m2 15 N ≤ m 6 N
          · left
            intro g hg
            by_cases hgN : g = N
            · rw [hgN]; exact hq
            · exact h g (by omega)
          · exact Or.inr ⟨N, by omega, hq, h⟩
        · exact Or.inr ⟨g, by omega, h2⟩
    obtain ⟨g, g1, g2, g3⟩ := (hmin G (Nat.le_refl _)).resolve_left hall
    obtain ⟨r, hr1, hr2⟩ := loop_fin (B := lb_X8_othersBy_93 n xfu) g (fun r => r = RI (-1) [m2]) (fun g (b : Bool) => (ot, bz b, (g : Int), m2)) (fun _ _ => True) (fun i b hi _ => ⟨_, hstep i b (by omega) (g3 i hi), trivial⟩) (fun b _ => ⟨_, rfl, fun k => by
        have h6 := a5 g g1
        simp only [lb_X8_othersBy_93, mg_X8_othersBy_93, e8, xw_nat (show g < 2147483648 by omega), xw_nat (show G < 2147483648 by omega), xin_nat (show g < 16 by omega) (show 16 ≤ 2147483648 by omega), toNat_nat, if_true, e6, hx6 g g1, hx15 g g1]
        rw [if_neg (show ¬ (g : Int) ≥ (G : Int) by omega), if_neg g2]⟩) g 0 xfu false (by omega) (by omega) trivial
    refine ⟨-1, m2, by rw [hr2, hr1], u1, Or.inr ⟨fun z => ?_, rfl⟩⟩
    obtain ⟨-, -, h2, -⟩ := z
    exact g2 (by rw [hload g g1]; exact h2 g g1)
theorem wat_app1 (p s : List Nat) {i : Nat} (hi : i < p.length) : wat (p ++ s) i = wat p i := by
  unfold wat
  rw [List.getElem?_append_left hi]
/-- the next way -/
theorem r_turnsOn {m : Ob} {G K : Nat} (hG : 1 ≤ G) (hG12 : G ≤ 12) (hK : K ≤ 8) (e8 : m 0 8 = (G : Int)) (e11 : m 0 11 = (K : Int)) {w : List Nat} (hw1 : w.length = K) (hw2 : ∀ a ∈ w, a < G) (hw3 : ∀ i, i < K → m 13 i = (wat w i : Int)) :
    ∃ m', (∀ j, j ≠ 13 → m' j = m j) ∧ ((ov_X8_turnsOn m = RI 1 [m'] ∧ ∃ w' : List Nat, w'.length = K ∧ (∀ a ∈ w', a < G) ∧ Nw G w' = Nw G w + 1 ∧ ∀ i, i < K → m' 13 i = (wat w' i : Int)) ∨ (ov_X8_turnsOn m = RI 0 [m'] ∧ Nw G w + 1 = G ^ K)) := by
  have hf := xfu_ge (n := 5000) (by decide)
  rw [ov_X8_turnsOn_e]
  have e1 : md_X8_turnsOn_0 xfu m = tlp (lb_X8_turnsOn_7 xfu) xfu ((K : Int) - 1, m) := by
    have : md_X8_turnsOn_0 xfu m = tlp (lb_X8_turnsOn_7 xfu) xfu (m 0 11 - 1, m) := rfl
    rw [this, e11]
  rw [e1]
  -- the last r are the last gap, and are set back
  have key : ∀ (c r f : Nat) (q : Ob) (p : List Nat), c + r = K → c < f → p.length = c → w = p ++ List.replicate r (G - 1) → (∀ j, j ≠ 13 → q j = m j) → (∀ i, i < K → q 13 i = (wat (p ++ List.replicate r 0) i : Int)) → ∃ m', (∀ j, j ≠ 13 → m' j = m j) ∧ ((tlp (lb_X8_turnsOn_7 xfu) f ((c : Int) - 1, q) = RI 1 [m'] ∧ ∃ w' : List Nat, w'.length = K ∧ (∀ a ∈ w', a < G) ∧ Nw G w' = Nw G w + 1 ∧ ∀ i, i < K → m' 13 i = (wat w' i : Int)) ∨ (tlp (lb_X8_turnsOn_7 xfu) f ((c : Int) - 1, q) = RI 0 [m'] ∧ Nw G w + 1 = G ^ K)) := by
    intro c
    induction c with
    | zero =>
      intro r f q p hcr hf hp hw hq hq13
      obtain ⟨f, rfl⟩ : ∃ k, f = k + 1 := ⟨f - 1, by omega⟩
      have hpn : p = [] := List.length_eq_zero_iff.mp hp
      subst hpn
      refine ⟨q, hq, Or.inr ⟨?_, ?_⟩⟩
      · rw [tlp_succ]
        simp only [lb_X8_turnsOn_7, mg_X8_turnsOn_7, md_X8_turnsOn_39, mg_X8_turnsOn_39]
        rw [if_pos (show xw (((0 : Nat) : Int) - 1) < 0 by decide), if_neg (show ¬ xw (((0 : Nat) : Int) - 1) ≥ 0 by decide)]
      · rw [hw, List.nil_append, Nw_top hG, show r = K by omega]
    | succ c ih =>
      intro r f q p hcr hf hp hw hq hq13
      obtain ⟨f, rfl⟩ : ∃ k, f = k + 1 := ⟨f - 1, by omega⟩
      have hxc : xw (((c + 1 : Nat) : Int) - 1) = (c : Int) := by rw [show ((c + 1 : Nat) : Int) - 1 = (c : Int) by omega]; exact xw_nat (by omega)
      have hxi : xin (((c + 1 : Nat) : Int) - 1) 8 = true := xin_of (by rw [hxc]; omega) (by rw [hxc]; omega)
      obtain ⟨p0, x, hpx⟩ : ∃ p0 x, p = p0 ++ [x] := by
        refine ⟨p.dropLast, p.getLast (fun z => by rw [z] at hp; simp at hp), ?_⟩
        rw [List.dropLast_concat_getLast]
      have hp0 : p0.length = c := by rw [hpx] at hp; simpa using hp
      have hxG : x < G := hw2 x (by rw [hw, hpx]; simp)
      have hq13c : q 13 c = (x : Int) := by
        rw [hq13 c (by omega)]
        unfold wat
        rw [hpx, List.append_assoc, List.getElem?_append_right (by omega), hp0, Nat.sub_self]
        rfl
      have e08 : q 0 8 = (G : Int) := by rw [hq 0 (by decide)]; exact e8
      have hxg : xw ((G : Int) - 1) = (G : Int) - 1 := xw_id (by omega) (by omega)
      have hxx : xw (x : Int) = x := xw_nat (by omega)
      rw [tlp_succ]
      by_cases hlast : x = G - 1
      · have := ih (r + 1) f (xset q 13 c 0) p0 (by omega) (by omega) hp0 (by rw [hw, hpx, hlast, List.append_assoc, List.replicate_succ]; rfl) (fun j hj => by funext z; rw [xset_part _ _ _ _ hj, hq j hj]) (fun i hi => by
          by_cases hic : i = c
          · subst hic
            rw [xset_same]
            unfold wat
            rw [List.getElem?_append_right (by omega), hp0, Nat.sub_self, List.replicate_succ]
            rfl
          · rw [xset_idx _ _ _ _ hic, hq13 i hi]
            unfold wat
            rw [hpx]
            by_cases hlt : i < c
            · rw [List.append_assoc, List.getElem?_append_left (by omega), List.getElem?_append_left (by omega)]
            · rw [List.getElem?_append_right (by simp; omega), List.getElem?_append_right (by omega), List.getElem?_replicate, List.getElem?_replicate]
              simp only [List.length_append, List.length_singleton]
              rw [if_pos (by omega), if_pos (by omega)])
        have est : lb_X8_turnsOn_7 xfu (tlp (lb_X8_turnsOn_7 xfu) f) (((c + 1 : Nat) : Int) - 1, q) = tlp (lb_X8_turnsOn_7 xfu) f ((c : Int) - 1, xset q 13 c 0) := by
          simp only [lb_X8_turnsOn_7, mg_X8_turnsOn_7, hxc, hxi, if_true, toNat_nat, hq13c, e08, hxg, hxx]
          rw [if_neg (show ¬ (c : Int) < 0 by omega), if_pos (show (x : Int) = (G : Int) - 1 by omega), show ((c + 1 : Nat) : Int) - 1 + -1 = (c : Int) - 1 by omega]
        rw [est]
        exact this
      · refine ⟨xset q 13 c ((x : Int) + 1), fun j hj => by funext z; rw [xset_part _ _ _ _ hj, hq j hj], Or.inl ⟨?_, p0 ++ [x + 1] ++ List.replicate r 0, ?_, fun a ha => ?_, ?_, fun i hi => ?_⟩⟩
        · simp only [lb_X8_turnsOn_7, mg_X8_turnsOn_7, md_X8_turnsOn_39, mg_X8_turnsOn_39, hxc, hxi, if_true, toNat_nat, hq13c, e08, hxg, hxx]
          rw [if_neg (show ¬ (c : Int) < 0 by omega), if_neg (show ¬ (x : Int) = (G : Int) - 1 by omega), if_pos (show (c : Int) ≥ 0 by omega)]
        · simp; omega
        · simp only [List.mem_append, List.mem_singleton, List.mem_replicate] at ha
          rcases ha with (ha | ha) | ha
          · exact hw2 a (by rw [hw, hpx]; simp [ha])
          · omega
          · omega
        · have ht := Nw_top hG r
          rw [Nw_app (p0 ++ [x + 1]), Nw_zero, Nw_app p0 [x + 1], hw, Nw_app p, hpx, Nw_app p0 [x], List.length_replicate, List.length_replicate]
          have s1 : Nw G [x + 1] = x + 1 := by show (x + 1) * G ^ 0 + 0 = x + 1; rw [Nat.pow_zero]; omega
          have s2 : Nw G [x] = x := by show x * G ^ 0 + 0 = x; rw [Nat.pow_zero]; omega
          rw [s1, s2]
          have s3 : ([x + 1] : List Nat).length = 1 := rfl
          have s4 : ([x] : List Nat).length = 1 := rfl
          rw [s3, s4, Nat.add_zero, Nat.add_assoc, ht, show Nw G p0 * G ^ 1 + (x + 1) = (Nw G p0 * G ^ 1 + x) + 1 by omega, Nat.add_mul, Nat.one_mul]
        · by_cases hic : i = c
          · subst hic
            rw [xset_same]
            unfold wat
            rw [List.append_assoc, List.getElem?_append_right (by omega), hp0, Nat.sub_self]
            show (x : Int) + 1 = ((x + 1 : Nat) : Int)
            omega
          · rw [xset_idx _ _ _ _ hic, hq13 i hi]
            unfold wat
            rw [hpx]
            by_cases hlt : i < c
            · rw [List.append_assoc, List.append_assoc, List.getElem?_append_left (by omega), List.getElem?_append_left (by omega)]
            · rw [List.getElem?_append_right (by simp; omega), List.getElem?_append_right (by simp; omega)]
              simp only [List.length_append, List.length_singleton]
  exact key K 0 xfu m w (by omega) (by omega) hw1 (by simp) (fun _ _ => rfl) (fun i hi => by rw [hw3 i hi]; simp)
