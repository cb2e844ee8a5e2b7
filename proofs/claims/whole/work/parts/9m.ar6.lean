theorem bz255 {h : Ob} : ∀ i : Nat, i < 8 → inS (movS h) (i : Int) = (mov h (i : Int) && Nat.testBit 255 i) := fun i hi => by
  rw [movS_in h (by omega), show (255 : Nat) = 2 ^ 8 - 1 from rfl, full_bit hi, Bool.and_true]
theorem r_arranges {T : Int} {h m : Ob} (hH : HI T h) (hR : Rel h (m 1)) (hO : Own h (m 4)) {n : Int} (hn1 : 1 ≤ n) (hn2 : n ≤ 200) (A Gg P : Ob) :
    ∃ m', ov_X8_arranges n m = RI (asF A Gg P h n).1 [m'] ∧ HI T (asF A Gg P h n).2.2 ∧ Rel (asF A Gg P h n).2.2 (m' 1) ∧ ((asF A Gg P h n).1 = -1 ∨ Fre (asF A Gg P h n).2.2 (asF A Gg P h n).1 n) ∧ m' 2 = m 2 ∧ m' 3 = m 3 ∧ (∀ q, q ≠ 8 → q ≠ 11 → m' 0 q = m 0 q) ∧ (∀ i, i < 11 → ((asF A Gg P h n).2.2 1 i = -1 ↔ h 1 i = -1)) ∧ ∀ j i, j ≠ 1 → (asF A Gg P h n).2.2 j i = h j i := by
  have hL := hH.1
  obtain ⟨z1, z2, z3, z4, -⟩ := id hL
  have hf := xfu_ge (n := 5000) (by decide)
  have hxn : xw n = n := xw_id (by omega) (by omega)
  have e0 : m 1 0 = h 0 9 := hR.szq
  obtain ⟨m1, g1, g2, g3, g4, g5⟩ := r_fillsGaps hH hR hO (e := h 0 9) (Int.le_refl _) (by omega)
  have e11 : m1 1 = m 1 := g4 1 (by decide) (by decide) (by decide) (by decide) (by decide)
  have e12 : m1 2 = m 2 := g4 2 (by decide) (by decide) (by decide) (by decide) (by decide)
  have e13 : m1 3 = m 3 := g4 3 (by decide) (by decide) (by decide) (by decide) (by decide)
  have hR1 : Rel h (m1 1) := by rw [e11]; exact hR
  obtain ⟨v, m2, q1, q2, q3, q4, q5⟩ := r_mostLeftH hH hR1 (Int.le_refl (h 0 9)) (by omega) g2 g3 (s := 255) (by decide) (w := movS h) bz255
  have hv := q4 n (by omega)
  have hsk : skB Gg P h n = pd (PkI (n :: its h (movS h)) (glen (rnl h (movS h) (h 0 9))) (fun j => j < (rnl h (movS h) (h 0 9)).length)) := (gi_h hL hL P Gg (movS h) (movS h) hn1 hn2 (Int.le_refl (h 0 9)) (by omega)).1
  have hGc : skG Gg h 0 2 = ((rnl h (movS h) (h 0 9)).length : Int) := rdO_cnt _ _
  have hxG : xw (m1 0 8) = ((rnl h (movS h) (h 0 9)).length : Int) := by
    rw [g2.1]
    have := rnl_len hL (s := movS h) (e := h 0 9) (Int.le_refl _) (by omega)
    exact xw_nat (by omega)
  by_cases hPk : PkI (n :: its h (movS h)) (glen (rnl h (movS h) (h 0 9))) (fun j => j < (rnl h (movS h) (h 0 9)).length)
  · have hGpos : 1 ≤ (rnl h (movS h) (h 0 9)).length := by
      obtain ⟨j, hj, -⟩ := hPk
      omega
    have hGK := rnl_len2 hL (e := h 0 9) (Int.le_refl _) (by omega)
    have hK8 := hL.mvl_len
    have hM := hL.mr (s := movS h) (e := h 0 9) (Int.le_refl _) (by omega)
    generalize hLd : rnl h (movS h) (h 0 9) = L at *
    have e21 : m2 1 = m 1 := by rw [q5 1 (by decide) (by decide) (by decide) (by decide), e11]
    have hR2 : Rel h (m2 1) := by rw [e21]; exact hR
    have e25 : m2 5 = m1 5 := q5 5 (by decide) (by decide) (by decide) (by decide)
    have e26 : m2 6 = m1 6 := q5 6 (by decide) (by decide) (by decide) (by decide)
    have e27 : m2 7 = m1 7 := q5 7 (by decide) (by decide) (by decide) (by decide)
    have e28 : m2 8 = m1 8 := q5 8 (by decide) (by decide) (by decide) (by decide)
    have e20 : m2 0 = m1 0 := q5 0 (by decide) (by decide) (by decide) (by decide)
    -- the k-th of the looses
    have hat : ∀ k, k < (mvl h).length → ∃ i g : Nat, i < 8 ∧ mov h (i : Int) = true ∧ ∃ hk : k < (mvl h).length, h 1 i = (mvl h)[k] ∧ m2 7 k = (i : Int) ∧ lenM m2 (m2 7 k) = h 2 i + 1 ∧ lsO A (skG Gg h) h 1 k = (i : Int) ∧ lsO A (skG Gg h) h 2 k = h 2 i + 1 ∧ m2 8 k = (g : Int) ∧ g < 12 ∧ xw (lsO A (skG Gg h) h 3 k) = (g : Int) := fun k hk => by
      obtain ⟨i, g, i1, i2, i3, i4, i5, hg, i6, i7⟩ := g3.2 k hk
      obtain ⟨i', j1, j2, j3, j4, j5, j6⟩ := hL.lsAt A (skG Gg h) hk
      have hfl := mov_full hL i1 i3
      have : i = i' := hL.inj (by omega) (by omega) (by rw [i2, j2]) hfl
      subst this
      have hz := z4 i (by omega)
      have hGl : g < 12 := by omega
      refine ⟨i, g, i1, i3, hk, i2, by rw [e27]; exact i4, ?_, j4, j5, by rw [e28]; exact i5, hGl, ?_⟩
      · rw [e27, i4, lenM_nat _ i1, (hR2.use i1 hfl).2.2.2]
      · rw [j6]
        have hrw : rwF (skG Gg h) (h 1 i) = (g : Int) := by
          subst hLd
          exact rwF_at hL Gg (Int.le_refl (h 0 9)) (by omega) (by omega) (by omega) hg (by rw [i2]; exact i6) (by rw [i2]; exact i7)
        rw [hrw]
        exact xw_nat (by omega)
    have hAC : AC m2 L.length (mvl h).length := by
      refine ⟨by rw [e20]; exact g2.1, by rw [e20]; exact g3.1, hK8, by omega, fun g hg => ?_, fun k hk => ?_⟩
      · rw [e26, (g2.2 g hg).2]
        have := MR_mem hM _ (List.getElem_mem hg)
        omega
      · obtain ⟨i, g, i1, i2, hk', i3, i4, i5, -, -, i6, i7, -⟩ := hat k hk
        have hz := z4 i (by omega)
        have hfl := mov_full hL i1 i2
        rw [i5, i6]
        exact ⟨⟨i, i1, i4⟩, by omega, by omega, by omega⟩
    have hsz : ∀ g, g < L.length → m2 6 g = skG Gg h 2 g := fun g hg => by
      rw [e26, (g2.2 g hg).2]
      have : skG Gg h 2 g = (L[g]).2 := by
        subst hLd
        exact (rdO_at Gg (List.getElem?_eq_getElem hg)).2
      rw [this]
    have hbg : ∀ g, g < L.length → m2 5 g = skG Gg h 1 g := fun g hg => by
      rw [e25, (g2.2 g hg).1]
      have : skG Gg h 1 g = (L[g]).1 := by
        subst hLd
        exact (rdO_at Gg (List.getElem?_eq_getElem hg)).1
      rw [this]
    have hexR : ∃ w, Val L.length n (fun i => lenM m2 (m2 7 i)) (m2 6) (mvl h).length w := by
      have hp := (lits_its hL hR).cons n
      obtain ⟨w, hw⟩ := Val_ex (G := L.length) (n := n) (by omega) (l := fun i => lenM m2 (m2 7 i)) (sz := glen L) (I := lits (m 1) (Bh h)) (fun i v hv => by
        unfold lits at hv
        rw [List.getElem?_map] at hv
        obtain ⟨x, hx, e⟩ := Option.map_eq_some_iff.mp hv
        obtain ⟨ht, x1, x2, x3⟩ := Bh_at hL hx
        obtain ⟨i', g, i1, i2, hk', i3, i4, i5, -⟩ := hat i ht
        have hfl := mov_full hL x2 x3
        have : x = i' := hL.inj (by omega) (by omega) (by rw [x1, i3]) hfl
        subst this
        show v = lenM m2 (m2 7 i)
        rw [i5, ← e, (hR.use x2 hfl).2.2.2]) (PkI_perm hp.symm hPk)
      have hlen : (lits (m 1) (Bh h)).length = (mvl h).length := by unfold lits; rw [List.length_map, Bh_len]
      rw [hlen] at hw
      exact ⟨w, Val_cong (fun _ _ => rfl) (fun g hg => by rw [glen_at hg, e26, (g2.2 g hg).2]) hw⟩
    obtain ⟨mm, b, w1, w2, w3, w4⟩ := r_ways hAC hGpos hGK hn1 hn2 hexR
    -- the class
    have hGn : (skG Gg h 0 2).toNat = L.length := by rw [hGc, toNat_nat]
    have hlq : ∀ j, j < (mvl h).length → lenM m2 (m2 7 j) = lsO A (skG Gg h) h 2 j := fun j hj => by
      obtain ⟨i, g, -, -, -, -, -, i5, -, i6, -⟩ := hat j hj
      rw [i5, i6]
    have hoq : ∀ j, j < (mvl h).length → m2 8 j = xw (lsO A (skG Gg h) h 3 j) := fun j hj => by
      obtain ⟨i, g, -, -, -, -, -, -, -, -, i6, -, i7⟩ := hat j hj
      rw [i6, i7]
    have hexC : ∃ w, Val (skG Gg h 0 2).toNat n (lsO A (skG Gg h) h 2) (skG Gg h 2) (mvl h).length w := by
      rw [hGn]
      obtain ⟨w, hw⟩ := hexR
      exact ⟨w, Val_cong hlq hsz hw⟩
    obtain ⟨A1, w, c1, c2, c3, c4, c5, c6⟩ := asI_best hL A Gg hn1 hn2 hexC ((mvl h).length + 1) 0 (lsO A (skG Gg h) h) (by omega) (fun _ _ _ _ => rfl) (fun w hw => by have := mvw_bd (fun i => xw (lsO A (skG Gg h) h 3 i)) 0 w; omega)
    have hwb : w = b := by
      rw [hGn] at c5
      exact Bst_uniq c5 (Bst_cong hlq hoq hsz w1)
    subst hwb
    have hasF : asF A Gg P h n = ((layF A1 (skG Gg h) n h).1, A1, (layF A1 (skG Gg h) n h).2) := by
      rw [asF_e, hsk, pd_t hPk, if_neg (by simp)]
      exact c4
    obtain ⟨l1, l2, l3, l4, l5⟩ := lay_LW hL c1 c2 n
    have hA7 : A1 0 7 = ((mvl h).length : Int) := c1 0 7 (by decide) (by decide)
    have hrk := movS_gaps Gg h hL
    have hGb : ∀ g, g < (skG Gg h 0 2).toNat → 0 ≤ skG Gg h 1 g ∧ skG Gg h 1 g ≤ 200 := fun g hg => by
      rw [hGn] at hg
      rw [← hbg g hg, e25, (g2.2 g hg).1]
      have := MR_mem hM _ (List.getElem_mem hg)
      omega
    obtain ⟨-, -, y3⟩ := lay_ok l5 (by rw [hA7]; omega) hrk hGb n h
    have hV := w1.1
    have hwl := hV.1
    have hw4 : ∀ i, i < (mvl h).length → A1 4 i = (wat w i : Int) := fun i hi => by
      refine c6 i (wat w i) ?_
      unfold wat
      rw [List.getElem?_eq_getElem (by omega)]
      rfl
    have hldg : ∀ (g k : Nat), k ≤ (mvl h).length → ldg A1 g k = lop (fun i => lenM m2 (m2 7 i)) w g k := fun g k hk => by
      unfold ldg lop
      refine sm_cong (fun i hi => ?_)
      rw [hw4 i (by omega), c1 2 i (by decide) (by decide), ← hlq i (by omega)]
      by_cases hg : wat w i = g
      · rw [if_pos (by omega), if_pos hg]
      · rw [if_neg (by omega), if_neg hg]
    have hA5 : ∀ g, g < L.length → A1 5 g = m2 6 g - lop (fun i => lenM m2 (m2 7 i)) w g (mvl h).length ∧ 0 ≤ A1 5 g ∧ A1 5 g ≤ 200 := fun g hg => by
      have := c2.1 g (by rw [hGn]; exact hg)
      rw [hA7, toNat_nat, hldg g _ (Nat.le_refl _), ← hsz g hg] at this
      exact this
    -- the blocks are laid
    have hmm1 : mm 1 = m 1 := by rw [w3 1 (by decide) (by decide) (by decide), e21]
    have hACm : AC mm L.length (mvl h).length := hAC.cong (by rw [w3 0 (by decide) (by decide) (by decide)]) (by rw [w3 0 (by decide) (by decide) (by decide)]) (w3 1 (by decide) (by decide) (by decide)) (w3 6 (by decide) (by decide) (by decide)) (w3 7 (by decide) (by decide) (by decide)) (w3 8 (by decide) (by decide) (by decide))
    have hlm : (fun i => lenM mm (mm 7 i)) = fun i => lenM m2 (m2 7 i) := by
      funext i
      unfold lenM
      rw [w3 1 (by decide) (by decide) (by decide), w3 7 (by decide) (by decide) (by decide)]
    obtain ⟨Bf, hBf⟩ : ∃ Bf : Nat → Nat, ∀ k, k < (mvl h).length → m2 7 k = (Bf k : Int) ∧ Bf k < 8 ∧ mov h (Bf k : Int) = true ∧ ∃ hk : k < (mvl h).length, h 1 (Bf k) = (mvl h)[k] := ⟨fun k => (m2 7 k).toNat, fun k hk => by
      obtain ⟨i, g, i1, i2, hk', i3, i4, -⟩ := hat k hk
      dsimp only
      rw [i4, toNat_nat]
      exact ⟨rfl, i1, i2, hk', i3⟩⟩
    have hBinj : ∀ i j, i < (mvl h).length → j < (mvl h).length → Bf i = Bf j → i = j := fun i j hi hj e => by
      obtain ⟨-, -, -, h1, h2⟩ := hBf i hi
      obtain ⟨-, -, -, h3, h4⟩ := hBf j hj
      rw [e, h4] at h2
      exact hL.mvl_inj hi hj h2.symm
    obtain ⟨mq, f1, f2, f3, f4, f5⟩ := r_arrangesBest hACm hwl hV.2.1 w2 (B := Bf) (fun i hi => by rw [w3 7 (by decide) (by decide) (by decide)]; exact ⟨(hBf i hi).1, (hBf i hi).2.1⟩) hBinj
    rw [hlm, w3 5 (by decide) (by decide) (by decide)] at f2
    rw [hlm] at f4
    have hpl : ∀ k, k < (mvl h).length → (layF A1 (skG Gg h) n h).2 1 (Bf k) = m2 5 (wat w k) + lop (fun i => lenM m2 (m2 7 i)) w (wat w k) k := fun k hk => by
      obtain ⟨b1, b2, b3, hk', b4⟩ := hBf k hk
      obtain ⟨k', k1, k2, k3, k4⟩ := l4 (Bf k) (by omega) b3
      rw [hA7, toNat_nat] at k1
      have : k' = k := by
        obtain ⟨i, g, i1, i2, hk2, i3, i4, i5, i6, -⟩ := hat k' k1
        have h7 : A1 1 k' = (i : Int) := by rw [c1 1 k' (by decide) (by decide)]; exact i6
        have hib : i = Bf k := by omega
        refine hBinj k' k k1 hk ?_
        have := (hBf k' k1).1
        omega
      subst this
      rw [k4]
      unfold layP
      have hwk := wat_lt hV.2.1 (show k' < w.length by omega)
      rw [hw4 k' hk, toNat_nat, ← hbg _ hwk, hldg _ k' (by omega)]
    have hnn : ∀ k, k < (mvl h).length → 0 ≤ m2 5 (wat w k) + lop (fun i => lenM m2 (m2 7 i)) w (wat w k) k := fun k hk => by
      have hwk := wat_lt hV.2.1 (show k < w.length by omega)
      have h1 := hGb (wat w k) (by rw [hGn]; exact hwk)
      rw [← hbg _ hwk] at h1
      have h2 := lop_bd (l := fun i => lenM m2 (m2 7 i)) (w := w) (g := wat w k) (K := (mvl h).length) (fun j hj => (hAC.2.2.2.2.2 j hj).2.1) k (by omega)
      omega
    have hidx : ∀ i : Nat, i < 8 → mov h (i : Int) = true → ∃ k, k < (mvl h).length ∧ Bf k = i := fun i hi hm => by
      obtain ⟨k, hk, e⟩ := List.mem_iff_getElem.mp (hL.mvl_of (show i < 11 by omega) hm)
      obtain ⟨b1, b2, b3, hk', b4⟩ := hBf k hk
      exact ⟨k, hk, hL.inj (by omega) (by omega) (by rw [b4, e]) (mov_full hL b2 b3)⟩
    obtain ⟨hH', hR'⟩ := Rel_places (h' := (layF A1 (skG Gg h) n h).2) (q' := mq 1) hH hR l1 l2 l3 (fun i hi hm => by
      obtain ⟨k, hk, rfl⟩ := hidx i hi hm
      have e1 := hpl k hk
      have e2 := hnn k hk
      refine ⟨by omega, ?_⟩
      rw [f2 k hk, e1]) (fun k _ hno => by
      rw [f3 k (fun i hi z => hno (Bf i) (hBf i hi).2.1 (hBf i hi).2.2.1 z), hmm1])
    obtain ⟨m', o1, o2, o3⟩ := fo_e l1 (m := mq) hR'
    -- the first gap with room
    obtain ⟨g, y5, y6, y7, y8⟩ : ∃ g, g < (skG Gg h 0 2).toNat ∧ xw n ≤ xw (A1 5 g) ∧ (∀ g', g' < g → xw (A1 5 g') < xw n) ∧ (layF A1 (skG Gg h) n h).1 = skG Gg h 1 g + ldg A1 g (A1 0 7).toNat := by
      rcases y3 with ⟨y3, -⟩ | y3
      · exfalso
        obtain ⟨g, hg, hle⟩ := (hgF_iff hn1 hn2 (fun g hg => (c2.1 g hg).2)).mp c3
        have := y3 g hg
        have h5 := (c2.1 g hg).2
        rw [hxn, xw_id (x := A1 5 g) (by omega) (by omega)] at this
        omega
      · exact y3
    rw [hGn] at y5
    rw [hA7, toNat_nat, hldg g _ (Nat.le_refl _), ← hbg g y5] at y8
    have hx5 : ∀ g, g < L.length → xw (A1 5 g) = A1 5 g := fun g hg => by have := hA5 g hg; exact xw_id (by omega) (by omega)
    rw [hxn, hx5 g y5] at y6
    have m6 : m' 6 = m2 6 := by rw [o2 6 (by decide), f1 6 (by decide) (by decide), w3 6 (by decide) (by decide) (by decide)]
    have m5 : m' 5 = m2 5 := by rw [o2 5 (by decide), f1 5 (by decide) (by decide), w3 5 (by decide) (by decide) (by decide)]
    have m15 : ∀ g, g < L.length → m' 15 g = lop (fun i => lenM m2 (m2 7 i)) w g (mvl h).length := fun g hg => by rw [o2 15 (by decide)]; exact f4 g hg
    have hL12 : L.length ≤ 12 := by omega
    obtain ⟨r, r1, r2⟩ := loop_fin (B := lb_X8_arranges_130 n xfu) g (fun r => r = RI (layF A1 (skG Gg h) n h).1 [m']) (fun g (_ : Unit) => ((g : Int), m')) (fun _ _ => True) (fun i _ hi _ => ⟨(), fun k => by
        have h5 := hA5 i (by omega)
        have h7 := y7 i hi
        rw [hxn, hx5 i (by omega)] at h7
        simp only [lb_X8_arranges_130, mg_X8_arranges_130, xin_nat (show i < 16 by omega) (show 16 ≤ 2147483648 by omega), if_true, xw_nat (show i < 2147483648 by omega), toNat_nat, m6, m15 i (by omega), ← h5.1, hxn, hx5 i (by omega)]
        rw [if_neg (show ¬ A1 5 i ≥ n by omega)]
        rfl, trivial⟩) (fun _ _ => ⟨_, rfl, fun k => by
        have h5 := hA5 g y5
        simp only [lb_X8_arranges_130, mg_X8_arranges_130, xin_nat (show g < 16 by omega) (show 16 ≤ 2147483648 by omega), if_true, xw_nat (show g < 2147483648 by omega), toNat_nat, m6, m5, m15 g y5, ← h5.1, hxn, hx5 g y5]
        rw [if_pos (show A1 5 g ≥ n by omega), y8]⟩) g 0 xfu () (by omega) (by omega) trivial
    rw [r1] at r2
    rw [hasF]
    refine ⟨m', ?_, hH', by show Rel _ (m' 1); rw [o2 1 (by decide)]; exact hR', Or.inr ?_, ?_, ?_, fun q h8 h11 => ?_, fun i hi => ?_, l2⟩
    · rw [ov_X8_arranges_e]
      simp only [md_X8_arranges_0, mg_X8_arranges_0, e0, g1, oqV_t, oqO_V, if_true, hxG, q1, oqI_t, oqR_I, oqO_I, hxn, xw_id (x := v) (by omega) (by omega)]
      have q1' : ov_X8_mostLeft (255 : Int) m1 = RI v [m2] := q1
      simp only [q1', oqI_t, oqR_I, oqO_I, if_true, xw_id (x := v) (by omega) (by omega)]
      rw [if_neg (show ¬ ((L.length : Nat) : Int) = 0 by omega), if_pos (show v ≥ n from hv.mpr hPk), w4, f5, o1]
      simp only [oqV_t, oqO_V, if_true]
      exact r2
    · -- it is free
      show Fre (layF A1 (skG Gg h) n h).2 (layF A1 (skG Gg h) n h).1 n
      have hgm := MR_mem hM _ (List.getElem_mem y5)
      have hb5 : m2 5 g = (L[g]).1 := by rw [e25]; exact (g2.2 g y5).1
      have hb6 : m2 6 g = (L[g]).2 := by rw [e26]; exact (g2.2 g y5).2
      have h5 := hA5 g y5
      have hlb := lop_bd (l := fun i => lenM m2 (m2 7 i)) (w := w) (g := g) (K := (mvl h).length) (fun j hj => (hAC.2.2.2.2.2 j hj).2.1) (mvl h).length (Nat.le_refl _)
      have h9 : (layF A1 (skG Gg h) n h).2 0 9 = h 0 9 := l2 0 9 (by decide)
      refine Fre_of l1 (by rw [y8]; omega) hn1 (by rw [y8, h9]; omega) (fun c d1 d2 i hi hcv => ?_)
      rw [y8] at d1 d2
      obtain ⟨v1, v2, v3⟩ := hcv
      rw [l2 2 i (by decide)] at v3
      cases hm : mov h (i : Int) with
      | false =>
        rw [l3 i hi hm] at v1 v2 v3
        have := hgm.2.2.2 c (by omega) (by omega) i hi ⟨v1, v2, v3⟩
        rw [movS_in h hi, hm] at this
        cases this
      | true =>
        have h8 : i < 8 := by
          have := mov_lt hm
          rw [xw_nat (by omega)] at this
          omega
        obtain ⟨k, hk, rfl⟩ := hidx i h8 hm
        have e1 := hpl k hk
        have hwk := wat_lt hV.2.1 (show k < w.length by omega)
        have hb5k : m2 5 (wat w k) = (L[wat w k]).1 := by rw [e25]; exact (g2.2 _ hwk).1
        have hb6k : m2 6 (wat w k) = (L[wat w k]).2 := by rw [e26]; exact (g2.2 _ hwk).2
        obtain ⟨i', g', i1, i2, hk2, i3, i4, i5, -⟩ := hat k hk
        have hBi : i' = Bf k := by have := (hBf k hk).1; omega
        subst hBi
        have hlk : (fun i => lenM m2 (m2 7 i)) k = h 2 (Bf k) + 1 := i5
        -- what is given to its gap up to it
        have hmono : ∀ (g k j : Nat), k ≤ j → j ≤ (mvl h).length → lop (fun i => lenM m2 (m2 7 i)) w g k ≤ lop (fun i => lenM m2 (m2 7 i)) w g j := by
          intro g k j hkj hj
          induction j with
          | zero => have : k = 0 := by omega
                    rw [this]; exact Int.le_refl _
          | succ j ih =>
            by_cases e : k = j + 1
            · rw [e]; exact Int.le_refl _
            · have h1 := ih (by omega) (by omega)
              have h2 := (hAC.2.2.2.2.2 j (by omega)).2.1
              have h3 := lop_succ (fun i => lenM m2 (m2 7 i)) w g j
              rw [h3]
              split <;> omega
        have hk1 := hmono (wat w k) (k + 1) (mvl h).length (by omega) (Nat.le_refl _)
        rw [lop_succ, if_pos rfl, i5] at hk1
        have h5k := hA5 _ hwk
        rcases Nat.lt_trichotomy (wat w k) g with z | z | z
        · have := List.pairwise_iff_getElem.mp (MR_sorted hM) _ _ hwk y5 z
          omega
        · rw [z] at hk1 e1
          omega
        · have := List.pairwise_iff_getElem.mp (MR_sorted hM) _ _ y5 hwk z
          have hlb2 := lop_bd (l := fun i => lenM m2 (m2 7 i)) (w := w) (g := wat w k) (K := (mvl h).length) (fun j hj => (hAC.2.2.2.2.2 j hj).2.1) k (by omega)
          omega
    · show m' 2 = m 2
      rw [o2 2 (by decide), f1 2 (by decide) (by decide), w3 2 (by decide) (by decide) (by decide), q5 2 (by decide) (by decide) (by decide) (by decide), e12]
    · show m' 3 = m 3
      rw [o2 3 (by decide), f1 3 (by decide) (by decide), w3 3 (by decide) (by decide) (by decide), q5 3 (by decide) (by decide) (by decide) (by decide), e13]
    · show m' 0 q = m 0 q
      rw [o2 0 (by decide), f1 0 (by decide) (by decide), w3 0 (by decide) (by decide) (by decide), e20, g5 q h8 h11]
    · show (layF A1 (skG Gg h) n h).2 1 i = -1 ↔ h 1 i = -1
      cases hm : mov h (i : Int) with
      | false => rw [l3 i hi hm]
      | true =>
        have h8 : i < 8 := by
          have := mov_lt hm
          rw [xw_nat (by omega)] at this
          omega
        have hfl := mov_full hL h8 hm
        obtain ⟨k, hk, rfl⟩ := hidx i h8 hm
        have e1 := hpl k hk
        have e2 := hnn k hk
        refine ⟨fun z => ?_, fun z => absurd z hfl⟩
        rw [e1] at z
        omega
  · have hasF : asF A Gg P h n = (-1, A, h) := by
      rw [asF_e, hsk]
      have : pd (PkI (n :: its h (movS h)) (glen (rnl h (movS h) (h 0 9))) (fun j => j < (rnl h (movS h) (h 0 9)).length)) = false := by
        cases hq : pd (PkI (n :: its h (movS h)) (glen (rnl h (movS h) (h 0 9))) (fun j => j < (rnl h (movS h) (h 0 9)).length)) with
        | false => rfl
        | true => exact absurd (pd_of hq) hPk
      rw [this, if_pos rfl]
    rw [hasF]
    by_cases hG0 : (((rnl h (movS h) (h 0 9)).length : Nat) : Int) = 0
    · have hov : ov_X8_arranges n m = RI (-1) [m1] := by
        rw [ov_X8_arranges_e]
        simp only [md_X8_arranges_0, mg_X8_arranges_0, e0, g1, oqV_t, oqO_V, if_true, hxG]
        rw [if_pos hG0]
      exact ⟨m1, hov, hH, hR1, Or.inl rfl, e12, e13, g5, fun _ _ => Iff.rfl, fun _ _ _ => rfl⟩
    · have q1' : ov_X8_mostLeft (255 : Int) m1 = RI v [m2] := q1
      have hov : ov_X8_arranges n m = RI (-1) [m2] := by
        rw [ov_X8_arranges_e]
        simp only [md_X8_arranges_0, mg_X8_arranges_0, e0, g1, oqV_t, oqO_V, if_true, hxG]
        rw [if_neg hG0]
        simp only [q1', oqI_t, oqR_I, oqO_I, if_true, xw_id (x := v) (by omega) (by omega), hxn]
        rw [if_neg (show ¬ v ≥ n from fun z => hPk (hv.mp z))]
      exact ⟨m2, hov, hH, by rw [q5 1 (by decide) (by decide) (by decide) (by decide)]; exact hR1, Or.inl rfl, by rw [q5 2 (by decide) (by decide) (by decide) (by decide), e12], by rw [q5 3 (by decide) (by decide) (by decide) (by decide), e13], fun q h8 h11 => by rw [q5 0 (by decide) (by decide) (by decide) (by decide), g5 q h8 h11], fun _ _ => Iff.rfl, fun _ _ _ => rfl⟩
