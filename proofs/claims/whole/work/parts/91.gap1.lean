theorem MR_len {P : Int → Prop} {e e' : Int} (hee : e ≤ e') : ∀ {L L' : List (Int × Int)} {k : Int}, k ≤ e → MR P e k L → MR P e' k L' → L.length ≤ L'.length
  | [], _, _, _, _, _ => by simp
  | (b, l) :: t, [], k, hk, h, h' => by
    obtain ⟨a1, a2, a3, a4, a5, a6, a7⟩ := h
    exact absurd (a5 b (Int.le_refl _) (by omega)) (h' b a1 (by omega))
  | (b, l) :: t, (b', l') :: t', k, hk, h, h' => by
    obtain ⟨a1, a2, a3, a4, a5, a6, a7⟩ := h
    obtain ⟨c1, c2, c3, c4, c5, c6, c7⟩ := h'
    have hb : b = b' := by
      by_cases h1 : b < b'
      · exact absurd (a5 b (Int.le_refl _) (by omega)) (c4 b a1 h1)
      · by_cases h2 : b' < b
        · exact absurd (c5 b' (Int.le_refl _) (by omega)) (a4 b' c1 h2)
        · omega
    subst hb
    by_cases hl : l = l'
    · subst hl
      have := MR_len hee a3 a7 c7
      simp only [List.length_cons]
      omega
    · have hlt : l < l' := by
        by_cases h1 : l' < l
        · exfalso
          exact c6 (by omega) (a5 (b + l') (by omega) (by omega))
        · omega
      have hend : b + l = e := by
        by_cases h1 : b + l < e
        · exact absurd (c5 (b + l) (by omega) (by omega)) (a6 h1)
        · omega
      cases t with
      | nil => simp
      | cons q t =>
        obtain ⟨qb, ql⟩ := q
        obtain ⟨d1, d2, d3, -⟩ := a7
        omega
def GL (m : Ob) (L : List (Int × Int)) : Prop := m 0 8 = (L.length : Int) ∧ ∀ g (hg : g < L.length), m 5 g = (L[g]).1 ∧ m 6 g = (L[g]).2
def GLs (h m : Ob) (L : List (Int × Int)) (A : List Int) : Prop := m 0 11 = (A.length : Int) ∧ ∀ t (ht : t < A.length), ∃ i g : Nat, i < 8 ∧ h 1 i = A[t] ∧ mov h (i : Int) = true ∧ m 7 t = (i : Int) ∧ m 8 t = (g : Int) ∧ ∃ hg : g < L.length, (L[g]).1 ≤ A[t] ∧ A[t] < (L[g]).1 + (L[g]).2
/-- the part of the loop behind a gap's begin -/
theorem r_gap88 {h Y : Ob} (hL : LW h) (hR : Rel h (Y 1)) (hO : Own h (Y 4)) {g t : Nat} (hg : g < 16) (hY : Y 0 8 = ((g + 1 : Nat) : Int)) (ht : Y 0 11 = (t : Int)) {k p1 : Int} (h0 : 0 ≤ k) (h1 : k < 200) {b : Int} (hb : (b = 1 ∧ k < h 0 9) ∨ (b = 0 ∧ h 0 9 ≤ k)) (hop : ∀ i, i < 11 → cvd h i k → mov h (i : Int) = true) (ht8 : (∃ i, i < 8 ∧ h 1 i = k) → t < 8) (f : Nat) (kk : Int × Int × Ob → Option Rt) :
    ((∀ i, i < 8 → h 1 i ≠ k) → md_X8_fillsGaps_88 p1 f kk (k, b, Y) = kk (1, k + 1, xset Y 6 g (Y 6 g + 1))) ∧ (∀ i, i < 8 → h 1 i = k → md_X8_fillsGaps_88 p1 f kk (k, b, Y) = kk (1, k + 1, xset (xset (xset (xset Y 6 g (Y 6 g + 1)) 7 t (i : Int)) 8 t (g : Int)) 0 11 ((t : Int) + 1))) := by
  obtain ⟨z1, z2, z3, z4, -⟩ := id hL
  have hx : xw (Y 0 8 - 1) = (g : Int) := by rw [hY, xw_id (by omega) (by omega)]; omega
  have hk : xw k = k := xw_id (by omega) (by omega)
  have hxi : xin (Y 0 8 - 1) 16 = true := xin_of (by rw [hx]; omega) (by rw [hx]; omega)
  have hz4 : xset Y 6 g (Y 6 g + 1) 4 = Y 4 := rfl
  have hz1 : xset Y 6 g (Y 6 g + 1) 1 = Y 1 := rfl
  have hz11 : xset Y 6 g (Y 6 g + 1) 0 11 = (t : Int) := ht
  have hz08 : xset Y 6 g (Y 6 g + 1) 0 8 = ((g + 1 : Nat) : Int) := hY
  generalize hZ : xset Y 6 g (Y 6 g + 1) = Z at hz4 hz1 hz11 hz08
  refine ⟨fun hno => ?_, fun i hi hik => ?_⟩
  · simp only [md_X8_fillsGaps_88, mg_X8_fillsGaps_88, md_X8_fillsGaps_184, mg_X8_fillsGaps_184, hxi, hx, toNat_nat, if_true, hk, hZ, hz4, hz1]
    rcases hb with ⟨hb1, hb2⟩ | ⟨hb1, hb2⟩
    · rw [hb1, if_neg (by decide), xin_of (i := k) (n := 200) (by omega) (by omega), if_pos rfl, hO.xwq (k := k.toNat) (by omega)]
      have ho := hO k.toNat (by omega)
      rw [show ((k.toNat : Nat) : Int) = k by omega] at ho
      by_cases hc : ∃ j, j < 11 ∧ cvd h j k
      · obtain ⟨j, hj, hcv⟩ := hc
        have hmv := hop j hj hcv
        have hj8 : j < 8 := by
          by_cases h8 : j < 8
          · exact h8
          · rw [mov_hi (by omega) hj] at hmv; cases hmv
        have eo : oc j = 1 + (j : Int) := by unfold oc; rw [if_pos hj8]
        obtain ⟨u1, u2, u3, u4⟩ := hR.use hj8 hcv.1
        obtain ⟨x3, x4⟩ := ixn (c := 13) 13 rfl (by decide) hj8
        rw [ho.1 j hj hcv, eo, if_neg (show ¬ 1 + (j : Int) = 0 by omega), show 13 + (1 + (j : Int)) - 1 = 13 + (j : Int) by omega, x3, if_pos rfl, x4, u3, hL.xpl hj, if_neg (hno j hj8)]
        first | done | rfl | simp
      · rw [ho.2 (fun j hj hcv => hc ⟨j, hj, hcv⟩), if_pos rfl]
    · rw [hb1, if_pos (by decide)]
  · have hzi := z4 i (by omega)
    have hcv : cvd h i k := ⟨by omega, by omega, by omega⟩
    have ht' := ht8 ⟨i, hi, hik⟩
    have hxt : xw (t : Int) = t := xw_nat (by omega)
    have eo : oc i = 1 + (i : Int) := by unfold oc; rw [if_pos hi]
    obtain ⟨u1, u2, u3, u4⟩ := hR.use hi hcv.1
    obtain ⟨x3, x4⟩ := ixn (c := 13) 13 rfl (by decide) hi
    have hb1 : b = 1 := by
      rcases hb with ⟨q, -⟩ | ⟨-, q⟩
      · exact q
      · omega
    have ho := (hO k.toNat (by omega)).1 i (by omega) (by rw [show ((k.toNat : Nat) : Int) = k by omega]; exact hcv)
    have hxo : xw (1 + (i : Int)) = 1 + (i : Int) := xw_id (by omega) (by omega)
    have hz7 : xset Z 7 t (i : Int) 0 11 = (t : Int) := hz11
    have hz78 : xset Z 7 t (i : Int) 0 8 = ((g + 1 : Nat) : Int) := hz08
    have hz9 : xset (xset Z 7 t (i : Int)) 8 t (g : Int) 0 11 = (t : Int) := hz11
    have hg1 : ((g + 1 : Nat) : Int) - 1 = (g : Int) := by omega
    simp only [md_X8_fillsGaps_88, mg_X8_fillsGaps_88, md_X8_fillsGaps_184, mg_X8_fillsGaps_184, hxi, hx, toNat_nat, if_true, hk, hZ, hz4, hz1, hz11, hz08, ho, eo, hxo, hxt, xin_nat ht' (show 8 ≤ 2147483648 by omega), xin_of (i := k) (n := 200) (by omega) (by omega), show 13 + (1 + (i : Int)) - 1 = 13 + (i : Int) by omega, show 1 + (i : Int) - 1 = (i : Int) by omega, x3, x4, u3, hL.xpl (show i < 11 by omega), hz7, hz78, hz9, hg1]
    rw [hb1, if_neg (by decide), if_neg (show ¬ 1 + (i : Int) = 0 by omega), if_pos hik]
theorem GL.ext {m : Ob} {L : List (Int × Int)} {x l : Int} (hG : GL m (L ++ [(x, l)])) : GL (xset m 6 L.length (m 6 L.length + 1)) (L ++ [(x, l + 1)]) := by
  obtain ⟨g1, g2⟩ := hG
  refine ⟨by show m 0 8 = _; rw [g1]; simp, fun g hg => ?_⟩
  simp only [List.length_append, List.length_cons, List.length_nil] at hg
  have hgg := g2 g (by simp; omega)
  by_cases hgl : g = L.length
  · subst hgl
    have e5 : (xset m 6 L.length (m 6 L.length + 1)) 5 L.length = m 5 L.length := rfl
    rw [e5, xeq, hgg.1, hgg.2]
    simp
  · have e5 : (xset m 6 L.length (m 6 L.length + 1)) 5 g = m 5 g := rfl
    rw [e5, xne hgl, hgg.1, hgg.2, List.getElem_append_left (by omega), List.getElem_append_left (by omega)]
    exact ⟨rfl, rfl⟩
theorem GL.new {m : Ob} {L : List (Int × Int)} (hG : GL m L) (k : Int) : GL (xset (xset (xset m 5 L.length k) 6 L.length 0) 0 8 ((L.length : Int) + 1)) (L ++ [(k, 0)]) := by
  obtain ⟨g1, g2⟩ := hG
  refine ⟨by rw [xeq]; simp, fun g hg => ?_⟩
  simp only [List.length_append, List.length_cons, List.length_nil] at hg
  have e5 : (xset (xset (xset m 5 L.length k) 6 L.length 0) 0 8 ((L.length : Int) + 1)) 5 g = xset m 5 L.length k 5 g := rfl
  have e6 : (xset (xset (xset m 5 L.length k) 6 L.length 0) 0 8 ((L.length : Int) + 1)) 6 g = xset m 6 L.length 0 6 g := rfl
  rw [e5, e6]
  by_cases hgl : g = L.length
  · subst hgl
    rw [xeq, xeq]
    simp
  · rw [xne hgl, xne hgl, List.getElem_append_left (by omega)]
    exact g2 g (by omega)
theorem GLs.grow {h m m' : Ob} {L L' : List (Int × Int)} {A : List Int} (hS : GLs h m L A) (e11 : m' 0 11 = m 0 11) (e7 : m' 7 = m 7) (e8 : m' 8 = m 8) (hLL : ∀ g (hg : g < L.length), ∃ hg' : g < L'.length, (L'[g]).1 = (L[g]).1 ∧ (L[g]).2 ≤ (L'[g]).2) : GLs h m' L' A := by
  obtain ⟨s1, s2⟩ := hS
  refine ⟨by rw [e11]; exact s1, fun t ht => ?_⟩
  obtain ⟨i, g, a1, a2, a3, a4, a5, hg, a6, a7⟩ := s2 t ht
  obtain ⟨hg', b1, b2⟩ := hLL g hg
  exact ⟨i, g, a1, a2, a3, by rw [e7]; exact a4, by rw [e8]; exact a5, hg', by rw [b1]; exact a6, by rw [b1]; omega⟩
theorem GLs.add {h m : Ob} {L : List (Int × Int)} {A : List Int} (hS : GLs h m L A) {i g : Nat} {k : Int} (hi : i < 8) (hik : h 1 i = k) (hm : mov h (i : Int) = true) (hg : g < L.length) (h1 : (L[g]).1 ≤ k) (h2 : k < (L[g]).1 + (L[g]).2) : GLs h (xset (xset (xset m 7 A.length (i : Int)) 8 A.length (g : Int)) 0 11 ((A.length : Int) + 1)) L (A ++ [k]) := by
  obtain ⟨s1, s2⟩ := hS
  refine ⟨by rw [xeq]; simp, fun t ht => ?_⟩
  simp only [List.length_append, List.length_cons, List.length_nil] at ht
  have e7 : (xset (xset (xset m 7 A.length (i : Int)) 8 A.length (g : Int)) 0 11 ((A.length : Int) + 1)) 7 t = xset m 7 A.length (i : Int) 7 t := rfl
  have e8 : (xset (xset (xset m 7 A.length (i : Int)) 8 A.length (g : Int)) 0 11 ((A.length : Int) + 1)) 8 t = xset m 8 A.length (g : Int) 8 t := rfl
  rw [e7, e8]
  by_cases htl : t = A.length
  · subst htl
    refine ⟨i, g, hi, by simpa using hik, hm, xeq, xeq, hg, ?_, ?_⟩
    · simpa using h1
    · simpa using h2
  · obtain ⟨i', g', a1, a2, a3, a4, a5, hg', a6, a7⟩ := s2 t (by omega)
    rw [xne htl, xne htl]
    refine ⟨i', g', a1, ?_, a3, a4, a5, hg', ?_, ?_⟩
    · rw [List.getElem_append_left (by omega)]; exact a2
    · rw [List.getElem_append_left (by omega)]; exact a6
    · rw [List.getElem_append_left (by omega)]; exact a7
