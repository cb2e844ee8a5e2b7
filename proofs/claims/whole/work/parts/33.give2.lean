/-- the cells given to a gap by the first k -/
def ldg (A : Ob) (g : Nat) (k : Nat) : Int := sm (fun i => if A 4 i = (g : Int) then A 2 i else 0) k
/-- the first k are given, and what is left is what is left -/
def Lf (A G : Ob) (k : Nat) : Prop := (∀ g, g < (G 0 2).toNat → A 5 g = G 2 g - ldg A g k ∧ 0 ≤ A 5 g ∧ A 5 g ≤ 200) ∧ ∀ i, i < k → 0 ≤ A 4 i ∧ A 4 i < G 0 2
def AOk (A : Ob) : Prop := 0 ≤ A 0 7 ∧ A 0 7 ≤ 8 ∧ ∀ i, i < (A 0 7).toNat → 1 ≤ A 2 i ∧ A 2 i ≤ 61
theorem AOk.cong {A B : Ob} (h : AOk A) (hB : ∀ j i, j ≠ 4 → j ≠ 5 → B j i = A j i) : AOk B := by
  obtain ⟨h1, h2, h3⟩ := h
  have e := hB 0 7 (by omega) (by omega)
  refine ⟨by omega, by omega, fun i hi => ?_⟩
  rw [hB 2 i (by omega) (by omega)]
  exact h3 i (by rw [← e]; exact hi)
theorem Lf.next {A G : Ob} {k g : Nat} (hA : AOk A) (hk : k < (A 0 7).toNat) (hL : Lf A G k) (hg : g < (G 0 2).toNat) (hr : A 2 k ≤ A 5 g) : Lf (xset (xset A 5 g (A 5 g - A 2 k)) 4 k (g : Int)) G (k + 1) := by
  obtain ⟨h1, h2⟩ := hL
  have hk2 := hA.2.2 k hk
  have p5 : ∀ i, xset (xset A 5 g (A 5 g - A 2 k)) 4 k (g : Int) 5 i = if i = g then A 5 g - A 2 k else A 5 i := fun i => by
    rw [xset_part _ _ _ _ (by omega)]
    by_cases hi : i = g
    · rw [if_pos hi, hi, xset_same]
    · rw [if_neg hi, xset_idx _ _ _ _ hi]
  have p4 : ∀ i, xset (xset A 5 g (A 5 g - A 2 k)) 4 k (g : Int) 4 i = if i = k then (g : Int) else A 4 i := fun i => by
    by_cases hi : i = k
    · rw [if_pos hi, hi, xset_same]
    · rw [if_neg hi, xset_idx _ _ _ _ hi, xset_part _ _ _ _ (by omega)]
  have p2 : ∀ i, xset (xset A 5 g (A 5 g - A 2 k)) 4 k (g : Int) 2 i = A 2 i := fun i => by
    rw [xset_part _ _ _ _ (by omega), xset_part _ _ _ _ (by omega)]
  refine ⟨fun g' hg' => ?_, fun i hi => ?_⟩
  · have hs : ldg (xset (xset A 5 g (A 5 g - A 2 k)) 4 k (g : Int)) g' (k + 1) = ldg A g' k + if g' = g then A 2 k else 0 := by
      unfold ldg
      show sm _ k + _ = _
      rw [sm_cong (g := fun i => if A 4 i = (g' : Int) then A 2 i else 0) (fun i hi => by rw [p4, p2, if_neg (show i ≠ k by omega)])]
      dsimp only
      rw [p4, p2, if_pos rfl]
      by_cases hgg : g' = g
      · rw [if_pos hgg, if_pos (by omega)]
      · rw [if_neg hgg, if_neg (by omega)]
    rw [hs, p5]
    have := h1 g' hg'
    by_cases hgg : g' = g
    · subst hgg
      rw [if_pos rfl, if_pos rfl]
      omega
    · rw [if_neg hgg, if_neg hgg]
      omega
  · rw [p4]
    by_cases hik : i = k
    · rw [if_pos hik]; omega
    · rw [if_neg hik]; exact h2 i (by omega)
theorem Lf.cong {A B G : Ob} {k : Nat} (hL : Lf A G k) (h5 : ∀ g, g < (G 0 2).toNat → B 5 g = A 5 g) (h4 : ∀ i, i < k → B 4 i = A 4 i) (h2 : ∀ i, i < k → B 2 i = A 2 i) : Lf B G k := by
  obtain ⟨a1, a2⟩ := hL
  refine ⟨fun g hg => ?_, fun i hi => by rw [h4 i hi]; exact a2 i hi⟩
  have : ldg B g k = ldg A g k := sm_cong (fun i hi => by rw [h4 i hi, h2 i hi])
  rw [this, h5 g hg]
  exact a1 g hg
/-- a way that is found fits and leaves room; one that isn't leaves all as it was -/
theorem gv_ok (G : Ob) (n : Int) (hG : rk G = true) : ∀ (l k : Nat) (mv : Int) (A : Ob), AOk A → k + l = (A 0 7).toNat + 1 → Lf A G k →
    ((gvI G n l (k : Int) mv A).1 = true → Lf (gvI G n l (k : Int) mv A).2 G (A 0 7).toNat ∧ hgF (gvI G n l (k : Int) mv A).2 G n = true ∧ ∀ i, i < k → (gvI G n l (k : Int) mv A).2 4 i = A 4 i) ∧
    ((gvI G n l (k : Int) mv A).1 = false → ∀ j i, (j ≠ 4 ∨ i < k) → (j ≠ 5 ∨ i < (G 0 2).toNat) → (gvI G n l (k : Int) mv A).2 j i = A j i) := by
  obtain ⟨r1, r2⟩ := rk_iff.mp hG
  intro l
  induction l with
  | zero => intro k mv A _ _ _; exact ⟨fun h => absurd h (by simp [gvI]), fun _ j i _ _ => rfl⟩
  | succ l ih =>
    intro k mv A hA hkl hL
    unfold gvI
    cases hh : hgF A G n
    · exact ⟨fun h => absurd h (by simp), fun _ j i _ _ => rfl⟩
    · simp only [Bool.true_eq_false, if_false]
      by_cases hk : A 0 7 ≤ (k : Int)
      · rw [if_pos hk]
        refine ⟨fun _ => ⟨?_, hh, fun i hi => rfl⟩, fun h => absurd h (by simp)⟩
        have : k = (A 0 7).toNat := by have := hA.1; omega
        rw [← this]; exact hL
      · rw [if_neg hk]
        have hkc : k < (A 0 7).toNat := by omega
        have key : ∀ (t : List Nat) (B : Ob), (∀ g ∈ t, g < (G 0 2).toNat) → (∀ j i, (j ≠ 4 ∨ i < k) → (j ≠ 5 ∨ i < (G 0 2).toNat) → B j i = A j i) →
            ((gvL (k : Int) mv (gvI G n l ((k : Int) + 1)) t B).1 = true → Lf (gvL (k : Int) mv (gvI G n l ((k : Int) + 1)) t B).2 G (A 0 7).toNat ∧ hgF (gvL (k : Int) mv (gvI G n l ((k : Int) + 1)) t B).2 G n = true ∧ ∀ i, i < k → (gvL (k : Int) mv (gvI G n l ((k : Int) + 1)) t B).2 4 i = A 4 i) ∧
            ((gvL (k : Int) mv (gvI G n l ((k : Int) + 1)) t B).1 = false → ∀ j i, (j ≠ 4 ∨ i < k) → (j ≠ 5 ∨ i < (G 0 2).toNat) → (gvL (k : Int) mv (gvI G n l ((k : Int) + 1)) t B).2 j i = A j i) := by
          intro t
          induction t with
          | nil => intro B _ hB; exact ⟨fun h => absurd h (by simp [gvL]), fun _ => hB⟩
          | cons g t iht =>
            intro B ht hB
            have hg := ht g List.mem_cons_self
            have ht' : ∀ g ∈ t, g < (G 0 2).toNat := fun g hg => ht g (List.mem_cons_of_mem _ hg)
            unfold gvL
            rw [toNat_nat]
            generalize (if (g : Int) = xw (B 3 k) then mv else mv - 1) = mt
            have hB7 : B 0 7 = A 0 7 := hB 0 7 (by omega) (by omega)
            have hBA : AOk B := hA.cong (fun j i h4 h5 => hB j i (Or.inl h4) (Or.inl h5))
            have hBL : Lf B G k := hL.cong (fun g hg => hB 5 g (by omega) (Or.inr hg)) (fun i hi => hB 4 i (Or.inr hi) (by omega)) (fun i _ => hB 2 i (by omega) (by omega))
            have hB2 := hBA.2.2 k (by rw [hB7]; exact hkc)
            have hB5 := (hBL.1 g hg).2
            rw [xw_id (x := B 5 g) (by omega) (by omega), xw_id (x := B 2 k) (by omega) (by omega)]
            by_cases c1 : xw mt < 0
            · rw [if_pos c1]
              exact iht B ht' hB
            · rw [if_neg c1]
              by_cases c2 : B 5 g < B 2 k
              · rw [if_pos c2]
                exact iht B ht' hB
              · rw [if_neg c2]
                have hN := Lf.next hBA (by rw [hB7]; exact hkc) hBL hg (by omega)
                generalize hB1 : xset (xset B 5 g (B 5 g - B 2 k)) 4 k (g : Int) = B1 at hN
                have hoff : ∀ j i, j ≠ 4 → j ≠ 5 → B1 j i = B j i := fun j i h4 h5 => by rw [← hB1, xset_part _ _ _ _ h4, xset_part _ _ _ _ h5]
                have h4 : ∀ i, i ≠ k → B1 4 i = B 4 i := fun i hi => by rw [← hB1, xset_idx _ _ _ _ hi, xset_part _ _ _ _ (by omega)]
                have h5 : ∀ i, i ≠ g → B1 5 i = B 5 i := fun i hi => by rw [← hB1, xset_part _ _ _ _ (by omega), xset_idx _ _ _ _ hi]
                have h5g : B1 5 g = B 5 g - B 2 k := by rw [← hB1, xset_part _ _ _ _ (by omega), xset_same]
                have hB17 : B1 0 7 = A 0 7 := by rw [hoff 0 7 (by omega) (by omega)]; exact hB7
                have hB1A : AOk B1 := hBA.cong hoff
                have hI := ih (k + 1) mt B1 hB1A (by rw [hB17]; omega) hN
                rw [show ((k + 1 : Nat) : Int) = (k : Int) + 1 by omega, hB17] at hI
                generalize gvI G n l ((k : Int) + 1) mt B1 = r at hI
                obtain ⟨rb, rO⟩ := r
                dsimp only at hI ⊢
                cases rb
                · rw [if_pos rfl]
                  have hF := hI.2 rfl
                  refine iht _ ht' (fun j i hj hi => ?_)
                  by_cases j5 : j = 5
                  · subst j5
                    by_cases hig : i = g
                    · subst hig
                      rw [xset_same, hF 5 i (by omega) (by omega), h5g, hF 2 k (by omega) (by omega), hoff 2 k (by omega) (by omega), ← hB 5 i hj hi]
                      omega
                    · rw [xset_idx _ _ _ _ hig, hF 5 i (by omega) hi, h5 i hig]
                      exact hB 5 i hj hi
                  · rw [xset_part _ _ _ _ j5, hF j i (by omega) (Or.inl j5)]
                    by_cases j4 : j = 4
                    · subst j4
                      rw [h4 i (by omega)]
                      exact hB 4 i hj hi
                    · rw [hoff j i j4 j5]
                      exact hB j i hj hi
                · rw [if_neg (by simp)]
                  refine ⟨fun _ => ?_, fun h => absurd h (by simp)⟩
                  obtain ⟨s1, s2, s3⟩ := hI.1 rfl
                  refine ⟨s1, s2, fun i hi => ?_⟩
                  show rO 4 i = A 4 i
                  rw [s3 i (by omega), h4 i (by omega)]
                  exact hB 4 i (Or.inr hi) (by omega)
        exact key (List.range (G 0 2).toNat) A (fun g hg => List.mem_range.mp hg) (fun j i _ _ => rfl)
