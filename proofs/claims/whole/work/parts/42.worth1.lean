/-- n cells from at on are of no block -/
def Fre (h : Ob) (at_ n : Int) : Prop := 0 ≤ at_ ∧ at_ + n ≤ h 0 9 ∧ ∀ i, i < 11 → h 1 i ≠ -1 → h 1 i + h 2 i + 1 ≤ at_ ∨ at_ + n ≤ h 1 i
theorem Fre_of {h : Ob} (hL : LW h) {at_ n : Int} (h0 : 0 ≤ at_) (hn : 1 ≤ n) (he : at_ + n ≤ h 0 9) (hc : ∀ c, at_ ≤ c → c < at_ + n → ∀ i, i < 11 → ¬ cvd h i c) : Fre h at_ n := by
  refine ⟨h0, he, fun i hi hp => ?_⟩
  have hz := hL.2.2.2.1 i hi
  by_cases c1 : h 1 i + h 2 i + 1 ≤ at_
  · exact Or.inl c1
  · by_cases c2 : at_ + n ≤ h 1 i
    · exact Or.inr c2
    · exfalso
      by_cases c3 : at_ ≤ h 1 i
      · exact hc (h 1 i) c3 (by omega) i hi ⟨hp, Int.le_refl _, by omega⟩
      · exact hc at_ (Int.le_refl _) (by omega) i hi ⟨hp, by omega, by omega⟩
theorem grR_free {h : Ob} (hL : LW h) {n : Int} (hn : 1 ≤ n) (hn2 : n ≤ 200) : grR h n = -1 ∨ Fre (grO h n) (grR h n) n := by
  obtain ⟨b1, b2, b3⟩ := hL.bgnc
  obtain ⟨z1, z2, z3, -⟩ := id hL
  unfold grR
  rw [xw_id (x := h 0 10) (by omega) (by omega), xw_id (x := bgn h + n) (by omega) (by omega)]
  by_cases hc : h 0 10 < bgn h + n
  · rw [if_pos hc]; exact Or.inl rfl
  · rw [if_neg hc]
    right
    have e9 : bgn h + n ≤ grO h n 0 9 := by
      unfold grO
      rw [xset_same]
      unfold xmax xmin
      rw [xw_id (x := h 0 9) (by omega) (by omega), xw_id (x := h 0 10) (by omega) (by omega), xw_id (x := bgn h + n) (by omega) (by omega)]
      split
      · rw [xw_id (by omega) (by omega)]
        split <;> omega
      · rw [xw_id (by omega) (by omega)]
        split <;> omega
    refine ⟨b1, e9, fun i hi => ?_⟩
    have p : ∀ j k, j ≠ 0 → grO h n j k = h j k := fun j k hj => by unfold grO; exact xset_part _ _ _ _ hj _
    rw [p 1 i (by omega), p 2 i (by omega)]
    intro hp
    exact Or.inl (b3 i hi hp)
