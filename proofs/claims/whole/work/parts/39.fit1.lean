/-- the leasts of what lies somewhere -/
def Lst (h : Ob) : Prop := ∀ i, i < 8 → h 1 i ≠ -1 → 1 ≤ h 5 i ∧ h 5 i ≤ 60
theorem sqb_in {h : Ob} {m : Int} {b : Nat} (hb : b < 8) (hi : inS (xand (sqS h) m) (b : Int) = true) : mov h (b : Int) = true ∧ xw (h 5 b) < xw (h 2 b) ∧ inS m (b : Int) = true := by
  rw [inS_and _ _ hb, Bool.and_eq_true] at hi
  obtain ⟨h1, h2⟩ := hi
  rw [sqS_e] at h1
  unfold sqSI at h1
  rw [set_in (fun (i : Nat) => mov h (i : Int) && decide (xw (h 5 i) < xw (h 2 i))) b hb, Bool.and_eq_true] at h1
  exact ⟨h1.1, of_decide_eq_true h1.2, h2⟩
theorem pub_in {h : Ob} {m : Int} {b : Nat} (hb : b < 8) (hi : inS (xand (goS h) m) (b : Int) = true) : mov h (b : Int) = true ∧ inS (h 0 8) (b : Int) = true ∧ inS m (b : Int) = true := by
  rw [inS_and _ _ hb, Bool.and_eq_true] at hi
  obtain ⟨h1, h2⟩ := hi
  unfold goS at h1
  rw [inS_and _ _ hb, Bool.and_eq_true, movS_in h (by omega)] at h1
  exact ⟨h1.1, h1.2, h2⟩
theorem LW.sq {h : Ob} (hL : LW h) (hS : Lst h) (m : Int) : LW (sqH h m) ∧ Lst (sqH h m) := by
  unfold sqH
  split
  · exact ⟨hL, hS⟩
  · rename_i hne
    rcases lwo_cases h (xand (sqS h) m) with e | ⟨b, b1, e, b2⟩
    · exact absurd e hne
    · have e' : sqb h m = (b : Int) := e
      rw [e', toNat_nat]
      obtain ⟨m1, m2, -⟩ := sqb_in b1 b2
      have hp := ((mov_iff b1).mp m1).1
      rw [hL.xpl (by omega)] at hp
      have hs := hS b b1 hp
      obtain ⟨z1, z2, z3, z4, z5, z6⟩ := hL
      have hb4 := z4 b (by omega)
      rw [xw_id (x := h 5 b) (by omega) (by omega), xw_id (x := h 2 b) (by omega) (by omega)] at m2
      have p : ∀ j k, j ≠ 2 → xset h 2 b (h 5 b) j k = h j k := fun j k hj => xset_part _ _ _ _ hj _
      have p2 : ∀ i, xset h 2 b (h 5 b) 2 i = if i = b then h 5 b else h 2 i := fun i => by
        by_cases hi : i = b
        · rw [if_pos hi, hi, xset_same]
        · rw [if_neg hi, xset_idx _ _ _ _ hi]
      refine ⟨⟨by rw [p 0 9 (by omega)]; exact z1, by rw [p 0 9 (by omega), p 0 10 (by omega)]; exact z2, by rw [p 0 10 (by omega)]; exact z3, fun i hi => ?_, fun i j hi hj hij => ?_, fun i hi => by rw [p 4 i (by omega)]; exact z6 i hi⟩, fun i hi => by rw [p 1 i (by omega), p 5 i (by omega)]; exact hS i hi⟩
      · rw [p 1 i (by omega), p 0 9 (by omega), p2 i]
        have := z4 i hi
        by_cases hib : i = b
        · subst hib; rw [if_pos rfl]; omega
        · rw [if_neg hib]; exact this
      · rw [p 1 i (by omega), p 1 j (by omega), p2 i, p2 j]
        intro hpi hpj
        have := z5 i j hi hj hij hpi hpj
        by_cases hib : i = b
        · subst hib
          rw [if_pos rfl, if_neg (Ne.symm hij)]
          omega
        · rw [if_neg hib]
          by_cases hjb : j = b
          · subst hjb; rw [if_pos rfl]; omega
          · rw [if_neg hjb]; exact this
theorem LW.pu {h : Ob} (hL : LW h) (hS : Lst h) (m : Int) : LW (puH h m) ∧ Lst (puH h m) := by
  unfold puH
  split
  · exact ⟨hL, hS⟩
  · rename_i hne
    rcases lwo_cases h (xand (goS h) m) with e | ⟨b, b1, e, b2⟩
    · exact absurd e hne
    · have e' : pub h m = (b : Int) := e
      rw [e', toNat_nat]
      obtain ⟨z1, z2, z3, z4, z5, z6⟩ := hL
      have p : ∀ j k, j ≠ 1 → xset h 1 b (-1) j k = h j k := fun j k hj => xset_part _ _ _ _ hj _
      have p1 : ∀ i, xset h 1 b (-1) 1 i = if i = b then -1 else h 1 i := fun i => by
        by_cases hi : i = b
        · rw [if_pos hi, hi, xset_same]
        · rw [if_neg hi, xset_idx _ _ _ _ hi]
      refine ⟨⟨by rw [p 0 9 (by omega)]; exact z1, by rw [p 0 9 (by omega), p 0 10 (by omega)]; exact z2, by rw [p 0 10 (by omega)]; exact z3, fun i hi => ?_, fun i j hi hj hij => ?_, fun i hi => by rw [p 4 i (by omega)]; exact z6 i hi⟩, fun i hi => ?_⟩
      · rw [p 2 i (by omega), p 0 9 (by omega), p1 i]
        have := z4 i hi
        split
        · omega
        · exact this
      · rw [p 2 i (by omega), p 2 j (by omega), p1 i, p1 j]
        intro hpi hpj
        split at hpi
        · exact absurd rfl hpi
        · split at hpj
          · exact absurd rfl hpj
          · rename_i x y
            rw [if_neg x, if_neg y]
            exact z5 i j hi hj hij hpi hpj
      · rw [p1 i, p 5 i (by omega)]
        intro hp
        split at hp
        · exact absurd rfl hp
        · exact hS i hi hp
