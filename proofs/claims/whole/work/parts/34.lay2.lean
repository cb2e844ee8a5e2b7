theorem ldg_succ (A : Ob) (g k : Nat) : ldg A g (k + 1) = ldg A g k + if A 4 k = (g : Int) then A 2 k else 0 := rfl
/-- the list of an arrangement: handles apart, gaps given -/
def AGd (A G : Ob) (c : Nat) : Prop := (∀ k, k < c → 0 ≤ A 1 k ∧ A 1 k < 11 ∧ 0 ≤ A 4 k ∧ A 4 k < 12 ∧ 1 ≤ A 2 k ∧ A 2 k ≤ 61) ∧ (∀ a b, a < c → b < c → A 1 a = A 1 b → a = b)
theorem layG_ok {A G : Ob} {c : Nat} (hD : AGd A G c) (g : Nat) (at_ : Int) (h : Ob) : ∀ m, m ≤ c →
    (layG A g m (at_, h)).1 = at_ + ldg A g m ∧
    (∀ k, k < m → A 4 k = (g : Int) → (layG A g m (at_, h)).2 1 (A 1 k).toNat = at_ + ldg A g k) ∧
    (∀ j i, (∀ k, k < m → A 4 k = (g : Int) → ¬ (j = 1 ∧ i = (A 1 k).toNat)) → (layG A g m (at_, h)).2 j i = h j i) := by
  intro m
  induction m with
  | zero => intro _; exact ⟨by show at_ = at_ + 0; omega, fun k hk => by omega, fun j i _ => rfl⟩
  | succ m ih =>
    intro hm
    obtain ⟨i1, i2, i3⟩ := ih (by omega)
    obtain ⟨d1, d2, d3, d4, d5, d6⟩ := hD.1 m (by omega)
    have hst : layG A g (m + 1) (at_, h) = if xw (A 4 m) = (g : Int) then ((layG A g m (at_, h)).1 + A 2 m, xset (layG A g m (at_, h)).2 1 (xw (A 1 m)).toNat (layG A g m (at_, h)).1) else layG A g m (at_, h) := by
      unfold layG
      rw [List.range_succ, List.foldl_append]
      rfl
    rw [hst, ldg_succ, xw_id (x := A 4 m) (by omega) (by omega), xw_id (x := A 1 m) (by omega) (by omega)]
    generalize layG A g m (at_, h) = z at i1 i2 i3
    by_cases hc : A 4 m = (g : Int)
    · rw [if_pos hc, if_pos hc]
      refine ⟨by show z.1 + A 2 m = _; omega, fun k hk hkg => ?_, fun j i hji => ?_⟩
      · show xset z.2 1 (A 1 m).toNat z.1 1 (A 1 k).toNat = _
        by_cases hkm : k = m
        · subst hkm
          rw [xset_same, i1]
        · have hne : (A 1 k).toNat ≠ (A 1 m).toNat := fun e => hkm (hD.2 k m (by omega) (by omega) (by have := hD.1 k (by omega); omega))
          rw [xset_idx _ _ _ _ hne]
          exact i2 k (by omega) hkg
      · show xset z.2 1 (A 1 m).toNat z.1 j i = _
        have hm' := hji m (by omega) hc
        have : xset z.2 1 (A 1 m).toNat z.1 j i = z.2 j i := by
          unfold xset
          rw [if_neg hm']
        rw [this]
        exact i3 j i (fun k hk hkg => hji k (by omega) hkg)
    · rw [if_neg hc, if_neg hc]
      refine ⟨by omega, fun k hk hkg => ?_, fun j i hji => i3 j i (fun k hk hkg => hji k (by omega) hkg)⟩
      have : k ≠ m := fun e => hc (by rw [← e]; exact hkg)
      exact i2 k (by omega) hkg
theorem ldg_bound {A G : Ob} {c : Nat} (hD : AGd A G c) (g : Nat) : ∀ k, k ≤ c → 0 ≤ ldg A g k ∧ ldg A g k ≤ 61 * (k : Int) := by
  intro k
  induction k with
  | zero => intro _; exact ⟨Int.le_refl _, by show (0 : Int) ≤ _; omega⟩
  | succ k ih =>
    intro hk
    have := ih (by omega)
    have := hD.1 k (by omega)
    rw [ldg_succ]
    split <;> omega
/-- where the k-th of the list is laid -/
def layP (A G : Ob) (k : Nat) : Int := G 1 (A 4 k).toNat + ldg A (A 4 k).toNat k
theorem lay_ok {A G : Ob} (hD : AGd A G (A 0 7).toNat) (h7 : 0 ≤ A 0 7 ∧ A 0 7 ≤ 8) (hr : rk G = true) (hG : ∀ g, g < (G 0 2).toNat → 0 ≤ G 1 g ∧ G 1 g ≤ 200) (n : Int) (h : Ob) :
    (∀ k, k < (A 0 7).toNat → A 4 k < G 0 2 → (layF A G n h).2 1 (A 1 k).toNat = layP A G k) ∧
    (∀ j i, (∀ k, k < (A 0 7).toNat → A 4 k < G 0 2 → ¬ (j = 1 ∧ i = (A 1 k).toNat)) → (layF A G n h).2 j i = h j i) ∧
    (((∀ g, g < (G 0 2).toNat → xw (A 5 g) < xw n) ∧ (layF A G n h).1 = -1) ∨ ∃ g, g < (G 0 2).toNat ∧ xw n ≤ xw (A 5 g) ∧ (∀ g', g' < g → xw (A 5 g') < xw n) ∧ (layF A G n h).1 = G 1 g + ldg A g (A 0 7).toNat) := by
  obtain ⟨r1, r2⟩ := rk_iff.mp hr
  rw [layF_e]
  unfold layI
  have key : ∀ m : Nat, m ≤ (G 0 2).toNat → ∀ q, q = (List.range m).foldl (fun (q : Int × Ob) (g : Nat) => (if xw q.1 = -1 ∧ xw n ≤ xw (A 5 g) then (layG A g (A 0 7).toNat (G 1 g, q.2)).1 else q.1, (layG A g (A 0 7).toNat (G 1 g, q.2)).2)) (-1, h) →
      (∀ k, k < (A 0 7).toNat → A 4 k < (m : Int) → q.2 1 (A 1 k).toNat = layP A G k) ∧
      (∀ j i, (∀ k, k < (A 0 7).toNat → A 4 k < (m : Int) → ¬ (j = 1 ∧ i = (A 1 k).toNat)) → q.2 j i = h j i) ∧
      (((∀ g, g < m → xw (A 5 g) < xw n) ∧ q.1 = -1) ∨ ∃ g, g < m ∧ xw n ≤ xw (A 5 g) ∧ (∀ g', g' < g → xw (A 5 g') < xw n) ∧ q.1 = G 1 g + ldg A g (A 0 7).toNat) := by
    intro m
    induction m with
    | zero =>
      rintro _ q rfl
      exact ⟨fun k hk h4 => by have := hD.1 k hk; omega, fun j i _ => rfl, Or.inl ⟨fun g hg => by omega, rfl⟩⟩
    | succ m ih =>
      rintro hm q rfl
      have hi := ih (by omega) _ rfl
      rw [List.range_succ, List.foldl_append]
      generalize (List.range m).foldl (fun (q : Int × Ob) (g : Nat) => (if xw q.1 = -1 ∧ xw n ≤ xw (A 5 g) then (layG A g (A 0 7).toNat (G 1 g, q.2)).1 else q.1, (layG A g (A 0 7).toNat (G 1 g, q.2)).2)) (-1, h) = z at hi
      simp only [List.foldl_cons, List.foldl_nil]
      obtain ⟨i1, i2, i3⟩ := hi
      obtain ⟨l1, l2, l3⟩ := layG_ok hD m (G 1 m) z.2 (A 0 7).toNat (Nat.le_refl _)
      refine ⟨fun k hk h4 => ?_, fun j i hji => ?_, ?_⟩
      · have hk1 := hD.1 k hk
        by_cases hkm : A 4 k = (m : Int)
        · rw [l2 k hk hkm]
          unfold layP
          rw [hkm, toNat_nat]
        · rw [l3 1 (A 1 k).toNat (fun k' hk' h4' e => by
            have hk1' := hD.1 k' hk'
            have : k = k' := hD.2 k k' hk hk' (by omega)
            rw [this] at hkm
            exact hkm h4')]
          exact i1 k hk (by omega)
      · rw [l3 j i (fun k hk h4 => hji k hk (by omega))]
        exact i2 j i (fun k hk h4 => hji k hk (by omega))
      · rw [l1]
        have hm1 := hG m (by omega)
        rcases i3 with ⟨a1, a2⟩ | ⟨g, a1, a2, a3, a4⟩
        · by_cases hc : xw n ≤ xw (A 5 m)
          · right
            refine ⟨m, by omega, hc, a1, ?_⟩
            rw [if_pos ⟨by rw [a2]; decide, hc⟩]
          · left
            refine ⟨fun g hg => ?_, by rw [if_neg (by omega)]; exact a2⟩
            by_cases hgm : g = m
            · subst hgm; omega
            · exact a1 g (by omega)
        · right
          have hg1 := hG g (by omega)
          have hb := ldg_bound hD g (A 0 7).toNat (Nat.le_refl _)
          refine ⟨g, by omega, a2, a3, ?_⟩
          rw [if_neg (fun e => by
            have := e.1
            rw [a4, xw_id (by omega) (by omega)] at this
            omega)]
          exact a4
  have := key (G 0 2).toNat (Nat.le_refl _) _ rfl
  rw [show (((G 0 2).toNat : Nat) : Int) = G 0 2 by omega] at this
  exact this
