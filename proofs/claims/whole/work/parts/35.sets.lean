/-- a set of handles that is gathered bit by bit -/
theorem set_fold (p : Nat → Bool) : ∀ m : Nat, m ≤ 8 → ∃ a : Nat, (List.range m).foldl (fun (s : Int) (i : Nat) => if p i then xor_ s (xshl 1 (i : Int)) else s) 0 = (a : Int) ∧ a < 2 ^ m ∧ ∀ i, i < m → a.testBit i = p i := by
  intro m
  induction m with
  | zero => intro _; exact ⟨0, rfl, by decide, fun i hi => by omega⟩
  | succ m ih =>
    intro hm
    obtain ⟨a, a1, a2, a3⟩ := ih (by omega)
    rw [List.range_succ, List.foldl_append, a1]
    simp only [List.foldl_cons, List.foldl_nil]
    have h256 : (2 : Nat) ^ m ≤ 2 ^ 8 := Nat.pow_le_pow_right (by decide) (by omega)
    have h256' : (2 : Nat) ^ 8 = 256 := by decide
    have hp2 : (2 : Nat) ^ (m + 1) = 2 ^ m + 2 ^ m := by rw [Nat.pow_succ]; omega
    cases hp : p m
    · refine ⟨a, by simp, by omega, fun i hi => ?_⟩
      by_cases him : i = m
      · subst him
        rw [hp]
        exact Nat.testBit_lt_two_pow a2
      · exact a3 i (by omega)
    · refine ⟨a ||| 2 ^ m, ?_, Nat.or_lt_two_pow (by omega) (by omega), fun i hi => ?_⟩
      · rw [if_pos rfl, xshl_1 m (by omega), xor_nat (by omega) (by omega)]
      · rw [Nat.testBit_or]
        by_cases him : i = m
        · subst him
          rw [Nat.testBit_two_pow_self, hp, Bool.or_true]
        · rw [Nat.testBit_two_pow_of_ne (Ne.symm him), Bool.or_false]
          exact a3 i (by omega)
theorem inS_lt {s : Int} {i : Nat} (h : inS s (i : Int) = true) (hi : i < 2147483648) : i < 8 := by
  unfold inS hdl at h
  simp only [Bool.and_eq_true, decide_eq_true_eq, xw_nat hi] at h
  omega
theorem set_in (p : Nat → Bool) (i : Nat) (hi : i < 8) : inS ((List.range 8).foldl (fun (s : Int) (i : Nat) => if p i then xor_ s (xshl 1 (i : Int)) else s) 0) (i : Int) = p i := by
  obtain ⟨a, a1, a2, a3⟩ := set_fold p 8 (by omega)
  rw [a1, inS_nat (by have : (2:Nat) ^ 8 = 256 := by decide
                      omega) hi]
  exact a3 i hi
theorem movS_in (h : Ob) {i : Nat} (hi : i < 11) : inS (movS h) (i : Int) = mov h (i : Int) := by
  have he : movS h = movSI h := congrFun (xop_eq movSI) h
  by_cases h8 : i < 8
  · rw [he]
    exact set_in (fun i => mov h (i : Int)) i h8
  · cases hm : mov h (i : Int)
    · cases hs : inS (movS h) (i : Int)
      · rfl
      · exact absurd (inS_lt hs (by omega)) h8
    · have := mov_lt hm
      rw [xw_nat (by omega)] at this
      omega
/-- each movable block is in the list, once -/
theorem LW.mvl_of {h : Ob} (hL : LW h) {i : Nat} (hi : i < 11) (hm : mov h (i : Int) = true) : h 1 i ∈ mvl h := by
  obtain ⟨z1, z2, z3, -⟩ := id hL
  have h8 := mov_lt hm
  rw [xw_nat (by omega)] at h8
  have hp := (mov_iff (show i < 8 by omega)).mp hm
  rw [hL.xpl hi] at hp
  rw [mvl_e]
  refine List.mem_filter.mpr ⟨(hL.wlsc (e := h 0 9) (Int.le_refl _) (by omega)).2.1 i hi hp.1, ?_⟩
  have hr := hL.pl hi
  rcases hL.holc (k := h 1 i) (by omega) (by omega) with ⟨i', g1, g2, g3⟩ | ⟨g1, g3⟩
  · have : i' = i := hL.inj g1 hi g2 (by omega)
    subst this
    rw [g3]
    exact hm
  · exact absurd rfl (g1 i hi)
theorem LW.mvl_sorted {h : Ob} (hL : LW h) : (mvl h).Pairwise (· < ·) := by
  obtain ⟨z1, z2, z3, -⟩ := id hL
  rw [mvl_e]
  exact (hL.wlsc (e := h 0 9) (Int.le_refl _) (by omega)).2.2.filter _
theorem LW.mvl_inj {h : Ob} (hL : LW h) {a b : Nat} (ha : a < (mvl h).length) (hb : b < (mvl h).length) (e : (mvl h)[a] = (mvl h)[b]) : a = b := by
  have hs := List.pairwise_iff_getElem.mp hL.mvl_sorted
  rcases Nat.lt_trichotomy a b with h1 | h1 | h1
  · have := hs a b ha hb h1; omega
  · exact h1
  · have := hs b a hb ha h1; omega
theorem LW.lsAt {h : Ob} (hL : LW h) (A G : Ob) {k : Nat} (hk : k < (mvl h).length) : ∃ i : Nat, i < 8 ∧ h 1 i = (mvl h)[k] ∧ mov h (i : Int) = true ∧ lsO A G h 1 k = (i : Int) ∧ lsO A G h 2 k = h 2 i + 1 ∧ lsO A G h 3 k = rwF G (h 1 i) := by
  obtain ⟨i, i1, i2, i3, i4⟩ := hL.mvl_mem (List.getElem_mem hk)
  refine ⟨i, i1, i2, i4, ?_, ?_, ?_⟩
  · show (match (mvl h)[k]? with | some k => hol h k | none => A 1 k) = _
    rw [List.getElem?_eq_getElem hk]
    exact i3
  · show (match (mvl h)[k]? with | some k => h 2 (hol h k).toNat + 1 | none => A 2 k) = _
    rw [List.getElem?_eq_getElem hk]
    show h 2 (hol h (mvl h)[k]).toNat + 1 = _
    rw [i3, toNat_nat]
  · show (match (mvl h)[k]? with | some k => rwF G k | none => A 3 k) = _
    rw [List.getElem?_eq_getElem hk, i2]
