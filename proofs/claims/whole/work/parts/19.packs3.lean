def GiG (p r : Ob) : Prop := 0 ≤ p 0 2 ∧ p 0 2 ≤ 11 ∧ (∀ i, i < (p 0 2).toNat → 1 ≤ p 1 i ∧ p 1 i ≤ 200) ∧ p 0 3 = sm (p 1) (p 0 2).toNat ∧ (∀ i, i < (p 0 2).toNat → p 1 i ≤ p 0 4) ∧ (p 0 4 = 0 ∨ ∃ i, i < (p 0 2).toNat ∧ p 1 i = p 0 4) ∧ rk r = true ∧ ∀ j, j < (r 0 2).toNat → 0 ≤ r 2 j ∧ r 2 j ≤ 200
noncomputable def gi (p r : Ob) : Bool := pd (Packs (p 1) (p 0 2).toNat (2 ^ (p 0 2).toNat - 1) (r 2) (r 0 2).toNat)
theorem celR_sm {r : Ob} : celR r = sm (r 2) (r 0 2).toNat := by
  unfold celR
  have key : ∀ n, (List.range n).foldl (fun (c : Int) (i : Nat) => c + r 2 i) 0 = sm (r 2) n := by
    intro n
    induction n with
    | zero => rfl
    | succ n ih => rw [List.range_succ, List.foldl_append, ih]; rfl
  exact key _
theorem sm_bound {a : Nat → Int} {b : Int} : ∀ {n : Nat}, (∀ j, j < n → 0 ≤ a j ∧ a j ≤ b) → 0 ≤ sm a n ∧ sm a n ≤ n * b
  | 0, _ => by simp [sm]
  | n + 1, h => by
    have := sm_bound (fun j hj => h j (by omega) : ∀ j, j < n → 0 ≤ a j ∧ a j ≤ b)
    have h2 := h n (by omega)
    show 0 ≤ sm a n + a n ∧ sm a n + a n ≤ ((n + 1 : Nat) : Int) * b
    have e : ((n + 1 : Nat) : Int) * b = n * b + b := by rw [Int.natCast_add, Int.add_mul]; simp
    rw [e]
    omega
theorem lonR_spec {r : Ob} (hr : ∀ j, j < (r 0 2).toNat → 0 ≤ r 2 j ∧ r 2 j ≤ 200) : 0 ≤ lonR r ∧ lonR r ≤ 200 ∧ (∀ j, j < (r 0 2).toNat → r 2 j ≤ lonR r) ∧ (lonR r = 0 ∨ ∃ j, j < (r 0 2).toNat ∧ r 2 j = lonR r) := by
  unfold lonR
  have key : ∀ n, n ≤ (r 0 2).toNat → 0 ≤ (List.range n).foldl (fun (c : Int) (i : Nat) => xmax c (r 2 i)) 0 ∧ (List.range n).foldl (fun (c : Int) (i : Nat) => xmax c (r 2 i)) 0 ≤ 200 ∧ (∀ j, j < n → r 2 j ≤ (List.range n).foldl (fun (c : Int) (i : Nat) => xmax c (r 2 i)) 0) ∧ ((List.range n).foldl (fun (c : Int) (i : Nat) => xmax c (r 2 i)) 0 = 0 ∨ ∃ j, j < n ∧ r 2 j = (List.range n).foldl (fun (c : Int) (i : Nat) => xmax c (r 2 i)) 0) := by
    intro n
    induction n with
    | zero => intro _; exact ⟨by simp, by simp, fun j hj => by omega, Or.inl rfl⟩
    | succ n ih =>
      intro hn
      obtain ⟨h1, h2, h3, h4⟩ := ih (by omega)
      have hb := hr n (by omega)
      rw [List.range_succ, List.foldl_append]
      generalize (List.range n).foldl (fun (c : Int) (i : Nat) => xmax c (r 2 i)) 0 = z at h1 h2 h3 h4
      have e : List.foldl (fun (c : Int) (i : Nat) => xmax c (r 2 i)) z [n] = if z < r 2 n then r 2 n else z := by
        show xmax z (r 2 n) = _
        unfold xmax
        rw [xw_id (x := z) (by omega) (by omega), xw_id (x := r 2 n) (by omega) (by omega)]
      rw [e]
      by_cases hz : z < r 2 n
      · rw [if_pos hz]
        refine ⟨by omega, by omega, fun j hj => ?_, Or.inr ⟨n, by omega, rfl⟩⟩
        by_cases hjn : j = n
        · subst hjn; omega
        · have := h3 j (by omega); omega
      · rw [if_neg hz]
        refine ⟨by omega, by omega, fun j hj => ?_, ?_⟩
        · by_cases hjn : j = n
          · subst hjn; omega
          · exact h3 j (by omega)
        · rcases h4 with h | ⟨j, j1, j2⟩
          · exact Or.inl h
          · exact Or.inr ⟨j, by omega, j2⟩
  exact key _ (Nat.le_refl _)
theorem uwF_uwN {r : Ob} {u a : Int} (hk : rk r = true) (hr : ∀ j, j < (r 0 2).toNat → 0 ≤ r 2 j ∧ r 2 j ≤ 200) (hu : 0 ≤ u) (hu2 : u < 65536) (ha : 0 ≤ a) (ha2 : a ≤ 200) : uwF r u a = uwN (r 2) (r 0 2).toNat u a := by
  obtain ⟨k1, k2⟩ := rk_iff.mp hk
  unfold uwF uwN
  have e1 : xw u = u := xw_id (by omega) (by omega)
  have e2 : xw a = a := xw_id (by omega) (by omega)
  rw [e1, e2, if_neg (by omega), xw_id (x := u % 256 + a) (by omega) (by omega)]
  have hfind : (List.range (r 0 2).toNat).find? (fun i : Nat => decide (u / 256 < (i : Int)) && decide (a ≤ xw (r 2 i))) = (List.range (r 0 2).toNat).find? (fun i : Nat => decide (u / 256 < (i : Int)) && decide (a ≤ r 2 i)) := by
    have key : ∀ l : List Nat, (∀ i ∈ l, i < (r 0 2).toNat) → l.find? (fun i : Nat => decide (u / 256 < (i : Int)) && decide (a ≤ xw (r 2 i))) = l.find? (fun i : Nat => decide (u / 256 < (i : Int)) && decide (a ≤ r 2 i)) := by
      intro l
      induction l with
      | nil => intro _; rfl
      | cons b l ih =>
        intro hl
        have hb := hr b (hl b List.mem_cons_self)
        rw [List.find?_cons, List.find?_cons, xw_id (x := r 2 b) (by omega) (by omega), ih (fun i hi => hl i (List.mem_cons_of_mem _ hi))]
    exact key _ (fun i hi => List.mem_range.mp hi)
  rw [hfind]
  by_cases hc : u / 256 < r 0 2
  · have hb := hr (u / 256).toNat (by omega)
    rw [xw_id (x := r 2 (u / 256).toNat) (by omega) (by omega)]
    by_cases hd : u % 256 + a ≤ r 2 (u / 256).toNat
    · rw [if_pos ⟨hc, hd⟩, if_pos (show u / 256 < ((r 0 2).toNat : Int) ∧ _ from ⟨by omega, hd⟩)]
    · rw [if_neg (fun z => hd z.2), if_neg (fun z => hd z.2)]
      rfl
  · rw [if_neg (fun z => hc z.1), if_neg (show ¬ (u / 256 < ((r 0 2).toNat : Int) ∧ _) from fun z => by omega)]
    rfl

