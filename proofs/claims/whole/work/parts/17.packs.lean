/-- the cells of the things of a set that f gives to run j -/
def lod (a : Nat → Int) (f : Nat → Nat) (j : Nat) : Nat → Nat → Int
  | 0, _ => 0
  | c + 1, S => lod a f j c S + (if S.testBit c = true ∧ f c = j then a c else 0)
/-- the things of a set go into n runs -/
def Packs (a : Nat → Int) (c S : Nat) (len : Nat → Int) (n : Nat) : Prop := ∃ f : Nat → Nat, (∀ i, i < c → S.testBit i = true → f i < n) ∧ ∀ j, j < n → lod a f j c S ≤ len j
/-- .. into the runs up to r, at most u cells of that one used -/
def Ach (a : Nat → Int) (c S : Nat) (len : Nat → Int) (n r : Nat) (u : Int) : Prop := r < n ∧ u ≤ len r ∧ ∃ f : Nat → Nat, (∀ i, i < c → S.testBit i = true → f i ≤ r) ∧ (∀ j, j < r → lod a f j c S ≤ len j) ∧ lod a f r c S ≤ u
theorem lod_cong {a : Nat → Int} {f g : Nat → Nat} {j S T : Nat} : ∀ {c : Nat}, (∀ i, i < c → (S.testBit i = true ∧ f i = j ↔ T.testBit i = true ∧ g i = j)) → lod a f j c S = lod a g j c T
  | 0, _ => rfl
  | c + 1, h => by
    unfold lod
    rw [lod_cong (fun i hi => h i (by omega))]
    congr 1
    have := h c (by omega)
    by_cases hc : S.testBit c = true ∧ f c = j
    · rw [if_pos hc, if_pos (this.mp hc)]
    · rw [if_neg hc, if_neg (fun z => hc (this.mpr z))]
theorem lod_nonneg {a : Nat → Int} {f : Nat → Nat} {j S : Nat} : ∀ {c : Nat}, (∀ i, i < c → 0 ≤ a i) → 0 ≤ lod a f j c S
  | 0, _ => Int.le_refl _
  | c + 1, h => by
    unfold lod
    have := lod_nonneg (f := f) (j := j) (S := S) (fun i hi => h i (by omega) : ∀ i, i < c → 0 ≤ a i)
    have h2 := h c (by omega)
    split <;> omega
/-- one thing more: S with the bit i -/
theorem lod_add {a : Nat → Int} {f g : Nat → Nat} {j S T i q : Nat} : ∀ {c : Nat}, i < c → S.testBit i = false → T.testBit i = true → (∀ k, k ≠ i → T.testBit k = S.testBit k) → (∀ k, k ≠ i → g k = f k) → g i = q → lod a g j c T = lod a f j c S + (if q = j then a i else 0)
  | 0, h, _, _, _, _, _ => by omega
  | c + 1, hi, h1, h2, h3, h4, h5 => by
    unfold lod
    by_cases hic : i = c
    · subst hic
      rw [lod_cong (S := T) (T := S) (f := g) (g := f) (fun k hk => by rw [h3 k (by omega), h4 k (by omega)])]
      simp only [h1, h2, h5, Bool.false_eq_true, false_and, if_false, true_and]
      omega
    · rw [lod_add (c := c) (by omega) h1 h2 h3 h4 h5, h3 c (fun z => hic z.symm), h4 c (fun z => hic z.symm)]
      omega
/-- the code of a way: run * 256 + cells used in it -/
def uwN (len : Nat → Int) (n : Nat) (u a : Int) : Int := if u / 256 < n ∧ u % 256 + a ≤ len (u / 256).toNat then u + a
  else match (List.range n).find? (fun i : Nat => decide (u / 256 < (i : Int)) && decide (a ≤ len i)) with
    | some i => (i : Int) * 256 + a
    | none => 65536
theorem uwN_sound {a : Nat → Int} {c S T i n r : Nat} {len : Nat → Int} {u : Int} (hlen : ∀ j, j < n → 0 ≤ len j ∧ len j ≤ 200) (hn : n ≤ 12) (ha : ∀ k, k < c → 0 ≤ a k) (hic : i < c) (hS : S.testBit i = false) (hT : T.testBit i = true) (hTS : ∀ k, k ≠ i → T.testBit k = S.testBit k)
    (hu : 0 ≤ u) (h : Ach a c S len n r u) (hw : uwN len n ((r : Int) * 256 + u) (a i) < 65536) : ∃ (r' : Nat) (u' : Int), 0 ≤ u' ∧ uwN len n ((r : Int) * 256 + u) (a i) = (r' : Int) * 256 + u' ∧ Ach a c T len n r' u' := by
  obtain ⟨h1, h2, f, f1, f2, f3⟩ := h
  have hr := hlen r h1
  have hd : ((r : Int) * 256 + u) / 256 = r := by omega
  have hm : ((r : Int) * 256 + u) % 256 = u := by omega
  have hai := ha i hic
  unfold uwN at hw ⊢
  rw [hd, hm] at hw ⊢
  by_cases hc : (r : Int) < n ∧ u + a i ≤ len (r : Int).toNat
  · rw [if_pos hc]
    rw [toNat_nat] at hc
    refine ⟨r, u + a i, by omega, by omega, h1, hc.2, fun k => if k = i then r else f k, fun k hk hb => ?_, fun j hj => ?_, ?_⟩
    · by_cases hki : k = i
      · simp [hki]
      · simp only [hki, if_false]
        exact f1 k hk (by rw [← hTS k hki]; exact hb)
    · rw [lod_add (S := S) (f := f) (q := r) hic hS hT hTS (fun k hk => by simp [hk]) (by simp), if_neg (by omega)]
      have := f2 j hj
      omega
    · rw [lod_add (S := S) (f := f) (q := r) hic hS hT hTS (fun k hk => by simp [hk]) (by simp), if_pos rfl]
      omega
  · rw [if_neg hc] at hw ⊢
    cases hq : (List.range n).find? (fun i' : Nat => decide ((r : Int) < (i' : Int)) && decide (a i ≤ len i')) with
    | none => rw [hq] at hw; exact absurd hw (by simp)
    | some q =>
      have hp := List.find?_some hq
      have hqn := List.mem_range.mp (List.mem_of_find?_eq_some hq)
      simp only [Bool.and_eq_true, decide_eq_true_eq] at hp
      refine ⟨q, a i, hai, rfl, hqn, hp.2, fun k => if k = i then q else f k, fun k hk hb => ?_, fun j hj => ?_, ?_⟩
      · by_cases hki : k = i
        · simp [hki]
        · simp only [hki, if_false]
          have := f1 k hk (by rw [← hTS k hki]; exact hb)
          omega
      · rw [lod_add (S := S) (f := f) (q := q) hic hS hT hTS (fun k hk => by simp [hk]) (by simp), if_neg (by omega)]
        by_cases hjr : j < r
        · have := f2 j hjr; omega
        · by_cases hjr2 : j = r
          · subst hjr2; omega
          · have e0 : lod a f j c S = 0 := by
              have : lod a f j c S = lod a f j c 0 := lod_cong (fun k hk => ⟨fun z => by have := f1 k hk z.1; omega, fun z => by simp at z⟩)
              rw [this]
              have z0 : ∀ c, lod a f j c 0 = 0 := by
                intro c
                induction c with
                | zero => rfl
                | succ c ih => unfold lod; rw [ih]; simp
              exact z0 c
            rw [e0]
            have := hlen j (by omega)
            omega
      · rw [lod_add (S := S) (f := f) (q := q) hic hS hT hTS (fun k hk => by simp [hk]) (by simp), if_pos rfl]
        have e0 : lod a f q c S = 0 := by
          have : lod a f q c S = lod a f q c 0 := lod_cong (fun k hk => ⟨fun z => by have := f1 k hk z.1; omega, fun z => by simp at z⟩)
          rw [this]
          have z0 : ∀ c, lod a f q c 0 = 0 := by
            intro c
            induction c with
            | zero => rfl
            | succ c ih => unfold lod; rw [ih]; simp
          exact z0 c
        omega
/-- a way of less code goes on at least as well -/
theorem uwN_mono {n q : Nat} {len : Nat → Int} {v u' x : Int} (hlen : ∀ j, j < n → 0 ≤ len j ∧ len j ≤ 200) (hx : 0 < x) (hv : 0 ≤ v) (hv2 : v % 256 ≤ 200) (hq : q < n) (hu : 0 ≤ u') (hux : u' + x ≤ len q) (hle : v ≤ (q : Int) * 256 + u') : uwN len n v x ≤ (q : Int) * 256 + u' + x := by
  unfold uwN
  have hlq := hlen q hq
  by_cases hc : v / 256 < n ∧ v % 256 + x ≤ len (v / 256).toNat
  · rw [if_pos hc]; omega
  · rw [if_neg hc]
    by_cases hvq : v / 256 < q
    · have hex : ∃ i ∈ List.range n, (fun i : Nat => decide (v / 256 < (i : Int)) && decide (x ≤ len i)) i = true := ⟨q, List.mem_range.mpr hq, by
        simp only [Bool.and_eq_true, decide_eq_true_eq]; omega⟩
      cases hf : (List.range n).find? (fun i : Nat => decide (v / 256 < (i : Int)) && decide (x ≤ len i)) with
      | none =>
        obtain ⟨i, h1, h2⟩ := hex
        exact absurd h2 (List.find?_eq_none.mp hf i h1)
      | some i =>
        rw [List.range_eq_range', List.find?_range'_eq_some] at hf
        have : i ≤ q := by
          rcases Nat.lt_or_ge q i with hqi | hqi
          · have h3 := hf.2.2 q (Nat.zero_le _) hqi
            have : (decide (v / 256 < (q : Int)) && decide (x ≤ len q)) = true := by simp only [Bool.and_eq_true, decide_eq_true_eq]; omega
            rw [this] at h3
            exact absurd h3 (by simp)
          · exact hqi
        show (i : Int) * 256 + x ≤ _
        omega
    · have hvq2 : v / 256 = q := by omega
      exact absurd (show v / 256 < n ∧ v % 256 + x ≤ len (v / 256).toNat by rw [hvq2, toNat_nat]; omega) hc

