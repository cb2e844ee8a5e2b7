/-- what can still be squeezed or thrown away -/
def mu (h : Ob) : Int := sm (fun i => if h 1 i = -1 then 0 else if h 5 i < h 2 i then 2 else 1) 8
theorem sm_lt {f g : Nat → Int} {b : Nat} : ∀ {n : Nat}, (∀ j, j < n → f j ≤ g j) → b < n → f b + 1 ≤ g b → sm f n + 1 ≤ sm g n
  | 0, _, hb, _ => by omega
  | n + 1, hl, hb, h1 => by
    show sm f n + f n + 1 ≤ sm g n + g n
    have h2 := hl n (by omega)
    by_cases e : b = n
    · subst e
      have := sm_le (a := f) (b := g) (n := b) (fun j hj => hl j (by omega))
      omega
    · have := sm_lt (f := f) (g := g) (b := b) (n := n) (fun j hj => hl j (by omega)) (by omega) h1
      omega
theorem mu_bd (h : Ob) : 0 ≤ mu h ∧ mu h ≤ 16 := by
  have := sm_bound (a := fun i => if h 1 i = -1 then (0 : Int) else if h 5 i < h 2 i then 2 else 1) (b := 2) (n := 8) (fun j _ => by
    split
    · omega
    · split <;> omega)
  unfold mu
  exact ⟨this.1, by have := this.2; omega⟩
theorem mu_cong {h h' : Ob} (e1 : ∀ i, i < 8 → (h' 1 i = -1 ↔ h 1 i = -1)) (e2 : ∀ i, i < 8 → h' 5 i = h 5 i ∧ h' 2 i = h 2 i) : mu h' = mu h := by
  unfold mu
  refine sm_cong (fun i hi => ?_)
  obtain ⟨a, b⟩ := e2 i hi
  rw [a, b]
  by_cases hc : h 1 i = -1
  · rw [if_pos hc, if_pos ((e1 i hi).mpr hc)]
  · rw [if_neg hc, if_neg (fun z => hc ((e1 i hi).mp z))]
theorem mu_sq {h : Ob} {b : Nat} (hb : b < 8) (h1 : h 1 b ≠ -1) (h2 : h 5 b < h 2 b) : mu (xset h 2 b (h 5 b)) + 1 ≤ mu h := by
  unfold mu
  refine sm_lt (b := b) (fun j hj => ?_) hb ?_
  · have p1 : xset h 2 b (h 5 b) 1 j = h 1 j := xset_part _ _ _ _ (by decide) _
    have p5 : xset h 2 b (h 5 b) 5 j = h 5 j := xset_part _ _ _ _ (by decide) _
    rw [p1, p5]
    by_cases e : j = b
    · rw [e, xset_same, if_neg h1, if_neg h1, if_neg (by omega), if_pos h2]
      omega
    · rw [xset_idx _ _ _ _ e]
      exact Int.le_refl _
  · have p1 : xset h 2 b (h 5 b) 1 b = h 1 b := xset_part _ _ _ _ (by decide) _
    have p5 : xset h 2 b (h 5 b) 5 b = h 5 b := xset_part _ _ _ _ (by decide) _
    rw [p1, p5, xset_same, if_neg h1, if_neg h1, if_neg (by omega), if_pos h2]
    omega
theorem mu_pu {h : Ob} {b : Nat} (hb : b < 8) (h1 : h 1 b ≠ -1) : mu (xset h 1 b (-1)) + 1 ≤ mu h := by
  have p5 : ∀ j, xset h 1 b (-1) 5 j = h 5 j := fun j => xset_part _ _ _ _ (by decide) _
  have p2 : ∀ j, xset h 1 b (-1) 2 j = h 2 j := fun j => xset_part _ _ _ _ (by decide) _
  unfold mu
  refine sm_lt (b := b) (fun j hj => ?_) hb ?_
  · rw [p5, p2]
    by_cases e : j = b
    · rw [e, xset_same, if_pos rfl]
      split
      · omega
      · split <;> omega
    · rw [xset_idx _ _ _ _ e]
      exact Int.le_refl _
  · rw [xset_same, if_pos rfl, if_neg h1]
    split <;> omega
theorem spr_in {b : Int} (hb : b = -1 ∨ ∃ i : Nat, i < 8 ∧ b = (i : Int)) {o : Nat} (ho : o < 8) : inS (spr b) (o : Int) = !decide ((o : Int) = b) := by
  unfold spr
  rcases hb with rfl | ⟨i, hi, rfl⟩
  · rw [if_neg (by decide)]
    have : ∀ o : Nat, o < 8 → inS (-1) (o : Int) = true := by decide +kernel
    rw [this o ho, decide_eq_false (by omega)]
    rfl
  · rw [if_pos (hdl_nat hi), inS_not _ ho, inS_one i hi o (by omega)]
    by_cases e : o = i
    · rw [decide_eq_true e, decide_eq_true (by omega)]
    · rw [decide_eq_false e, decide_eq_false (by omega)]
/-- what a fit leaves as it was; b is spared -/
def Frm (b : Int) (h h' : Ob) : Prop := (∀ i : Nat, i < 11 → h 1 i = -1 → h' 1 i = -1 ∧ h' 2 i = h 2 i) ∧ (∀ i : Nat, i < 8 → (i : Int) = b → (h 1 i ≠ -1 → h' 1 i ≠ -1) ∧ h' 2 i = h 2 i) ∧ ∀ j i, j ≠ 1 → j ≠ 2 → (j = 0 → i ≠ 9) → h' j i = h j i
theorem Frm.trans {b : Int} {h h' h'' : Ob} (a : Frm b h h') (c : Frm b h' h'') : Frm b h h'' := by
  obtain ⟨a1, a2, a3⟩ := a
  obtain ⟨c1, c2, c3⟩ := c
  refine ⟨fun i hi z => ?_, fun i hi e => ?_, fun j i h1 h2 h3 => ?_⟩
  · obtain ⟨x, y⟩ := a1 i hi z
    obtain ⟨u, v⟩ := c1 i hi x
    exact ⟨u, v.trans y⟩
  · obtain ⟨x, y⟩ := a2 i hi e
    obtain ⟨u, v⟩ := c2 i hi e
    exact ⟨fun z => u (x z), v.trans y⟩
  · rw [c3 j i h1 h2 h3, a3 j i h1 h2 h3]
theorem FO.frm {T n r : Int} {h m h' m' : Ob} (a : FO T n h m r h' m') (b : Int) : Frm b h h' := by
  obtain ⟨-, -, -, -, -, -, a1, a2⟩ := a
  exact ⟨fun i hi z => ⟨(a1 i hi).mpr z, a2 2 i (by decide) (by omega)⟩, fun i hi _ => ⟨fun z y => z ((a1 i (by omega)).mp y), a2 2 i (by decide) (by omega)⟩, fun j i h1 _ h3 => a2 j i h1 h3⟩
