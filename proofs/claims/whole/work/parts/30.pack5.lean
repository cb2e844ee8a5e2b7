def mxl (l : List Int) : Int := l.foldl (fun m a => if m < a then a else m) 0
/-- a packing that holds the things of a list -/
def pkO (p : Ob) (l : List Int) : Ob := fun j k => if j = 0 then (if k = 2 then (l.length : Int) else if k = 3 then sm (fun i => l[i]?.getD 0) l.length else if k = 4 then mxl l else p 0 k) else if j = 1 then (match l[k]? with | some a => a | none => p 1 k) else p j k
theorem mxl_app (l : List Int) (a : Int) : mxl (l ++ [a]) = if mxl l < a then a else mxl l := by
  unfold mxl
  rw [List.foldl_append]
  rfl
theorem mxl_ge : ∀ (l : List Int), 0 ≤ mxl l ∧ (∀ a ∈ l, a ≤ mxl l) ∧ (mxl l = 0 ∨ mxl l ∈ l) := by
  intro l
  have key : ∀ (l : List Int) (m : Int), m ≤ l.foldl (fun m a => if m < a then a else m) m ∧ (∀ a ∈ l, a ≤ l.foldl (fun m a => if m < a then a else m) m) ∧ (l.foldl (fun m a => if m < a then a else m) m = m ∨ l.foldl (fun m a => if m < a then a else m) m ∈ l) := by
    intro l
    induction l with
    | nil => intro m; exact ⟨Int.le_refl _, fun a h => absurd h List.not_mem_nil, Or.inl rfl⟩
    | cons b l ih =>
      intro m
      obtain ⟨i1, i2, i3⟩ := ih (if m < b then b else m)
      rw [List.foldl_cons]
      generalize l.foldl (fun m a => if m < a then a else m) (if m < b then b else m) = z at i1 i2 i3
      refine ⟨by split at i1 <;> omega, fun a ha => ?_, ?_⟩
      · rcases List.mem_cons.mp ha with rfl | ha
        · split at i1 <;> omega
        · exact i2 a ha
      · rcases i3 with i3 | i3
        · by_cases hm : m < b
          · rw [if_pos hm] at i3
            exact Or.inr (by rw [i3]; exact List.mem_cons_self)
          · rw [if_neg hm] at i3
            exact Or.inl i3
        · exact Or.inr (List.mem_cons_of_mem _ i3)
  exact key l 0
theorem sm_cong {f g : Nat → Int} : ∀ {n : Nat}, (∀ i, i < n → f i = g i) → sm f n = sm g n
  | 0, _ => rfl
  | n + 1, h => by
    show sm f n + f n = sm g n + g n
    rw [sm_cong (fun i hi => h i (by omega)), h n (by omega)]
theorem pkO_nil (p : Ob) : xset (xset (xset p 0 2 0) 0 3 0) 0 4 0 = pkO p [] := by
  funext j k
  unfold xset pkO
  by_cases h0 : j = 0
  · subst h0
    by_cases h4 : k = 4
    · subst h4; rfl
    · by_cases h3 : k = 3
      · subst h3; rfl
      · by_cases h2 : k = 2
        · subst h2; rfl
        · simp [h2, h3, h4]
  · by_cases h1 : j = 1
    · subst h1
      simp
    · simp [h0, h1]
theorem pkO_add (p : Ob) (l : List Int) (a : Int) (hl : l.length < 11) (ha : 1 ≤ a ∧ a ≤ 200) (hm : ∀ b ∈ l, 1 ≤ b ∧ b ≤ 200) : pkA (pkO p l) a = pkO p (l ++ [a]) := by
  have hmx := mxl_ge l
  have hmr : 0 ≤ mxl l ∧ mxl l ≤ 200 := ⟨hmx.1, by
    rcases hmx.2.2 with h | h
    · omega
    · exact (hm _ h).2⟩
  have hc : pkO p l 0 2 = (l.length : Int) := rfl
  have h4 : pkO p l 0 4 = mxl l := rfl
  have h3 : pkO p l 0 3 = sm (fun i => l[i]?.getD 0) l.length := rfl
  have hsm : sm (fun i => (l ++ [a])[i]?.getD 0) l.length = sm (fun i => l[i]?.getD 0) l.length := sm_cong (fun i hi => by rw [List.getElem?_append_left hi])
  have hsa : sm (fun i => (l ++ [a])[i]?.getD 0) (l.length + 1) = sm (fun i => l[i]?.getD 0) l.length + a := by
    show sm (fun i => (l ++ [a])[i]?.getD 0) l.length + (l ++ [a])[l.length]?.getD 0 = _
    rw [hsm, List.getElem?_append_right (Nat.le_refl _), Nat.sub_self]
    rfl
  unfold pkA
  rw [hc, h4, h3, xw_nat (by omega), if_pos (by omega), toNat_nat, xw_id (x := mxl l) (by omega) (by omega), xw_id (x := a) (by omega) (by omega)]
  funext j k
  have hk : (l ++ [a])[k]? = if k = l.length then some a else l[k]? := by
    by_cases hi : k = l.length
    · rw [if_pos hi, hi, List.getElem?_append_right (Nat.le_refl _), Nat.sub_self]; rfl
    · rw [if_neg hi]
      by_cases hi2 : k < l.length
      · rw [List.getElem?_append_left hi2]
      · rw [List.getElem?_eq_none (by simp; omega), List.getElem?_eq_none (by omega)]
  unfold xset
  by_cases h0 : j = 0
  · subst h0
    have e4 : mxl (l ++ [a]) = if mxl l < a then a else mxl l := mxl_app l a
    by_cases k4 : k = 4
    · subst k4
      simp [pkO, e4]
    · by_cases k3 : k = 3
      · subst k3
        simp [pkO, hsa]
      · by_cases k2 : k = 2
        · subst k2
          simp [pkO]
        · simp [pkO, k2, k3, k4]
  · by_cases h1 : j = 1
    · subst h1
      simp only [pkO, hk]
      by_cases hi : k = l.length <;> simp [hi]
    · simp [pkO, h0, h1]
theorem GiG_pkO (p r : Ob) (l : List Int) (hl : l.length ≤ 11) (hm : ∀ b ∈ l, 1 ≤ b ∧ b ≤ 200) (hr : rk r = true) (hg : ∀ j, j < (r 0 2).toNat → 0 ≤ r 2 j ∧ r 2 j ≤ 200) : GiG (pkO p l) r := by
  have hc : pkO p l 0 2 = (l.length : Int) := rfl
  have hit : ∀ i, i < l.length → ∃ a, l[i]? = some a ∧ a ∈ l ∧ pkO p l 1 i = a := fun i hi => by
    refine ⟨l[i], List.getElem?_eq_getElem hi, List.getElem_mem hi, ?_⟩
    show (match l[i]? with | some a => a | none => p 1 i) = _
    rw [List.getElem?_eq_getElem hi]
  have hmx := mxl_ge l
  unfold GiG
  rw [hc, toNat_nat]
  refine ⟨by omega, by omega, fun i hi => ?_, ?_, fun i hi => ?_, ?_, hr, hg⟩
  · obtain ⟨a, -, h2, h3⟩ := hit i hi
    rw [h3]; exact hm a h2
  · show sm (fun i => l[i]?.getD 0) l.length = _
    exact sm_cong (fun i hi => by
      obtain ⟨a, h1, h2, h3⟩ := hit i hi
      rw [h3, h1]; rfl)
  · obtain ⟨a, -, h2, h3⟩ := hit i hi
    rw [h3]; exact hmx.2.1 a h2
  · rcases hmx.2.2 with h | h
    · exact Or.inl h
    · obtain ⟨i, hi⟩ := List.getElem?_of_mem h
      have hil := (List.getElem?_eq_some_iff.mp hi).1
      obtain ⟨a, h1, h2, h3⟩ := hit i hil
      rw [hi] at h1
      cases h1
      exact Or.inr ⟨i, hil, h3⟩
/-- the lengths of the blocks of a set of handles -/
def its (h : Ob) (s : Int) : List Int := ((List.range 8).filter (fun (i : Nat) => inS s (i : Int))).map (fun i => h 2 i + 1)
theorem its_mem {h : Ob} (hL : LW h) (s : Int) : ∀ b ∈ its h s, 1 ≤ b ∧ b ≤ 200 := by
  intro b hb
  obtain ⟨i, hi, rfl⟩ := List.mem_map.mp hb
  have := List.mem_range.mp (List.mem_filter.mp hi).1
  have := hL.2.2.2.1 i (by omega)
  omega
theorem its_len (h : Ob) (s : Int) : (its h s).length ≤ 8 := by
  unfold its
  rw [List.length_map]
  exact Nat.le_trans (List.length_filter_le _ _) (by simp)
theorem pkF_its {h : Ob} (hL : LW h) (p : Ob) (s : Int) : pkF p h s = pkO p (its h s) := by
  rw [pkF_e]
  unfold pkFI its
  rw [pkO_nil]
  have key : ∀ n, n ≤ 8 → (List.range n).foldl (fun (g : Ob) (i : Nat) => if inS s (i : Int) then pkA g (h 2 i + 1) else g) (pkO p []) = pkO p (((List.range n).filter (fun (i : Nat) => inS s (i : Int))).map (fun i => h 2 i + 1)) := by
    intro n
    induction n with
    | zero => intro _; rfl
    | succ n ih =>
      intro hn
      rw [List.range_succ, List.foldl_append, ih (by omega), List.filter_append, List.map_append]
      simp only [List.foldl_cons, List.foldl_nil, List.filter_cons, List.filter_nil]
      cases hs : inS s (n : Int)
      · simp
      · simp only [if_true, List.map_cons, List.map_nil]
        refine pkO_add p _ _ ?_ ?_ ?_
        · rw [List.length_map]
          exact Nat.lt_of_le_of_lt (List.length_filter_le _ _) (by simp; omega)
        · have := hL.2.2.2.1 n (by omega)
          omega
        · intro b hb
          obtain ⟨i, hi, rfl⟩ := List.mem_map.mp hb
          have := List.mem_range.mp (List.mem_filter.mp hi).1
          have := hL.2.2.2.1 i (by omega)
          omega
  exact key 8 (by omega)
/-- the gaps of a set, as Runs.read leaves them -/
theorem LW.gaps {h : Ob} (hL : LW h) (r : Ob) (s : Int) : rk (rdO r (rnl h s (h 0 9))) = true ∧ ∀ j, j < (rdO r (rnl h s (h 0 9)) 0 2).toNat → 0 ≤ rdO r (rnl h s (h 0 9)) 2 j ∧ rdO r (rnl h s (h 0 9)) 2 j ≤ 200 := by
  obtain ⟨z1, z2, z3, -⟩ := id hL
  have hlen := rnl_len hL (s := s) (e := h 0 9) (Int.le_refl _) (by omega)
  have hM := hL.mr (s := s) (e := h 0 9) (Int.le_refl _) (by omega)
  refine ⟨rk_iff.mpr (by rw [rdO_cnt]; omega), fun j hj => ?_⟩
  rw [rdO_cnt, toNat_nat] at hj
  have hq := List.getElem?_eq_getElem hj
  have := MR_mem hM _ (List.getElem_mem hj)
  rw [(rdO_at r hq).2]
  omega
theorem LW.giG {h : Ob} (hL : LW h) (p r : Ob) (s n : Int) (hn : 1 ≤ n) (hn2 : n ≤ 200) : GiG (pkA (pkF p h s) n) (rdO r (rnl h s (h 0 9))) := by
  have h1 := hL.gaps r s
  have h2 := its_len h s
  have h3 := its_mem hL s
  rw [pkF_its hL, pkO_add p _ n (by omega) ⟨hn, hn2⟩ h3]
  exact GiG_pkO _ _ _ (by rw [List.length_append, List.length_singleton]; omega) (fun b hb => by
    rcases List.mem_append.mp hb with hb | hb
    · exact h3 b hb
    · rw [List.mem_singleton.mp hb]; omega) h1.1 h1.2
