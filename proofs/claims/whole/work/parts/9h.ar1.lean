/-- the number of a way: the last block's gap counts least -/
def Nw (G : Nat) : List Nat → Nat
  | [] => 0
  | a :: w => a * G ^ w.length + Nw G w
theorem Nw_lt {G : Nat} : ∀ {w : List Nat}, (∀ a ∈ w, a < G) → Nw G w < G ^ w.length
  | [], _ => by show 0 < G ^ 0; rw [Nat.pow_zero]; omega
  | a :: w, h => by
    have h1 := Nw_lt (w := w) (fun x hx => h x (by simp [hx]))
    have h2 := h a (by simp)
    show a * G ^ w.length + Nw G w < G ^ (w.length + 1)
    have h3 : (a + 1) * G ^ w.length ≤ G * G ^ w.length := Nat.mul_le_mul_right _ h2
    rw [Nat.pow_succ, Nat.mul_comm (G ^ w.length) G]
    rw [Nat.add_mul, Nat.one_mul] at h3
    omega
theorem Nw_inj {G : Nat} : ∀ {w v : List Nat}, w.length = v.length → (∀ a ∈ w, a < G) → (∀ a ∈ v, a < G) → Nw G w = Nw G v → w = v
  | [], [], _, _, _, _ => rfl
  | [], b :: v, h, _, _, _ => by simp at h
  | a :: w, [], h, _, _, _ => by simp at h
  | a :: w, b :: v, h, hw, hv, e => by
    have hl : w.length = v.length := by simpa using h
    have l1 := Nw_lt (w := w) (fun x hx => hw x (by simp [hx]))
    have l2 := Nw_lt (w := v) (fun x hx => hv x (by simp [hx]))
    have e : a * G ^ w.length + Nw G w = b * G ^ v.length + Nw G v := e
    rw [← hl] at e l2
    have hab : a = b := by
      rcases Nat.lt_trichotomy a b with z | z | z
      · have : (a + 1) * G ^ w.length ≤ b * G ^ w.length := Nat.mul_le_mul_right _ z
        rw [Nat.add_mul, Nat.one_mul] at this
        omega
      · exact z
      · have : (b + 1) * G ^ w.length ≤ a * G ^ w.length := Nat.mul_le_mul_right _ z
        rw [Nat.add_mul, Nat.one_mul] at this
        omega
    subst hab
    rw [Nw_inj hl (fun x hx => hw x (by simp [hx])) (fun x hx => hv x (by simp [hx])) (by omega)]
theorem Nw_head {G a b : Nat} {w v : List Nat} (hl : w.length = v.length) (hw : ∀ x ∈ w, x < G) (hab : a < b) : Nw G (a :: w) ≤ Nw G (b :: v) := by
  have l1 := Nw_lt hw
  show a * G ^ w.length + Nw G w ≤ b * G ^ v.length + Nw G v
  rw [← hl]
  have : (a + 1) * G ^ w.length ≤ b * G ^ w.length := Nat.mul_le_mul_right _ hab
  rw [Nat.add_mul, Nat.one_mul] at this
  omega
theorem Nw_app {G : Nat} : ∀ (p s : List Nat), Nw G (p ++ s) = Nw G p * G ^ s.length + Nw G s
  | [], s => by show Nw G s = 0 * _ + _; omega
  | a :: p, s => by
    show a * G ^ (p ++ s).length + Nw G (p ++ s) = (a * G ^ p.length + Nw G p) * G ^ s.length + Nw G s
    rw [Nw_app p s, List.length_append, Nat.pow_add, Nat.add_mul, Nat.mul_assoc]
    omega
theorem Nw_zero {G : Nat} : ∀ r : Nat, Nw G (List.replicate r 0) = 0
  | 0 => rfl
  | r + 1 => by
    rw [List.replicate_succ]
    show 0 * _ + Nw G (List.replicate r 0) = 0
    rw [Nw_zero r]
    omega
theorem Nw_top {G : Nat} (hG : 1 ≤ G) : ∀ r : Nat, Nw G (List.replicate r (G - 1)) + 1 = G ^ r
  | 0 => by show 0 + 1 = G ^ 0; rw [Nat.pow_zero]
  | r + 1 => by
    rw [List.replicate_succ]
    show (G - 1) * G ^ (List.replicate r (G - 1)).length + Nw G (List.replicate r (G - 1)) + 1 = _
    have := Nw_top hG r
    rw [List.length_replicate, Nat.add_assoc, this, Nat.pow_succ, Nat.mul_comm (G ^ r) G]
    have h2 : (G - 1 + 1) * G ^ r = G * G ^ r := by rw [show G - 1 + 1 = G by omega]
    rw [Nat.add_mul, Nat.one_mul] at h2
    exact h2
/-- what a way gives to a gap; how many it gives to another -/
def ldw (l : Nat → Int) : Nat → List Nat → Nat → Int
  | _, [], _ => 0
  | k, a :: w, g => (if a = g then l k else 0) + ldw l (k + 1) w g
def mvw (o : Nat → Int) : Nat → List Nat → Int
  | _, [] => 0
  | k, a :: w => (if (a : Int) = o k then 0 else 1) + mvw o (k + 1) w
theorem mvw_bd (o : Nat → Int) : ∀ (k : Nat) (w : List Nat), 0 ≤ mvw o k w ∧ mvw o k w ≤ (w.length : Int)
  | _, [] => ⟨Int.le_refl _, Int.le_refl _⟩
  | k, a :: w => by
    have := mvw_bd o (k + 1) w
    show 0 ≤ (if (a : Int) = o k then (0 : Int) else 1) + mvw o (k + 1) w ∧ (if (a : Int) = o k then (0 : Int) else 1) + mvw o (k + 1) w ≤ ((w.length + 1 : Nat) : Int)
    split <;> omega
theorem ldw_nn {l : Nat → Int} {g K : Nat} (hl : ∀ j, j < K → 0 ≤ l j) : ∀ (k : Nat) (w : List Nat), k + w.length ≤ K → 0 ≤ ldw l k w g
  | _, [], _ => Int.le_refl _
  | k, a :: w, h => by
    have h : k + (w.length + 1) ≤ K := h
    have := ldw_nn hl (g := g) (k + 1) w (by omega)
    have h2 := hl k (by omega)
    show 0 ≤ (if a = g then l k else 0) + ldw l (k + 1) w g
    split <;> omega
/-- a way from the k-th on, with at most mv given to another -/
def VW (G : Nat) (n : Int) (l o : Nat → Int) : Nat → Int → (Nat → Int) → List Nat → Prop
  | _, _, lf, [] => ∃ g, g < G ∧ n ≤ lf g
  | k, mv, lf, g :: w => g < G ∧ l k ≤ lf g ∧ 0 ≤ (if (g : Int) = o k then mv else mv - 1) ∧ VW G n l o (k + 1) (if (g : Int) = o k then mv else mv - 1) (pup lf g (l k)) w
theorem VW_cong {G : Nat} {n : Int} {l o : Nat → Int} : ∀ {w : List Nat} {k : Nat} {mv : Int} {lf lf' : Nat → Int}, (∀ g, g < G → lf g = lf' g) → VW G n l o k mv lf w → VW G n l o k mv lf' w
  | [], k, mv, lf, lf', h, ⟨g, g1, g2⟩ => ⟨g, g1, by rw [← h g g1]; exact g2⟩
  | a :: w, k, mv, lf, lf', h, ⟨h1, h2, h3, h4⟩ => ⟨h1, by rw [← h a h1]; exact h2, h3, VW_cong (fun g hg => by
      unfold pup
      rw [h g hg]) h4⟩
theorem VW_room {G : Nat} {n : Int} {l o : Nat → Int} {K : Nat} (hl : ∀ j, j < K → 0 ≤ l j) : ∀ {w : List Nat} {k : Nat} {mv : Int} {lf : Nat → Int}, k + w.length ≤ K → VW G n l o k mv lf w → ∃ g, g < G ∧ n ≤ lf g
  | [], k, mv, lf, _, h => h
  | a :: w, k, mv, lf, hk, ⟨h1, h2, h3, h4⟩ => by
    have hk : k + (w.length + 1) ≤ K := hk
    obtain ⟨g, g1, g2⟩ := VW_room hl (k := k + 1) (by omega) h4
    refine ⟨g, g1, ?_⟩
    have := hl k (by omega)
    unfold pup at g2
    split at g2 <;> omega
theorem VW_iff {G : Nat} {n : Int} {l o : Nat → Int} {K : Nat} (hl : ∀ j, j < K → 0 ≤ l j) : ∀ {w : List Nat} {k : Nat} {mv : Int} {lf : Nat → Int}, k + w.length ≤ K → 0 ≤ mv → (∀ g, g < G → 0 ≤ lf g) → (VW G n l o k mv lf w ↔ (∀ a ∈ w, a < G) ∧ (∀ g, g < G → ldw l k w g ≤ lf g) ∧ (∃ g, g < G ∧ n ≤ lf g - ldw l k w g) ∧ mvw o k w ≤ mv)
  | [], k, mv, lf, _, hm, hlf => by
    constructor
    · rintro ⟨g, g1, g2⟩
      exact ⟨fun a ha => absurd ha List.not_mem_nil, hlf, ⟨g, g1, by show n ≤ lf g - 0; omega⟩, hm⟩
    · rintro ⟨-, -, ⟨g, g1, g2⟩, -⟩
      have g2 : n ≤ lf g - 0 := g2
      exact ⟨g, g1, by omega⟩
  | a :: w, k, mv, lf, hk, hm, hlf => by
    have hk : k + (w.length + 1) ≤ K := hk
    have hlk := hl k (by omega)
    have ep : ∀ g, pup lf a (l k) g - ldw l (k + 1) w g = lf g - ldw l k (a :: w) g := fun g => by
      show _ = lf g - ((if a = g then l k else 0) + ldw l (k + 1) w g)
      unfold pup
      by_cases hga : g = a
      · rw [if_pos hga, if_pos hga.symm]; omega
      · rw [if_neg hga, if_neg (fun z => hga z.symm)]; omega
    have em : mvw o k (a :: w) ≤ mv ↔ mvw o (k + 1) w ≤ (if (a : Int) = o k then mv else mv - 1) := by
      show (if (a : Int) = o k then (0 : Int) else 1) + mvw o (k + 1) w ≤ mv ↔ _
      split <;> omega
    constructor
    · rintro ⟨h1, h2, h3, h4⟩
      have hlf' : ∀ g, g < G → 0 ≤ pup lf a (l k) g := fun g hg => by
        have := hlf g hg
        unfold pup
        split
        · rename_i e; rw [e]; omega
        · exact this
      obtain ⟨r1, r2, ⟨g, r3, r4⟩, r5⟩ := (VW_iff hl (k := k + 1) (by omega) h3 hlf').mp h4
      refine ⟨fun x hx => ?_, fun g hg => ?_, ⟨g, r3, by rw [← ep]; exact r4⟩, em.mpr r5⟩
      · rcases List.mem_cons.mp hx with hx | hx
        · rw [hx]; exact h1
        · exact r1 x hx
      · have := r2 g hg
        have := ep g
        omega
    · rintro ⟨r1, r2, ⟨g, r3, r4⟩, r5⟩
      have h1 : a < G := r1 a (by simp)
      have hnn := ldw_nn hl (g := a) (k + 1) w (by omega)
      have h2 : l k ≤ lf a := by
        have := r2 a h1
        have e : ldw l k (a :: w) a = (if a = a then l k else 0) + ldw l (k + 1) w a := rfl
        rw [e, if_pos rfl] at this
        omega
      have hmw := mvw_bd o (k + 1) w
      have h5 := em.mp r5
      have h3 : 0 ≤ (if (a : Int) = o k then mv else mv - 1) := by omega
      have hlf' : ∀ g, g < G → 0 ≤ pup lf a (l k) g := fun g hg => by
        have := hlf g hg
        unfold pup
        split
        · rename_i e; rw [e]; omega
        · exact this
      refine ⟨h1, h2, h3, (VW_iff hl (k := k + 1) (by omega) h3 hlf').mpr ⟨fun x hx => r1 x (by simp [hx]), fun g hg => ?_, ⟨g, r3, by rw [ep]; exact r4⟩, h5⟩⟩
      have := r2 g hg
      have := ep g
      omega
/-- all ways; the best: fewest moves, then the least number -/
def Val (G : Nat) (n : Int) (l sz : Nat → Int) (K : Nat) (w : List Nat) : Prop := w.length = K ∧ (∀ a ∈ w, a < G) ∧ (∀ g, g < G → ldw l 0 w g ≤ sz g) ∧ ∃ g, g < G ∧ n ≤ sz g - ldw l 0 w g
def Bst (G : Nat) (n : Int) (l o sz : Nat → Int) (K : Nat) (w : List Nat) : Prop := Val G n l sz K w ∧ ∀ w', Val G n l sz K w' → mvw o 0 w < mvw o 0 w' ∨ (mvw o 0 w = mvw o 0 w' ∧ Nw G w ≤ Nw G w')
theorem Bst_uniq {G : Nat} {n : Int} {l o sz : Nat → Int} {K : Nat} {w v : List Nat} (h1 : Bst G n l o sz K w) (h2 : Bst G n l o sz K v) : w = v := by
  obtain ⟨a1, a2⟩ := h1
  obtain ⟨b1, b2⟩ := h2
  have x1 := a2 v b1
  have x2 := b2 w a1
  exact Nw_inj (by rw [a1.1, b1.1]) a1.2.1 b1.2.1 (by omega)
theorem PkI_way {G : Nat} {l : Nat → Int} : ∀ {I : List Int} {k : Nat} {lf : Nat → Int}, (∀ i v, I[i]? = some v → v = l (k + i)) → PkI I lf (fun j => j < G) → ∃ w : List Nat, w.length = I.length ∧ (∀ a ∈ w, a < G) ∧ ∀ g, g < G → ldw l k w g ≤ lf g
  | [], k, lf, _, h => ⟨[], rfl, fun a ha => absurd ha List.not_mem_nil, fun g hg => h g hg⟩
  | x :: I, k, lf, hI, ⟨j, h1, h2⟩ => by
    have hx : x = l k := hI 0 x rfl
    obtain ⟨w, w1, w2, w3⟩ := PkI_way (k := k + 1) (fun i v hv => by rw [hI (i + 1) v hv]; congr 1; omega) h2
    refine ⟨j :: w, by simp [w1], fun a ha => ?_, fun g hg => ?_⟩
    · rcases List.mem_cons.mp ha with ha | ha
      · rw [ha]; exact h1
      · exact w2 a ha
    · have := w3 g hg
      show (if j = g then l k else 0) + ldw l (k + 1) w g ≤ lf g
      unfold pup at this
      by_cases hgj : g = j
      · rw [if_pos hgj] at this
        rw [if_pos hgj.symm]
        omega
      · rw [if_neg hgj] at this
        rw [if_neg (fun z => hgj z.symm)]
        omega
/-- where there is room, there is a best way -/
theorem Val_ex {G : Nat} {n : Int} (hn : 0 ≤ n) {l sz : Nat → Int} {I : List Int} (hI : ∀ i v, I[i]? = some v → v = l i) (h : PkI (n :: I) sz (fun j => j < G)) : ∃ w, Val G n l sz I.length w := by
  obtain ⟨j, h1, h2⟩ := h
  obtain ⟨w, w1, w2, w3⟩ := PkI_way (k := 0) (l := l) (fun i v hv => by rw [hI i v hv]; congr 1; omega) h2
  refine ⟨w, w1, w2, fun g hg => ?_, ⟨j, h1, ?_⟩⟩
  · have := w3 g hg
    unfold pup at this
    split at this <;> omega
  · have := w3 j h1
    unfold pup at this
    rw [if_pos rfl] at this
    omega
