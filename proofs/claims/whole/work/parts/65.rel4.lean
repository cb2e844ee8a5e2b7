theorem HI.mono {T T' : Int} {h : Ob} (hH : HI T h) (hT : T ≤ T') : HI T' h := by
  obtain ⟨h1, h2, h3, h4, h5, h6, h7⟩ := hH
  exact ⟨h1, h2, ⟨h3.1, by omega⟩, ⟨h4.1, by omega⟩, h5, h6, h7⟩
/-- two heaps that can't be told apart -/
def Sam (h g : Ob) : Prop := (∀ i, i < 11 → g 1 i = h 1 i ∧ g 2 i = h 2 i) ∧ (∀ i, i < 660 → g 3 i = h 3 i) ∧ (∀ i, i < 8 → g 4 i = h 4 i ∧ g 5 i = h 5 i ∧ g 6 i = h 6 i ∧ g 7 i = h 7 i) ∧ ∀ k, 7 ≤ k → k < 14 → g 0 k = h 0 k
theorem Sam_cpy (k h : Ob) : Sam h (cpyO k h) := by
  refine ⟨fun i hi => ⟨?_, ?_⟩, fun i hi => ?_, fun i hi => ⟨?_, ?_, ?_, ?_⟩, fun i h1 h2 => ?_⟩ <;> unfold cpyO <;> rw [if_pos (by omega)]
theorem LW_Sam {h g : Ob} (hS : Sam h g) (hL : LW h) : LW g := by
  obtain ⟨s1, s2, s3, s4⟩ := hS
  obtain ⟨z1, z2, z3, z4, z5, z6⟩ := hL
  have e9 := s4 9 (by decide) (by decide)
  have e10 := s4 10 (by decide) (by decide)
  refine ⟨by omega, by omega, by omega, fun i hi => ?_, fun i j hi hj hij => ?_, fun i hi => ?_⟩
  · obtain ⟨a, b⟩ := s1 i hi
    rw [a, b, e9]
    exact z4 i hi
  · obtain ⟨a, b⟩ := s1 i hi
    obtain ⟨c, d⟩ := s1 j hj
    rw [a, b, c, d]
    exact z5 i j hi hj hij
  · rw [(s3 i hi).1]
    exact z6 i hi
theorem HI_Sam {T : Int} {h g : Ob} (hS : Sam h g) (hH : HI T h) : HI T g := by
  obtain ⟨h1, h2, h3, h4, h5, h6, h7⟩ := hH
  have hL := LW_Sam hS h1
  obtain ⟨s1, s2, s3, s4⟩ := hS
  have e7 := s4 7 (by decide) (by decide)
  have e8 := s4 8 (by decide) (by decide)
  have e11 := s4 11 (by decide) (by decide)
  have e12 := s4 12 (by decide) (by decide)
  have e13 := s4 13 (by decide) (by decide)
  refine ⟨hL, fun i hi => ?_, by rw [e11]; exact h3, by rw [e13]; exact h4, by rw [e12]; exact h5, by rw [e7]; exact h6, by rw [e8]; exact h7⟩
  obtain ⟨a, b⟩ := s1 i (by omega)
  obtain ⟨c, d, e, f⟩ := s3 i hi
  rw [a, b, c, d, e, f, e7, e11]
  exact h2 i hi
theorem Rel_Sam {h g : Ob} {q : Nat → Int} (hS : Sam h g) (hH : LW h) (hR : Rel h q) : Rel g q := by
  obtain ⟨s1, s2, s3, s4⟩ := hS
  obtain ⟨r1, r2, r3, r4⟩ := hR
  refine ⟨by rw [s4 9 (by decide) (by decide), s4 10 (by decide) (by decide), s4 11 (by decide) (by decide), s4 12 (by decide) (by decide), s4 13 (by decide) (by decide)]; exact r1, fun i hi => ?_, fun p hp => ?_, fun i hi hne k hk => ?_⟩
  · unfold RelH
    obtain ⟨a, b⟩ := s1 i (by omega)
    obtain ⟨c, d, e, f⟩ := s3 i hi
    rw [a, b, c, d, e, f, s4 7 (by decide) (by decide), s4 8 (by decide) (by decide)]
    exact r2 i hi
  · unfold RelP
    obtain ⟨a, b⟩ := s1 (8 + p) (by omega)
    rw [a, b]
    exact r3 p hp
  · obtain ⟨a, b⟩ := s1 i hi
    rw [a] at hne
    rw [b] at hk
    have hz := hH.2.2.2.1 i hi
    rw [s2 (60 * i + k) (by omega)]
    exact r4 i hi hne k hk
theorem Rel_cong {h : Ob} {q q' : Nat → Int} (hL : LW h) (e : ∀ k, k < 735 → q' k = q k) (hR : Rel h q) : Rel h q' := by
  obtain ⟨r1, r2, r3, r4⟩ := hR
  refine ⟨by rw [e 0 (by decide), e 1 (by decide), e 2 (by decide), e 3 (by decide), e 4 (by decide)]; exact r1, fun i hi => ?_, fun p hp => ?_, fun i hi hne k hk => ?_⟩
  · unfold RelH
    rw [e (5 + i) (by omega), e (13 + i) (by omega), e (29 + i) (by omega), e (21 + i) (by omega), e (37 + i) (by omega), e (45 + i) (by omega), e (53 + i) (by omega), e (61 + i) (by omega)]
    exact r2 i hi
  · unfold RelP
    rw [e (69 + p) (by omega), e (72 + p) (by omega)]
    exact r3 p hp
  · have hz := hL.2.2.2.1 i hi
    rw [e _ (by omega)]
    exact r4 i hi hne k hk
/-- the acts that are kept: the class's ring, the reference's rows -/
def InvP (T : Int) (P : Ob) (K : List Ob) (m : Ob) : Prop := PG P ∧ (P 0 3 = 0 ∨ P 0 3 = 1 ∧ 1 ≤ P 0 2) ∧ m 0 3 = P 0 2 ∧ m 0 4 = P 0 3 ∧ ∀ i : Nat, (i : Int) < P 0 2 → HI T (getO K ((P 0 1 + (i : Int)) % 13).toNat) ∧ Rel (getO K ((P 0 1 + (i : Int)) % 13).toNat) (fun k => m 3 (735 * i + k))
theorem svK_get (P h k0 k1 k2 k3 k4 k5 k6 k7 k8 k9 k10 k11 k12 : Ob) (j : Nat) (hj : j < 13) : getO [svK P 0 k0 h, svK P 1 k1 h, svK P 2 k2 h, svK P 3 k3 h, svK P 4 k4 h, svK P 5 k5 h, svK P 6 k6 h, svK P 7 k7 h, svK P 8 k8 h, svK P 9 k9 h, svK P 10 k10 h, svK P 11 k11 h, svK P 12 k12 h] j = svK P (j : Int) (getO [k0, k1, k2, k3, k4, k5, k6, k7, k8, k9, k10, k11, k12] j) h := by
  have hc : j = 0 ∨ j = 1 ∨ j = 2 ∨ j = 3 ∨ j = 4 ∨ j = 5 ∨ j = 6 ∨ j = 7 ∨ j = 8 ∨ j = 9 ∨ j = 10 ∨ j = 11 ∨ j = 12 := by omega
  rcases hc with rfl | rfl | rfl | rfl | rfl | rfl | rfl | rfl | rfl | rfl | rfl | rfl | rfl <;> rfl
theorem xrem13 {x : Int} (h1 : 0 ≤ x) (h2 : x ≤ 13) : xrem x 13 = x % 13 := by
  have : ∀ n : Fin 14, xrem ((n : Nat) : Int) 13 = ((n : Nat) : Int) % 13 := by decide +kernel
  have := this ⟨x.toNat, by omega⟩
  rwa [show ((x.toNat : Nat) : Int) = x by omega] at this
/-- an act is done: what is kept then -/
theorem InvP.act {T : Int} {P h m m1 : Ob} {k0 k1 k2 k3 k4 k5 k6 k7 k8 k9 k10 k11 k12 : Ob} (hI : InvP T P [k0, k1, k2, k3, k4, k5, k6, k7, k8, k9, k10, k11, k12] m) (hH : HI T h) (hA : Rel h (m1 2)) (e3 : m1 3 = m 3) (e03 : m1 0 3 = m 0 3) : ∃ m2, md_X8_keepsAct_0 xfu m1 = RV [m2] ∧ InvP T (keeO P) [svK P 0 k0 h, svK P 1 k1 h, svK P 2 k2 h, svK P 3 k3 h, svK P 4 k4 h, svK P 5 k5 h, svK P 6 k6 h, svK P 7 k7 h, svK P 8 k8 h, svK P 9 k9 h, svK P 10 k10 h, svK P 11 k11 h, svK P 12 k12 h] m2 ∧ m2 1 = (fun k => if k = 3 then m1 1 3 + 1 else m1 1 k) := by
  obtain ⟨⟨g1, g2, g3, g4⟩, i2, i3, i4, i5⟩ := hI
  have eu : m1 0 3 = ((P 0 2).toNat : Int) := by rw [e03, i3]; omega
  have hfl : flm (P 0 1 + P 0 2) = (P 0 1 + P 0 2) % 13 := flm_e _
  have hsv : ∀ j : Nat, j < 13 → getO [svK P 0 k0 h, svK P 1 k1 h, svK P 2 k2 h, svK P 3 k3 h, svK P 4 k4 h, svK P 5 k5 h, svK P 6 k6 h, svK P 7 k7 h, svK P 8 k8 h, svK P 9 k9 h, svK P 10 k10 h, svK P 11 k11 h, svK P 12 k12 h] j = if (P 0 1 + P 0 2) % 13 = (j : Int) then cpyO (getO [k0, k1, k2, k3, k4, k5, k6, k7, k8, k9, k10, k11, k12] j) h else getO [k0, k1, k2, k3, k4, k5, k6, k7, k8, k9, k10, k11, k12] j := by
    intro j hj
    rw [svK_get P h k0 k1 k2 k3 k4 k5 k6 k7 k8 k9 k10 k11 k12 j hj]
    unfold svK
    rw [hfl]
  refine ⟨_, r_keepsAct xfu (xfu_ge (by decide)) m1 (P 0 2).toNat (by omega) eu, ?_, ?_⟩
  · by_cases h12 : P 0 2 = 12
    · rw [if_pos (by omega)]
      have hk : keeO P = xset (xset P 0 1 ((P 0 1 + 1) % 13)) 0 3 1 := by
        unfold keeO
        rw [if_pos (by rw [xw_id (by omega) (by omega)]; omega), xrem13 (by omega) (by omega)]
      have k1 : keeO P 0 1 = (P 0 1 + 1) % 13 := by rw [hk]; rfl
      have k2 : keeO P 0 2 = 12 := by rw [hk, ← h12]; rfl
      have k3 : keeO P 0 3 = 1 := by rw [hk]; rfl
      refine ⟨⟨by rw [k1]; omega, by rw [k1]; omega, by rw [k2]; omega, by rw [k2]; omega⟩, Or.inr ⟨k3, by rw [k2]; omega⟩, by rw [k2]; rfl, by rw [k3]; rfl, fun i hi => ?_⟩
      rw [k1]
      rw [k2] at hi
      have hmod : ((P 0 1 + 1) % 13 + (i : Int)) % 13 = (P 0 1 + ((i + 1 : Nat) : Int)) % 13 := by push_cast; omega
      rw [hmod, hsv _ (by omega)]
      by_cases h11 : i = 11
      · have e1 : (P 0 1 + P 0 2) % 13 = ((((P 0 1 + ((i + 1 : Nat) : Int)) % 13).toNat : Nat) : Int) := by rw [h11, h12]; omega
        rw [if_pos e1]
        refine ⟨HI_Sam (Sam_cpy _ _) hH, Rel_cong (LW_Sam (Sam_cpy _ _) hH.1) (fun k hk => ?_) (Rel_Sam (Sam_cpy _ _) hH.1 hA)⟩
        subst h11
        show k2O (xset (shO m1) 0 3 11) 11 3 (735 * 11 + k) = m1 2 k
        unfold k2O k1O
        rw [if_neg (by omega), if_neg (by omega), if_neg (by omega), if_pos ⟨rfl, by omega, by omega⟩, show 735 * 11 + k - 735 * 11 = k by omega]
        rfl
      · have e1 : ¬ (P 0 1 + P 0 2) % 13 = ((((P 0 1 + ((i + 1 : Nat) : Int)) % 13).toNat : Nat) : Int) := by rw [h12]; push_cast; omega
        rw [if_neg e1]
        obtain ⟨a, b⟩ := i5 (i + 1) (by push_cast; omega)
        refine ⟨a, Rel_cong a.1 (fun k hk => ?_) b⟩
        show k2O (xset (shO m1) 0 3 11) 11 3 (735 * i + k) = m 3 (735 * (i + 1) + k)
        unfold k2O k1O
        rw [if_neg (by omega), if_neg (by omega), if_neg (by omega), if_neg (by omega)]
        show shO m1 3 (735 * i + k) = _
        unfold shO
        rw [if_pos ⟨rfl, by omega⟩, e3, show 735 * i + k + 735 = 735 * (i + 1) + k by omega]
    · rw [if_neg (by omega)]
      have hk : keeO P = xset (xset P 0 2 (P 0 2 + 1)) 0 3 1 := by
        unfold keeO
        rw [if_neg (by rw [xw_id (by omega) (by omega)]; omega)]
      have k1 : keeO P 0 1 = P 0 1 := by rw [hk]; rfl
      have k2 : keeO P 0 2 = P 0 2 + 1 := by rw [hk]; rfl
      have k3 : keeO P 0 3 = 1 := by rw [hk]; rfl
      refine ⟨⟨by rw [k1]; omega, by rw [k1]; omega, by rw [k2]; omega, by rw [k2]; omega⟩, Or.inr ⟨k3, by rw [k2]; omega⟩, ?_, by rw [k3]; rfl, fun i hi => ?_⟩
      · rw [k2]
        show (((P 0 2).toNat + 1 : Nat) : Int) = P 0 2 + 1
        push_cast
        omega
      rw [k1]
      rw [k2] at hi
      rw [hsv _ (by omega)]
      by_cases hiu : (i : Int) = P 0 2
      · have e1 : (P 0 1 + P 0 2) % 13 = ((((P 0 1 + (i : Int)) % 13).toNat : Nat) : Int) := by rw [hiu]; omega
        rw [if_pos e1]
        refine ⟨HI_Sam (Sam_cpy _ _) hH, Rel_cong (LW_Sam (Sam_cpy _ _) hH.1) (fun k hk => ?_) (Rel_Sam (Sam_cpy _ _) hH.1 hA)⟩
        have hun : (P 0 2).toNat = i := by omega
        show k2O m1 (P 0 2).toNat 3 (735 * i + k) = m1 2 k
        rw [hun]
        unfold k2O k1O
        rw [if_neg (by omega), if_neg (by omega), if_neg (by omega), if_pos ⟨rfl, by omega, by omega⟩, show 735 * i + k - 735 * i = k by omega]
      · have e1 : ¬ (P 0 1 + P 0 2) % 13 = ((((P 0 1 + (i : Int)) % 13).toNat : Nat) : Int) := by omega
        rw [if_neg e1]
        obtain ⟨a, b⟩ := i5 i (by omega)
        refine ⟨a, Rel_cong a.1 (fun k hk => ?_) b⟩
        show k2O m1 (P 0 2).toNat 3 (735 * i + k) = m 3 (735 * i + k)
        unfold k2O k1O
        rw [if_neg (by omega), if_neg (by omega), if_neg (by omega), if_neg (by omega), e3]
  · split
    · funext k
      unfold k2O
      rw [if_neg (by omega), if_neg (by omega)]
      by_cases hk : k = 3
      · rw [if_pos ⟨rfl, hk⟩, if_pos hk]; rfl
      · rw [if_neg (fun z => hk z.2), if_neg hk]; rfl
    · funext k
      unfold k2O
      rw [if_neg (by omega), if_neg (by omega)]
      by_cases hk : k = 3
      · rw [if_pos ⟨rfl, hk⟩, if_pos hk]
      · rw [if_neg (fun z => hk z.2), if_neg hk]; rfl
