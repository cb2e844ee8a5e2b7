theorem loop_exk {K A S : Type} {B : K → (A → Option Rt) → A → Option Rt} (n : Nat) (R : K → S → Option Rt) (enc : Nat → S → A) (I : Nat → S → Prop) (h1 : ∀ i s, i < n → I i s → ∃ s', (∀ q k, B q k (enc i s) = k (enc (i + 1) s')) ∧ I (i + 1) s') (h2 : ∀ q k s, I n s → B q k (enc n s) = R q s) : ∀ (d i f : Nat) (s : S), i + d = n → d < f → I i s → ∃ s', I n s' ∧ ∀ q, tlp (B q) f (enc i s) = R q s' := by
  intro d
  induction d with
  | zero =>
    intro i f s hi hf hI
    obtain ⟨f, rfl⟩ : ∃ k, f = k + 1 := ⟨f - 1, by omega⟩
    rw [Nat.add_zero] at hi
    subst hi
    exact ⟨s, hI, fun q => by rw [tlp_succ, h2 _ _ _ hI]⟩
  | succ d ih =>
    intro i f s hi hf hI
    obtain ⟨f, rfl⟩ : ∃ k, f = k + 1 := ⟨f - 1, by omega⟩
    obtain ⟨s', e, hI'⟩ := h1 i s (by omega) hI
    obtain ⟨s'', r1, r2⟩ := ih (i + 1) f s' (by omega) (by omega) hI'
    exact ⟨s'', r1, fun q => by rw [tlp_succ, e, r2]⟩
theorem bz_cong {P Q : Prop} (h : P ↔ Q) : bz (pd P) = bz (pd Q) := by rw [propext h]
theorem pks_none {a : Nat → Int} {c S : Nat} {len : Nat → Int} {ok : Nat → Prop} (hS : S < 2 ^ c) (hok : ∀ j, ¬ ok j) : PkS a c S len ok ↔ S = 0 := by
  constructor
  · rintro ⟨f, f1, -⟩
    apply Nat.eq_of_testBit_eq
    intro i
    rw [Nat.zero_testBit]
    cases hb : S.testBit i with
    | false => rfl
    | true =>
      by_cases hi : i < c
      · exact absurd (f1 i hi hb) (hok _)
      · rw [Nat.testBit_lt_two_pow (Nat.lt_of_lt_of_le hS (Nat.pow_le_pow_right (by decide) (by omega)))] at hb
        cases hb
  · rintro rfl
    exact ⟨fun _ => 0, ⟨fun i _ hb => (by rw [Nat.zero_testBit] at hb; cases hb), fun j hj => absurd hj (hok j)⟩⟩
theorem pd_dec (P : Prop) [Decidable P] : pd P = decide P := by
  by_cases h : P
  · rw [pd_t h, decide_eq_true h]
  · cases hq : pd P with
    | true => exact absurd (pd_of hq) h
    | false => simp [h]
theorem ssu_bd {a : Nat → Int} : ∀ {c S : Nat}, (∀ i, i < c → 0 ≤ a i ∧ a i ≤ 200) → 0 ≤ ssu a c S ∧ ssu a c S ≤ 200 * c := by
  intro c S
  unfold ssu
  induction c with
  | zero => intro _; exact ⟨Int.le_refl _, Int.le_refl _⟩
  | succ c ih =>
    intro h
    have h1 := ih (fun i hi => h i (by omega))
    have h2 := h c (by omega)
    unfold lod
    push_cast
    split <;> omega
def GLB (m : Ob) (B : List Nat) : Prop := m 0 11 = (B.length : Int) ∧ B.length ≤ 8 ∧ ∀ t i : Nat, B[t]? = some i → m 7 t = (i : Int) ∧ i < 8
/-- the lengths of those of a set -/
def lit (q : Nat → Int) (B : List Nat) (s : Nat) : List Int := (B.filter (fun i => s.testBit i)).map (fun i => q (21 + i) + 1)
theorem lit_len (q : Nat → Int) (B : List Nat) (s : Nat) : (lit q B s).length ≤ B.length := by
  unfold lit
  rw [List.length_map]
  exact List.length_filter_le _ _
theorem lenM_nat (m : Ob) {i : Nat} (hi : i < 8) : lenM m (i : Int) = m 1 (21 + i) + 1 := by
  unfold lenM
  rw [xw_nat (by omega), toNat_nat]
/-- packing into all rooms but g, one more beside -/
theorem most_iff {a : Nat → Int} {c : Nat} {len : Nat → Int} {G : Nat} {I : List Int} {n : Int} (hI : (sel a c (2 ^ c - 1)).Perm I) : (∃ g, g < G ∧ ∃ r, r < 2 ^ c ∧ n ≤ len g - ssu a c r ∧ PkS a c (2 ^ c - 1 - r) len (fun j => j < G ∧ j ≠ g)) ↔ PkI (n :: I) len (fun j => j < G) := by
  have hpos : 0 < 2 ^ c := Nat.two_pow_pos c
  have hw : 2 ^ c - 1 < 2 ^ c := by omega
  have hsub : ∀ T, T &&& (2 ^ c - 1) = T ↔ T < 2 ^ c := fun T => by
    rw [Nat.and_two_pow_sub_one_eq_mod]
    exact ⟨fun h => by rw [← h]; exact Nat.mod_lt _ hpos, fun h => Nat.mod_eq_of_lt h⟩
  have hpp : ∀ (S : Nat) (g : Nat), PkS a c S (pup len g n) (fun j => j < G ∧ j ≠ g) ↔ PkS a c S len (fun j => j < G ∧ j ≠ g) := fun S g => by
    constructor
    · rintro ⟨f, f1, f2⟩
      exact ⟨f, f1, fun j hj => by have := f2 j hj; unfold pup at this; rwa [if_neg hj.2] at this⟩
    · rintro ⟨f, f1, f2⟩
      exact ⟨f, f1, fun j hj => by have := f2 j hj; unfold pup; rwa [if_neg hj.2]⟩
  constructor
  · rintro ⟨g, hg, r, hr, hn, hP⟩
    refine ⟨g, hg, PkI_perm hI (pks_pki.mp ((pks_split (g := g) (ok := fun j => j < G ∧ j ≠ g) hw (fun z => z.2 rfl) (fun j => ?_)).mpr ⟨r, (hsub r).mpr hr, ?_, (hpp _ _).mpr hP⟩))⟩
    · constructor
      · intro h
        by_cases hj : j = g
        · exact Or.inr hj
        · exact Or.inl ⟨h, hj⟩
      · rintro (h | h)
        · exact h.1
        · rw [h]; exact hg
    · unfold pup
      rw [if_pos rfl]
      omega
  · rintro ⟨g, hg, hP⟩
    obtain ⟨r, r1, r2, r3⟩ := (pks_split (g := g) (ok := fun j => j < G ∧ j ≠ g) hw (fun z => z.2 rfl) (fun j => by
      constructor
      · intro h
        by_cases hj : j = g
        · exact Or.inr hj
        · exact Or.inl ⟨h, hj⟩
      · rintro (h | h)
        · exact h.1
        · rw [h]; exact hg)).mp (pks_pki.mpr (PkI_perm hI.symm hP))
    unfold pup at r2
    rw [if_pos rfl] at r2
    exact ⟨g, hg, r, (hsub r).mp r1, by omega, (hpp _ _).mp r3⟩
theorem r_mostLeft (m : Ob) {L : List (Int × Int)} {B : List Nat} (hG : GL m L) (hL : L.length ≤ 12) (hl : ∀ q ∈ L, 0 ≤ q.2 ∧ q.2 ≤ 200) (hB : GLB m B) (hb : ∀ i, i ∈ B → 0 ≤ m 1 (21 + i) ∧ m 1 (21 + i) ≤ 60) {s : Nat} (hs : s < 256) :
    ∃ v m', ov_X8_mostLeft (s : Int) m = RI v [m'] ∧ -1 ≤ v ∧ v ≤ 200 ∧ (∀ n : Int, 0 ≤ n → (n ≤ v ↔ PkI (n :: lit (m 1) B s) (m 6) (fun j => j < L.length))) ∧ ∀ j, j ≠ 9 → j ≠ 10 → j ≠ 11 → j ≠ 12 → m' j = m j := by
  obtain ⟨hG1, hG2⟩ := hG
  obtain ⟨hB1, hB2, hB3⟩ := hB
  have hf := xfu_ge (n := 5000) (by decide)
  have hm6 : ∀ g, g < L.length → 0 ≤ m 6 g ∧ m 6 g ≤ 200 := fun g hg => by rw [(hG2 g hg).2]; exact hl _ (List.getElem_mem hg)
  rw [ov_X8_mostLeft_e]
  have e1 : md_X8_mostLeft_0 (s : Int) xfu m = tlp (lb_X8_mostLeft_7 (s : Int) xfu) xfu (((0 : Nat) : Int), -1, ((0 : Nat) : Int), m) := rfl
  rw [e1]
  -- the things
  have hmemB : ∀ t i : Nat, B[t]? = some i → i ∈ B := fun t i h => List.mem_of_getElem? h
  obtain ⟨⟨c, m1⟩, ⟨q1, q2, q3⟩, q4⟩ := loop_ex (B := lb_X8_mostLeft_7 (s : Int) xfu) B.length (fun (q : Nat × Ob) => (if oqV (ov_X8_fillsLong (q.1 : Int) q.2) then md_X8_mostLeft_74 (s : Int) xfu ((q.1 : Int), -1, (xshl 1 (q.1 : Int)) - 1, 0, oqO (ov_X8_fillsLong (q.1 : Int) q.2) 0) else none)) (fun i (q : Nat × Ob) => ((q.1 : Int), -1, (i : Int), q.2)) (fun i (q : Nat × Ob) => (∀ j, j ≠ 9 → q.2 j = m j) ∧ q.1 = (lit (m 1) (B.take i) s).length ∧ ∀ (t : Nat) (v : Int), (lit (m 1) (B.take i) s)[t]? = some v → q.2 9 t = v) (fun i q hi hI => by
      obtain ⟨c, mm⟩ := q
      obtain ⟨g1, g2, g3⟩ := hI
      dsimp only at g1 g2 g3
      have hc8 : c ≤ i := by rw [g2]; exact Nat.le_trans (lit_len _ _ _) (by rw [List.length_take]; omega)
      obtain ⟨x, hx⟩ : ∃ x, B[i]? = some x := ⟨B[i], List.getElem?_eq_getElem hi⟩
      obtain ⟨x1, x2⟩ := hB3 i x hx
      have htk : B.take (i + 1) = B.take i ++ [x] := by
        rw [List.take_add_one, hx]; rfl
      have hli : lit (m 1) (B.take (i + 1)) s = lit (m 1) (B.take i) s ++ (if s.testBit x then [m 1 (21 + x) + 1] else []) := by
        rw [htk]
        unfold lit
        rw [List.filter_append, List.map_append]
        cases hsx : s.testBit x <;> simp [hsx]
      have e7 : mm 7 i = (x : Int) := by rw [g1 7 (by decide)]; exact x1
      have e0 : mm 0 11 = (B.length : Int) := by rw [g1 0 (by decide)]; exact hB1
      have eM : lenM mm (x : Int) = m 1 (21 + x) + 1 := by rw [lenM_nat _ x2, g1 1 (by decide)]
      cases hsx : s.testBit x with
      | false =>
        refine ⟨(c, mm), fun k => ?_, g1, ?_, ?_⟩
        · simp only [lb_X8_mostLeft_7, mg_X8_mostLeft_7, md_X8_mostLeft_53, mg_X8_mostLeft_53, xw_nat (show i < 2147483648 by omega), e0, xw_nat (show B.length < 2147483648 by omega), xin_nat (show i < 8 by omega) (show 8 ≤ 2147483648 by omega), toNat_nat, e7, isO_nat (show s < 2147483648 by omega) (show x < 32 by omega), hsx, bz_0, if_true]
          rw [if_neg (show ¬ (i : Int) ≥ (B.length : Int) by omega)]
          rfl
        · rw [hli, hsx]; simp; exact g2
        · rw [hli, hsx]; simp; exact g3
      | true =>
        refine ⟨(c + 1, xset mm 9 c (m 1 (21 + x) + 1)), fun k => ?_, fun j hj => ?_, ?_, fun t v ht => ?_⟩
        · simp only [lb_X8_mostLeft_7, mg_X8_mostLeft_7, md_X8_mostLeft_53, mg_X8_mostLeft_53, xw_nat (show i < 2147483648 by omega), e0, xw_nat (show B.length < 2147483648 by omega), xin_nat (show i < 8 by omega) (show 8 ≤ 2147483648 by omega), toNat_nat, e7, isO_nat (show s < 2147483648 by omega) (show x < 32 by omega), hsx, bz_0, if_true, Bool.true_eq_false, if_false, hdl_nat x2, xin_nat (show c < 12 by omega) (show 12 ≤ 2147483648 by omega), xw_nat (show c < 2147483648 by omega), eM]
          rw [if_neg (show ¬ (i : Int) ≥ (B.length : Int) by omega)]
          rfl
        · funext z
          show xset mm 9 c _ j z = _
          rw [xset_part _ _ _ _ hj, g1 j hj]
        · rw [hli, hsx]; simp; omega
        · rw [hli, hsx, if_pos rfl] at ht
          show xset mm 9 c _ 9 t = v
          by_cases htc : t = c
          · subst htc
            rw [xset_same]
            rw [g2, List.getElem?_append_right (Nat.le_refl _), Nat.sub_self] at ht
            simpa using ht
          · rw [xset_idx _ _ _ _ htc]
            by_cases htl : t < c
            · rw [List.getElem?_append_left (by omega)] at ht
              exact g3 t v ht
            · rw [List.getElem?_eq_none (by simp; omega)] at ht
              cases ht) (fun k q hI => by
      obtain ⟨g1, g2, g3⟩ := hI
      have e0 : q.2 0 11 = (B.length : Int) := by rw [g1 0 (by decide)]; exact hB1
      simp only [lb_X8_mostLeft_7, mg_X8_mostLeft_7, e0]
      rw [if_pos (show xw (B.length : Int) ≥ xw (B.length : Int) by omega)]) B.length 0 xfu (0, m) (by omega) (by omega) ⟨fun j _ => rfl, by simp [lit], fun t v ht => by simp [lit] at ht⟩
  rw [q4]
  dsimp only at q1 q2 q3 ⊢
  rw [List.take_length] at q2 q3
  generalize hI : lit (m 1) B s = I at q2 q3
  have hc8 : c ≤ 8 := by rw [q2, ← hI]; exact Nat.le_trans (lit_len _ _ _) hB2
  have hIb : ∀ v ∈ I, 0 ≤ v ∧ v ≤ 61 := fun v hv => by
    rw [← hI] at hv
    obtain ⟨i, hi, rfl⟩ := List.mem_map.mp hv
    have := hb i (List.mem_filter.mp hi).1
    omega
  obtain ⟨m2, w1, w2, w3⟩ := r_fillsLong m1 (c := c) (by omega)
  simp only [w1, oqV_t, oqO_V, if_true]
  generalize ha : m1 9 = a at w3
  have hat : ∀ t, t < c → I[t]? = some (a t) := fun t ht => by
    have h1 : I[t]? = some I[t] := List.getElem?_eq_getElem (by omega)
    rw [← ha, q3 t _ h1, h1]
  have hab : ∀ t, t < c → 0 ≤ a t ∧ a t ≤ 200 := fun t ht => by
    have := hIb (a t) (List.mem_of_getElem? (hat t ht))
    omega
  have hsb : ∀ S, 0 ≤ ssu a c S ∧ ssu a c S ≤ 100000 := fun S => by
    have := ssu_bd (S := S) hab
    omega
  have hsel : (sel a c (2 ^ c - 1)).Perm I := by
    have := sel_list I a c (by omega) hat
    rw [← q2, List.take_of_length_le (by omega)] at this
    exact this
  have hp := p2_le (show c ≤ 11 by omega)
  have hpos : 0 < 2 ^ c := Nat.two_pow_pos c
  have ewh : xshl 1 (c : Int) - 1 = ((2 ^ c - 1 : Nat) : Int) := by rw [xshl_1 c (by omega)]; omega
  rw [ewh]
  have em2 : ∀ j, j ≠ 9 → j ≠ 10 → m2 j = m j := fun j h9 h10 => by rw [w2 j h10, q1 j h9]
  -- the gaps
  obtain ⟨⟨v, m3⟩, ⟨u1, u2, u3, u4⟩, u5⟩ := loop_ex (B := lb_X8_mostLeft_74 (s : Int) xfu) L.length (fun (q : Int × Ob) => RI q.1 [q.2]) (fun g (q : Int × Ob) => ((c : Int), q.1, ((2 ^ c - 1 : Nat) : Int), (g : Int), q.2)) (fun g (q : Int × Ob) => (∀ j, j ≠ 11 → j ≠ 12 → q.2 j = m2 j) ∧ -1 ≤ q.1 ∧ q.1 ≤ 200 ∧ ∀ n : Int, 0 ≤ n → (n ≤ q.1 ↔ ∃ g', g' < g ∧ ∃ r, r < 2 ^ c ∧ n ≤ m 6 g' - ssu a c r ∧ PkS a c (2 ^ c - 1 - r) (m 6) (fun j => j < L.length ∧ j ≠ g'))) (fun g q hg hI => by
      obtain ⟨most, mm⟩ := q
      obtain ⟨g1, g2, g3, g4⟩ := hI
      dsimp only at g1 g2 g3 g4
      obtain ⟨n1, y1, y2, y3⟩ := r_packsNothing mm (c := c) (by omega)
      have en1 : ∀ j, j ≠ 11 → j ≠ 12 → n1 j = m2 j := fun j h11 h12 => by rw [y2 j h11, g1 j h11 h12]
      -- the rooms but this one
      obtain ⟨n2, ⟨z1, z2⟩, z3⟩ := loop_exk (K := Int × Int × Int × Int × Ob → Option Rt) (B := fun k74 => lb_X8_mostLeft_91 (s : Int) xfu k74) L.length (fun k74 (q : Ob) => md_X8_mostLeft_128 (s : Int) xfu k74 ((c : Int), most, ((2 ^ c - 1 : Nat) : Int), (g : Int), ((0 : Nat) : Int), q)) (fun o (q : Ob) => ((c : Int), most, ((2 ^ c - 1 : Nat) : Int), (g : Int), (o : Int), q)) (fun o (q : Ob) => (∀ j, j ≠ 11 → j ≠ 12 → q j = m2 j) ∧ ∀ S, S < 2 ^ c → q 11 S = bz (pd (PkS a c S (m 6) (fun j => j < o ∧ j ≠ g)))) (fun o q ho hI => by
          obtain ⟨k1, k2⟩ := hI
          have e8 : q 0 8 = (L.length : Int) := by rw [k1 0 (by decide) (by decide), em2 0 (by decide) (by decide)]; exact hG1
          have e6 : q 6 o = m 6 o := by rw [k1 6 (by decide) (by decide), em2 6 (by decide) (by decide)]
          by_cases hog : o = g
          · subst hog
            refine ⟨q, fun k74 k => ?_, k1, fun S hS => ?_⟩
            · simp only [lb_X8_mostLeft_91, mg_X8_mostLeft_91, md_X8_mostLeft_119, mg_X8_mostLeft_119, e8, xw_nat (show o < 2147483648 by omega), xw_nat (show L.length < 2147483648 by omega), if_true]
              rw [if_neg (show ¬ (o : Int) ≥ (L.length : Int) by omega)]
              rfl
            · rw [k2 S hS]
              have : (fun j => j < o ∧ j ≠ o) = (fun j => j < o + 1 ∧ j ≠ o) := funext fun j => propext (by omega)
              rw [this]
          · have h6 := hm6 o ho
            obtain ⟨q', p1, p2, p3⟩ := r_packsInto q (c := c) (by omega) (room := m 6 o) h6.1 h6.2 (a := a) (fun S hS => by rw [k1 10 (by decide) (by decide)]; exact w3 S hS) (fun S _ => hsb S) k2
            refine ⟨q', fun k74 k => ?_, fun j h11 h12 => by rw [p2 j h11 h12, k1 j h11 h12], fun S hS => ?_⟩
            · simp only [lb_X8_mostLeft_91, mg_X8_mostLeft_91, md_X8_mostLeft_119, mg_X8_mostLeft_119, e8, xw_nat (show o < 2147483648 by omega), xw_nat (show g < 2147483648 by omega), xw_nat (show L.length < 2147483648 by omega), xin_nat (show o < 16 by omega) (show 16 ≤ 2147483648 by omega), toNat_nat, e6, p1, oqV_t, oqO_V, if_true]
              rw [if_neg (show ¬ (o : Int) ≥ (L.length : Int) by omega), if_neg (show ¬ (o : Int) = (g : Int) by omega)]
              rfl
            · rw [p3 S hS]
              exact bz_cong (pks_split (g := o) hS (fun z => by omega) (fun j => by omega)).symm) (fun k74 k q hI => by
          have e8 : q 0 8 = (L.length : Int) := by rw [hI.1 0 (by decide) (by decide), em2 0 (by decide) (by decide)]; exact hG1
          simp only [lb_X8_mostLeft_91, mg_X8_mostLeft_91, e8]
          rw [if_pos (show xw (L.length : Int) ≥ xw (L.length : Int) by omega)]
          rfl) L.length 0 xfu n1 (by omega) (by omega) ⟨en1, fun S hS => by
            rw [y3 S hS, ← pd_dec]
            exact bz_cong (pks_none hS (fun j hj => by omega)).symm⟩
      have e8 : n2 0 8 = (L.length : Int) := by rw [z1 0 (by decide) (by decide), em2 0 (by decide) (by decide)]; exact hG1
      have e6 : n2 6 g = m 6 g := by rw [z1 6 (by decide) (by decide), em2 6 (by decide) (by decide)]
      have h6 := hm6 g hg
      -- what lies with it
      obtain ⟨v', ⟨d1, d2, d3⟩, d4⟩ := loop_exk (K := Int × Int × Int × Int × Ob → Option Rt) (B := fun k74 => lb_X8_mostLeft_128 (s : Int) xfu k74) (2 ^ c) (fun k74 (q : Int) => k74 ((c : Int), q, ((2 ^ c - 1 : Nat) : Int), (g : Int) + 1, n2)) (fun r (q : Int) => ((c : Int), q, ((2 ^ c - 1 : Nat) : Int), (g : Int), (r : Int), n2)) (fun r (q : Int) => -1 ≤ q ∧ q ≤ 200 ∧ ∀ n : Int, 0 ≤ n → (n ≤ q ↔ n ≤ most ∨ ∃ r', r' < r ∧ n ≤ m 6 g - ssu a c r' ∧ PkS a c (2 ^ c - 1 - r') (m 6) (fun j => j < L.length ∧ j ≠ g))) (fun r q hr hI => by
          obtain ⟨k1, k2, k3⟩ := hI
          have e10 : n2 10 r = ssu a c r := by rw [z1 10 (by decide) (by decide)]; exact w3 r hr
          have e11 := z2 (2 ^ c - 1 - r) (by omega)
          have hbr := hsb r
          refine ⟨if q < m 6 g - ssu a c r ∧ pd (PkS a c (2 ^ c - 1 - r) (m 6) (fun j => j < L.length ∧ j ≠ g)) = true then m 6 g - ssu a c r else q, fun k74 k => ?_, ?_, ?_, fun n hn => ?_⟩
          · simp only [lb_X8_mostLeft_128, mg_X8_mostLeft_128, md_X8_mostLeft_174, mg_X8_mostLeft_174, xw_nat (show r < 2147483648 by omega), xw_nat (show 2 ^ c - 1 < 2147483648 by omega), xw_nat (show g < 2147483648 by omega), xin_nat (show g < 16 by omega) (show 16 ≤ 2147483648 by omega), xin_nat (show r < 4096 by omega) (show 4096 ≤ 2147483648 by omega), toNat_nat, e10, e6, xw_id (x := m 6 g - ssu a c r) (by omega) (by omega), xw_id (x := q) (by omega) (by omega), show ((2 ^ c - 1 : Nat) : Int) - (r : Int) = ((2 ^ c - 1 - r : Nat) : Int) by omega, xin_nat (show 2 ^ c - 1 - r < 4096 by omega) (show 4096 ≤ 2147483648 by omega), xw_nat (show 2 ^ c - 1 - r < 2147483648 by omega), e11, bz_0, if_true]
            rw [if_neg (show ¬ (r : Int) > ((2 ^ c - 1 : Nat) : Int) by omega)]
            by_cases hq : q < m 6 g - ssu a c r
            · rw [if_neg (show ¬ m 6 g - ssu a c r ≤ q by omega)]
              cases hpp : pd (PkS a c (2 ^ c - 1 - r) (m 6) (fun j => j < L.length ∧ j ≠ g)) with
              | false =>
                rw [if_pos rfl, if_neg (fun z => by cases z.2)]
                rfl
              | true =>
                rw [if_neg (by simp), if_pos ⟨hq, rfl⟩]
                rfl
            · rw [if_pos (show m 6 g - ssu a c r ≤ q by omega), if_neg (fun z => hq z.1)]
              rfl
          · split <;> omega
          · split <;> omega
          · by_cases hq : q < m 6 g - ssu a c r ∧ pd (PkS a c (2 ^ c - 1 - r) (m 6) (fun j => j < L.length ∧ j ≠ g)) = true
            · rw [if_pos hq]
              constructor
              · intro h
                exact Or.inr ⟨r, by omega, h, pd_of hq.2⟩
              · rintro (h | ⟨r', h1, h2, h3⟩)
                · have := (k3 n hn).mpr (Or.inl h); omega
                · by_cases hr' : r' = r
                  · subst hr'; exact h2
                  · have := (k3 n hn).mpr (Or.inr ⟨r', by omega, h2, h3⟩); omega
            · rw [if_neg hq]
              refine (k3 n hn).trans ⟨fun h => ?_, fun h => ?_⟩
              · rcases h with h | ⟨r', h1, h2⟩
                · exact Or.inl h
                · exact Or.inr ⟨r', by omega, h2⟩
              · rcases h with h | ⟨r', h1, h2, h3⟩
                · exact Or.inl h
                · by_cases hr' : r' = r
                  · subst hr'
                    have : n ≤ q := by
                      by_cases hqq : q < m 6 g - ssu a c r'
                      · exact absurd ⟨hqq, pd_t h3⟩ hq
                      · omega
                    exact (k3 n hn).mp this
                  · exact Or.inr ⟨r', by omega, h2, h3⟩) (fun k74 k q hI => by
          simp only [lb_X8_mostLeft_128, mg_X8_mostLeft_128, xw_nat (show 2 ^ c < 2147483648 by omega), xw_nat (show 2 ^ c - 1 < 2147483648 by omega)]
          rw [if_pos (show ((2 ^ c : Nat) : Int) > ((2 ^ c - 1 : Nat) : Int) by omega)]) (2 ^ c) 0 xfu most (by omega) (by omega) ⟨g2, g3, fun n hn => ⟨fun h => Or.inl h, fun h => by
            rcases h with h | ⟨r', h1, -⟩
            · exact h
            · omega⟩⟩
      have em8 : mm 0 8 = (L.length : Int) := by rw [g1 0 (by decide) (by decide), em2 0 (by decide) (by decide)]; exact hG1
      refine ⟨(v', n2), fun k => ?_, z1, d1, d2, fun n hn => (d3 n hn).trans ⟨fun h => ?_, fun h => ?_⟩⟩
      · have f1 := z3 k
        have f2 := d4 k
        simp only [lb_X8_mostLeft_74, mg_X8_mostLeft_74, em8, xw_nat (show g < 2147483648 by omega), xw_nat (show L.length < 2147483648 by omega), y1, oqV_t, oqO_V, if_true]
        rw [if_neg (show ¬ (g : Int) ≥ (L.length : Int) by omega)]
        refine f1.trans (f2.trans ?_)
        rfl
      · rcases h with h | ⟨r', h1, h2⟩
        · obtain ⟨g', h1, h2⟩ := (g4 n hn).mp h
          exact ⟨g', by omega, h2⟩
        · exact ⟨g, by omega, r', h1, h2⟩
      · obtain ⟨g', h1, h2⟩ := h
        by_cases hg' : g' = g
        · subst hg'
          exact Or.inr h2
        · exact Or.inl ((g4 n hn).mpr ⟨g', by omega, h2⟩)) (fun k q hI => by
      have e8 : q.2 0 8 = (L.length : Int) := by rw [hI.1 0 (by decide) (by decide), em2 0 (by decide) (by decide)]; exact hG1
      simp only [lb_X8_mostLeft_74, mg_X8_mostLeft_74, e8]
      rw [if_pos (show xw (L.length : Int) ≥ xw (L.length : Int) by omega)]) L.length 0 xfu (-1, m2) (by omega) (by omega) ⟨fun j _ _ => rfl, Int.le_refl _, by show (-1 : Int) ≤ 200; omega, fun n hn => ⟨fun h => by
        have h : n ≤ -1 := h
        omega, fun ⟨g', h1, _⟩ => by omega⟩⟩
  dsimp only at u1 u2 u3 u4 u5
  refine ⟨v, m3, u5, u2, u3, fun n hn => (u4 n hn).trans ?_, fun j h9 h10 h11 h12 => by rw [u1 j h11 h12, em2 j h9 h10]⟩
  exact most_iff hsel
