/-- things into rooms, room by room -/
def Pk : List Int → List Int → Prop
  | I, [] => I = []
  | I, r :: R => ∃ A B, I.Perm (A ++ B) ∧ A.sum ≤ r ∧ Pk B R
theorem PkI_shift {I : List Int} {n : Nat} : ∀ {len : Nat → Int}, PkI I (fun j => len (j + 1)) (fun j => j < n) → 0 ≤ len 0 → PkI I len (fun j => j < n + 1) := by
  induction I with
  | nil =>
    intro len h h0 j hj
    cases j with
    | zero => exact h0
    | succ j => exact h j (by omega)
  | cons y I ih =>
    rintro len ⟨j, h1, h2⟩ h0
    refine ⟨j + 1, by omega, ih ?_ ?_⟩
    · have e : (fun i => pup len (j + 1) y (i + 1)) = pup (fun i => len (i + 1)) j y := by
        funext i
        unfold pup
        by_cases hij : i = j
        · rw [if_pos hij, if_pos (by omega)]
        · rw [if_neg hij, if_neg (by omega)]
      rw [e]
      exact h2
    · unfold pup
      rw [if_neg (by omega)]
      exact h0
theorem PkI_room {n : Nat} {I : List Int} {len : Nat → Int} : PkI I len (fun j => j < n + 1) ↔ ∃ A B, I.Perm (A ++ B) ∧ A.sum ≤ len 0 ∧ PkI B (fun j => len (j + 1)) (fun j => j < n) := by
  constructor
  · induction I generalizing len with
    | nil =>
      intro h
      exact ⟨[], [], List.Perm.nil, h 0 (by omega), fun j hj => h (j + 1) (by omega)⟩
    | cons y I ih =>
      rintro ⟨j, h1, h2⟩
      obtain ⟨A, B, p, s, k⟩ := ih h2
      cases j with
      | zero =>
        refine ⟨y :: A, B, p.cons y, ?_, ?_⟩
        · unfold pup at s
          rw [if_pos rfl] at s
          rw [List.sum_cons]
          omega
        · have e : (fun i => pup len 0 y (i + 1)) = fun i => len (i + 1) := by
            funext i
            unfold pup
            rw [if_neg (by omega)]
          rw [← e]
          exact k
      | succ j =>
        refine ⟨A, y :: B, (p.cons y).trans List.perm_middle.symm, ?_, ⟨j, by omega, ?_⟩⟩
        · unfold pup at s
          rw [if_neg (by omega)] at s
          exact s
        · have e : (fun i => pup len (j + 1) y (i + 1)) = pup (fun i => len (i + 1)) j y := by
            funext i
            unfold pup
            by_cases hij : i = j
            · rw [if_pos hij, if_pos (by omega)]
            · rw [if_neg hij, if_neg (by omega)]
          rw [← e]
          exact k
  · rintro ⟨A, B, p, s, k⟩
    refine PkI_perm p.symm ?_
    clear p
    induction A generalizing len with
    | nil => exact PkI_shift k (by simpa using s)
    | cons y A ih =>
      rw [List.sum_cons] at s
      refine ⟨0, by omega, ih ?_ ?_⟩
      · unfold pup
        rw [if_pos rfl]
        omega
      · have e : (fun i => pup len 0 y (i + 1)) = fun i => len (i + 1) := by
          funext i
          unfold pup
          rw [if_neg (by omega)]
        rw [e]
        exact k
theorem PkI_Pk : ∀ (R : List Int) (I : List Int), PkI I (fun j => R[j]?.getD 0) (fun j => j < R.length) ↔ Pk I R
  | [], I => by
    cases I with
    | nil => exact ⟨fun _ => rfl, fun _ j hj => absurd hj (Nat.not_lt_zero _)⟩
    | cons x I => exact ⟨fun ⟨j, h, _⟩ => absurd h (Nat.not_lt_zero _), fun h => by cases h⟩
  | r :: R, I => by
    refine (PkI_room (n := R.length)).trans ?_
    show (∃ A B, I.Perm (A ++ B) ∧ A.sum ≤ r ∧ PkI B (fun j => R[j]?.getD 0) (fun j => j < R.length)) ↔ ∃ A B, I.Perm (A ++ B) ∧ A.sum ≤ r ∧ Pk B R
    constructor
    · rintro ⟨A, B, h1, h2, h3⟩
      exact ⟨A, B, h1, h2, (PkI_Pk R B).mp h3⟩
    · rintro ⟨A, B, h1, h2, h3⟩
      exact ⟨A, B, h1, h2, (PkI_Pk R B).mpr h3⟩
theorem Pk_perm {I J : List Int} (h : I.Perm J) : ∀ {R : List Int}, Pk I R → Pk J R
  | [], hp => by
    have : I = [] := hp
    subst this
    exact h.symm.eq_nil
  | r :: R, ⟨A, B, h1, h2, h3⟩ => ⟨A, B, h.symm.trans h1, h2, h3⟩
theorem Pk_new {I R : List Int} (w : Int) (h : Pk I R) : Pk (w :: I) (w :: R) := ⟨[w], I, List.Perm.refl _, by simp, h⟩
theorem Pk_ext {I R : List Int} {r : Int} (w : Int) (h : Pk I (r :: R)) : Pk (w :: I) ((r + w) :: R) := by
  obtain ⟨A, B, h1, h2, h3⟩ := h
  exact ⟨w :: A, B, h1.cons w, by rw [List.sum_cons]; omega, h3⟩
theorem Pk_mrg {I R : List Int} {r q : Int} (w : Int) (h : Pk I (r :: q :: R)) : Pk (w :: I) ((r + w + q) :: R) := by
  obtain ⟨A, B, h1, h2, C, D, h3, h4, h5⟩ := h
  refine ⟨w :: (A ++ C), D, ((h1.trans (h3.append_left A)).cons w).trans (by rw [List.cons_append, List.append_assoc]), ?_, h5⟩
  rw [List.sum_cons, List.sum_append]
  omega
theorem Pk_in {R R' : List Int} {w : Int} (h : ∀ I, Pk I R → Pk (w :: I) R') (r : Int) : ∀ I, Pk I (r :: R) → Pk (w :: I) (r :: R') := by
  rintro I ⟨A, B, h1, h2, h3⟩
  exact ⟨A, w :: B, (h1.cons w).trans List.perm_middle.symm, h2, h B h3⟩
/-- w cells more are open, from b on: what lay in the runs and w cells more lie in the new ones -/
theorem MR_add {P : Int → Prop} {e b w : Int} (hw : 1 ≤ w) (hbe : b + w ≤ e) (hn : ∀ c, b ≤ c → c < b + w → ¬ P c) : ∀ (L : List (Int × Int)) (k : Int), k ≤ b → MR P e k L → ∃ L', MR (fun c => P c ∨ (b ≤ c ∧ c < b + w)) e k L' ∧ ∀ I, Pk I (L.map (fun q => q.2)) → Pk (w :: I) (L'.map (fun q => q.2))
  | [], k, hk, h => by
    refine ⟨[(b, w)], ⟨hk, hw, hbe, fun c h1 h2 z => ?_, fun c h1 h2 => Or.inr ⟨h1, h2⟩, fun h1 z => ?_, fun c h1 h2 z => ?_⟩, fun I hI => Pk_new w hI⟩
    · rcases z with z | z
      · exact h c h1 (by omega) z
      · omega
    · rcases z with z | z
      · exact h (b + w) (by omega) h1 z
      · omega
    · rcases z with z | z
      · exact h c (by omega) h2 z
      · omega
  | (x, l) :: t, k, hk, h => by
    obtain ⟨a1, a2, a3, a4, a5, a6, a7⟩ := h
    -- behind the block nothing has changed
    have tl : ∀ {L : List (Int × Int)} {k : Int}, b + w ≤ k → MR P e k L → MR (fun c => P c ∨ (b ≤ c ∧ c < b + w)) e k L := fun hk h => MR_cong (fun c h1 _ => ⟨fun z => Or.inl z, fun z => by
      rcases z with z | z
      · exact z
      · omega⟩) h
    by_cases c1 : x + l < b
    · obtain ⟨t', r1, r2⟩ := MR_add hw hbe hn t (x + l) (by omega) a7
      refine ⟨(x, l) :: t', ⟨a1, a2, a3, fun c h1 h2 z => ?_, fun c h1 h2 => Or.inl (a5 c h1 h2), fun h1 z => ?_, r1⟩, Pk_in r2 l⟩
      · rcases z with z | z
        · exact a4 c h1 h2 z
        · omega
      · rcases z with z | z
        · exact a6 h1 z
        · omega
    · by_cases c2 : x + l = b
      · -- it goes on from a run
        cases t with
        | nil =>
          refine ⟨[(x, l + w)], ⟨a1, by omega, by omega, fun c h1 h2 z => ?_, fun c h1 h2 => ?_, fun h1 z => ?_, fun c h1 h2 z => ?_⟩, fun I hI => Pk_ext w hI⟩
          · rcases z with z | z
            · exact a4 c h1 h2 z
            · omega
          · by_cases hc : c < x + l
            · exact Or.inl (a5 c h1 hc)
            · exact Or.inr ⟨by omega, by omega⟩
          · rcases z with z | z
            · exact a7 _ (by omega) h1 z
            · omega
          · rcases z with z | z
            · exact a7 _ (by omega) h2 z
            · omega
        | cons q t2 =>
          obtain ⟨x2, l2⟩ := q
          obtain ⟨d1, d2, d3, d4, d5, d6, d7⟩ := a7
          have hx2 : b + w ≤ x2 := by
            by_cases hx : b + w ≤ x2
            · exact hx
            · exact absurd (d5 x2 (by omega) (by omega)) (hn x2 (by omega) (by omega))
          by_cases c3 : x2 = b + w
          · refine ⟨(x, l + w + l2) :: t2, ⟨a1, by omega, by omega, fun c h1 h2 z => ?_, fun c h1 h2 => ?_, fun h1 z => ?_, ?_⟩, fun I hI => Pk_mrg w hI⟩
            · rcases z with z | z
              · exact a4 c h1 h2 z
              · omega
            · by_cases hc : c < x + l
              · exact Or.inl (a5 c h1 hc)
              · by_cases hc2 : c < b + w
                · exact Or.inr ⟨by omega, by omega⟩
                · exact Or.inl (d5 c (by omega) (by omega))
            · rcases z with z | z
              · exact d6 (by omega) (by rw [show x2 + l2 = x + (l + w + l2) by omega]; exact z)
              · omega
            · rw [show x + (l + w + l2) = x2 + l2 by omega]
              exact tl (by omega) d7
          · refine ⟨(x, l + w) :: (x2, l2) :: t2, ⟨a1, by omega, by omega, fun c h1 h2 z => ?_, fun c h1 h2 => ?_, fun h1 z => ?_, ?_⟩, fun I hI => Pk_ext w hI⟩
            · rcases z with z | z
              · exact a4 c h1 h2 z
              · omega
            · by_cases hc : c < x + l
              · exact Or.inl (a5 c h1 hc)
              · exact Or.inr ⟨by omega, by omega⟩
            · rcases z with z | z
              · exact d4 _ (by omega) (by omega) z
              · omega
            · refine tl (by omega) ⟨by omega, d2, d3, fun c h1 h2 => d4 c (by omega) h2, d5, d6, d7⟩
      · have hx : b + w ≤ x := by
          by_cases hx : b + w ≤ x
          · exact hx
          · exfalso
            by_cases hxb : x ≤ b
            · exact hn b (by omega) (by omega) (a5 b hxb (by omega))
            · exact hn x (by omega) (by omega) (a5 x (by omega) (by omega))
        by_cases c3 : x = b + w
        · refine ⟨(b, l + w) :: t, ⟨hk, by omega, by omega, fun c h1 h2 z => ?_, fun c h1 h2 => ?_, fun h1 z => ?_, ?_⟩, fun I hI => Pk_ext w hI⟩
          · rcases z with z | z
            · exact a4 c h1 (by omega) z
            · omega
          · by_cases hc : c < b + w
            · exact Or.inr ⟨h1, hc⟩
            · exact Or.inl (a5 c (by omega) (by omega))
          · rcases z with z | z
            · exact a6 (by omega) (by rw [show x + l = b + (l + w) by omega]; exact z)
            · omega
          · rw [show b + (l + w) = x + l by omega]
            exact tl (by omega) a7
        · refine ⟨(b, w) :: (x, l) :: t, ⟨hk, hw, hbe, fun c h1 h2 z => ?_, fun c h1 h2 => Or.inr ⟨h1, h2⟩, fun h1 z => ?_, ?_⟩, fun I hI => Pk_new w hI⟩
          · rcases z with z | z
            · exact a4 c h1 (by omega) z
            · omega
          · rcases z with z | z
            · exact a4 _ (by omega) (by omega) z
            · omega
          · exact tl (by omega) ⟨by omega, a2, a3, fun c h1 h2 => a4 c (by omega) h2, a5, a6, a7⟩
/-- those of a set, taken out, and n cells find places -/
def Wc (h : Ob) (n e : Int) (s : Nat) : Prop := PkI (n :: its h (s : Int)) (glen (rnl h (s : Int) e)) (fun j => j < (rnl h (s : Int) e).length)
theorem Wc_Pk (h : Ob) (n e : Int) (s : Nat) : Wc h n e s ↔ Pk (n :: its h (s : Int)) ((rnl h (s : Int) e).map (fun q => q.2)) := by
  rw [← PkI_Pk]
  unfold Wc
  have e1 : glen (rnl h (s : Int) e) = fun j => ((rnl h (s : Int) e).map (fun q => q.2))[j]?.getD 0 := by
    funext j
    unfold glen
    rw [List.getElem?_map]
    cases (rnl h (s : Int) e)[j]? <;> rfl
  rw [e1, List.length_map]
theorem filt_or {p q : Nat → Bool} {t : Nat} (ht : t < 8) (hp : p t = false) (hq : ∀ i, i < 8 → q i = (p i || decide (i = t))) : ((List.range 8).filter q).Perm (t :: (List.range 8).filter p) := by
  refine (List.perm_ext_iff_of_nodup (List.nodup_range.filter _) (List.nodup_cons.mpr ⟨fun z => ?_, List.nodup_range.filter _⟩)).mpr (fun i => ?_)
  · have := (List.mem_filter.mp z).2
    rw [hp] at this
    cases this
  · rw [List.mem_filter, List.mem_range, List.mem_cons, List.mem_filter, List.mem_range]
    constructor
    · rintro ⟨h1, h2⟩
      rw [hq i h1, Bool.or_eq_true, decide_eq_true_eq] at h2
      rcases h2 with h2 | h2
      · exact Or.inr ⟨h1, h2⟩
      · exact Or.inl h2
    · rintro (h1 | ⟨h1, h2⟩)
      · subst h1
        exact ⟨ht, by rw [hq i ht]; simp⟩
      · exact ⟨h1, by rw [hq i h1, h2]; rfl⟩
theorem Wc_add {h : Ob} (hL : LW h) {n e : Int} (he1 : h 0 9 ≤ e) (he : e ≤ 200) {s s' t : Nat} (hs : s < 256) (hs' : s' < 256) (ht : t < 8) (hb : s.testBit t = false) (hs2 : ∀ i, i < 8 → s'.testBit i = (s.testBit i || decide (i = t))) (hp : h 1 t ≠ -1) (hw : Wc h n e s) : Wc h n e s' := by
  rw [Wc_Pk] at hw ⊢
  have hz := hL.2.2.2.1 t (by omega)
  have h9 := hL.2.1
  have m1 := hL.mr (s := (s : Int)) (e := e) he1 he
  have m2 := hL.mr (s := (s' : Int)) (e := e) he1 he
  obtain ⟨L', r1, r2⟩ := MR_add (w := h 2 t + 1) (b := h 1 t) (by omega) (by omega) (fun c c1 c2 z => by
    have := z t (by omega) ⟨hp, c1, by omega⟩
    rw [inS_nat (by omega) ht, hb] at this
    cases this) _ 0 (by omega) m1
  have hLe : L' = rnl h (s' : Int) e := by
    refine MR_uniq (MR_cong (fun c _ _ => ⟨fun z i hi hcv => ?_, fun z => ?_⟩) r1) m2
    · by_cases hit : i = t
      · subst hit
        rw [inS_nat (by omega) ht, hs2 i ht]; simp
      · rcases z with z | z
        · have h1 := z i hi hcv
          have h8 := inS_lt h1 (by omega)
          rw [inS_nat (by omega) h8] at h1
          rw [inS_nat (by omega) h8, hs2 i h8, h1]
          rfl
        · exact absurd (hL.cv1 hi (show t < 11 by omega) hcv ⟨hp, z.1, by omega⟩) hit
    · by_cases hc : cvd h t c
      · exact Or.inr ⟨hc.2.1, by have := hc.2.2; omega⟩
      · left
        intro i hi hcv
        have h1 := z i hi hcv
        have h8 := inS_lt h1 (by omega)
        rw [inS_nat (by omega) h8, hs2 i h8, Bool.or_eq_true, decide_eq_true_eq] at h1
        rw [inS_nat (by omega) h8]
        rcases h1 with h1 | h1
        · exact h1
        · subst h1
          exact absurd hcv hc
  rw [hLe] at r2
  have hpm : (its h (s' : Int)).Perm ((h 2 t + 1) :: its h (s : Int)) := by
    unfold its
    have := (filt_or (p := fun (i : Nat) => inS (s : Int) (i : Int)) (q := fun (i : Nat) => inS (s' : Int) (i : Int)) ht (by rw [inS_nat (by omega) ht]; exact hb) (fun i hi => by rw [inS_nat (by omega) hi, inS_nat (by omega) hi]; exact hs2 i hi)).map (fun i => h 2 i + 1)
    exact this
  exact Pk_perm ((List.Perm.swap _ _ _).trans (hpm.symm.cons n)) (r2 _ hw)
theorem Wc_mono {h : Ob} (hL : LW h) {n e : Int} (he1 : h 0 9 ≤ e) (he : e ≤ 200) {s M : Nat} (hs : s < 256) (hM : M < 256) (hsM : s &&& M = s) (hp : ∀ i, i < 8 → M.testBit i = true → h 1 i ≠ -1) (hw : Wc h n e s) : Wc h n e M := by
  have hsb : ∀ i, s.testBit i = true → M.testBit i = true := fun i hi => by
    have h1 : (s &&& M).testBit i = true := by rw [hsM]; exact hi
    rw [Nat.testBit_and, Bool.and_eq_true] at h1
    exact h1.2
  have key : ∀ k, k ≤ 8 → ∀ s', s' < 256 → (∀ i, i < 8 → s'.testBit i = (s.testBit i || (M.testBit i && decide (i < k)))) → Wc h n e s' := by
    intro k
    induction k with
    | zero =>
      intro _ s' hs' hb
      have : s' = s := nat_ext8 hs' hs (fun i hi => by rw [hb i hi]; simp)
      rw [this]
      exact hw
    | succ k ih =>
      intro hk s' hs' hb
      obtain ⟨s2, t1, t2⟩ := bits_ex (fun i => s.testBit i || (M.testBit i && decide (i < k))) 8
      have hw2 := ih (by omega) s2 t1 t2
      by_cases hc : M.testBit k = true ∧ s.testBit k = false
      · refine Wc_add hL he1 he (t := k) t1 hs' (by omega) (by rw [t2 k (by omega), hc.2]; simp) (fun i hi => ?_) (hp k (by omega) hc.1) hw2
        rw [hb i hi, t2 i hi]
        by_cases hik : i = k
        · subst hik
          rw [hc.1]
          simp
        · have : (i < k + 1) = (i < k) := propext (by omega)
          simp [this, hik]
      · have : s' = s2 := nat_ext8 hs' t1 (fun i hi => by
          rw [hb i hi, t2 i hi]
          by_cases hik : i = k
          · subst hik
            cases h1 : s.testBit i with
            | true => rfl
            | false =>
              have : M.testBit i = false := by
                cases h2 : M.testBit i with
                | false => rfl
                | true => exact absurd ⟨h2, h1⟩ hc
              rw [this]
              rfl
          · have : (i < k + 1) = (i < k) := propext (by omega)
            simp only [this])
        rw [this]
        exact hw2
  refine key 8 (Nat.le_refl _) M hM (fun i hi => ?_)
  cases h1 : s.testBit i with
  | true => rw [hsb i h1]; rfl
  | false => simp [hi]
/-- a set of more has more cells -/
def cofn (h : Ob) (s : Int) (n : Nat) : Int := (List.range n).foldl (fun (c : Int) (i : Nat) => if inS s (i : Int) then c + (h 2 i + 1) else c) 0
theorem cofn_succ (h : Ob) (s : Int) (n : Nat) : cofn h s (n + 1) = if inS s (n : Int) then cofn h s n + (h 2 n + 1) else cofn h s n := by
  unfold cofn
  rw [List.range_succ, List.foldl_append]
  rfl
theorem cofn_bd {h : Ob} (hL : LW h) (s : Int) : ∀ n, n ≤ 8 → 0 ≤ cofn h s n ∧ cofn h s n ≤ 61 * (n : Int)
  | 0, _ => ⟨Int.le_refl _, Int.le_refl _⟩
  | n + 1, hn => by
    have ih := cofn_bd hL s n (by omega)
    have hz := hL.2.2.2.1 n (by omega)
    rw [cofn_succ]
    push_cast
    split <;> omega
theorem cofn_lt {h : Ob} (hL : LW h) {s M : Nat} (hs : s < 256) (hM : M < 256) (hsb : ∀ i, i < 8 → s.testBit i = true → M.testBit i = true) : ∀ n, n ≤ 8 → cofn h (s : Int) n ≤ cofn h (M : Int) n ∧ ((∃ i, i < n ∧ s.testBit i ≠ M.testBit i) → cofn h (s : Int) n < cofn h (M : Int) n)
  | 0, _ => by
    have e : ∀ x : Int, cofn h x 0 = 0 := fun x => rfl
    rw [e, e]
    exact ⟨Int.le_refl _, fun z => by obtain ⟨i, hi, -⟩ := z; exact absurd hi (Nat.not_lt_zero _)⟩
  | n + 1, hn => by
    obtain ⟨i1, i2⟩ := cofn_lt hL hs hM hsb n (by omega)
    have hz := hL.2.2.2.1 n (by omega)
    rw [cofn_succ, cofn_succ, inS_nat (by omega) (show n < 8 by omega), inS_nat (by omega) (show n < 8 by omega)]
    have hb := hsb n (by omega)
    cases h1 : s.testBit n with
    | true =>
      rw [hb h1, if_pos rfl, if_pos rfl]
      refine ⟨by omega, fun ⟨i, hi, hne⟩ => ?_⟩
      have hin : i ≠ n := fun z => hne (by rw [z, h1, hb h1])
      have := i2 ⟨i, by omega, hne⟩
      omega
    | false =>
      cases h2 : M.testBit n with
      | true =>
        rw [if_neg (by simp), if_pos rfl]
        exact ⟨by omega, fun _ => by omega⟩
      | false =>
        rw [if_neg (by simp), if_neg (by simp)]
        refine ⟨i1, fun ⟨i, hi, hne⟩ => ?_⟩
        have hin : i ≠ n := fun z => hne (by rw [z, h1, h2])
        exact i2 ⟨i, by omega, hne⟩
theorem cof_n (h : Ob) (s : Int) : cof h s = cofn h s 8 := by rw [cof_e]; rfl
theorem cof_bd {h : Ob} (hL : LW h) (s : Int) : 0 ≤ cof h s ∧ cof h s ≤ 488 := by
  have := cofn_bd hL s 8 (by omega)
  rw [cof_n]
  omega
theorem cof_lt {h : Ob} (hL : LW h) {s M : Nat} (hM : M < 256) (hsM : s &&& M = s) (hlt : s < M) : cof h (s : Int) < cof h (M : Int) := by
  have hs : s < 256 := by omega
  have hsb : ∀ i, i < 8 → s.testBit i = true → M.testBit i = true := fun i _ hi => by
    have h1 : (s &&& M).testBit i = true := by rw [hsM]; exact hi
    rw [Nat.testBit_and, Bool.and_eq_true] at h1
    exact h1.2
  rw [cof_n, cof_n]
  refine (cofn_lt hL hs hM hsb 8 (by omega)).2 ?_
  by_cases hex : ∃ i, i < 8 ∧ s.testBit i ≠ M.testBit i
  · exact hex
  · exfalso
    have : s = M := nat_ext8 hs hM (fun i hi => by
      by_cases hq : s.testBit i = M.testBit i
      · exact hq
      · exact absurd ⟨i, hi, hq⟩ hex)
    omega
