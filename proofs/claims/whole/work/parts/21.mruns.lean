/-- the runs of cells with P in [k, e), as long as can be, from k on -/
def MR (P : Int → Prop) (e : Int) : Int → List (Int × Int) → Prop
  | k, [] => ∀ c, k ≤ c → c < e → ¬ P c
  | k, (b, l) :: t => k ≤ b ∧ 1 ≤ l ∧ b + l ≤ e ∧ (∀ c, k ≤ c → c < b → ¬ P c) ∧ (∀ c, b ≤ c → c < b + l → P c) ∧ (b + l < e → ¬ P (b + l)) ∧ MR P e (b + l) t
theorem MR_uniq {P : Int → Prop} {e : Int} : ∀ {L L' : List (Int × Int)} {k : Int}, MR P e k L → MR P e k L' → L = L'
  | [], [], _, _, _ => rfl
  | [], (b, l) :: t, k, h, h' => by
    obtain ⟨a1, a2, a3, a4, a5, -⟩ := h'
    exact absurd (a5 b (Int.le_refl _) (by omega)) (h b a1 (by omega))
  | (b, l) :: t, [], k, h, h' => by
    obtain ⟨a1, a2, a3, a4, a5, -⟩ := h
    exact absurd (a5 b (Int.le_refl _) (by omega)) (h' b a1 (by omega))
  | (b, l) :: t, (b', l') :: t', k, h, h' => by
    obtain ⟨a1, a2, a3, a4, a5, a6, a7⟩ := h
    obtain ⟨c1, c2, c3, c4, c5, c6, c7⟩ := h'
    have hb : b = b' := by
      rcases Int.lt_trichotomy b b' with z | z | z
      · exact absurd (a5 b (Int.le_refl _) (by omega)) (c4 b a1 z)
      · exact z
      · exact absurd (c5 b' (Int.le_refl _) (by omega)) (a4 b' c1 z)
    subst hb
    have hl : l = l' := by
      rcases Int.lt_trichotomy l l' with z | z | z
      · exact absurd (c5 (b + l) (by omega) (by omega)) (a6 (by omega))
      · exact z
      · exact absurd (a5 (b + l') (by omega) (by omega)) (c6 (by omega))
    subst hl
    rw [MR_uniq a7 c7]
theorem MR_cong {P Q : Int → Prop} {e : Int} : ∀ {L : List (Int × Int)} {k : Int}, (∀ c, k ≤ c → c < e → (P c ↔ Q c)) → MR P e k L → MR Q e k L
  | [], k, h, hm => fun c h1 h2 z => hm c h1 h2 ((h c h1 h2).mpr z)
  | (b, l) :: t, k, h, hm => by
    obtain ⟨a1, a2, a3, a4, a5, a6, a7⟩ := hm
    exact ⟨a1, a2, a3, fun c h1 h2 z => a4 c h1 h2 ((h c h1 (by omega)).mpr z), fun c h1 h2 => (h c (by omega) (by omega)).mp (a5 c h1 h2), fun h1 z => a6 h1 ((h _ (by omega) h1).mpr z), MR_cong (fun c h1 h2 => h c (by omega) h2) a7⟩
theorem MR_close {P : Int → Prop} {e e' : Int} (hee : e ≤ e') (hc : ∀ c, e ≤ c → c < e' → ¬ P c) : ∀ {L : List (Int × Int)} {k : Int}, k ≤ e → MR P e k L → MR P e' k L
  | [], k, hk, h => fun c h1 h2 => by
    by_cases z : c < e
    · exact h c h1 z
    · exact hc c (by omega) h2
  | (b, l) :: t, k, hk, h => by
    obtain ⟨a1, a2, a3, a4, a5, a6, a7⟩ := h
    refine ⟨a1, a2, by omega, a4, a5, fun z => ?_, MR_close hee hc a3 a7⟩
    by_cases w : b + l < e
    · exact a6 w
    · exact hc _ (by omega) z
theorem MR_new {P : Int → Prop} {e e' : Int} (hee : e < e') (ho : ∀ c, e ≤ c → c < e' → P c) : ∀ {L : List (Int × Int)} {k : Int}, k ≤ e → (k = e ∨ ¬ P (e - 1)) → MR P e k L → MR P e' k (L ++ [(e, e' - e)])
  | [], k, hk, hp, h => ⟨hk, by omega, by omega, fun c h1 h2 => h c h1 h2, fun c h1 h2 => ho c h1 (by omega), fun z => by omega, fun c h1 h2 => by omega⟩
  | (b, l) :: t, k, hk, hp, h => by
    obtain ⟨a1, a2, a3, a4, a5, a6, a7⟩ := h
    have hne : b + l ≠ e := fun z => by
      rcases hp with hp | hp
      · omega
      · exact hp (a5 (e - 1) (by omega) (by omega))
    exact ⟨a1, a2, by omega, a4, a5, fun _ => a6 (by omega), MR_new hee ho a3 (Or.inr (by
      rcases hp with hp | hp
      · omega
      · exact hp)) a7⟩
theorem MR_ext {P : Int → Prop} {e e' b l : Int} (hee : e ≤ e') (hbl : b + l = e) (ho : ∀ c, e ≤ c → c < e' → P c) : ∀ {L : List (Int × Int)} {k : Int}, k ≤ e → MR P e k (L ++ [(b, l)]) → MR P e' k (L ++ [(b, l + (e' - e))])
  | [], k, hk, h => by
    obtain ⟨a1, a2, a3, a4, a5, a6, a7⟩ := h
    refine ⟨a1, by omega, by omega, a4, fun c h1 h2 => ?_, fun z => by omega, fun c h1 h2 => by omega⟩
    by_cases w : c < b + l
    · exact a5 c h1 w
    · exact ho c (by omega) (by omega)
  | (b', l') :: t, k, hk, h => by
    obtain ⟨a1, a2, a3, a4, a5, a6, a7⟩ := h
    refine ⟨a1, a2, by omega, a4, a5, fun _ => ?_, MR_ext hee hbl ho a3 a7⟩
    have hbb : b' + l' ≤ b ∧ 1 ≤ l := by
      clear a6
      have key : ∀ (t : List (Int × Int)) (k : Int), MR P e k (t ++ [(b, l)]) → k ≤ b ∧ 1 ≤ l := by
        intro t
        induction t with
        | nil => intro k h; exact ⟨h.1, h.2.1⟩
        | cons x t ih =>
          intro k h
          obtain ⟨x1, x2⟩ := x
          have := ih _ h.2.2.2.2.2.2
          have h1 := h.1
          have h2 := h.2.1
          omega
      exact key t _ a7
    exact a6 (by omega)
def cvd (h : Ob) (i : Nat) (c : Int) : Prop := h 1 i ≠ -1 ∧ h 1 i ≤ c ∧ c ≤ h 1 i + h 2 i
/-- the cell is of no block, or of a block of one of the handles -/
def opn (h : Ob) (s : Int) (c : Int) : Prop := ∀ i, i < 11 → cvd h i c → inS s (i : Int) = true
theorem LW.cv1 {h : Ob} (hL : LW h) {i j : Nat} (hi : i < 11) (hj : j < 11) {c : Int} (h1 : cvd h i c) (h2 : cvd h j c) : i = j := by
  by_cases hij : i = j
  · exact hij
  · have := hL.2.2.2.2.1 i j hi hj hij h1.1 h2.1
    obtain ⟨-, a1, a2⟩ := h1
    obtain ⟨-, b1, b2⟩ := h2
    omega
theorem wlk_fold {S : Type} {h : Ob} (hL : LW h) {e : Int} (he1 : h 0 9 ≤ e) (he : e ≤ 200) (g : S → Int → S) (J : Int → S → Prop) (hJ : ∀ k q, 0 ≤ k → k < e → Nb h k → J k q → J (nxt h k e) (g q k)) : ∀ (t : Nat) (k : Int) (q : S), 0 ≤ k → k ≤ e → (e - k).toNat ≤ t → Nb h k → J k q → J e ((wlk h e t k).foldl g q) := by
  intro t
  induction t with
  | zero =>
    intro k q h0 hk ht hN hq
    have : k = e := by omega
    subst this
    exact hq
  | succ t ih =>
    intro k q h0 hk ht hN hq
    show J e ((if k < e then k :: wlk h e t (nx h e k) else []).foldl g q)
    by_cases hc : k < e
    · rw [if_pos hc]
      obtain ⟨n1, n2, n3⟩ := hL.nxc h0 hc he1 he
      have hN' := hL.nb_nxt h0 hc he hN
      have hJ' := hJ k q h0 hc hN hq
      rw [← n3] at hN' hJ'
      exact ih (nx h e k) (g q k) (by omega) n2 (by omega) hN' hJ'
    · rw [if_neg hc]
      have : k = e := by omega
      subst this
      exact hq
theorem wls_fold {S : Type} {h : Ob} (hL : LW h) {e : Int} (he1 : h 0 9 ≤ e) (he : e ≤ 200) (g : S → Int → S) (J : Int → S → Prop) (hJ : ∀ k q, 0 ≤ k → k < e → Nb h k → J k q → J (nxt h k e) (g q k)) (q : S) (h0 : J 0 q) : J e ((wls h e).foldl g q) := by
  rw [wls_e]
  have := hL.1
  exact wlk_fold hL he1 he g J hJ wfu 0 q (by omega) (by omega) (by rw [wfu_e]; omega) hL.nb0 h0
/-- the cells of the block that begins at k -/
theorem LW.blk {h : Ob} (hL : LW h) {k e : Int} (hk : 0 ≤ k) (hke : k < e) (he : e ≤ 200) (hN : Nb h k) : (∃ i, i < 11 ∧ h 1 i = k ∧ hol h k = (i : Int) ∧ nxt h k e = k + h 2 i + 1 ∧ 1 ≤ h 2 i ∧ ∀ c, k ≤ c → c < nxt h k e → cvd h i c) ∨ ((∀ i, i < 11 → h 1 i ≠ k) ∧ hol h k = -1 ∧ ∀ c, k ≤ c → c < nxt h k e → ∀ i, i < 11 → ¬ cvd h i c) := by
  rcases hL.holc (k := k) hk (by omega) with ⟨i, h1, h2, h3⟩ | ⟨h1, h3⟩
  · left
    have hz := hL.2.2.2.1 i h1
    have hn := hL.nxt_at h1 (by omega) e
    rw [h2] at hn
    refine ⟨i, h1, h2, h3, hn, by omega, fun c c1 c2 => ?_⟩
    rw [hn] at c2
    exact ⟨by omega, by omega, by omega⟩
  · right
    refine ⟨h1, h3, fun c c1 c2 i hi hcv => ?_⟩
    obtain ⟨a1, a2, a3, a4⟩ := hL.nxt_free hk hke he h1
    obtain ⟨b1, b2, b3⟩ := hcv
    have hne := h1 i hi
    by_cases hki : k < h 1 i
    · have := a3 i hi hki; omega
    · have := hN i hi b1 (by omega); omega
theorem LW.mr {h : Ob} (hL : LW h) {s e : Int} (he1 : h 0 9 ≤ e) (he : e ≤ 200) : MR (opn h s) e 0 (rnl h s e) := by
  rw [rnl_e]
  unfold rnlI
  have := wls_fold (S := Bool × List (Int × Int)) hL he1 he (rst h s e) (fun k q => 0 ≤ k ∧ MR (opn h s) k 0 q.2.reverse ∧ (q.1 = true → ∃ b l t, q.2 = (b, l) :: t ∧ b + l = k) ∧ (q.1 = false → k = 0 ∨ ¬ opn h s (k - 1))) (fun k q hk hke hN hq => ?_) (false, []) ⟨Int.le_refl _, fun c h1 h2 => by omega, fun z => by simp at z, fun _ => Or.inl rfl⟩
  · exact this.2.1
  · obtain ⟨go, Q⟩ := q
    obtain ⟨-, j1, j2, j3⟩ := hq
    dsimp only at j1 j2 j3
    have hlt : k < nxt h k e := by
      have := hL.nxc hk hke he1 he
      omega
    have hop : ((decide (hol h k = -1) || inS s (hol h k)) = true ∧ ∀ c, k ≤ c → c < nxt h k e → opn h s c) ∨ ((decide (hol h k = -1) || inS s (hol h k)) = false ∧ ∀ c, k ≤ c → c < nxt h k e → ¬ opn h s c) := by
      rcases hL.blk hk hke he hN with ⟨i, i1, i2, i3, i4, i5, i6⟩ | ⟨i1, i2, i3⟩
      · rw [i3]
        cases hin : inS s (i : Int) with
        | true =>
          left
          refine ⟨by simp, fun c c1 c2 j hj hcv => ?_⟩
          rw [hL.cv1 hj i1 hcv (i6 c c1 c2)]
          exact hin
        | false =>
          right
          refine ⟨by simp, fun c c1 c2 ho => ?_⟩
          have := ho i i1 (i6 c c1 c2)
          rw [hin] at this; cases this
      · left
        refine ⟨by simp [i2], fun c c1 c2 j hj hcv => absurd hcv (i3 c c1 c2 j hj)⟩
    rcases hop with ⟨o1, o2⟩ | ⟨o1, o2⟩
    · simp only [rst, o1, if_true]
      cases go with
      | true =>
        obtain ⟨b, l, t, rfl, hbl⟩ := j2 rfl
        simp only [if_true]
        refine ⟨by omega, ?_, fun _ => ⟨b, _, t, rfl, by omega⟩, fun z => by cases z⟩
        rw [List.reverse_cons] at j1 ⊢
        exact MR_ext (by omega) hbl o2 hk j1
      | false =>
        simp only [Bool.false_eq_true, if_false]
        refine ⟨by omega, ?_, fun _ => ⟨k, _, Q, rfl, by omega⟩, fun z => by cases z⟩
        rw [List.reverse_cons]
        exact MR_new hlt o2 hk (by rcases j3 rfl with z | z
                                   · exact Or.inl z.symm
                                   · exact Or.inr z) j1
    · simp only [rst, o1, Bool.false_eq_true, if_false]
      exact ⟨by omega, MR_close (by omega) o2 hk j1, fun z => absurd z (by simp), fun _ => Or.inr (o2 _ (by omega) (by omega))⟩

