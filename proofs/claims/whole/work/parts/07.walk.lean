/-- the layout is well formed -/
def LW (h : Ob) : Prop := 8 ≤ h 0 9 ∧ h 0 9 ≤ h 0 10 ∧ h 0 10 ≤ 200 ∧
  (∀ i, i < 11 → 0 ≤ h 2 i ∧ h 2 i ≤ 60 ∧ (h 1 i = -1 ∨ (0 ≤ h 1 i ∧ 1 ≤ h 2 i ∧ h 1 i + h 2 i + 1 ≤ h 0 9))) ∧
  (∀ i j, i < 11 → j < 11 → i ≠ j → h 1 i ≠ -1 → h 1 j ≠ -1 → h 1 i + h 2 i + 1 ≤ h 1 j ∨ h 1 j + h 2 j + 1 ≤ h 1 i) ∧
  (∀ i, i < 8 → 0 ≤ h 4 i ∧ h 4 i ≤ 7)
theorem LW.pl {h : Ob} (hL : LW h) {i : Nat} (hi : i < 11) : -1 ≤ h 1 i ∧ h 1 i < 200 := by
  obtain ⟨h1, h2, h3, h4, -⟩ := hL
  have := h4 i hi
  omega
theorem LW.xpl {h : Ob} (hL : LW h) {i : Nat} (hi : i < 11) : xw (h 1 i) = h 1 i := by
  have := hL.pl hi
  exact xw_id (by omega) (by omega)
theorem LW.xsz {h : Ob} (hL : LW h) : xw (h 0 9) = h 0 9 := by
  obtain ⟨h1, h2, h3, -⟩ := hL
  exact xw_id (by omega) (by omega)
theorem LW.inj {h : Ob} (hL : LW h) {i j : Nat} (hi : i < 11) (hj : j < 11) (he : h 1 i = h 1 j) (hp : h 1 i ≠ -1) : i = j := by
  obtain ⟨h1, h2, h3, h4, h5, -⟩ := hL
  by_cases hij : i = j
  · exact hij
  · have := h5 i j hi hj hij hp (by omega)
    have a := h4 i hi
    have b := h4 j hj
    omega
theorem find_none {p : Nat → Bool} {n : Nat} (h : ∀ i, i < n → p i = false) : (List.range n).find? p = none := by
  rw [List.find?_eq_none]
  intro i hi
  rw [h i (List.mem_range.mp hi)]; simp
theorem find_uniq {p : Nat → Bool} {n i : Nat} (hi : i < n) (hp : p i = true) (hu : ∀ j, j < n → p j = true → j = i) : (List.range n).find? p = some i := by
  cases h : (List.range n).find? p with
  | none =>
    have := List.find?_eq_none.mp h i (List.mem_range.mpr hi)
    exact absurd hp this
  | some j =>
    have h1 := List.find?_some h
    have h2 := List.mem_range.mp (List.mem_of_find?_eq_some h)
    rw [hu j h2 h1]
theorem LW.findc {h : Ob} (hL : LW h) {k : Int} (hk : 0 ≤ k) (hk2 : k < 2147483648) : (∃ i, i < 11 ∧ h 1 i = k ∧ (List.range 11).find? (fun i => decide (xw (h 1 i) = xw k)) = some i) ∨ ((∀ i, i < 11 → h 1 i ≠ k) ∧ (List.range 11).find? (fun i => decide (xw (h 1 i) = xw k)) = none) := by
  have hkk : xw k = k := xw_id (by omega) hk2
  by_cases hx : ∃ i, i < 11 ∧ h 1 i = k
  · obtain ⟨i, hi, hp⟩ := hx
    refine Or.inl ⟨i, hi, hp, find_uniq hi (by rw [hL.xpl hi, hkk, hp]; simp) (fun j hj hq => ?_)⟩
    rw [hL.xpl hj, hkk] at hq
    have hq := of_decide_eq_true hq
    exact hL.inj hj hi (by omega) (by omega)
  · have hn : ∀ i, i < 11 → h 1 i ≠ k := fun i hi hp => hx ⟨i, hi, hp⟩
    refine Or.inr ⟨hn, find_none (fun i hi => ?_)⟩
    rw [hL.xpl hi, hkk]
    simp [hn i hi]
theorem LW.holc {h : Ob} (hL : LW h) {k : Int} (hk : 0 ≤ k) (hk2 : k < 2147483648) : (∃ i, i < 11 ∧ h 1 i = k ∧ hol h k = (i : Int)) ∨ ((∀ i, i < 11 → h 1 i ≠ k) ∧ hol h k = -1) := by
  rw [hol_e]
  unfold holI lfind
  rcases hL.findc hk hk2 with ⟨i, h1, h2, h3⟩ | ⟨h1, h2⟩
  · rw [h3]; exact Or.inl ⟨i, h1, h2, rfl⟩
  · rw [h2]; exact Or.inr ⟨h1, rfl⟩
theorem LW.hol_at {h : Ob} (hL : LW h) {i : Nat} (hi : i < 11) (hp : h 1 i ≠ -1) : hol h (h 1 i) = (i : Int) := by
  have hr := hL.pl hi
  rcases hL.holc (k := h 1 i) (by omega) (by omega) with ⟨j, h1, h2, h3⟩ | ⟨h1, -⟩
  · rw [h3, hL.inj h1 hi h2 (by omega)]
  · exact absurd rfl (h1 i hi)
def mnf (p : Nat → Int) (k : Int) (l : List Nat) (e : Int) : Int := l.foldl (fun (e : Int) (i : Nat) => if k < p i ∧ p i < e then p i else e) e
theorem mnf_spec (p : Nat → Int) (k : Int) : ∀ (l : List Nat) (e : Int), mnf p k l e ≤ e ∧ (∀ i ∈ l, k < p i → mnf p k l e ≤ p i) ∧ (mnf p k l e = e ∨ ∃ i ∈ l, k < p i ∧ mnf p k l e = p i)
  | [], e => ⟨Int.le_refl _, fun _ h => absurd h List.not_mem_nil, Or.inl rfl⟩
  | a :: l, e => by
    have ih := mnf_spec p k l (if k < p a ∧ p a < e then p a else e)
    show mnf p k l (if k < p a ∧ p a < e then p a else e) ≤ e ∧ (∀ i ∈ a :: l, k < p i → mnf p k l (if k < p a ∧ p a < e then p a else e) ≤ p i) ∧ (mnf p k l (if k < p a ∧ p a < e then p a else e) = e ∨ ∃ i ∈ a :: l, k < p i ∧ mnf p k l (if k < p a ∧ p a < e then p a else e) = p i)
    generalize hz : mnf p k l (if k < p a ∧ p a < e then p a else e) = z at ih
    by_cases hc : k < p a ∧ p a < e
    · rw [if_pos hc] at ih
      refine ⟨by omega, fun i hi hk => ?_, ?_⟩
      · rcases List.mem_cons.mp hi with rfl | hi
        · exact ih.1
        · exact ih.2.1 i hi hk
      · rcases ih.2.2 with h | ⟨i, h1, h2, h3⟩
        · exact Or.inr ⟨a, List.mem_cons_self, hc.1, h⟩
        · exact Or.inr ⟨i, List.mem_cons_of_mem _ h1, h2, h3⟩
    · rw [if_neg hc] at ih
      refine ⟨ih.1, fun i hi hk => ?_, ?_⟩
      · rcases List.mem_cons.mp hi with rfl | hi
        · have := ih.1; omega
        · exact ih.2.1 i hi hk
      · rcases ih.2.2 with h | ⟨i, h1, h2, h3⟩
        · exact Or.inl h
        · exact Or.inr ⟨i, List.mem_cons_of_mem _ h1, h2, h3⟩
theorem LW.nxt_at {h : Ob} (hL : LW h) {i : Nat} (hi : i < 11) (hp : h 1 i ≠ -1) (e : Int) : nxt h (h 1 i) e = h 1 i + h 2 i + 1 := by
  have hr := hL.pl hi
  rw [nxt_e]
  unfold nxtI
  rcases hL.findc (k := h 1 i) (by omega) (by omega) with ⟨j, h1, h2, h3⟩ | ⟨h1, -⟩
  · rw [h3]
    have := hL.inj h1 hi h2 (by omega)
    subst this
    rfl
  · exact absurd rfl (h1 i hi)
theorem LW.nxt_mnf {h : Ob} (hL : LW h) {k e : Int} (hk : 0 ≤ k) (hk2 : k < 2147483648) (he : 0 ≤ e) (he2 : e < 2147483648) (hn : ∀ i, i < 11 → h 1 i ≠ k) : nxt h k e = mnf (h 1) k (List.range 11) e := by
  rw [nxt_e]
  unfold nxtI
  rcases hL.findc (k := k) hk hk2 with ⟨j, h1, h2, h3⟩ | ⟨-, h2⟩
  · exact absurd h2 (hn j h1)
  · rw [h2]
    have hk' : xw k = k := xw_id (by omega) hk2
    show List.foldl (fun (e : Int) (i : Nat) => if xw k < xw (h 1 i) ∧ xw (h 1 i) < xw e then h 1 i else e) e (List.range 11) = mnf (h 1) k (List.range 11) e
    rw [hk']
    have key : ∀ (l : List Nat) (e : Int), (∀ i ∈ l, i < 11) → 0 ≤ e → e < 2147483648 → l.foldl (fun (e : Int) (i : Nat) => if k < xw (h 1 i) ∧ xw (h 1 i) < xw e then h 1 i else e) e = mnf (h 1) k l e := by
      intro l
      induction l with
      | nil => intro e _ _ _; rfl
      | cons a l ih =>
        intro e hl h1 h2
        have ha := hL.pl (hl a List.mem_cons_self)
        have he' : xw e = e := xw_id (by omega) h2
        show List.foldl _ (if k < xw (h 1 a) ∧ xw (h 1 a) < xw e then h 1 a else e) l = mnf (h 1) k l (if k < h 1 a ∧ h 1 a < e then h 1 a else e)
        rw [hL.xpl (hl a List.mem_cons_self), he']
        exact ih (if k < h 1 a ∧ h 1 a < e then h 1 a else e) (fun i hi => hl i (List.mem_cons_of_mem _ hi)) (by split <;> omega) (by split <;> omega)
    exact key _ e (fun i hi => List.mem_range.mp hi) he he2
theorem LW.nxt_free {h : Ob} (hL : LW h) {k e : Int} (hk : 0 ≤ k) (hke : k < e) (he : e ≤ 200) (hn : ∀ i, i < 11 → h 1 i ≠ k) : k < nxt h k e ∧ nxt h k e ≤ e ∧ (∀ j, j < 11 → k < h 1 j → nxt h k e ≤ h 1 j) ∧ (nxt h k e = e ∨ ∃ j, j < 11 ∧ nxt h k e = h 1 j) := by
  rw [hL.nxt_mnf hk (by omega) (by omega) (by omega) hn]
  obtain ⟨h1, h2, h3⟩ := mnf_spec (h 1) k (List.range 11) e
  refine ⟨?_, h1, fun j hj => h2 j (List.mem_range.mpr hj), ?_⟩
  · rcases h3 with h | ⟨i, -, h4, h5⟩ <;> omega
  · rcases h3 with h | ⟨i, h4, -, h5⟩
    · exact Or.inl h
    · exact Or.inr ⟨i, List.mem_range.mp h4, h5⟩
-- the walk along the blocks
noncomputable def nx (h : Ob) (e k : Int) : Int := xmax (k + 1) (nxt h k e)
noncomputable def wlk (h : Ob) (e : Int) : Nat → Int → List Int
  | 0, _ => []
  | t + 1, k => if k < e then k :: wlk h e t (nx h e k) else []
noncomputable def wfu : Nat := xop 256
theorem wfu_e : wfu = 256 := xop_eq 256
noncomputable def wlsI (h : Ob) (e : Int) : List Int := wlk h e wfu 0
noncomputable def wls : Ob → Int → List Int := xop wlsI
theorem wls_e (h : Ob) (e : Int) : wls h e = wlsI h e := congrFun (congrFun (xop_eq wlsI) h) e
theorem LW.nxc {h : Ob} (hL : LW h) {k e : Int} (hk : 0 ≤ k) (hke : k < e) (he1 : h 0 9 ≤ e) (he : e ≤ 200) : k < nx h e k ∧ nx h e k ≤ e ∧ nx h e k = nxt h k e := by
  have hb : k < nxt h k e ∧ nxt h k e ≤ e := by
    by_cases hx : ∃ i, i < 11 ∧ h 1 i = k
    · obtain ⟨i, hi, rfl⟩ := hx
      rw [hL.nxt_at hi (by omega)]
      have := hL.2.2.2.1 i hi
      omega
    · have := hL.nxt_free hk hke he (fun i hi hp => hx ⟨i, hi, hp⟩)
      exact ⟨this.1, this.2.1⟩
  have : nx h e k = nxt h k e := by
    unfold nx xmax
    rw [xw_id (x := k + 1) (by omega) (by omega), xw_id (x := nxt h k e) (by omega) (by omega)]
    split <;> omega
  exact ⟨by omega, by omega, this⟩
def wrun {S : Type} (step : S → Int → S ⊕ Option Rt) (R : S → Option Rt) : List Int → S → Option Rt
  | [], s => R s
  | k :: l, s => match step s k with
    | .inl s' => wrun step R l s'
    | .inr r => r
theorem loop_walk {A S : Type} {B : (A → Option Rt) → A → Option Rt} {h : Ob} {e : Int} (enc : Int → S → A) (step : S → Int → S ⊕ Option Rt) (R : S → Option Rt) (I : Int → S → Prop) (hnx : ∀ k, 0 ≤ k → k < e → k < nx h e k ∧ nx h e k ≤ e)
    (h1 : ∀ kk k s, 0 ≤ k → k < e → I k s → (B kk (enc k s) = match step s k with | .inl s' => kk (enc (nx h e k) s') | .inr r => r) ∧ ∀ s', step s k = .inl s' → I (nx h e k) s')
    (h2 : ∀ kk s, I e s → B kk (enc e s) = R s) : ∀ (t f : Nat) (k : Int) (s : S), 0 ≤ k → k ≤ e → (e - k).toNat ≤ t → t < f → I k s → tlp B f (enc k s) = wrun step R (wlk h e t k) s := by
  intro t
  induction t with
  | zero =>
    intro f k s hk hke ht hf hI
    have : k = e := by omega
    subst this
    cases f with
    | zero => omega
    | succ f => exact h2 _ s hI
  | succ t ih =>
    intro f k s hk hke ht hf hI
    cases f with
    | zero => omega
    | succ f =>
      rw [tlp_succ]
      by_cases hc : k < e
      · obtain ⟨n1, n2⟩ := hnx k hk hc
        show _ = wrun step R (if k < e then k :: wlk h e t (nx h e k) else []) s
        rw [if_pos hc]
        obtain ⟨a2, a3⟩ := h1 (tlp B f) k s hk hc hI
        rw [a2]
        cases a1 : step s k with
        | inl s' =>
          simp only [wrun, a1]
          exact ih f (nx h e k) s' (by omega) n2 (by omega) (by omega) (a3 s' a1)
        | inr r => simp only [wrun, a1]
      · have : k = e := by omega
        subst this
        show _ = wrun step R (if k < k then k :: wlk h k t (nx h k k) else []) s
        rw [if_neg hc]
        exact h2 _ s hI
theorem wrun_find (p : Int → Bool) (R : Int → Option Rt) : ∀ (l : List Int), wrun (S := Unit) (fun _ k => if p k then .inr (R k) else .inl ()) (fun _ => R (-1)) l () = R ((l.find? p).getD (-1))
  | [] => rfl
  | k :: l => by
    simp only [wrun, List.find?_cons]
    cases h : p k with
    | true => rfl
    | false => exact wrun_find p R l
def xnth (l : List Int) (k : Int) : Int := if 0 ≤ xw k then (l[(xw k).toNat]?).getD (-1) else -1
noncomputable def ffrI (h : Ob) (n : Int) : Int := ((wls h (h 0 9)).find? (fun k => decide (hol h k = -1) && decide (xw n ≤ nxt h k (h 0 9) - k))).getD (-1)
noncomputable def ffr : Ob → Int → Int := xop ffrI
theorem ffr_e (h : Ob) (n : Int) : ffr h n = ffrI h n := congrFun (congrFun (xop_eq ffrI) h) n
noncomputable def ffmI (h : Ob) : Int := ((wls h (h 0 9)).find? (fun k => decide (hol h k = -1) && mov h (hol h (nxt h k (h 0 9))))).getD (-1)
noncomputable def ffm : Ob → Int := xop ffmI
theorem ffm_e (h : Ob) : ffm h = ffmI h := congrFun (xop_eq ffmI) h
