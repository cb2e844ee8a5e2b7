/-- where a block, or what is free behind one, begins -/
def Bnd (h : Ob) (x : Int) : Prop := x = 0 ∨ ∃ l, l < 11 ∧ h 1 l ≠ -1 ∧ (h 1 l = x ∨ h 1 l + h 2 l + 1 = x)
theorem wlk_bnd {h : Ob} (hL : LW h) {e : Int} (he1 : h 0 9 ≤ e) (he : e ≤ 200) : ∀ (t : Nat) (k : Int), 0 ≤ k → k ≤ e → Nb h k → (k = e ∨ Bnd h k) → (∀ x ∈ wlk h e t k, Bnd h x) := by
  intro t
  induction t with
  | zero => intro k _ _ _ _ x hx; exact absurd hx List.not_mem_nil
  | succ t ih =>
    intro k hk hke hN hb x hx
    unfold wlk at hx
    split at hx
    · rename_i hc
      obtain ⟨n1, n2, n3⟩ := hL.nxc hk hc he1 he
      rcases List.mem_cons.mp hx with rfl | hx
      · rcases hb with z | z
        · omega
        · exact z
      · rw [n3] at hx
        refine ih _ (by omega) (by omega) (hL.nb_nxt hk hc he hN) ?_ x hx
        rcases hL.holc (k := k) hk (by omega) with ⟨i, i1, i2, i3⟩ | ⟨i1, i3⟩
        · right
          right
          refine ⟨i, i1, by omega, Or.inr ?_⟩
          rw [← i2, hL.nxt_at i1 (by omega)]
        · obtain ⟨c1, c2, c3, c4⟩ := hL.nxt_free hk hc he i1
          rcases c4 with c4 | ⟨j, hj, c4⟩
          · exact Or.inl c4
          · exact Or.inr (Or.inr ⟨j, hj, by have := hL.2.2.2.1 j hj; omega, Or.inl c4.symm⟩)
    · exact absurd hx List.not_mem_nil
theorem wlk_of {h : Ob} (hL : LW h) {e : Int} (he1 : h 0 9 ≤ e) (he : e ≤ 200) {x : Int} (hxe : x < e) (hNx : Nb h x) (hbx : Bnd h x) : ∀ (t : Nat) (k : Int), 0 ≤ k → k ≤ x → (e - k).toNat ≤ t → Nb h k → x ∈ wlk h e t k := by
  intro t
  induction t with
  | zero => intro k q1 q2 q3 _; omega
  | succ t ih =>
    intro k hk hkx ht hN
    unfold wlk
    rw [if_pos (by omega)]
    by_cases hkx' : k = x
    · rw [hkx']; exact List.mem_cons_self
    · obtain ⟨n1, n2, n3⟩ := hL.nxc hk (show k < e by omega) he1 he
      refine List.mem_cons_of_mem _ ?_
      rw [n3]
      refine ih _ (by omega) ?_ (by omega) (hL.nb_nxt hk (by omega) he hN)
      rcases hL.holc (k := k) hk (by omega) with ⟨i, i1, i2, i3⟩ | ⟨i1, i3⟩
      · have := hNx i i1 (by omega) (by omega)
        rw [← i2, hL.nxt_at i1 (by omega)]
        exact this
      · obtain ⟨c1, c2, c3, c4⟩ := hL.nxt_free hk (show k < e by omega) he i1
        rcases hbx with z | ⟨l, hl, hp, z⟩
        · omega
        · have hne := i1 l hl
          have hz := hL.2.2.2.1 l hl
          have hlk : k < h 1 l := by
            by_cases hq : h 1 l < k
            · have := hN l hl hp hq
              omega
            · omega
          have := c3 l hl hlk
          omega
theorem LW.wls_mem {h : Ob} (hL : LW h) {e : Int} (he1 : h 0 9 ≤ e) (he : e ≤ 200) (x : Int) : x ∈ wls h e ↔ 0 ≤ x ∧ x < e ∧ Nb h x ∧ Bnd h x := by
  have h8 := hL.1
  constructor
  · intro hx
    obtain ⟨a, -, -⟩ := hL.wlsc he1 he
    obtain ⟨a1, a2, a3⟩ := a x hx
    rw [wls_e] at hx
    exact ⟨a1, a2, a3, wlk_bnd hL he1 he wfu 0 (by omega) (by omega) hL.nb0 (Or.inr (Or.inl rfl)) x hx⟩
  · rintro ⟨a1, a2, a3, a4⟩
    rw [wls_e]
    exact wlk_of hL he1 he a2 a3 a4 wfu 0 (by omega) a1 (by rw [wfu_e]; omega) hL.nb0
theorem find_first {p : Int → Bool} : ∀ {l : List Int} {k0 : Int}, l.Pairwise (· < ·) → l.find? p = some k0 → ∀ x ∈ l, x < k0 → p x = false
  | [], _, _, h, _, _, _ => by cases h
  | a :: l, k0, hs, h, x, hx, hlt => by
    rw [List.find?_cons] at h
    cases hp : p a with
    | true =>
      rw [hp] at h
      cases h
      rcases List.mem_cons.mp hx with rfl | hx
      · omega
      · have := (List.pairwise_cons.mp hs).1 x hx
        omega
    | false =>
      rw [hp] at h
      rcases List.mem_cons.mp hx with rfl | hx
      · exact hp
      · exact find_first (List.pairwise_cons.mp hs).2 h x hx hlt
theorem ffm_find {h : Ob} (hf : ffm h ≠ -1) : (wls h (h 0 9)).find? (fun k => decide (hol h k = -1) && mov h (hol h (nxt h k (h 0 9)))) = some (ffm h) := by
  rw [ffm_e] at hf ⊢
  unfold ffmI at hf ⊢
  cases hq : (wls h (h 0 9)).find? (fun k => decide (hol h k = -1) && mov h (hol h (nxt h k (h 0 9)))) with
  | none => rw [hq] at hf; exact absurd rfl hf
  | some k => rfl
/-- after a slide the next one is further on -/
theorem ffm_next {h : Ob} (hL : LW h) (hf : ffm h ≠ -1) {i : Nat} (hi : i < 8) (hq : h 1 i = nxt h (ffm h) (h 0 9)) (hlt : ffm h < h 1 i) : ffm (xset h 1 i (ffm h)) = -1 ∨ ffm h < ffm (xset h 1 i (ffm h)) := by
  obtain ⟨z1, z2, z3, -⟩ := id hL
  have hL' := hL.slide1 hf (by omega) hq
  by_cases hf' : ffm (xset h 1 i (ffm h)) = -1
  · exact Or.inl hf'
  · right
    obtain ⟨a1, a2, a3, a4, -⟩ := hL.ffmc hf
    obtain ⟨b1, b2, b3, b4, j, b5, b6, b7, b8, b9, b10⟩ := hL'.ffmc hf'
    have hk0 := ffm_find hf
    have hk' := ffm_find hf'
    have hk0m := (hL.wls_mem (Int.le_refl _) (by omega) _).mp (List.mem_of_find?_eq_some hk0)
    have hk'm := (hL'.wls_mem (Int.le_refl _) (by show h 0 9 ≤ 200; omega) _).mp (List.mem_of_find?_eq_some hk')
    generalize ffm (xset h 1 i (ffm h)) = k' at *
    generalize hk0e : ffm h = k0 at *
    have e9 : xset h 1 i k0 0 9 = h 0 9 := rfl
    have ei : xset h 1 i k0 1 i = k0 := xeq
    have en : ∀ l, l ≠ i → xset h 1 i k0 1 l = h 1 l := fun l hl => xne hl
    have e2 : ∀ l, xset h 1 i k0 2 l = h 2 l := fun l => rfl
    rw [e9] at b2 b6 b7
    by_cases hkk : k0 < k'
    · exact hkk
    · exfalso
      have hne : k' ≠ k0 := fun z => b4 i (by omega) (by rw [ei]; exact z.symm)
      have hlt' : k' < k0 := by omega
      have hNb : Nb h k' := by
        intro l hl hp hlk
        by_cases hli : l = i
        · subst hli; omega
        · have := b3 l hl (by rw [en l hli]; exact hp) (by rw [en l hli]; exact hlk)
          rw [en l hli, e2] at this
          exact this
      have hnob : ∀ l, l < 11 → h 1 l ≠ k' := by
        intro l hl
        by_cases hli : l = i
        · subst hli; omega
        · rw [← en l hli]; exact b4 l hl
      have hbnd : Bnd h k' := by
        rcases hk'm.2.2.2 with z | ⟨l, hl, hp, z⟩
        · exact Or.inl z
        · have hli : l ≠ i := by
            intro e
            subst e
            rw [ei, e2] at z
            have := hL.2.2.2.1 l hl
            omega
          rw [en l hli, e2] at z
          rw [en l hli] at hp
          exact Or.inr ⟨l, hl, hp, z⟩
      have hmem := (hL.wls_mem (Int.le_refl _) (by omega) k').mpr ⟨b1, by omega, hNb, hbnd⟩
      have hno := find_first (hL.wlsc (Int.le_refl _) (by omega)).2.2 hk0 k' hmem hlt'
      have hhol : hol h k' = -1 := by
        rcases hL.holc (k := k') b1 (by omega) with ⟨l, l1, l2, l3⟩ | ⟨l1, l3⟩
        · exact absurd l2 (hnob l l1)
        · exact l3
      obtain ⟨c1, c2, c3, c4⟩ := hL.nxt_free (k := k') (e := h 0 9) b1 (by omega) (by omega) hnob
      obtain ⟨d1, d2, d3, d4⟩ := hL'.nxt_free (k := k') (e := h 0 9) b1 (by omega) (by omega) b4
      have hki := d3 i (by omega) (by rw [ei]; exact hlt')
      rw [ei] at hki
      have hji : j ≠ i := by
        intro e
        subst e
        rw [ei] at b7
        rcases hk0m.2.2.2 with z | ⟨l, hl, hp, z⟩
        · omega
        · have hlne := a4 l hl
          have hz := hL.2.2.2.1 l hl
          have hli : l ≠ j := by intro e; subst e; omega
          have hle : h 1 l + h 2 l + 1 = k0 := by
            rcases z with z | z
            · exact absurd z hlne
            · exact z
          have hlk : k' < h 1 l := by
            have := hnob l hl
            by_cases hq2 : h 1 l < k'
            · have := hNb l hl hp hq2
              omega
            · omega
          have := d3 l hl (by rw [en l hli]; exact hlk)
          rw [en l hli] at this
          omega
      rw [en j hji] at b7 b8
      have hmj : mov h (j : Int) = true := by
        have : mov (xset h 1 i k0) (j : Int) = mov h (j : Int) := by
          unfold mov ful
          rw [xw_nat (by omega), toNat_nat, en j hji]
          rfl
        rw [← this]; exact b10
      have hnx : nxt h k' (h 0 9) = h 1 j := by
        have h1' := c3 j (by omega) b8
        rcases c4 with c4 | ⟨l, hl, c4⟩
        · have := hL.2.2.2.1 j (by omega)
          omega
        · by_cases hli : l = i
          · subst hli; omega
          · have := d3 l hl (by rw [en l hli]; omega)
            rw [en l hli] at this
            omega
      rw [hhol, hnx, hL.hol_at (by omega) (mov_full hL b5 hmj), hmj] at hno
      simp at hno
