theorem ldg_mono {A G : Ob} {c : Nat} (hD : AGd A G c) (g : Nat) {k : Nat} : ∀ k', k ≤ k' → k' ≤ c → ldg A g k ≤ ldg A g k' := by
  intro k'
  induction k' with
  | zero => intro h1 _; rw [show k = 0 by omega]; exact Int.le_refl _
  | succ k' ih =>
    intro h1 h2
    by_cases hk : k = k' + 1
    · rw [hk]; exact Int.le_refl _
    · have := ih (by omega) (by omega)
      have := hD.1 k' (by omega)
      rw [ldg_succ]
      split <;> omega
/-- an arrangement that was found, laid: well formed -/
theorem lay_LW {h : Ob} (hL : LW h) {A A0 G0 : Ob} (hA : ∀ j i, j ≠ 4 → j ≠ 5 → A j i = lsO A0 (skG G0 h) h j i) (hF : Lf A (skG G0 h) (A 0 7).toNat) (n : Int) :
    LW (layF A (skG G0 h) n h).2 ∧ (∀ j i, j ≠ 1 → (layF A (skG G0 h) n h).2 j i = h j i) ∧
    (∀ i : Nat, i < 11 → mov h (i : Int) = false → (layF A (skG G0 h) n h).2 1 i = h 1 i) ∧
    (∀ i : Nat, i < 11 → mov h (i : Int) = true → ∃ k, k < (A 0 7).toNat ∧ A 1 k = (i : Int) ∧ A 2 k = h 2 i + 1 ∧ (layF A (skG G0 h) n h).2 1 i = layP A (skG G0 h) k) ∧
    AGd A (skG G0 h) (A 0 7).toNat := by
  obtain ⟨z1, z2, z3, z4, z5, z6⟩ := id hL
  have hlen8 := hL.mvl_len
  have hrk := movS_gaps G0 h hL
  have hM := hL.mr (s := movS h) (e := h 0 9) (Int.le_refl _) (by omega)
  have hA7 : A 0 7 = ((mvl h).length : Int) := hA 0 7 (by omega) (by omega)
  have hc : (A 0 7).toNat = (mvl h).length := by omega
  have hGc : skG G0 h 0 2 = ((rnl h (movS h) (h 0 9)).length : Int) := rdO_cnt _ _
  have hGat : ∀ g q, (rnl h (movS h) (h 0 9))[g]? = some q → skG G0 h 1 g = q.1 ∧ skG G0 h 2 g = q.2 := fun g q hq => rdO_at G0 hq
  generalize skG G0 h = G at *
  generalize rnl h (movS h) (h 0 9) = L at hM hGc hGat
  have hmem := MR_mem hM
  have hsort := List.pairwise_iff_getElem.mp (MR_sorted hM)
  obtain ⟨r1, r2⟩ := rk_iff.mp hrk
  have hGb : ∀ g, g < (G 0 2).toNat → 0 ≤ G 1 g ∧ 1 ≤ G 2 g ∧ G 1 g + G 2 g ≤ h 0 9 ∧ ∀ c, G 1 g ≤ c → c < G 1 g + G 2 g → opn h (movS h) c := fun g hg => by
    have hg' : g < L.length := by omega
    have e := hGat g _ (List.getElem?_eq_getElem hg')
    rw [e.1, e.2]
    exact hmem _ (List.getElem_mem hg')
  have hGs : ∀ g g', g < g' → g' < (G 0 2).toNat → G 1 g + G 2 g ≤ G 1 g' := fun g g' h1 h2 => by
    have hg : g < L.length := by omega
    have hg' : g' < L.length := by omega
    have e := hGat g _ (List.getElem?_eq_getElem hg)
    have e' := hGat g' _ (List.getElem?_eq_getElem hg')
    rw [e.1, e.2, e'.1]
    exact hsort g g' hg hg' h1
  have hAt : ∀ k, k < (A 0 7).toNat → ∃ i : Nat, i < 8 ∧ mov h (i : Int) = true ∧ A 1 k = (i : Int) ∧ A 2 k = h 2 i + 1 ∧ ∃ hk : k < (mvl h).length, h 1 i = (mvl h)[k] := fun k hk => by
    obtain ⟨i, a1, a2, a3, a4, a5, -⟩ := hL.lsAt A0 G (show k < (mvl h).length by omega)
    exact ⟨i, a1, a3, by rw [hA 1 k (by omega) (by omega)]; exact a4, by rw [hA 2 k (by omega) (by omega)]; exact a5, by omega, a2⟩
  have hD : AGd A G (A 0 7).toNat := by
    refine ⟨fun k hk => ?_, fun a b ha hb e => ?_⟩
    · obtain ⟨i, a1, a2, a3, a4, -⟩ := hAt k hk
      have hf := hF.2 k hk
      have hz := z4 i (by omega)
      have hp := (mov_iff a1).mp a2
      rw [hL.xpl (by omega)] at hp
      omega
    · obtain ⟨i, a1, a2, a3, a4, hk, a5⟩ := hAt a ha
      obtain ⟨i', b1, b2, b3, b4, hk', b5⟩ := hAt b hb
      have : i = i' := by omega
      subst this
      exact hL.mvl_inj hk hk' (by rw [← a5, ← b5])
  obtain ⟨l1, l2, -⟩ := lay_ok hD (by omega) hrk (fun g hg => by have := hGb g hg; omega) n h
  generalize (layF A G n h).2 = h' at l1 l2
  have hoth : ∀ j i, j ≠ 1 → h' j i = h j i := fun j i hj => l2 j i (fun k _ _ e => hj e.1)
  have hfx : ∀ i : Nat, i < 11 → mov h (i : Int) = false → h' 1 i = h 1 i := fun i hi hm => l2 1 i (fun k hk _ e => by
    obtain ⟨i', a1, a2, a3, -⟩ := hAt k hk
    have : i = i' := by have := e.2; omega
    rw [this, a2] at hm
    cases hm)
  have hmv : ∀ i : Nat, i < 11 → mov h (i : Int) = true → ∃ k, k < (A 0 7).toNat ∧ A 1 k = (i : Int) ∧ A 2 k = h 2 i + 1 ∧ h' 1 i = layP A G k := fun i hi hm => by
    obtain ⟨k, hk, e⟩ := List.mem_iff_getElem.mp (hL.mvl_of hi hm)
    have hk' : k < (A 0 7).toNat := by omega
    obtain ⟨i', a1, a2, a3, a4, hk2, a5⟩ := hAt k hk'
    have hp := (mov_iff a1).mp a2
    rw [hL.xpl (by omega)] at hp
    have : i' = i := hL.inj (by omega) hi (by rw [a5, e]) hp.1
    subst this
    refine ⟨k, hk', a3, a4, ?_⟩
    have := l1 k hk' (hF.2 k hk').2
    rw [a3, toNat_nat] at this
    exact this
  have hin : ∀ k, k < (A 0 7).toNat → ∃ g : Nat, g < (G 0 2).toNat ∧ A 4 k = (g : Int) ∧ layP A G k = G 1 g + ldg A g k ∧ G 1 g ≤ layP A G k ∧ layP A G k + A 2 k ≤ G 1 g + G 2 g := fun k hk => by
    have hf := hF.2 k hk
    obtain ⟨g, hg⟩ : ∃ g : Nat, A 4 k = (g : Int) := ⟨(A 4 k).toNat, by omega⟩
    have hg2 : g < (G 0 2).toNat := by omega
    have hl := hF.1 g hg2
    have hb := ldg_bound hD g k (by omega)
    have hm := ldg_mono hD g (k := k + 1) (A 0 7).toNat (by omega) (Nat.le_refl _)
    rw [ldg_succ, if_pos hg] at hm
    have hP : layP A G k = G 1 g + ldg A g k := by unfold layP; rw [hg, toNat_nat]
    exact ⟨g, hg2, hg, hP, by omega, by omega⟩
  have hmm : ∀ k k', k < (A 0 7).toNat → k' < (A 0 7).toNat → k < k' → layP A G k + A 2 k ≤ layP A G k' ∨ layP A G k' + A 2 k' ≤ layP A G k := fun k k' hk hk' hlt => by
    obtain ⟨g, a1, a2, a3, a4, a5⟩ := hin k hk
    obtain ⟨g', b1, b2, b3, b4, b5⟩ := hin k' hk'
    rcases Nat.lt_trichotomy g g' with c | c | c
    · have := hGs g g' c b1
      left; omega
    · subst c
      have hm := ldg_mono hD g (k := k + 1) k' (by omega) (by omega)
      rw [ldg_succ, if_pos a2] at hm
      left; omega
    · have := hGs g' g c a1
      right; omega
  have hmf : ∀ k j : Nat, k < (A 0 7).toNat → j < 11 → mov h (j : Int) = false → h 1 j ≠ -1 → h 1 j + h 2 j + 1 ≤ layP A G k ∨ layP A G k + A 2 k ≤ h 1 j := fun k j hk hj hm hp => by
    obtain ⟨g, a1, a2, a3, a4, a5⟩ := hin k hk
    have hop := (hGb g a1).2.2.2
    have hjz := z4 j hj
    have hk2 := hD.1 k hk
    by_cases c1 : h 1 j + h 2 j + 1 ≤ layP A G k
    · exact Or.inl c1
    · by_cases c2 : layP A G k + A 2 k ≤ h 1 j
      · exact Or.inr c2
      · exfalso
        have hno : ∀ c, G 1 g ≤ c → c < G 1 g + G 2 g → ¬ cvd h j c := fun c x1 x2 x3 => by
          have := hop c x1 x2 j hj x3
          rw [movS_in h hj, hm] at this
          cases this
        by_cases c3 : layP A G k ≤ h 1 j
        · exact hno (h 1 j) (by omega) (by omega) ⟨hp, Int.le_refl _, by omega⟩
        · exact hno (layP A G k) (by omega) (by omega) ⟨hp, by omega, by omega⟩
  refine ⟨⟨by rw [hoth 0 9 (by omega)]; exact z1, by rw [hoth 0 9 (by omega), hoth 0 10 (by omega)]; exact z2, by rw [hoth 0 10 (by omega)]; exact z3, fun i hi => ?_, fun i j hi hj hij hpi hpj => ?_, fun i hi => by rw [hoth 4 i (by omega)]; exact z6 i hi⟩, hoth, hfx, hmv, hD⟩
  · rw [hoth 2 i (by omega), hoth 0 9 (by omega)]
    have hzi := z4 i hi
    cases hm : mov h (i : Int)
    · rw [hfx i hi hm]; exact hzi
    · obtain ⟨k, k1, k2, k3, k4⟩ := hmv i hi hm
      obtain ⟨g, a1, a2, a3, a4, a5⟩ := hin k k1
      have := hGb g a1
      have hk2 := hD.1 k k1
      have h8 := mov_lt hm
      rw [xw_nat (by omega)] at h8
      have hp := (mov_iff (show i < 8 by omega)).mp hm
      rw [hL.xpl (by omega)] at hp
      rw [k4]
      omega
  · rw [hoth 2 i (by omega), hoth 2 j (by omega)]
    cases hmi : mov h (i : Int)
    · rw [hfx i hi hmi] at hpi ⊢
      cases hmj : mov h (j : Int)
      · rw [hfx j hj hmj] at hpj ⊢
        exact z5 i j hi hj hij hpi hpj
      · obtain ⟨k, k1, k2, k3, k4⟩ := hmv j hj hmj
        have := hmf k i k1 hi hmi hpi
        rw [k4]
        omega
    · obtain ⟨k, k1, k2, k3, k4⟩ := hmv i hi hmi
      cases hmj : mov h (j : Int)
      · rw [hfx j hj hmj] at hpj ⊢
        have := hmf k j k1 hj hmj hpj
        rw [k4]
        omega
      · obtain ⟨k', k1', k2', k3', k4'⟩ := hmv j hj hmj
        rw [k4, k4']
        have hne : k ≠ k' := fun e => by
          rw [e] at k2
          omega
        rcases Nat.lt_or_gt_of_ne hne with c | c
        · have := hmm k k' k1 k1' c; omega
        · have := hmm k' k k1' k1 c; omega
