theorem pd_f {p : Prop} (h : ¬ p) : pd p = false := by
  cases hq : pd p with
  | false => rfl
  | true => exact absurd (pd_of hq) h
theorem xset_same (h : Ob) (b n : Nat) (x : Int) : xset h b n x b n = x := by simp [xset]
theorem xset_part (h : Ob) (b n : Nat) (x : Int) {j : Nat} (hj : j ≠ b) (k : Nat) : xset h b n x j k = h j k := by simp [xset, hj]
theorem xset_idx (h : Ob) (b n : Nat) (x : Int) {k : Nat} (hk : k ≠ n) (j : Nat) : xset h b n x j k = h j k := by simp [xset, hk]
/-- k isn't strictly within a block -/
def Nb (h : Ob) (k : Int) : Prop := ∀ i, i < 11 → h 1 i ≠ -1 → h 1 i < k → h 1 i + h 2 i + 1 ≤ k
theorem LW.nb0 {h : Ob} (hL : LW h) : Nb h 0 := fun i hi hp hk => by
  have := hL.pl hi
  omega
theorem LW.nb_nxt {h : Ob} (hL : LW h) {k e : Int} (hk : 0 ≤ k) (hke : k < e) (he : e ≤ 200) (hN : Nb h k) : Nb h (nxt h k e) := by
  intro i hi hp hlt
  by_cases hx : ∃ j, j < 11 ∧ h 1 j = k
  · obtain ⟨j, hj, rfl⟩ := hx
    rw [hL.nxt_at hj (by omega)] at hlt ⊢
    by_cases hij : i = j
    · subst hij; omega
    · have := hL.2.2.2.2.1 i j hi hj hij hp (by omega)
      have a := hL.2.2.2.1 j hj
      omega
  · have hn : ∀ i, i < 11 → h 1 i ≠ k := fun i hi hp => hx ⟨i, hi, hp⟩
    obtain ⟨a1, a2, a3, -⟩ := hL.nxt_free hk hke he hn
    have h1 := hn i hi
    by_cases h2 : k < h 1 i
    · have := a3 i hi h2; omega
    · have := hN i hi hp (by omega); omega
theorem LW.wlkc {h : Ob} (hL : LW h) {e : Int} (he1 : h 0 9 ≤ e) (he : e ≤ 200) : ∀ (t : Nat) (k : Int), 0 ≤ k → k ≤ e → (e - k).toNat ≤ t → Nb h k →
    (∀ x ∈ wlk h e t k, k ≤ x ∧ x < e ∧ Nb h x) ∧ (∀ i, i < 11 → k ≤ h 1 i → h 1 i ≠ -1 → h 1 i ∈ wlk h e t k) ∧ (wlk h e t k).Pairwise (· < ·) := by
  intro t
  induction t with
  | zero =>
    intro k hk hke ht hN
    refine ⟨fun x hx => absurd hx List.not_mem_nil, fun i hi h1 h2 => ?_, List.Pairwise.nil⟩
    have := hL.2.2.2.1 i hi
    omega
  | succ t ih =>
    intro k hk hke ht hN
    show (∀ x ∈ (if k < e then k :: wlk h e t (nx h e k) else []), _) ∧ (∀ i, i < 11 → k ≤ h 1 i → h 1 i ≠ -1 → h 1 i ∈ (if k < e then k :: wlk h e t (nx h e k) else [])) ∧ List.Pairwise (· < ·) (if k < e then k :: wlk h e t (nx h e k) else [])
    by_cases hc : k < e
    · rw [if_pos hc]
      obtain ⟨n1, n2, n3⟩ := hL.nxc hk hc he1 he
      have hN' := hL.nb_nxt hk hc he hN
      rw [← n3] at hN'
      obtain ⟨i1, i2, i3⟩ := ih (nx h e k) (by omega) n2 (by omega) hN'
      refine ⟨fun x hx => ?_, fun i hi h1 h2 => ?_, ?_⟩
      · rcases List.mem_cons.mp hx with rfl | hx
        · exact ⟨Int.le_refl _, hc, hN⟩
        · have := i1 x hx
          exact ⟨by omega, this.2.1, this.2.2⟩
      · by_cases hik : h 1 i = k
        · rw [hik]; exact List.mem_cons_self
        · refine List.mem_cons_of_mem _ (i2 i hi ?_ h2)
          rw [n3]
          by_cases hx : ∃ j, j < 11 ∧ h 1 j = k
          · obtain ⟨j, hj, rfl⟩ := hx
            rw [hL.nxt_at hj (by omega)]
            have := hL.2.2.2.2.1 i j hi hj (fun z => hik (by rw [z])) h2 (by omega)
            have b := hL.2.2.2.1 i hi
            omega
          · exact (hL.nxt_free hk hc he (fun i hi hp => hx ⟨i, hi, hp⟩)).2.2.1 i hi (by omega)
      · refine List.pairwise_cons.mpr ⟨fun x hx => ?_, i3⟩
        have := i1 x hx
        omega
    · rw [if_neg hc]
      refine ⟨fun x hx => absurd hx List.not_mem_nil, fun i hi h1 h2 => ?_, List.Pairwise.nil⟩
      have := hL.2.2.2.1 i hi
      omega
theorem LW.wlsc {h : Ob} (hL : LW h) {e : Int} (he1 : h 0 9 ≤ e) (he : e ≤ 200) : (∀ x ∈ wls h e, 0 ≤ x ∧ x < e ∧ Nb h x) ∧ (∀ i, i < 11 → h 1 i ≠ -1 → h 1 i ∈ wls h e) ∧ (wls h e).Pairwise (· < ·) := by
  rw [wls_e]
  have := hL.1
  obtain ⟨a, b, c⟩ := hL.wlkc he1 he wfu 0 (by omega) (by omega) (by rw [wfu_e]; omega) hL.nb0
  exact ⟨a, fun i hi hp => b i hi (by have := hL.pl hi; omega) hp, c⟩
theorem hol_range {h : Ob} (hL : LW h) {k : Int} (hk : 0 ≤ k) (hk2 : k < 2147483648) : -1 ≤ hol h k ∧ hol h k < 11 ∧ xw (hol h k) = hol h k := by
  rcases hL.holc hk hk2 with ⟨i, h1, h2, h3⟩ | ⟨h1, h3⟩ <;> rw [h3]
  · exact ⟨by omega, by omega, xw_nat (by omega)⟩
  · exact ⟨by omega, by omega, by decide⟩
theorem mov_iff {h : Ob} {i : Nat} (hi : i < 8) : mov h (i : Int) = true ↔ xw (h 1 i) ≠ -1 ∧ xw (h 4 i) = 0 := by
  unfold mov ful
  rw [hdl_nat hi, xw_nat (show i < 2147483648 by omega), toNat_nat]
  simp
theorem mov_lt {h : Ob} {a : Int} (hm : mov h a = true) : 0 ≤ xw a ∧ xw a < 8 := by
  unfold mov ful at hm
  simp only [Bool.and_eq_true] at hm
  exact hdl_iff.mp hm.1.1
/-- what one slide finds -/
theorem LW.ffmc {h : Ob} (hL : LW h) (hf : ffm h ≠ -1) : 0 ≤ ffm h ∧ ffm h < h 0 9 ∧ Nb h (ffm h) ∧ (∀ i, i < 11 → h 1 i ≠ ffm h) ∧ ∃ i : Nat, i < 8 ∧ hol h (nxt h (ffm h) (h 0 9)) = (i : Int) ∧ h 1 i = nxt h (ffm h) (h 0 9) ∧ ffm h < h 1 i ∧ h 4 i = 0 ∧ mov h (i : Int) = true := by
  obtain ⟨z1, z2, z3, -⟩ := id hL
  generalize hx : ffm h = x at hf ⊢
  rw [ffm_e] at hx
  unfold ffmI at hx
  cases hq : (wls h (h 0 9)).find? (fun k => decide (hol h k = -1) && mov h (hol h (nxt h k (h 0 9)))) with
  | none => rw [hq] at hx; exact absurd hx.symm hf
  | some y =>
    rw [hq] at hx
    have hx : y = x := hx
    subst hx
    have hp := List.find?_some hq
    have hm := List.mem_of_find?_eq_some hq
    obtain ⟨w1, w2, w3⟩ := (hL.wlsc (Int.le_refl _) (by omega)).1 y hm
    simp only [Bool.and_eq_true, decide_eq_true_eq] at hp
    have hn : ∀ i, i < 11 → h 1 i ≠ y := by
      rcases hL.holc (k := y) w1 (by omega) with ⟨i, h1, h2, h3⟩ | ⟨h1, h3⟩
      · rw [h3] at hp; omega
      · exact h1
    refine ⟨w1, w2, w3, hn, ?_⟩
    obtain ⟨a1, a2, a3, a4⟩ := hL.nxt_free w1 w2 (by omega) hn
    rcases hL.holc (k := nxt h y (h 0 9)) (by omega) (by omega) with ⟨i, h1, h2, h3⟩ | ⟨h1, h3⟩
    · have hmv := hp.2
      rw [h3] at hmv
      have hi8 : i < 8 := by
        have := mov_lt hmv
        rw [xw_nat (by omega)] at this
        omega
      have hl := ((mov_iff hi8).mp hmv).2
      have hlk := hL.2.2.2.2.2 i hi8
      rw [xw_id (by omega) (by omega)] at hl
      exact ⟨i, hi8, h3, h2, by omega, hl, hmv⟩
    · have hmv := hp.2
      rw [h3] at hmv
      exact absurd (mov_lt hmv).1 (by decide)
theorem LW.movec {h : Ob} (hL : LW h) {i : Nat} (hi : i < 11) {at_ : Int} (h0 : 0 ≤ at_) (hp : h 1 i ≠ -1) (he : at_ + h 2 i + 1 ≤ h 0 9) (hd : ∀ j, j < 11 → j ≠ i → h 1 j ≠ -1 → h 1 j + h 2 j + 1 ≤ at_ ∨ at_ + h 2 i + 1 ≤ h 1 j) : LW (xset h 1 i at_) := by
  obtain ⟨z1, z2, z3, z4, z5, z6⟩ := hL
  have hi4 := z4 i hi
  refine ⟨by rw [xset_part _ _ _ _ (by omega)]; exact z1, by rw [xset_part _ _ _ _ (by omega), xset_part _ _ _ _ (by omega)]; exact z2, by rw [xset_part _ _ _ _ (by omega)]; exact z3, fun j hj => ?_, fun a b ha hb hab hpa hpb => ?_, fun j hj => by rw [xset_part _ _ _ _ (by omega)]; exact z6 j hj⟩
  · rw [xset_part _ 1 _ _ (show 2 ≠ 1 by omega), xset_part _ 1 _ _ (show 0 ≠ 1 by omega)]
    by_cases hji : j = i
    · subst hji
      rw [xset_same]
      omega
    · rw [xset_idx _ _ _ _ hji]
      exact z4 j hj
  · rw [xset_part _ 1 _ _ (show 2 ≠ 1 by omega), xset_part _ 1 _ _ (show 2 ≠ 1 by omega)]
    by_cases hai : a = i
    · subst hai
      rw [xset_same, xset_idx _ _ _ _ (Ne.symm hab)] at *
      have := hd b hb (Ne.symm hab) hpb
      omega
    · by_cases hbi : b = i
      · subst hbi
        rw [xset_same, xset_idx _ _ _ _ hai] at *
        have := hd a ha hai hpa
        omega
      · rw [xset_idx _ _ _ _ hai, xset_idx _ _ _ _ hbi] at *
        exact z5 a b ha hb hab hpa hpb
theorem LW.slide1 {h : Ob} (hL : LW h) {i : Nat} (hf : ffm h ≠ -1) (hi : i < 11) (hq : h 1 i = nxt h (ffm h) (h 0 9)) : LW (xset h 1 i (ffm h)) := by
  obtain ⟨z1, z2, z3, -⟩ := id hL
  obtain ⟨a1, a2, a3, a4, -⟩ := hL.ffmc hf
  obtain ⟨b1, b2, b3, b4⟩ := hL.nxt_free a1 a2 (by omega) a4
  have hi4 := hL.2.2.2.1 i hi
  refine hL.movec hi a1 (by omega) (by omega) (fun j hj hji hpj => ?_)
  by_cases hlt : h 1 j < ffm h
  · exact Or.inl (a3 j hj hpj hlt)
  · have hne := a4 j hj
    have := b3 j hj (by omega)
    have hj4 := hL.2.2.2.1 j hj
    rcases hL.2.2.2.2.1 j i hj hi hji hpj (by omega) with h1 | h1 <;> omega
/-- slides till n cells are free, t at most -/
noncomputable def sldI (n : Int) : Nat → Ob → Int × Ob
  | 0, h => (-1, h)
  | t + 1, h => if ffm h = -1 then (-1, h) else
    if xw n ≤ nxt (xset h 1 (hol h (nxt h (ffm h) (h 0 9))).toNat (ffm h)) (nxt (xset h 1 (hol h (nxt h (ffm h) (h 0 9))).toNat (ffm h)) (ffm h) (h 0 9)) (h 0 9) - nxt (xset h 1 (hol h (nxt h (ffm h) (h 0 9))).toNat (ffm h)) (ffm h) (h 0 9)
    then (nxt (xset h 1 (hol h (nxt h (ffm h) (h 0 9))).toNat (ffm h)) (ffm h) (h 0 9), xset h 1 (hol h (nxt h (ffm h) (h 0 9))).toNat (ffm h))
    else sldI n t (xset h 1 (hol h (nxt h (ffm h) (h 0 9))).toNat (ffm h))
noncomputable def sld (h : Ob) (n : Int) : Int × Ob := xop (sldI n) (xop 1000) h
theorem sld_e (h : Ob) (n : Int) : sld h n = sldI n 1000 h := by unfold sld; rw [xop_eq, xop_eq]
def begO (h : Ob) (a b : Int) : Ob := fun j k => if j = 1 ∧ k < 11 then -1 else if j = 4 ∧ k < 8 then 0 else if j = 0 ∧ k = 9 then a else if j = 0 ∧ k = 10 then b else if j = 0 ∧ 7 ≤ k ∧ k < 14 then 0 else h j k
def cpyO (h o : Ob) : Ob := fun j k => if (j = 1 ∧ k < 11) ∨ (j = 2 ∧ k < 11) ∨ (j = 3 ∧ k < 660) ∨ (4 ≤ j ∧ j < 8 ∧ k < 8) ∨ (j = 0 ∧ 7 ≤ k ∧ k < 14) then o j k else h j k
noncomputable def celF (h : Ob) (k : Int) : Int := if 0 ≤ xw k ∧ xw k < h 0 9 then
  (match (List.range 11).find? (fun i => !decide (h 1 i = -1) && decide (h 1 i ≤ xw k) && decide (xw k ≤ h 1 i + h 2 i)) with
  | some i => if xw k = h 1 i then 64 * (h 2 i + 1) + ownF (i : Int) else conF h (i : Int) (k - h 1 i - 1)
  | none => if pd (xw k = 0 ∨ ∃ i, i < 11 ∧ h 1 i ≠ -1 ∧ xw k = h 1 i + h 2 i + 1) then 64 * (nxt h k (h 0 9) - k) else 0) else 0
def hwc (h : Ob) (k : Int) : Int := lfind (fun i => ful h (i : Int) && (decide (xw (h 1 i) < xw k) && decide (xw k ≤ xw (h 1 i + h 2 i)))) 8
noncomputable def frb (h : Ob) (a : Int) : Int := if ful h a then (if xw (h 0 9) ≤ xw (h 1 (xw a).toNat + h 2 (xw a).toNat + 1) then 0 else if xw (hol h (h 1 (xw a).toNat + h 2 (xw a).toNat + 1)) = -1 then nxt h (h 1 (xw a).toNat + h 2 (xw a).toNat + 1) (h 0 9) - (h 1 (xw a).toNat + h 2 (xw a).toNat + 1) else 0) else 0
def torF (h : Ob) (a v b : Int) : Bool := decide (xw v < 64) || (!decide (xw (a + xdiv v 64) ≤ xw (h 0 9))) || (if xw (xrem v 64) = 0 then decide (b = 1) else decide (xw (holF (xrem v 64)) = -1) || !(decide (xw (h 1 (xw (holF (xrem v 64))).toNat) = xw a)) || !decide (xw (h 2 (xw (holF (xrem v 64))).toNat + 1) = xw (xdiv v 64)))
def bgn (h : Ob) : Int := (List.range 11).foldl (fun (b : Int) (i : Nat) => if xw (h 1 i) = -1 then b else xmax b (h 1 i + h 2 i + 1)) 0
def grO (h : Ob) (n : Int) : Ob := xset h 0 9 (xmax (h 0 9) (xmin (h 0 10) (bgn h + n)))
def grR (h : Ob) (n : Int) : Int := if xw (h 0 10) < xw (bgn h + n) then -1 else bgn h
theorem holF_range (x : Int) : xw (holF x) = -1 ∨ (0 ≤ xw (holF x) ∧ xw (holF x) < 11) := by
  unfold holF
  split
  · rename_i h
    right
    simp only [xw_def] at *
    omega
  · split
    · rename_i h
      right
      simp only [xw_def] at *
      omega
    · left; decide
