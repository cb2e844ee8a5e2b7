theorem hgF_iff {A G : Ob} {n : Int} (hn1 : 1 ≤ n) (hn2 : n ≤ 200) (h5 : ∀ g, g < (G 0 2).toNat → 0 ≤ A 5 g ∧ A 5 g ≤ 200) : hgF A G n = true ↔ ∃ g, g < (G 0 2).toNat ∧ n ≤ A 5 g := by
  unfold hgF
  rw [decide_eq_true_eq]
  have hx : xw n = n := xw_id (by omega) (by omega)
  rcases lfind_cases (fun g => decide (xw n ≤ xw (A 5 g))) (G 0 2).toNat with ⟨i, i1, i2, i3⟩ | ⟨i1, i2⟩
  · have h2 := of_decide_eq_true i2
    have := h5 i i1
    rw [hx, xw_id (x := A 5 i) (by omega) (by omega)] at h2
    refine ⟨fun _ => ⟨i, i1, h2⟩, fun _ => ?_⟩
    rw [i3.2]
    omega
  · rw [i2]
    refine ⟨fun z => absurd rfl z, fun ⟨g, g1, g2⟩ => ?_⟩
    have h3 := i1 g g1
    have := h5 g g1
    rw [hx, xw_id (x := A 5 g) (by omega) (by omega)] at h3
    exact absurd g2 (by simpa using h3)
/-- a way that is found is the first of those that there are -/
theorem gv_best (G : Ob) {n : Int} (hn1 : 1 ≤ n) (hn2 : n ≤ 200) (hG : rk G = true) : ∀ (l k : Nat) (mv : Int) (A : Ob), AOk A → k + l = (A 0 7).toNat + 1 → Lf A G k → -100 ≤ mv - (l : Int) → mv ≤ 100 →
    ((gvI G n l (k : Int) mv A).1 = true → ∃ w : List Nat, w.length + k = (A 0 7).toNat ∧ VW (G 0 2).toNat n (A 2) (fun i => xw (A 3 i)) k mv (A 5) w ∧ (∀ (i v : Nat), w[i]? = some v → (gvI G n l (k : Int) mv A).2 4 (k + i) = (v : Int)) ∧ ∀ w' : List Nat, w'.length + k = (A 0 7).toNat → VW (G 0 2).toNat n (A 2) (fun i => xw (A 3 i)) k mv (A 5) w' → Nw (G 0 2).toNat w ≤ Nw (G 0 2).toNat w') ∧
    ((gvI G n l (k : Int) mv A).1 = false → ∀ w' : List Nat, w'.length + k = (A 0 7).toNat → ¬ VW (G 0 2).toNat n (A 2) (fun i => xw (A 3 i)) k mv (A 5) w') := by
  obtain ⟨r1, r2⟩ := rk_iff.mp hG
  intro l
  induction l with
  | zero => intro k mv A hA hkl _ _ _; exact ⟨fun h => absurd h (by simp [gvI]), fun _ w' hw' => by omega⟩
  | succ l ih =>
    intro k mv A hA hkl hL hmv1 hmv2
    have hnn : ∀ j, j < (A 0 7).toNat → 0 ≤ A 2 j := fun j hj => by have := hA.2.2 j hj; omega
    have hrm := hgF_iff (A := A) (G := G) hn1 hn2 (fun g hg => (hL.1 g hg).2)
    unfold gvI
    cases hh : hgF A G n
    · refine ⟨fun h => absurd h (by simp), fun _ w' hw' hv => ?_⟩
      obtain ⟨g, g1, g2⟩ := VW_room hnn (by omega) hv
      rw [hrm.mpr ⟨g, g1, g2⟩] at hh
      cases hh
    · simp only [Bool.true_eq_false, if_false]
      by_cases hk : A 0 7 ≤ (k : Int)
      · rw [if_pos hk]
        refine ⟨fun _ => ⟨[], by simp; omega, hrm.mp hh, fun i v hv => by simp at hv, fun w' hw' _ => Nat.zero_le _⟩, fun h => absurd h (by simp)⟩
      · rw [if_neg hk]
        have hkc : k < (A 0 7).toNat := by omega
        rw [List.range_eq_range']
        have key : ∀ (d g0 : Nat) (B : Ob), g0 + d = (G 0 2).toNat → (∀ j i, (j ≠ 4 ∨ i < k) → (j ≠ 5 ∨ i < (G 0 2).toNat) → B j i = A j i) →
            ((gvL (k : Int) mv (gvI G n l ((k : Int) + 1)) (List.range' g0 d) B).1 = true → ∃ w : List Nat, w.length + k = (A 0 7).toNat ∧ VW (G 0 2).toNat n (A 2) (fun i => xw (A 3 i)) k mv (A 5) w ∧ (∀ (i v : Nat), w[i]? = some v → (gvL (k : Int) mv (gvI G n l ((k : Int) + 1)) (List.range' g0 d) B).2 4 (k + i) = (v : Int)) ∧ ∀ (a : Nat) (w' : List Nat), g0 ≤ a → (a :: w').length + k = (A 0 7).toNat → VW (G 0 2).toNat n (A 2) (fun i => xw (A 3 i)) k mv (A 5) (a :: w') → Nw (G 0 2).toNat w ≤ Nw (G 0 2).toNat (a :: w')) ∧
            ((gvL (k : Int) mv (gvI G n l ((k : Int) + 1)) (List.range' g0 d) B).1 = false → ∀ (a : Nat) (w' : List Nat), g0 ≤ a → (a :: w').length + k = (A 0 7).toNat → ¬ VW (G 0 2).toNat n (A 2) (fun i => xw (A 3 i)) k mv (A 5) (a :: w')) := by
          intro d
          induction d with
          | zero =>
            intro g0 B hg0 hB
            refine ⟨fun h => absurd h (by simp [gvL]), fun _ a w' ha _ hv => ?_⟩
            have := hv.1
            omega
          | succ d iht =>
            intro g0 B hg0 hB
            have hg : g0 < (G 0 2).toNat := by omega
            rw [List.range'_succ]
            unfold gvL
            rw [toNat_nat]
            have hB7 : B 0 7 = A 0 7 := hB 0 7 (by omega) (by omega)
            have hB3 : B 3 k = A 3 k := hB 3 k (by omega) (by omega)
            have hB2e : B 2 k = A 2 k := hB 2 k (by omega) (by omega)
            have hB5e : B 5 g0 = A 5 g0 := hB 5 g0 (by omega) (Or.inr hg)
            have hBA : AOk B := hA.cong (fun j i h4 h5 => hB j i (Or.inl h4) (Or.inl h5))
            have hBL : Lf B G k := hL.cong (fun g hg => hB 5 g (by omega) (Or.inr hg)) (fun i hi => hB 4 i (Or.inr hi) (by omega)) (fun i _ => hB 2 i (by omega) (by omega))
            have hB2 := hBA.2.2 k (by rw [hB7]; exact hkc)
            have hB5 := (hBL.1 g0 hg).2
            rw [xw_id (x := B 5 g0) (by omega) (by omega), xw_id (x := B 2 k) (by omega) (by omega), hB3]
            generalize hmt : (if (g0 : Int) = xw (A 3 k) then mv else mv - 1) = mt
            have hmtb : mv - 1 ≤ mt ∧ mt ≤ mv := by rw [← hmt]; split <;> omega
            rw [xw_id (x := mt) (by omega) (by omega)]
            -- none begins with this gap: the others
            have others : (∀ w' : List Nat, (g0 :: w').length + k = (A 0 7).toNat → ¬ VW (G 0 2).toNat n (A 2) (fun i => xw (A 3 i)) k mv (A 5) (g0 :: w')) → ∀ B' : Ob, (∀ j i, (j ≠ 4 ∨ i < k) → (j ≠ 5 ∨ i < (G 0 2).toNat) → B' j i = A j i) →
                ((gvL (k : Int) mv (gvI G n l ((k : Int) + 1)) (List.range' (g0 + 1) d) B').1 = true → ∃ w : List Nat, w.length + k = (A 0 7).toNat ∧ VW (G 0 2).toNat n (A 2) (fun i => xw (A 3 i)) k mv (A 5) w ∧ (∀ (i v : Nat), w[i]? = some v → (gvL (k : Int) mv (gvI G n l ((k : Int) + 1)) (List.range' (g0 + 1) d) B').2 4 (k + i) = (v : Int)) ∧ ∀ (a : Nat) (w' : List Nat), g0 ≤ a → (a :: w').length + k = (A 0 7).toNat → VW (G 0 2).toNat n (A 2) (fun i => xw (A 3 i)) k mv (A 5) (a :: w') → Nw (G 0 2).toNat w ≤ Nw (G 0 2).toNat (a :: w')) ∧
                ((gvL (k : Int) mv (gvI G n l ((k : Int) + 1)) (List.range' (g0 + 1) d) B').1 = false → ∀ (a : Nat) (w' : List Nat), g0 ≤ a → (a :: w').length + k = (A 0 7).toNat → ¬ VW (G 0 2).toNat n (A 2) (fun i => xw (A 3 i)) k mv (A 5) (a :: w')) := by
              intro hno B' hB'
              obtain ⟨t1, t2⟩ := iht (g0 + 1) B' (by omega) hB'
              refine ⟨fun h => ?_, fun h a w' ha hlen hv => ?_⟩
              · obtain ⟨w, w1, w2, w3, w4⟩ := t1 h
                refine ⟨w, w1, w2, w3, fun a w' ha hlen hv => ?_⟩
                by_cases hag : a = g0
                · subst hag; exact absurd hv (hno w' hlen)
                · exact w4 a w' (by omega) hlen hv
              · by_cases hag : a = g0
                · subst hag; exact hno w' hlen hv
                · exact t2 h a w' (by omega) hlen hv
            by_cases c1 : mt < 0
            · rw [if_pos c1]
              refine others (fun w' _ hv => ?_) B hB
              have := hv.2.2.1
              dsimp only at this
              rw [hmt] at this
              omega
            · rw [if_neg c1]
              by_cases c2 : B 5 g0 < B 2 k
              · rw [if_pos c2]
                refine others (fun w' _ hv => ?_) B hB
                have := hv.2.1
                omega
              · rw [if_neg c2]
                have hN := Lf.next hBA (by rw [hB7]; exact hkc) hBL hg (by omega)
                generalize hB1 : xset (xset B 5 g0 (B 5 g0 - B 2 k)) 4 k (g0 : Int) = B1 at hN
                have hoff : ∀ j i, j ≠ 4 → j ≠ 5 → B1 j i = B j i := fun j i h4 h5 => by rw [← hB1, xset_part _ _ _ _ h4, xset_part _ _ _ _ h5]
                have h4 : ∀ i, i ≠ k → B1 4 i = B 4 i := fun i hi => by rw [← hB1, xset_idx _ _ _ _ hi, xset_part _ _ _ _ (by omega)]
                have h4k : B1 4 k = (g0 : Int) := by rw [← hB1, xset_same]
                have h5 : ∀ i, i ≠ g0 → B1 5 i = B 5 i := fun i hi => by rw [← hB1, xset_part _ _ _ _ (by omega), xset_idx _ _ _ _ hi]
                have h5g : B1 5 g0 = B 5 g0 - B 2 k := by rw [← hB1, xset_part _ _ _ _ (by omega), xset_same]
                have hB17 : B1 0 7 = A 0 7 := by rw [hoff 0 7 (by omega) (by omega)]; exact hB7
                have hB1A : AOk B1 := hBA.cong hoff
                have hI := gv_ok G n hG l (k + 1) mt B1 hB1A (by rw [hB17]; omega) hN
                have hJ := ih (k + 1) mt B1 hB1A (by rw [hB17]; omega) hN (by omega) (by omega)
                have f2 : B1 2 = A 2 := funext fun i => by rw [hoff 2 i (by omega) (by omega), hB 2 i (by omega) (by omega)]
                have f3 : B1 3 = A 3 := funext fun i => by rw [hoff 3 i (by omega) (by omega), hB 3 i (by omega) (by omega)]
                have f5 : ∀ g, g < (G 0 2).toNat → B1 5 g = pup (A 5) g0 (A 2 k) g := fun g hgG => by
                  unfold pup
                  by_cases hgg : g = g0
                  · rw [if_pos hgg, hgg, h5g, hB5e, hB2e]
                  · rw [if_neg hgg, h5 g hgg, hB 5 g (by omega) (Or.inr hgG)]
                rw [f2, f3, hB17] at hJ
                rw [show ((k + 1 : Nat) : Int) = (k : Int) + 1 by omega, hB17] at hI
                rw [show ((k + 1 : Nat) : Int) = (k : Int) + 1 by omega] at hJ
                generalize gvI G n l ((k : Int) + 1) mt B1 = r at hI hJ
                obtain ⟨rb, rO⟩ := r
                dsimp only at hI hJ ⊢
                cases rb
                · rw [if_pos rfl]
                  have hF := hI.2 rfl
                  refine others (fun w' hlen hv => ?_) _ (fun j i hj hi => ?_)
                  · obtain ⟨v1, v2, v3, v4⟩ := hv
                    dsimp only at v4
                    rw [hmt] at v4
                    exact hJ.2 rfl w' (by simp at hlen; omega) (VW_cong (fun g hgG => (f5 g hgG).symm) v4)
                  · by_cases j5 : j = 5
                    · subst j5
                      by_cases hig : i = g0
                      · subst hig
                        rw [xset_same, hF 5 i (by omega) (by omega), h5g, hF 2 k (by omega) (by omega), hoff 2 k (by omega) (by omega), ← hB 5 i hj hi]
                        omega
                      · rw [xset_idx _ _ _ _ hig, hF 5 i (by omega) hi, h5 i hig]
                        exact hB 5 i hj hi
                    · rw [xset_part _ _ _ _ j5, hF j i (by omega) (Or.inl j5)]
                      by_cases j4 : j = 4
                      · subst j4
                        rw [h4 i (by omega)]
                        exact hB 4 i hj hi
                      · rw [hoff j i j4 j5]
                        exact hB j i hj hi
                · rw [if_neg (by simp)]
                  refine ⟨fun _ => ?_, fun h => absurd h (by simp)⟩
                  obtain ⟨-, -, s3⟩ := hI.1 rfl
                  obtain ⟨w, w1, w2, w3, w4⟩ := hJ.1 rfl
                  have hVW : VW (G 0 2).toNat n (A 2) (fun i => xw (A 3 i)) k mv (A 5) (g0 :: w) := by
                    refine ⟨hg, by omega, ?_, ?_⟩
                    · dsimp only; rw [hmt]; omega
                    · dsimp only; rw [hmt]; exact VW_cong f5 w2
                  refine ⟨g0 :: w, by simp; omega, hVW, fun i v hv => ?_, fun a w' ha hlen hv => ?_⟩
                  · cases i with
                    | zero =>
                      have : g0 = v := by simpa using hv
                      rw [← this, Nat.add_zero]
                      show rO 4 k = _
                      rw [s3 k (by omega), h4k]
                    | succ i =>
                      have : w[i]? = some v := by simpa using hv
                      have := w3 i v this
                      rw [show k + (i + 1) = k + 1 + i by omega]
                      exact this
                  · have hl' : w'.length + (k + 1) = (A 0 7).toNat := by simp at hlen; omega
                    by_cases hag : a = g0
                    · subst hag
                      obtain ⟨v1, v2, v3, v4⟩ := hv
                      dsimp only at v4
                      rw [hmt] at v4
                      have := w4 w' hl' (VW_cong (fun g hgG => (f5 g hgG).symm) v4)
                      show a * (G 0 2).toNat ^ w.length + Nw _ w ≤ a * (G 0 2).toNat ^ w'.length + Nw _ w'
                      rw [show w.length = w'.length by omega]
                      omega
                    · have hwl : ∀ x ∈ w, x < (G 0 2).toNat := by
                        have hall : ∀ {w : List Nat} {k : Nat} {mv : Int} {lf : Nat → Int}, VW (G 0 2).toNat n (A 2) (fun i => xw (A 3 i)) k mv lf w → ∀ x ∈ w, x < (G 0 2).toNat := by
                          intro w
                          induction w with
                          | nil => intro k mv lf _ x hx; exact absurd hx List.not_mem_nil
                          | cons a w ihw =>
                            rintro k mv lf ⟨v1, v2, v3, v4⟩ x hx
                            rcases List.mem_cons.mp hx with hx | hx
                            · rw [hx]; exact v1
                            · exact ihw v4 x hx
                        exact hall w2
                      exact Nw_head (by omega) hwl (by omega)
        obtain ⟨t1, t2⟩ := key (G 0 2).toNat 0 A (by omega) (fun j i _ _ => rfl)
        refine ⟨fun h => ?_, fun h w' hlen hv => ?_⟩
        · obtain ⟨w, w1, w2, w3, w4⟩ := t1 h
          refine ⟨w, w1, w2, w3, fun w' hlen hv => ?_⟩
          cases w' with
          | nil => simp at hlen; omega
          | cons a w' => exact w4 a w' (Nat.zero_le _) hlen hv
        · cases w' with
          | nil => simp at hlen; omega
          | cons a w' => exact t2 h a w' (Nat.zero_le _) hlen hv
/-- the search with ever more moves finds the best way -/
theorem asI_best {h : Ob} (hL : LW h) (A0 G0 : Ob) {n : Int} (hn1 : 1 ≤ n) (hn2 : n ≤ 200) (hex : ∃ w, Val (skG G0 h 0 2).toNat n (lsO A0 (skG G0 h) h 2) (skG G0 h 2) (mvl h).length w) : ∀ (d : Nat) (mv : Nat) (A : Ob), mv + d = (mvl h).length + 1 → (∀ j i, j ≠ 4 → j ≠ 5 → A j i = lsO A0 (skG G0 h) h j i) → (∀ w, Val (skG G0 h 0 2).toNat n (lsO A0 (skG G0 h) h 2) (skG G0 h 2) (mvl h).length w → (mv : Int) ≤ mvw (fun i => xw (lsO A0 (skG G0 h) h 3 i)) 0 w) →
    ∃ A1 w, (∀ j i, j ≠ 4 → j ≠ 5 → A1 j i = lsO A0 (skG G0 h) h j i) ∧ Lf A1 (skG G0 h) (A1 0 7).toNat ∧ hgF A1 (skG G0 h) n = true ∧ asI (skG G0 h) n h d (mv : Int) A = ((layF A1 (skG G0 h) n h).1, A1, (layF A1 (skG G0 h) n h).2) ∧ Bst (skG G0 h 0 2).toNat n (lsO A0 (skG G0 h) h 2) (fun i => xw (lsO A0 (skG G0 h) h 3 i)) (skG G0 h 2) (mvl h).length w ∧ ∀ (i v : Nat), w[i]? = some v → A1 4 i = (v : Int) := by
  obtain ⟨q1, q2, -⟩ := hL.lsG A0 (skG G0 h)
  have hgp := hL.gaps G0 (movS h)
  have hrk : rk (skG G0 h) = true := hgp.1
  have hgb : ∀ j, j < (skG G0 h 0 2).toNat → 0 ≤ skG G0 h 2 j ∧ skG G0 h 2 j ≤ 200 := hgp.2
  have hlc : lsO A0 (skG G0 h) h 0 7 = ((mvl h).length : Int) := rfl
  have hAk : AOk (lsO A0 (skG G0 h) h) := by
    refine ⟨q1, q2, fun k hk => ?_⟩
    rw [hlc, toNat_nat] at hk
    obtain ⟨i, a1, a2, a3, a4, a5, -⟩ := hL.lsAt A0 (skG G0 h) hk
    have := hL.2.2.2.1 i (by omega)
    rw [a5]
    omega
  have hml := hL.mvl_len
  generalize skG G0 h = G at *
  obtain ⟨r1, r2⟩ := rk_iff.mp hrk
  have hnn : ∀ j, j < (mvl h).length → 0 ≤ lsO A0 G h 2 j := fun j hj => by
    have := hAk.2.2 j (by rw [hlc, toNat_nat]; exact hj)
    omega
  intro d
  induction d with
  | zero =>
    intro mv A hd _ hmin
    exfalso
    obtain ⟨w, hw⟩ := hex
    have h1 := hmin w hw
    have h2 := mvw_bd (fun i => xw (lsO A0 G h 3 i)) 0 w
    rw [hw.1] at h2
    omega
  | succ d ih =>
    intro mv A hd hA hmin
    unfold asI
    have hA' : ∀ j i, j ≠ 4 → j ≠ 5 → xcpy A 5 0 12 (fun i => G 2 (0 + i)) j i = lsO A0 G h j i := fun j i j4 j5 => by
      unfold xcpy
      rw [if_neg (by omega)]
      exact hA j i j4 j5
    have h5 : ∀ g, g < (G 0 2).toNat → xcpy A 5 0 12 (fun i => G 2 (0 + i)) 5 g = G 2 g := fun g hg => by
      unfold xcpy
      rw [if_pos ⟨rfl, by omega, by omega⟩]
      show G 2 (0 + (g - 0)) = G 2 g
      rw [show 0 + (g - 0) = g by omega]
    have hLf : Lf (xcpy A 5 0 12 (fun i => G 2 (0 + i))) G 0 := by
      refine ⟨fun g hg => ?_, fun i hi => by omega⟩
      rw [h5 g hg]
      have := hgb g hg
      refine ⟨?_, this.1, this.2⟩
      show _ = G 2 g - 0
      omega
    generalize xcpy A 5 0 12 (fun i => G 2 (0 + i)) = A' at hA' hLf h5
    have hA7 := hA' 0 7 (by omega) (by omega)
    have hok := gv_ok G n hrk ((A' 0 7 - 0).toNat + 1) 0 (mv : Int) A' (hAk.cong hA') (by omega) hLf
    have hbe := gv_best G hn1 hn2 hrk ((A' 0 7 - 0).toNat + 1) 0 (mv : Int) A' (hAk.cong hA') (by omega) hLf (by rw [hA7, hlc]; omega) (by omega)
    have hoff : ∀ j i, j ≠ 4 → j ≠ 5 → (gvF A' G 0 (mv : Int) n).2 j i = lsO A0 G h j i := fun j i j4 j5 => by
      rw [gvF_e, gvI_off G n _ 0 (mv : Int) A' j i j4 j5]
      exact hA' j i j4 j5
    have f2 : A' 2 = lsO A0 G h 2 := funext fun i => hA' 2 i (by decide) (by decide)
    have f3 : A' 3 = lsO A0 G h 3 := funext fun i => hA' 3 i (by decide) (by decide)
    rw [show ((0 : Nat) : Int) = 0 from rfl, ← gvF_e] at hok hbe
    rw [f2, f3, hA7, hlc, toNat_nat] at hbe
    -- what the search looks through
    have hVV : ∀ (mv' : Nat) (w : List Nat), w.length = (mvl h).length → (VW (G 0 2).toNat n (lsO A0 G h 2) (fun i => xw (lsO A0 G h 3 i)) 0 (mv' : Int) (A' 5) w ↔ Val (G 0 2).toNat n (lsO A0 G h 2) (G 2) (mvl h).length w ∧ mvw (fun i => xw (lsO A0 G h 3 i)) 0 w ≤ (mv' : Int)) := fun mv' w hw => by
      rw [VW_iff hnn (by omega) (by omega) (fun g hg => by rw [h5 g hg]; exact (hgb g hg).1)]
      constructor
      · rintro ⟨v1, v2, ⟨g, v3, v4⟩, v5⟩
        exact ⟨⟨hw, v1, fun g hg => by rw [← h5 g hg]; exact v2 g hg, ⟨g, v3, by rw [← h5 g v3]; exact v4⟩⟩, v5⟩
      · rintro ⟨⟨-, v1, v2, ⟨g, v3, v4⟩⟩, v5⟩
        exact ⟨v1, fun g hg => by rw [h5 g hg]; exact v2 g hg, ⟨g, v3, by rw [h5 g v3]; exact v4⟩, v5⟩
    generalize gvF A' G 0 (mv : Int) n = r at hok hoff hbe
    obtain ⟨rb, rO⟩ := r
    dsimp only at hok hoff hbe ⊢
    cases rb
    · rw [if_pos rfl]
      have := ih (mv + 1) rO (by omega) hoff (fun w hw => by
        have h1 := hmin w hw
        have h2 := hbe.2 rfl w (by rw [hw.1]; omega)
        rw [hVV mv w hw.1] at h2
        have : ¬ mvw (fun i => xw (lsO A0 G h 3 i)) 0 w ≤ (mv : Int) := fun z => h2 ⟨hw, z⟩
        omega)
      rw [show ((mv + 1 : Nat) : Int) = (mv : Int) + 1 by omega] at this
      exact this
    · rw [if_neg (by simp)]
      obtain ⟨s1, s2, -⟩ := hok.1 rfl
      obtain ⟨w, w1, w2, w3, w4⟩ := hbe.1 rfl
      have e7 : rO 0 7 = A' 0 7 := by rw [hoff 0 7 (by omega) (by omega), hA7]
      obtain ⟨v1, v2⟩ := (hVV mv w (by omega)).mp w2
      refine ⟨rO, w, hoff, by rw [e7]; exact s1, s2, rfl, ⟨v1, fun w' hw' => ?_⟩, fun i v hv => ?_⟩
      · have h1 := hmin w' hw'
        have h2 := hmin w v1
        by_cases hle : mvw (fun i => xw (lsO A0 G h 3 i)) 0 w' ≤ (mv : Int)
        · have := w4 w' (by rw [hw'.1]; omega) ((hVV mv w' hw'.1).mpr ⟨hw', hle⟩)
          omega
        · omega
      · have := w3 i v hv
        rw [Nat.zero_add] at this
        exact this
