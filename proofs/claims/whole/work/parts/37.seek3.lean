theorem asI_ok {h : Ob} (hL : LW h) (A0 G0 : Ob) (n : Int) : ∀ (d : Nat) (mv : Int) (A : Ob), (∀ j i, j ≠ 4 → j ≠ 5 → A j i = lsO A0 (skG G0 h) h j i) →
    ((asI (skG G0 h) n h d mv A).1 = -1 ∧ (asI (skG G0 h) n h d mv A).2.2 = h) ∨
    ∃ A1, (∀ j i, j ≠ 4 → j ≠ 5 → A1 j i = lsO A0 (skG G0 h) h j i) ∧ Lf A1 (skG G0 h) (A1 0 7).toNat ∧ hgF A1 (skG G0 h) n = true ∧ asI (skG G0 h) n h d mv A = ((layF A1 (skG G0 h) n h).1, A1, (layF A1 (skG G0 h) n h).2) := by
  obtain ⟨q1, q2, -⟩ := hL.lsG A0 (skG G0 h)
  have hgp := hL.gaps G0 (movS h)
  have hrk : rk (skG G0 h) = true := hgp.1
  have hgb : ∀ j, j < (skG G0 h 0 2).toNat → 0 ≤ skG G0 h 2 j ∧ skG G0 h 2 j ≤ 200 := hgp.2
  have hlc : lsO A0 (skG G0 h) h 0 7 = ((mvl h).length : Int) := rfl
  have hAk : AOk (lsO A0 (skG G0 h) h) := by
    refine ⟨q1, q2, fun k hk => ?_⟩
    rw [hlc, toNat_nat] at hk
    obtain ⟨i, a1, a2, a3, a4, a5, -⟩ := hL.lsAt A0 (skG G0 h) hk
    have := hL.2.2.2.1 i (by omega)
    rw [a5]
    omega
  generalize skG G0 h = G at *
  obtain ⟨r1, r2⟩ := rk_iff.mp hrk
  intro d
  induction d with
  | zero => intro mv A _; exact Or.inl ⟨rfl, rfl⟩
  | succ d ih =>
    intro mv A hA
    unfold asI
    have hA' : ∀ j i, j ≠ 4 → j ≠ 5 → xcpy A 5 0 12 (fun i => G 2 (0 + i)) j i = lsO A0 G h j i := fun j i j4 j5 => by
      unfold xcpy
      rw [if_neg (by omega)]
      exact hA j i j4 j5
    have hLf : Lf (xcpy A 5 0 12 (fun i => G 2 (0 + i))) G 0 := by
      refine ⟨fun g hg => ?_, fun i hi => by omega⟩
      have e : xcpy A 5 0 12 (fun i => G 2 (0 + i)) 5 g = G 2 g := by
        unfold xcpy
        rw [if_pos ⟨rfl, by omega, by omega⟩]
        show G 2 (0 + (g - 0)) = G 2 g
        rw [show 0 + (g - 0) = g by omega]
      rw [e]
      have := hgb g hg
      refine ⟨?_, this.1, this.2⟩
      show _ = G 2 g - 0
      omega
    generalize xcpy A 5 0 12 (fun i => G 2 (0 + i)) = A' at hA' hLf
    have hA7 := hA' 0 7 (by omega) (by omega)
    have hok := gv_ok G n hrk ((A' 0 7 - 0).toNat + 1) 0 mv A' (hAk.cong hA') (by omega) hLf
    have hoff : ∀ j i, j ≠ 4 → j ≠ 5 → (gvF A' G 0 mv n).2 j i = lsO A0 G h j i := fun j i j4 j5 => by
      rw [gvF_e, gvI_off G n _ 0 mv A' j i j4 j5]
      exact hA' j i j4 j5
    rw [show ((0 : Nat) : Int) = 0 from rfl, ← gvF_e] at hok
    generalize gvF A' G 0 mv n = r at hok hoff
    obtain ⟨rb, rO⟩ := r
    dsimp only at hok hoff ⊢
    cases rb
    · rw [if_pos rfl]
      exact ih (mv + 1) rO hoff
    · rw [if_neg (by simp)]
      obtain ⟨s1, s2, -⟩ := hok.1 rfl
      have e7 : rO 0 7 = A' 0 7 := by rw [hoff 0 7 (by omega) (by omega), hA7]
      exact Or.inr ⟨rO, hoff, by rw [e7]; exact s1, s2, rfl⟩
/-- any order: none and nothing moved, or a place in a heap that is well formed -/
theorem asF_ok {h : Ob} (hL : LW h) (A G P : Ob) {n : Int} (hn : 1 ≤ n) (hn2 : n ≤ 200) :
    ((asF A G P h n).1 = -1 ∧ (asF A G P h n).2.2 = h) ∨
    (0 ≤ (asF A G P h n).1 ∧ (asF A G P h n).1 + n ≤ h 0 9 ∧ LW (asF A G P h n).2.2 ∧ ∀ j i, j ≠ 1 → (asF A G P h n).2.2 j i = h j i) := by
  rw [asF_e]
  cases skB G P h n
  · exact Or.inl ⟨rfl, rfl⟩
  · simp only [Bool.true_eq_false, if_false]
    rcases asI_ok hL A G n ((mvl h).length + 1) 0 (lsO A (skG G h) h) (fun _ _ _ _ => rfl) with h1 | ⟨A1, a1, a2, a3, a4⟩
    · exact Or.inl h1
    · right
      rw [a4]
      obtain ⟨b1, b2, b3, b4, b5⟩ := lay_LW hL a1 a2 n
      refine ⟨?_, ?_, b1, b2⟩
      all_goals
        obtain ⟨z1, z2, z3, -⟩ := id hL
        have hrk := movS_gaps G h hL
        have hM := hL.mr (s := movS h) (e := h 0 9) (Int.le_refl _) (by omega)
        have hGc : skG G h 0 2 = ((rnl h (movS h) (h 0 9)).length : Int) := rdO_cnt _ _
        have hGb : ∀ g, g < (skG G h 0 2).toNat → 0 ≤ skG G h 1 g ∧ 1 ≤ skG G h 2 g ∧ skG G h 1 g + skG G h 2 g ≤ h 0 9 := fun g hg => by
          have hg' : g < (rnl h (movS h) (h 0 9)).length := by omega
          have e := rdO_at G (List.getElem?_eq_getElem hg')
          have := MR_mem hM _ (List.getElem_mem hg')
          have e1 : skG G h 1 g = _ := e.1
          have e2 : skG G h 2 g = _ := e.2
          rw [e1, e2]
          exact ⟨this.1, this.2.1, this.2.2.1⟩
        obtain ⟨q1, q2, -⟩ := hL.lsG A (skG G h)
        have h7 := a1 0 7 (by omega) (by omega)
        obtain ⟨-, -, l3⟩ := lay_ok b5 (by omega) hrk (fun g hg => by have := hGb g hg; omega) n h
        rcases l3 with ⟨c1, c2⟩ | ⟨g, c1, c2, c3, c4⟩
        · exfalso
          unfold hgF at a3
          rcases lfind_cases (fun g => decide (xw n ≤ xw (A1 5 g))) (skG G h 0 2).toNat with ⟨i, i1, i2, -⟩ | ⟨-, i2⟩
          · have := c1 i i1
            have := of_decide_eq_true i2
            omega
          · rw [i2] at a3
            simp at a3
        · have hg := hGb g c1
          have hl := a2.1 g c1
          have hb := ldg_bound b5 g _ (Nat.le_refl _)
          rw [xw_id (x := n) (by omega) (by omega), xw_id (x := A1 5 g) (by omega) (by omega)] at c2
          show _ ≤ _
          dsimp only
          rw [c4]
          omega
