theorem LW.slide_free {h : Ob} (hL : LW h) (hf : ffm h ≠ -1) {i : Nat} (hi : i < 8) (hq : h 1 i = nxt h (ffm h) (h 0 9)) (hlt : ffm h < h 1 i) {n : Int} (hn : 1 ≤ n) (hr : n ≤ nxt (xset h 1 i (ffm h)) (nxt (xset h 1 i (ffm h)) (ffm h) (h 0 9)) (h 0 9) - nxt (xset h 1 i (ffm h)) (ffm h) (h 0 9)) : Fre (xset h 1 i (ffm h)) (nxt (xset h 1 i (ffm h)) (ffm h) (h 0 9)) n := by
  obtain ⟨z1, z2, z3, z4, z5, -⟩ := id hL
  obtain ⟨a1, a2, a3, a4, -⟩ := hL.ffmc hf
  obtain ⟨b1, b2, b3, b4⟩ := hL.nxt_free a1 a2 (by omega) a4
  have hL' := hL.slide1 hf (show i < 11 by omega) hq
  have hi4 := z4 i (by omega)
  have p1 : xset h 1 i (ffm h) 1 i = ffm h := xset_same _ _ _ _
  have p2 : ∀ j, j ≠ i → xset h 1 i (ffm h) 1 j = h 1 j := fun j hj => xset_idx _ _ _ _ hj _
  have p3 : ∀ j k, j ≠ 1 → xset h 1 i (ffm h) j k = h j k := fun j k hj => xset_part _ _ _ _ hj _
  have p9 := p3 0 9 (by omega)
  generalize xset h 1 i (ffm h) = h' at *
  have e : nxt h' (ffm h) (h 0 9) = ffm h + h 2 i + 1 := by
    have := hL'.nxt_at (i := i) (e := h 0 9) (by omega) (by omega)
    rw [p1, p3 2 i (by omega)] at this
    exact this
  rw [e] at hr ⊢
  have hNb : Nb h' (ffm h + h 2 i + 1) := fun j hj hp hlt' => by
    by_cases hji : j = i
    · subst hji
      rw [p1, p3 2 j (by omega)]
      omega
    · have := hL'.2.2.2.2.1 j i hj (by omega) hji hp (by omega)
      rw [p1, p3 2 i (by omega)] at this
      omega
  have hno : ∀ j, j < 11 → h' 1 j ≠ ffm h + h 2 i + 1 := fun j hj he => by
    by_cases hji : j = i
    · subst hji; rw [p1] at he; omega
    · rw [p2 j hji] at he
      have := z5 j i hj (by omega) hji (by omega) (by omega)
      have hj4 := z4 j hj
      have := b3 j hj (by omega)
      omega
  rcases hL'.blk (k := ffm h + h 2 i + 1) (e := h 0 9) (by omega) (by omega) (by omega) hNb with ⟨i', j1, j2, -⟩ | ⟨j1, j2, j3⟩
  · exact absurd j2 (hno i' j1)
  · have hn3 := hL'.nxc (k := ffm h + h 2 i + 1) (e := h 0 9) (by omega) (by omega) (by omega) (by omega)
    exact Fre_of hL' (by omega) hn (by omega) (fun c c1 c2 => j3 c c1 (by omega))
theorem sld_free {n : Int} (hn : 1 ≤ n) (hn2 : n ≤ 200) (t : Nat) {h : Ob} (hL : LW h) : (sldI n t h).1 = -1 ∨ Fre (sldI n t h).2 (sldI n t h).1 n := by
  induction t generalizing h with
  | zero => exact Or.inl rfl
  | succ t ih =>
    unfold sldI
    split
    · exact Or.inl rfl
    · rename_i hf
      obtain ⟨a1, a2, a3, a4, i, b1, b2, b3, b4, b5, b6⟩ := hL.ffmc hf
      have hl2 := hL.slide1 hf (show i < 11 by omega) b3
      rw [b2, toNat_nat, xw_id (x := n) (by omega) (by omega)]
      split
      · rename_i hr
        exact Or.inr (hL.slide_free hf b1 b3 b4 hn hr)
      · exact ih hl2
