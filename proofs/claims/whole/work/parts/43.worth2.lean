theorem ffr_free {h : Ob} (hL : LW h) {n : Int} (hn : 1 ≤ n) (hn2 : n ≤ 200) : ffr h n = -1 ∨ Fre h (ffr h n) n := by
  obtain ⟨z1, z2, z3, -⟩ := id hL
  rw [ffr_e]
  unfold ffrI
  cases hf : (wls h (h 0 9)).find? (fun k => decide (hol h k = -1) && decide (xw n ≤ nxt h k (h 0 9) - k)) with
  | none => exact Or.inl rfl
  | some k =>
    right
    have hp := List.find?_some hf
    have hm := List.mem_of_find?_eq_some hf
    obtain ⟨w1, w2, w3⟩ := (hL.wlsc (e := h 0 9) (Int.le_refl _) (by omega)).1 k hm
    simp only [Bool.and_eq_true, decide_eq_true_eq] at hp
    rw [xw_id (x := n) (by omega) (by omega)] at hp
    have hn3 := hL.nxc w1 w2 (Int.le_refl _) (by omega)
    rcases hL.blk w1 w2 (by omega) w3 with ⟨i, j1, j2, j3, j4, j5, j6⟩ | ⟨j1, j2, j3⟩
    · rw [j3] at hp; omega
    · show Fre h k n
      exact Fre_of hL w1 hn (by omega) (fun c c1 c2 => j3 c c1 (by omega))
