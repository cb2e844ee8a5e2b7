/-- steps 1 to 3: a place that is found is free, in a heap that is well formed -/
theorem bm2_free {h : Ob} (hL : LW h) {n : Int} (hn : 1 ≤ n) (hn2 : n ≤ 200) : (bm2 h n).1 = -1 ∨ Fre (bm2 h n).2.2 (bm2 h n).1 n := by
  have s1 : (bm1 h n).1 = -1 ∨ Fre (bm1 h n).2.2 (bm1 h n).1 n := by
    unfold bm1
    split
    · have := sld_free hn hn2 1000 hL
      rw [← sld_e] at this
      exact this
    · exact ffr_free hL hn hn2
  have hL1 := hL.b1 n
  unfold bm2
  split
  · exact grR_free hL1 hn hn2
  · exact s1
