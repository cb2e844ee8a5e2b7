theorem Ch_mark {T : Int} {h : Ob} {q : Nat → Int} {i : Nat} (hi : i < 8) (hH : HI T h) (hR : Rel h q) : HI T (xset h 0 8 (xxor (h 0 8) (xshl 1 (i : Int)))) ∧ Rel (xset h 0 8 (xxor (h 0 8) (xshl 1 (i : Int)))) (fun k => if k = 53 + i then bz (!inS (h 0 8) (i : Int)) else q k) := by
  have hr := hR.2.1 i hi
  have hb := hH.2.1 i hi
  obtain ⟨s1, s2⟩ := hH.2.2.2.2.2.2
  have e8 : (xset h 0 8 (xxor (h 0 8) (xshl 1 (i : Int)))) 0 8 = xxor (h 0 8) (xshl 1 (i : Int)) := xeq
  refine Ch hi hH hR (fun k k1 _ => by show (if 0 = 0 ∧ k = 8 then _ else h 0 k) = h 0 k; rw [if_neg (by omega)]) (fun j _ _ => ⟨rfl, rfl⟩) (fun j hj hji => ⟨rfl, rfl, rfl, rfl, rfl, ?_⟩) rfl (fun k _ hk => ?_) hH.1 ?_ (fun hne => ⟨hne, Int.le_refl _⟩) hb hH.2.2.2.2.2.1 (by rw [e8]; exact (bx s1 s2 hi).1)
  · rw [e8, inS_xor _ _ hj, inS_one i hi j (by omega)]
    simp [hji]
  · (try dsimp only); rw [if_neg hk.2.2.2.2.2.2.1]
  · unfold RelH at hr ⊢
    (try dsimp only)
    rw [if_neg (by omega), if_neg (by omega), if_neg (by omega), if_neg (by omega), if_neg (by omega), if_neg (by omega), if_pos rfl, if_neg (by omega), e8, inS_xor _ _ hi, inS_one i hi i (by omega)]
    refine ⟨hr.1, hr.2.1, fun hu => ?_⟩
    obtain ⟨a, b, c, d, e⟩ := hr.2.2 hu
    refine ⟨a, b, c, by simp, e⟩
theorem Ch_drop {T : Int} {h : Ob} {q : Nat → Int} {i : Nat} (hi : i < 8) (hH : HI T h) (hR : Rel h q) (hl : h 4 i = 0) : HI T (xset (xset h 0 7 (xand (h 0 7) (xxor (xshl 1 (i : Int)) (-1)))) 1 i (-1)) ∧ Rel (xset (xset h 0 7 (xand (h 0 7) (xxor (xshl 1 (i : Int)) (-1)))) 1 i (-1)) (fun k => if k = 5 + i then 0 else q k) := by
  have hr := hR.2.1 i hi
  have hb := hH.2.1 i hi
  obtain ⟨s1, s2⟩ := hH.2.2.2.2.2.1
  have e7 : (xset (xset h 0 7 (xand (h 0 7) (xxor (xshl 1 (i : Int)) (-1)))) 1 i (-1)) 0 7 = xand (h 0 7) (xxor (xshl 1 (i : Int)) (-1)) := rfl
  have hin : ∀ j : Nat, j < 8 → inS (xand (h 0 7) (xxor (xshl 1 (i : Int)) (-1))) (j : Int) = (inS (h 0 7) (j : Int) && !decide (j = i)) := fun j hj => by rw [inS_and _ _ hj, inS_not _ hj, inS_one i hi j (by omega)]
  refine Ch hi hH hR (fun k k1 _ => by show (if 0 = 0 ∧ k = 7 then _ else h 0 k) = h 0 k; rw [if_neg (by omega)]) (fun j _ hji => ⟨xne hji, rfl⟩) (fun j hj hji => ⟨rfl, rfl, rfl, rfl, ?_, rfl⟩) rfl (fun k _ hk => ?_) (LW_rm (h := xset h 0 7 _) hH.1 i) ?_ (fun hne => absurd xeq hne) ⟨fun hu => ?_, fun _ => hl⟩ (by rw [e7]; exact (bx s1 s2 hi).2.1) hH.2.2.2.2.2.2
  · rw [e7, hin j hj]
    simp [hji]
  · (try dsimp only); rw [if_neg hk.1]
  · unfold RelH at hr ⊢
    (try dsimp only)
    rw [if_pos rfl, if_neg (by omega), if_neg (by omega), if_neg (by omega), if_neg (by omega), if_neg (by omega), if_neg (by omega), if_neg (by omega), e7, hin i hi]
    refine ⟨Or.inl ⟨by simp, xeq, rfl⟩, hr.2.1, fun hu => ?_⟩
    simp at hu
  · rw [e7, hin i hi] at hu
    simp at hu
theorem Ch_least {T : Int} {h : Ob} {q : Nat → Int} {i : Nat} (hi : i < 8) (hH : HI T h) (hR : Rel h q) {v : Int} (h0 : 1 ≤ v) (h1 : v ≤ h 2 i) : HI T (xset h 5 i v) ∧ Rel (xset h 5 i v) (fun k => if k = 37 + i then v else q k) := by
  have hr := hR.2.1 i hi
  have hb := hH.2.1 i hi
  refine Ch hi hH hR (fun k _ _ => rfl) (fun j _ _ => ⟨rfl, rfl⟩) (fun j hj hji => ⟨rfl, xne hji, rfl, rfl, rfl, rfl⟩) rfl (fun k _ hk => ?_) hH.1 ?_ (fun hne => ⟨hne, Int.le_refl _⟩) ⟨fun hu => ?_, hb.2⟩ hH.2.2.2.2.2.1 hH.2.2.2.2.2.2
  · (try dsimp only); rw [if_neg hk.2.2.2.2.1]
  · unfold RelH at hr ⊢
    (try dsimp only)
    rw [if_neg (by omega), if_neg (by omega), if_neg (by omega), if_neg (by omega), if_pos rfl, if_neg (by omega), if_neg (by omega), if_neg (by omega)]
    refine ⟨hr.1, hr.2.1, fun hu => ?_⟩
    obtain ⟨a, b, c, d, e⟩ := hr.2.2 hu
    exact ⟨a, xeq.symm, c, d, e⟩
  · obtain ⟨a, b, c, d⟩ := hb.1 hu
    rw [show (xset h 5 i v) 5 i = v from xeq]
    exact ⟨a, h0, h1, d⟩
theorem Ch_purge {T : Int} {h : Ob} {q : Nat → Int} {i : Nat} (hi : i < 8) (hH : HI T h) (hR : Rel h q) (hu : inS (h 0 7) (i : Int) = true) (hl : h 4 i = 0) : HI T (xset h 1 i (-1)) ∧ Rel (xset h 1 i (-1)) (fun k => if k = 5 + i then 2 else q k) := by
  have hr := hR.2.1 i hi
  have hb := hH.2.1 i hi
  refine Ch hi hH hR (fun k _ _ => rfl) (fun j _ hji => ⟨xne hji, rfl⟩) (fun j hj hji => ⟨rfl, rfl, rfl, rfl, rfl, rfl⟩) rfl (fun k _ hk => ?_) (LW_rm hH.1 i) ?_ (fun hne => absurd xeq hne) ⟨hb.1, fun _ => hl⟩ hH.2.2.2.2.2.1 hH.2.2.2.2.2.2
  · (try dsimp only); rw [if_neg hk.1]
  · unfold RelH at hr ⊢
    (try dsimp only)
    rw [if_pos rfl, if_neg (by omega), if_neg (by omega), if_neg (by omega), if_neg (by omega), if_neg (by omega), if_neg (by omega), if_neg (by omega)]
    exact ⟨Or.inr (Or.inr ⟨hu, xeq, rfl⟩), hr.2⟩
theorem Ch_policy {T : Int} {h : Ob} {q : Nat → Int} (hH : HI T h) (hR : Rel h q) {v : Int} (h0 : 0 ≤ v) (h1 : v ≤ 4) : HI T (xset h 0 12 v) ∧ Rel (xset h 0 12 v) (fun k => if k = 2 then v else q k) := by
  obtain ⟨a1, a2, a3, a4, a5, a6, a7⟩ := hH
  obtain ⟨⟨r0, r1, r2, r3, r4⟩, rh, rp, rc⟩ := hR
  refine ⟨⟨a1, a2, a3, a4, ⟨h0, h1⟩, a6, a7⟩, ⟨r0, r1, rfl, r3, r4⟩, fun i hi => ?_, fun p hp => ?_, fun j hj hne k hk => ?_⟩
  · have := rh i hi
    unfold RelH at this ⊢
    (try dsimp only)
    rw [if_neg (by omega), if_neg (by omega), if_neg (by omega), if_neg (by omega), if_neg (by omega), if_neg (by omega), if_neg (by omega), if_neg (by omega)]
    exact this
  · have := rp p hp
    unfold RelP at this ⊢
    (try dsimp only)
    rw [if_neg (by omega), if_neg (by omega)]
    exact this
  · (try dsimp only)
    rw [if_neg (by omega)]
    exact rc j hj hne k hk
theorem Ch_unfix {T : Int} {h : Ob} {q : Nat → Int} {p : Nat} (hp : p < 3) (hH : HI T h) (hR : Rel h q) : HI T (xset h 1 (8 + p) (-1)) ∧ Rel (xset h 1 (8 + p) (-1)) (fun k => if k = 69 + p then 0 else q k) := by
  obtain ⟨a1, a2, a3, a4, a5, a6, a7⟩ := hH
  obtain ⟨⟨r0, r1, r2, r3, r4⟩, rh, rp, rc⟩ := hR
  refine ⟨⟨LW_rm a1 _, fun i hi => ?_, a3, a4, a5, a6, a7⟩, ⟨?_, ?_, ?_, ?_, ?_⟩, fun i hi => ?_, fun p' hp' => ?_, fun j hj hne k hk => ?_⟩
  · rw [xne (show i ≠ 8 + p by omega)]
    exact a2 i hi
  · (try dsimp only); rw [if_neg (by omega)]; exact r0
  · (try dsimp only); rw [if_neg (by omega)]; exact r1
  · (try dsimp only); rw [if_neg (by omega)]; exact r2
  · (try dsimp only); rw [if_neg (by omega)]; exact r3
  · (try dsimp only); rw [if_neg (by omega)]; exact r4
  · have := rh i hi
    unfold RelH at this ⊢
    (try dsimp only)
    rw [if_neg (by omega), if_neg (by omega), if_neg (by omega), if_neg (by omega), if_neg (by omega), if_neg (by omega), if_neg (by omega), if_neg (by omega), xne (show i ≠ 8 + p by omega)]
    exact this
  · have := rp p' hp'
    unfold RelP at this ⊢
    (try dsimp only)
    by_cases hpp : p' = p
    · subst hpp
      left
      exact ⟨xeq, by rw [if_pos rfl]⟩
    · rw [if_neg (by omega), if_neg (by omega), xne (show 8 + p' ≠ 8 + p by omega)]
      exact this
  · (try dsimp only)
    have hz := a1.2.2.2.1 j hj
    rw [if_neg (by omega)]
    by_cases hj8 : j = 8 + p
    · subst hj8
      exact absurd xeq hne
    · rw [xne hj8] at hne
      exact rc j hj hne k hk
theorem Ch_cont {T : Int} {h : Ob} {q : Nat → Int} {w k : Nat} (hw : w < 11) (hH : HI T h) (hR : Rel h q) (hk : (k : Int) < h 2 w) {v : Int} : HI T (xset h 3 (60 * w + k) v) ∧ Rel (xset h 3 (60 * w + k) v) (fun c => if c = 75 + 60 * w + k then v else q c) := by
  obtain ⟨a1, a2, a3, a4, a5, a6, a7⟩ := hH
  obtain ⟨⟨r0, r1, r2, r3, r4⟩, rh, rp, rc⟩ := hR
  have hz := a1.2.2.2.1 w hw
  refine ⟨⟨a1, a2, a3, a4, a5, a6, a7⟩, ⟨?_, ?_, ?_, ?_, ?_⟩, fun i hi => ?_, fun p' hp' => ?_, fun j hj hne c hc => ?_⟩
  · (try dsimp only); rw [if_neg (by omega)]; exact r0
  · (try dsimp only); rw [if_neg (by omega)]; exact r1
  · (try dsimp only); rw [if_neg (by omega)]; exact r2
  · (try dsimp only); rw [if_neg (by omega)]; exact r3
  · (try dsimp only); rw [if_neg (by omega)]; exact r4
  · have := rh i hi
    unfold RelH at this ⊢
    (try dsimp only)
    rw [if_neg (by omega), if_neg (by omega), if_neg (by omega), if_neg (by omega), if_neg (by omega), if_neg (by omega), if_neg (by omega), if_neg (by omega)]
    exact this
  · have := rp p' hp'
    unfold RelP at this ⊢
    (try dsimp only)
    rw [if_neg (by omega), if_neg (by omega)]
    exact this
  · (try dsimp only)
    have hzj := a1.2.2.2.1 j hj
    have hc' : (c : Int) < h 2 j := hc
    have hcj := rc j hj hne c hc'
    by_cases hjc : 60 * j + c = 60 * w + k
    · rw [if_pos (by omega), hjc]
      exact xeq.symm
    · rw [if_neg (by omega), xne hjc]
      exact hcj
