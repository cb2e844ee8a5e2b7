def ccO (m : Ob) (w a b : Nat) : Ob := fun j k => if j = 1 ∧ 75 + 60 * w + a ≤ k ∧ k < 75 + 60 * w + b then 0 else m j k
theorem v_clearsContents (m : Ob) {w a b : Nat} (hw : w < 11) (hab : a ≤ b) (hb : b ≤ 60) {pw pa pb : Int} (ew : pw = (w : Int)) (ea : pa = (a : Int)) (eb : pb = (b : Int)) : ov_X8_clearsContents pw pa pb m = RV [ccO m w a b] := by
  subst ew ea eb
  rw [ov_X8_clearsContents_e]
  have e1 : md_X8_clearsContents_0 (w : Int) (a : Int) (b : Int) xfu m = tlp (lb_X8_clearsContents_3 (w : Int) (a : Int) (b : Int) xfu) xfu ((a : Int) + ((0 : Nat) : Int), m) := by
    have : ((a : Int), m) = ((a : Int) + ((0 : Nat) : Int), m) := by simp
    rw [← this]
    rfl
  rw [e1]
  have L := loop_fold (B := lb_X8_clearsContents_3 (w : Int) (a : Int) (b : Int) xfu) (b - a) (fun (s : Ob) (i : Nat) => xset s 1 (75 + 60 * w + (a + i)) 0) (fun s => RV [s]) (fun i s => ((a : Int) + (i : Int), s)) (fun i s => s = ccO m w a (a + i)) (fun k i s hi hI => by
    have hx1 : xw ((a : Int) + (i : Int)) = (a : Int) + (i : Int) := xw_id (by omega) (by omega)
    have hx2 : xw (75 + 60 * (w : Int) + ((a : Int) + (i : Int))) = ((75 + 60 * w + (a + i) : Nat) : Int) := by rw [xw_id (by omega) (by omega)]; omega
    refine ⟨?_, ?_⟩
    · simp only [lb_X8_clearsContents_3, mg_X8_clearsContents_3, hx1, hx2, xw_nat (show b < 2147483648 by omega), toNat_nat]
      rw [if_neg (by omega), xin_of (n := 735) (by rw [hx2]; omega) (by rw [hx2]; omega), if_pos rfl, show (a : Int) + (i : Int) + 1 = (a : Int) + ((i + 1 : Nat) : Int) by omega]
    · subst hI
      funext j q
      unfold xset ccO
      by_cases h1 : j = 1
      · by_cases h2 : q = 75 + 60 * w + (a + i)
        · rw [if_pos ⟨h1, h2⟩, if_pos ⟨h1, by omega, by omega⟩]
        · rw [if_neg (fun z => h2 z.2)]
          by_cases h3 : 75 + 60 * w + a ≤ q ∧ q < 75 + 60 * w + (a + i)
          · rw [if_pos ⟨h1, h3⟩, if_pos ⟨h1, h3.1, by omega⟩]
          · rw [if_neg (fun z => h3 z.2), if_neg (fun z => h3 (by omega))]
      · rw [if_neg (fun z => h1 z.1), if_neg (fun z => h1 z.1), if_neg (fun z => h1 z.1)]) (fun k s _ => by
    have hx1 : xw ((a : Int) + ((b - a : Nat) : Int)) = (b : Int) := by rw [xw_id (by omega) (by omega)]; omega
    simp only [lb_X8_clearsContents_3, mg_X8_clearsContents_3, hx1, xw_nat (show b < 2147483648 by omega)]
    rw [if_pos (by omega)]) xfu m (by have := xfu_ge (n := 1000) (by decide); omega) (by
    funext j q
    unfold ccO
    rw [if_neg (by omega)])
  refine Eq.trans (b := _) L.1 ?_
  rw [L.2, show a + (b - a) = b by omega]
theorem layO_at {h : Ob} {w : Nat} (hw : w < 11) {at_ : Int} {z : Nat} (hz : z ≤ 60) : layO h (w : Int) at_ (z : Int) = fun j k => if j = 3 ∧ 60 * w ≤ k ∧ k < 60 * w + z then 0 else xset (xset h 1 w at_) 2 w (z : Int) j k := by
  unfold layO clrO
  rw [xw_nat (show w < 2147483648 by omega), if_pos ⟨by omega, by omega⟩, toNat_nat, xw0, xw_nat (show z < 2147483648 by omega), if_pos ⟨by omega, by omega, Int.le_refl _⟩]
  funext j k
  by_cases h1 : j = 3 ∧ 60 * w ≤ k ∧ k < 60 * w + z
  · rw [if_pos h1, if_pos ⟨h1.1, by omega, by omega, by omega⟩]
  · rw [if_neg h1, if_neg (fun q => h1 ⟨q.1, by omega, by omega⟩)]
/-- a new block: what of the heap it changes -/
theorem lay_parts {h : Ob} {w : Nat} (hw : w < 11) {at_ : Int} {z : Nat} (hz : z ≤ 60) : (∀ i, layO h (w : Int) at_ (z : Int) 1 i = if i = w then at_ else h 1 i) ∧ (∀ i, layO h (w : Int) at_ (z : Int) 2 i = if i = w then (z : Int) else h 2 i) ∧ (∀ k, layO h (w : Int) at_ (z : Int) 3 k = if 60 * w ≤ k ∧ k < 60 * w + z then 0 else h 3 k) ∧ (∀ j, j ≠ 1 → j ≠ 2 → j ≠ 3 → layO h (w : Int) at_ (z : Int) j = h j) := by
  rw [layO_at hw hz]
  refine ⟨fun i => ?_, fun i => ?_, fun k => ?_, fun j j1 j2 j3 => ?_⟩
  · show (if 1 = 3 ∧ 60 * w ≤ i ∧ i < 60 * w + z then (0 : Int) else (if 1 = 2 ∧ i = w then (z : Int) else (if 1 = 1 ∧ i = w then at_ else h 1 i))) = _
    rw [if_neg (by omega), if_neg (by omega)]
    by_cases hi : i = w
    · rw [if_pos ⟨rfl, hi⟩, if_pos hi]
    · rw [if_neg (fun q => hi q.2), if_neg hi]
  · show (if 2 = 3 ∧ 60 * w ≤ i ∧ i < 60 * w + z then (0 : Int) else (if 2 = 2 ∧ i = w then (z : Int) else (if 2 = 1 ∧ i = w then at_ else h 2 i))) = _
    rw [if_neg (by omega)]
    by_cases hi : i = w
    · rw [if_pos ⟨rfl, hi⟩, if_pos hi]
    · rw [if_neg (fun q => hi q.2), if_neg hi, if_neg (by omega)]
  · show (if 3 = 3 ∧ 60 * w ≤ k ∧ k < 60 * w + z then (0 : Int) else (if 3 = 2 ∧ k = w then (z : Int) else (if 3 = 1 ∧ k = w then at_ else h 3 k))) = _
    by_cases hk : 60 * w ≤ k ∧ k < 60 * w + z
    · rw [if_pos ⟨rfl, hk⟩, if_pos hk]
    · rw [if_neg (fun q => hk q.2), if_neg hk, if_neg (by omega), if_neg (by omega)]
  · funext k
    show (if j = 3 ∧ 60 * w ≤ k ∧ k < 60 * w + z then (0 : Int) else (if j = 2 ∧ k = w then (z : Int) else (if j = 1 ∧ k = w then at_ else h j k))) = _
    rw [if_neg (fun q => j3 q.1), if_neg (fun q => j2 q.1), if_neg (fun q => j1 q.1)]
theorem LW_lay {h : Ob} (hL : LW h) {w : Nat} (hw : w < 11) {at_ : Int} {z : Nat} (hz1 : 1 ≤ z) (hz : z ≤ 60) (hF : Fre h at_ ((z : Int) + 1)) : LW (layO h (w : Int) at_ (z : Int)) := by
  obtain ⟨z1, z2, z3, z4, z5, z6⟩ := hL
  obtain ⟨f1, f2, f3⟩ := hF
  obtain ⟨e1, e2, -, e4⟩ := lay_parts (h := h) hw (at_ := at_) hz
  have e0 := e4 0 (by decide) (by decide) (by decide)
  have e44 := e4 4 (by decide) (by decide) (by decide)
  unfold LW
  rw [e0, e44]
  refine ⟨z1, z2, z3, fun i hi => ?_, fun i j hi hj hij => ?_, z6⟩
  · rw [e1, e2]
    by_cases hiw : i = w
    · rw [if_pos hiw, if_pos hiw]
      omega
    · rw [if_neg hiw, if_neg hiw]
      exact z4 i hi
  · rw [e1, e1, e2, e2]
    by_cases hiw : i = w
    · have hjw : j ≠ w := fun q => hij (hiw.trans q.symm)
      rw [if_pos hiw, if_pos hiw, if_neg hjw, if_neg hjw]
      intro h1 h2
      rcases f3 j hj h2 with q | q
      · exact Or.inr q
      · exact Or.inl (by omega)
    · by_cases hjw : j = w
      · rw [if_neg hiw, if_neg hiw, if_pos hjw, if_pos hjw]
        intro h1 h2
        rcases f3 i hi h1 with q | q
        · exact Or.inl q
        · exact Or.inr (by omega)
      · rw [if_neg hiw, if_neg hiw, if_neg hjw, if_neg hjw]
        exact z5 i j hi hj hij
theorem lay_isl {T : Int} {h m : Ob} (hH : HI T h) (hR : Rel h (m 1)) {p : Nat} (hp : p < 3) {at_ : Int} {z : Nat} (hz1 : 1 ≤ z) (hz : z ≤ 60) (hF : Fre h at_ ((z : Int) + 1)) : HI T (layO h ((8 + p : Nat) : Int) at_ (z : Int)) ∧ Rel (layO h ((8 + p : Nat) : Int) at_ (z : Int)) (ccO (xset (xset m 1 (69 + p) (z : Int)) 1 (72 + p) at_) (8 + p) 0 60 1) := by
  have hLn := LW_lay hH.1 (w := 8 + p) (by omega) hz1 hz hF
  obtain ⟨e1, e2, e3, e4⟩ := lay_parts (h := h) (w := 8 + p) (by omega) (at_ := at_) hz
  obtain ⟨a1, a2, a3, a4, a5, a6, a7⟩ := hH
  have hz4 := a1.2.2.2.1
  obtain ⟨⟨r0, r1, r2, r3, r4⟩, rh, rp, rc⟩ := hR
  have q1 : ∀ k, k < 735 → ¬ (75 + 60 * (8 + p) ≤ k ∧ k < 75 + 60 * (8 + p) + 60) → ccO (xset (xset m 1 (69 + p) (z : Int)) 1 (72 + p) at_) (8 + p) 0 60 1 k = if k = 72 + p then at_ else if k = 69 + p then (z : Int) else m 1 k := by
    intro k _ hk
    unfold ccO
    rw [if_neg (fun q => hk ⟨by omega, by omega⟩)]
    show (if 1 = 1 ∧ k = 72 + p then at_ else (if 1 = 1 ∧ k = 69 + p then (z : Int) else m 1 k)) = _
    simp only [true_and]
  have q2 : ∀ k, 75 + 60 * (8 + p) ≤ k → k < 75 + 60 * (8 + p) + 60 → ccO (xset (xset m 1 (69 + p) (z : Int)) 1 (72 + p) at_) (8 + p) 0 60 1 k = 0 := by
    intro k k1 k2
    unfold ccO
    rw [if_pos ⟨rfl, by omega, by omega⟩]
  have e0 := e4 0 (by decide) (by decide) (by decide)
  refine ⟨⟨hLn, fun i hi => ?_, by rw [e0]; exact a3, by rw [e0]; exact a4, by rw [e0]; exact a5, by rw [e0]; exact a6, by rw [e0]; exact a7⟩, ⟨?_, ?_, ?_, ?_, ?_⟩, fun i hi => ?_, fun p' hp' => ?_, fun j hj hne k hk => ?_⟩
  · rw [e1, e2, e4 4 (by decide) (by decide) (by decide), e4 5 (by decide) (by decide) (by decide), e4 6 (by decide) (by decide) (by decide), e4 7 (by decide) (by decide) (by decide), e0, if_neg (by omega), if_neg (by omega)]
    exact a2 i hi
  · rw [q1 0 (by omega) (by omega), if_neg (by omega), if_neg (by omega), e0]; exact r0
  · rw [q1 1 (by omega) (by omega), if_neg (by omega), if_neg (by omega), e0]; exact r1
  · rw [q1 2 (by omega) (by omega), if_neg (by omega), if_neg (by omega), e0]; exact r2
  · rw [q1 3 (by omega) (by omega), if_neg (by omega), if_neg (by omega), e0]; exact r3
  · rw [q1 4 (by omega) (by omega), if_neg (by omega), if_neg (by omega), e0]; exact r4
  · have := rh i hi
    unfold RelH at this ⊢
    have qq : ∀ c, c + i < 69 → ccO (xset (xset m 1 (69 + p) (z : Int)) 1 (72 + p) at_) (8 + p) 0 60 1 (c + i) = m 1 (c + i) := fun c hc => by rw [q1 _ (by omega) (by omega), if_neg (by omega), if_neg (by omega)]
    rw [qq 5 (by omega), qq 13 (by omega), qq 21 (by omega), qq 29 (by omega), qq 37 (by omega), qq 45 (by omega), qq 53 (by omega), qq 61 (by omega), e1, e2, e4 4 (by decide) (by decide) (by decide), e4 5 (by decide) (by decide) (by decide), e4 6 (by decide) (by decide) (by decide), e4 7 (by decide) (by decide) (by decide), e0, if_neg (by omega), if_neg (by omega)]
    exact this
  · have := rp p' hp'
    unfold RelP at this ⊢
    rw [q1 (69 + p') (by omega) (by omega), q1 (72 + p') (by omega) (by omega), e1, e2]
    by_cases hpp : p' = p
    · subst hpp
      right
      rw [if_pos rfl, if_pos rfl, if_neg (by omega), if_pos rfl, if_pos rfl]
      exact ⟨by have := hF.1; omega, rfl, rfl⟩
    · rw [if_neg (show ¬ 8 + p' = 8 + p by omega), if_neg (show ¬ 8 + p' = 8 + p by omega), if_neg (show ¬ 69 + p' = 72 + p by omega), if_neg (show ¬ 69 + p' = 69 + p by omega), if_neg (show ¬ 72 + p' = 72 + p by omega), if_neg (show ¬ 72 + p' = 69 + p by omega)]
      exact this
  · rw [e1] at hne
    rw [e2] at hk
    by_cases hjp : j = 8 + p
    · subst hjp
      rw [if_pos rfl] at hk
      rw [q2 _ (by omega) (by omega), e3, if_pos ⟨by omega, by omega⟩]
    · rw [if_neg hjp] at hne hk
      have hzj := hz4 j hj
      rw [q1 _ (by omega) (by omega), if_neg (by omega), if_neg (by omega), e3, if_neg (by omega)]
      exact rc j hj hne k hk
theorem e_fix (T : Int) (hT0 : 0 ≤ T) (hT : T ≤ 600) (p1 : Int) (hp1 : xw p1 = p1) (h0 h1 h2 h3 h4 h5 h6 h7 h8 h9 h10 h11 h12 h13 h14 h15 h16 h17 h18 h19 h20 h21 h22 h23 h24 m : Ob) (hI : INV T h1 h3 [h4, h5, h6, h7, h8, h9, h10, h11, h12, h13, h14, h15, h16] m) : Same (T + 1) (md_X7_fix_0 p1 h0 h2 h17 h18 h19 h20 h21 h22 (h1, h3, h4, h5, h6, h7, h8, h9, h10, h11, h12, h13, h14, h15, h16, h23, h24)) (md_X8_fix_0 p1 xfu m) := by
  have hI0 := hI
  obtain ⟨i1, i2, i3⟩ := hI
  have hL := i1.1
  obtain ⟨z1, z2, z3, -⟩ := id hL
  have hx : xlr p1 = true := by rw [← hp1]; exact xlr_xw
  -- the first pointer
  have hpt : (ffp h1 = -1 ∧ md_X8_fix_0 p1 xfu m = md_X8_fix_21 p1 xfu (3, m)) ∨ ∃ p : Nat, p < 3 ∧ ffp h1 = (p : Int) ∧ h1 1 (8 + p) = -1 ∧ md_X8_fix_0 p1 xfu m = md_X8_fix_21 p1 xfu ((p : Int), m) := by
    have hlp : ∀ (d f : Nat) (p : Nat), p + d = 3 → d < f → (∀ q, q < p → h1 1 (8 + q) ≠ -1) → ((∀ q, q < 3 → h1 1 (8 + q) ≠ -1) ∧ tlp (lb_X8_fix_2 p1 xfu) f ((p : Int), m) = md_X8_fix_21 p1 xfu (3, m)) ∨ ∃ q : Nat, q < 3 ∧ h1 1 (8 + q) = -1 ∧ (∀ q', q' < q → h1 1 (8 + q') ≠ -1) ∧ tlp (lb_X8_fix_2 p1 xfu) f ((p : Int), m) = md_X8_fix_21 p1 xfu ((q : Int), m) := by
      intro d
      induction d with
      | zero =>
        intro f p hp hf hq
        have hp3 : p = 3 := by omega
        subst hp3
        obtain ⟨f', rfl⟩ : ∃ f', f = f' + 1 := ⟨f - 1, by omega⟩
        refine Or.inl ⟨hq, ?_⟩
        rw [tlp_succ]
        simp only [lb_X8_fix_2, mg_X8_fix_2]
        rw [if_pos (by decide)]
        rfl
      | succ d ih =>
        intro f p hp hf hq
        obtain ⟨f', rfl⟩ : ∃ f', f = f' + 1 := ⟨f - 1, by omega⟩
        rw [tlp_succ]
        simp only [lb_X8_fix_2, mg_X8_fix_2, xw_nat (show p < 2147483648 by omega), bz_0, i2.islq hL (show p < 3 by omega)]
        rw [if_neg (by omega)]
        by_cases hz : h1 1 (8 + p) = -1
        · right
          refine ⟨p, by omega, hz, hq, ?_⟩
          rw [if_pos (by simp [hz])]
        · rw [if_neg (by simp [hz]), show (p : Int) + 1 = ((p + 1 : Nat) : Int) by omega]
          exact ih f' (p + 1) (by omega) (by omega) (fun q hq' => by
            by_cases hqp : q = p
            · rw [hqp]; exact hz
            · exact hq q (by omega))
    have hmd : md_X8_fix_0 p1 xfu m = tlp (lb_X8_fix_2 p1 xfu) xfu (((0 : Nat) : Int), m) := rfl
    have hsl : ∀ q : Nat, q < 3 → (!isl h1 (q : Int)) = decide (h1 1 (8 + q) = -1) := fun q hq => by
      rw [isl_nat hL hq]
      by_cases hz : h1 1 (8 + q) = -1 <;> simp [hz]
    rcases hlp 3 xfu 0 (by omega) (by have := xfu_ge (n := 1000) (by decide); omega) (fun q hq => by omega) with ⟨a1, a2⟩ | ⟨q, a1, a2, a3, a4⟩
    · left
      refine ⟨?_, hmd.trans a2⟩
      rw [ffp_e]
      unfold ffpI lfind
      have : (List.range 3).find? (fun (i : Nat) => !isl h1 (i : Int)) = none := by
        rw [List.find?_eq_none]
        intro x hx
        have hx3 := List.mem_range.mp hx
        rw [hsl x hx3]
        simp [a1 x hx3]
      rw [this]
    · right
      refine ⟨q, a1, ?_, a2, hmd.trans a4⟩
      rw [ffp_e]
      unfold ffpI lfind
      cases hf : (List.range 3).find? (fun (i : Nat) => !isl h1 (i : Int)) with
      | none =>
        rw [List.find?_eq_none] at hf
        have := hf q (List.mem_range.mpr a1)
        rw [hsl q a1] at this
        simp [a2] at this
      | some c =>
        have hc := List.find?_some hf
        have hc3 := List.mem_range.mp (List.mem_of_find?_eq_some hf)
        rw [hsl c hc3] at hc
        have hc' := of_decide_eq_true hc
        have hcq : c = q := by
          by_cases h1' : c < q
          · exact absurd hc' (a3 c h1')
          · by_cases h2' : c = q
            · exact h2'
            · exfalso
              have hfa := List.find?_eq_some_iff_getElem.mp hf
              obtain ⟨-, i, hi, hic, hbef⟩ := hfa
              simp at hic
              have := hbef q (by omega)
              simp [hsl q a1, a2] at this
        rw [hcq]
  simp only [md_X7_fix_0, mg_X7_fix_0, md_X7_fix_64, mg_X7_fix_64, bz_0, siz_inn hp1]
  rcases hpt with ⟨f1, f2⟩ | ⟨p, hp, f1, f2, f3⟩
  · rw [f2, f1]
    simp only [md_X8_fix_21, mg_X8_fix_21]
    rw [if_pos (show xw 3 = 3 by decide)]
    cases inn p1 1 60
    · exact ⟨_, _, _, rfl, rfl, hI0.mono (by omega)⟩
    · exact ⟨_, _, _, rfl, rfl, hI0.mono (by omega)⟩
  · rw [f3, f1]
    have hxp : xw (p : Int) = p := xw_nat (by omega)
    simp only [md_X8_fix_21, mg_X8_fix_21, md_X8_fix_68, mg_X8_fix_68, hxp, bz_0, ks_e, oqV_t, oqO_V, if_true, hp1, hx, xlr_s (p := 1) (by decide) (by decide), xlr_s (p := 60) (by decide) (by decide), Bool.and_self]
    rw [if_neg (show ¬ (p : Int) = 3 by omega)]
    cases hin : inn p1 1 60
    · exact ⟨_, _, _, rfl, rfl, hI0.mono (by omega)⟩
    · have hr : 1 ≤ p1 ∧ p1 ≤ 60 := by unfold inn at hin; simpa using hin
      obtain ⟨z, hz⟩ : ∃ z : Nat, p1 = (z : Int) := ⟨p1.toNat, by omega⟩
      obtain ⟨m', a1, a2, a3, a4, a5, a6, a7⟩ := v_clearsFirst (m := ksO m) (n := p1 + 1) i1 i2 (fun k hk => ks_2 m hk) (by omega) (by omega) h24
      obtain ⟨x1, x2⟩ := ixn (c := 69) 69 rfl (by decide) (show p < 8 by omega)
      obtain ⟨x3, x4⟩ := ixn (c := 72) 72 rfl (by decide) (show p < 8 by omega)
      have e8 : 8 + (p : Int) = ((8 + p : Nat) : Int) := by omega
      -- laying it
      have lay : ∀ (hh s : Ob) (at_ : Int), HI T hh → Rel hh (s 1) → Fre hh at_ (p1 + 1) → (∀ k, k < 735 → s 2 k = m 1 k) → s 3 = m 3 → s 0 3 = m 0 3 → ∃ m2, oqV (ov_X8_clearsContents (8 + (p : Int)) 0 60 (xset (xset s 1 (69 + p) p1) 1 (72 + p) at_)) = true ∧ ov_X8_keepsAct (oqO (ov_X8_clearsContents (8 + (p : Int)) 0 60 (xset (xset s 1 (69 + p) p1) 1 (72 + p) at_)) 0) = RV [m2] ∧ INV (T + 1) (finO (layO hh (8 + (p : Int)) at_ p1) (-1)) (keeO h3) [svK h3 0 h4 h1, svK h3 1 h5 h1, svK h3 2 h6 h1, svK h3 3 h7 h1, svK h3 4 h8 h1, svK h3 5 h9 h1, svK h3 6 h10 h1, svK h3 7 h11 h1, svK h3 8 h12 h1, svK h3 9 h13 h1, svK h3 10 h14 h1, svK h3 11 h15 h1, svK h3 12 h16 h1] m2 := by
        intro hh s at_ b1 b2 b3 b4 b5 b6
        have hcc := v_clearsContents (xset (xset s 1 (69 + p) p1) 1 (72 + p) at_) (w := 8 + p) (a := 0) (b := 60) (by omega) (by omega) (by omega) e8 (rfl : (0 : Int) = ((0 : Nat) : Int)) (rfl : (60 : Int) = ((60 : Nat) : Int))
        obtain ⟨c1, c2⟩ := lay_isl b1 b2 hp (at_ := at_) (z := z) (by omega) (by omega) (by rw [← hz]; exact b3)
        obtain ⟨m2, d1, d2, d3⟩ := act_n (m1 := ccO (xset (xset s 1 (69 + p) p1) 1 (72 + p) at_) (8 + p) 0 60) hI0 c1 (by rw [hz]; exact c2) (fun k hk => b4 k hk) b5 b6
        refine ⟨m2, by rw [hcc]; rfl, by rw [hcc]; exact d1, ?_⟩
        rw [e8, hz]
        exact d3
      simp only [a1, oqI_t, oqR_I, oqO_I, if_true, Bool.true_eq_false, if_false, pd_t i3.1, pd_t (p := LW h1 ∧ 1 ≤ p1 + 1 ∧ p1 + 1 ≤ 200) ⟨hL, by omega, by omega⟩]
      rw [if_neg (show ¬ (p : Int) = -1 by omega)]
      by_cases hc : (cfF h24 h1 (p1 + 1)).1 = -1
      · have hh := a7 hc
        rw [hh] at a2 a3
        rw [hc, hh, if_pos xwm1, if_neg (show ¬ xw (-1) ≥ 0 by decide)]
        obtain ⟨m2, o1, o2, o3⟩ := fo_e (m := m') hL a3
        obtain ⟨m3, g1, g2, g3, g4, g5⟩ := v_grows i1 (own_frame a3 o2) o3 (n := p1 + 1) (by omega) (by omega) (cf_none hL (by omega) h24 hc)
        simp only [o1, g1, oqV_t, oqO_V, oqI_t, oqR_I, oqO_I, if_true]
        have fr2 : m3 2 = m' 2 := by rw [g5 2 (by decide) (by decide), o2 2 (by decide)]
        have fr3 : m3 3 = m' 3 := by rw [g5 3 (by decide) (by decide), o2 3 (by decide)]
        have fr0 : m3 0 = m' 0 := by rw [g5 0 (by decide) (by decide), o2 0 (by decide)]
        have hgr := grR_free hL (n := p1 + 1) (by omega) (by omega)
        by_cases hg : grR h1 (p1 + 1) = -1
        · rw [hg, if_pos xwm1, if_neg (show ¬ xw (-1) ≥ 0 by decide)]
          have hlb : ov_X8_laysBack m3 = RV [lbO m3] := (ov_X8_laysBack_e m3).trans (r_laysBack xfu (xfu_ge (by decide)) m3)
          simp only [hlb, oqV_t, oqO_V, if_true]
          have hRl : Rel h1 (lbO m3 1) := by
            refine Rel_cong hL (fun k hk => ?_) i2
            show (if 1 = 1 ∧ k < 735 then m3 2 k else m3 1 k) = m 1 k
            rw [if_pos ⟨rfl, hk⟩, fr2, a4]
            exact ks_2 m hk
          have := fail_inv (h' := grO h1 (p1 + 1)) (m1 := lbO m3) hI0 hRl (by show m3 3 = m 3; rw [fr3, a5]; rfl) (by show m3 0 3 = m 0 3; rw [fr0, a6 3 (by decide)]; rfl) (by show m3 0 4 = m 0 4; rw [fr0, a6 4 (by decide)]; rfl)
          exact ⟨_, _, _, rfl, rfl, this.mono (by omega)⟩
        · rcases hgr with q | q
          · exact absurd q hg
          · have hb := q.1
            have hb2 := q.2.1
            have hsg : grO h1 (p1 + 1) 0 9 ≤ 200 := by have := g2.1.2.1; have := g2.1.2.2.1; omega
            obtain ⟨m4, l1, l2, l3⟩ := lay (grO h1 (p1 + 1)) m3 (grR h1 (p1 + 1)) g2 g3 q (fun k hk => by rw [fr2, a4]; exact ks_2 m hk) (by rw [fr3, a5]; rfl) (by rw [fr0, a6 3 (by decide)]; rfl)
            rw [xw_id (x := grR h1 (p1 + 1)) (by omega) (by omega), if_neg hg, if_pos (show grR h1 (p1 + 1) ≥ 0 by omega)]
            simp only [x1, x2, x3, x4, l1, l2, oqV_t, oqO_V, if_true]
            exact ⟨_, _, _, rfl, rfl, l3⟩
      · have q := cf_free i1 (n := p1 + 1) (by omega) (by omega) h24 hc
        have hb := q.1
        have hb2 := q.2.1
        have hsg : (cfF h24 h1 (p1 + 1)).2.2 0 9 ≤ 200 := by have := a2.1.2.1; have := a2.1.2.2.1; omega
        obtain ⟨m4, l1, l2, l3⟩ := lay _ m' (cfF h24 h1 (p1 + 1)).1 a2 a3 q (fun k hk => by rw [a4]; exact ks_2 m hk) (by rw [a5]; rfl) (by rw [a6 3 (by decide)]; rfl)
        rw [xw_id (x := (cfF h24 h1 (p1 + 1)).1) (by omega) (by omega), if_neg hc, if_neg hc, if_pos (show (cfF h24 h1 (p1 + 1)).1 ≥ 0 by omega), if_pos (show (cfF h24 h1 (p1 + 1)).1 ≥ 0 by omega)]
        simp only [x1, x2, x3, x4, l1, l2, oqV_t, oqO_V, if_true]
        exact ⟨_, _, _, rfl, rfl, l3⟩
