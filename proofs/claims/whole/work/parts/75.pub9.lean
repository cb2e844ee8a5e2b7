theorem cnt_strict {p q : Nat → Bool} : ∀ (l : List Nat), (∀ o, o ∈ l → p o = true → q o = true) → ∀ h, h ∈ l → p h = false → q h = true → l.countP p < l.countP q
  | [], _, h, hm, _, _ => absurd hm List.not_mem_nil
  | a :: l, hs, h, hm, hp, hq => by
    have hle : l.countP p ≤ l.countP q := List.countP_mono_left (fun x hx => hs x (List.mem_cons_of_mem _ hx))
    rcases List.mem_cons.mp hm with rfl | hm
    · rw [List.countP_cons, List.countP_cons, hp, hq]
      simp
      omega
    · have := cnt_strict l (fun o ho => hs o (List.mem_cons_of_mem _ ho)) h hm hp hq
      have ha := hs a List.mem_cons_self
      rw [List.countP_cons, List.countP_cons]
      cases hpa : p a
      · simp
        split <;> omega
      · rw [ha hpa]
        simp
        omega
theorem cnt_add {p q : Nat → Bool} : ∀ (l : List Nat), l.Nodup → ∀ h, h ∈ l → p h = false → (∀ o, o ∈ l → q o = (p o || decide (o = h))) → l.countP q = l.countP p + 1
  | [], _, h, hm, _, _ => absurd hm List.not_mem_nil
  | a :: l, hnd, h, hm, hp, he => by
    obtain ⟨h1, h2⟩ := List.nodup_cons.mp hnd
    rw [List.countP_cons, List.countP_cons]
    by_cases hah : a = h
    · subst hah
      have e : l.countP q = l.countP p := List.countP_congr (fun x hx => by
        rw [he x (List.mem_cons_of_mem _ hx)]
        have : x ≠ a := fun z => h1 (z ▸ hx)
        simp [this])
      rw [e, he a List.mem_cons_self, hp]
      simp
    · have hm' : h ∈ l := by
        rcases List.mem_cons.mp hm with z | z
        · exact absurd z.symm hah
        · exact z
      rw [cnt_add l h2 h hm' hp (fun o ho => he o (List.mem_cons_of_mem _ ho)), he a List.mem_cons_self]
      simp [hah]
      omega
/-- how many go ahead of one -/
noncomputable def bfr (w : Nat → Int) (G : Nat → Bool) (b : Nat) : Nat := (List.range 8).countP (fun o => G o && @decide (lxl w o b) (Classical.propDecidable _))
theorem bfr_lt {w : Nat → Int} {G : Nat → Bool} {b : Nat} (hb : b < 8) (hg : G b = true) : bfr w G b < (List.range 8).countP G := by
  refine cnt_strict _ (fun o _ h => ?_) b (List.mem_range.mpr hb) ?_ hg
  · rw [Bool.and_eq_true] at h; exact h.1
  · have : ¬ lxl w b b := fun z => lxl_asym z z
    simp [this]
theorem bfr_inj {w : Nat → Int} {G : Nat → Bool} {a b : Nat} (ha : a < 8) (hb : b < 8) (ga : G a = true) (gb : G b = true) (e : bfr w G a = bfr w G b) : a = b := by
  by_cases hab : a = b
  · exact hab
  · exfalso
    have key : ∀ a b : Nat, a < 8 → G a = true → lxl w a b → bfr w G a < bfr w G b := by
      intro a b ha ga hl
      refine cnt_strict _ (fun o _ h => ?_) a (List.mem_range.mpr ha) ?_ ?_
      · simp only [Bool.and_eq_true, decide_eq_true_eq] at h ⊢
        exact ⟨h.1, lxl_trans h.2 hl⟩
      · have : ¬ lxl w a a := fun z => lxl_asym z z
        simp [this]
      · simp [ga, hl]
    rcases lxl_tot w hab with h | h
    · have := key a b ha ga h; omega
    · have := key b a hb gb h; omega
theorem bfr_min {w : Nat → Int} {G S : Nat → Bool} {b : Nat} (h1 : ∀ o, o < 8 → G o = true → S o = false → lxl w o b) (h2 : ∀ o, o < 8 → S o = true → o ≠ b → lxl w b o) (h3 : ∀ o, o < 8 → S o = true → G o = true) (hb : S b = true) : bfr w G b = (List.range 8).countP (fun o => G o && !S o) := by
  refine List.countP_congr (fun o ho => ?_)
  have ho := List.mem_range.mp ho
  cases hs : S o
  · cases hg : G o
    · simp
    · simp [h1 o ho hg hs]
  · have : ¬ lxl w o b := by
      by_cases hob : o = b
      · rw [hob]; exact fun z => lxl_asym z z
      · exact fun z => lxl_asym z (h2 o ho hs hob)
    simp [this]
theorem r_order {T : Int} {h m : Ob} (hH : HI T h) (hR : Rel h (m 1)) (G : Nat → Bool) (hG : ∀ o : Nat, o < 8 → cgoM m (o : Int) = G o) (hU : ∀ o : Nat, o < 8 → G o = true → inS (h 0 7) (o : Int) = true) (p1 : Int) (hp : xw p1 = p1) (f : Nat) (hf : 1000 ≤ f) : md_X8_order_0 p1 m f () = RI (match (List.range 8).find? (fun b => G b && decide ((bfr (wv h) G b : Int) = p1)) with | some b => (b : Int) | none => -1) [m] := by
  show tlp (lb_X8_order_2 p1 m f) f ((0 : Nat) : Int) = _
  refine loop_find 8 _ (fun r => RI r [m]) (fun i => (i : Int)) (fun k i hi => ?_) (fun k => rfl) f (by omega)
  have hx : xw (i : Int) = i := xw_nat (by omega)
  simp only [lb_X8_order_2, mg_X8_order_2, hx, hG i hi, bz_0]
  rw [if_neg (by omega)]
  cases hg : G i
  · simp only [if_true, md_X8_order_95, mg_X8_order_95]
    rfl
  · simp only [Bool.true_eq_false, if_false]
    obtain ⟨w1, w2⟩ := wr_eq hH hR hi (hU i hi hg)
    have L := loop_fold (B := lb_X8_order_24 p1 m f k) 8 (fun (s : Int) (o : Nat) => if G o && @decide (lxl (wv h) o i) (Classical.propDecidable _) then s + 1 else s) (fun s => if xw s = xw p1 then RI (i : Int) [m] else md_X8_order_95 p1 m f k (i : Int)) (fun o s => ((i : Int), s, (o : Int))) (fun _ _ => True) (fun kk o s ho _ => ⟨by
      have hxo : xw (o : Int) = o := xw_nat (by omega)
      simp only [lb_X8_order_24, mg_X8_order_24, md_X8_order_79, mg_X8_order_79, md_X8_order_75, mg_X8_order_75, md_X8_order_80, mg_X8_order_80, hxo, hx, hG o ho, bz_0]
      rw [if_neg (by omega)]
      cases hgo : G o
      · simp
      · obtain ⟨v1, v2⟩ := wr_eq hH hR ho (hU o ho hgo)
        have w2' := w2
        have v2' := v2
        rw [hx] at w2'
        rw [hxo] at v2'
        simp only [Bool.true_eq_false, if_false, pd_t v2', pd_t w2', if_true, w1, v1]
        by_cases c1 : xw (wrt h (o : Int)) < xw (wrt h (i : Int))
        · have : lxl (wv h) o i := Or.inl c1
          rw [if_pos c1]
          simp [this]
        · rw [if_neg c1]
          by_cases c2 : xw (wrt h (o : Int)) = xw (wrt h (i : Int))
          · rw [if_pos c2]
            by_cases c3 : (o : Int) ≥ (i : Int)
            · have : ¬ lxl (wv h) o i := by unfold lxl wv; omega
              rw [if_pos c3]
              simp [this]
            · have : lxl (wv h) o i := Or.inr ⟨c2, by omega⟩
              rw [if_neg c3]
              simp [this]
          · have : ¬ lxl (wv h) o i := by unfold lxl wv; omega
            rw [if_neg c2]
            simp [this], trivial⟩) (fun kk s _ => rfl) f 0 (by omega) trivial
    refine Eq.trans (b := _) L.1 ?_
    have hcnt : ∀ (l : List Nat) (s : Int), l.foldl (fun (s : Int) (o : Nat) => if G o && @decide (lxl (wv h) o i) (Classical.propDecidable _) then s + 1 else s) s = s + (l.countP (fun o => G o && @decide (lxl (wv h) o i) (Classical.propDecidable _)) : Int) := by
      intro l
      induction l with
      | nil => intro s; simp
      | cons a l ih =>
        intro s
        rw [List.foldl_cons, ih, List.countP_cons]
        split
        · push_cast; omega
        · simp
    rw [hcnt, Int.zero_add]
    have hle : (List.range 8).countP (fun o => G o && @decide (lxl (wv h) o i) (Classical.propDecidable _)) ≤ 8 := by
      have := List.countP_le_length (p := fun o => G o && @decide (lxl (wv h) o i) (Classical.propDecidable _)) (l := List.range 8)
      simpa using this
    rw [xw_nat (by omega), hp]
    have eb : ((List.range 8).countP (fun o => G o && @decide (lxl (wv h) o i) (Classical.propDecidable _)) : Int) = (bfr (wv h) G i : Int) := rfl
    rw [eb]
    by_cases hc : (bfr (wv h) G i : Int) = p1
    · rw [if_pos hc]
      simp [hc]
    · rw [if_neg hc]
      simp [hc, md_X8_order_95, mg_X8_order_95]
theorem cgo_eq {T : Int} {h m : Ob} (hH : HI T h) (hR : Rel h (m 1)) {i : Nat} (hi : i < 8) : cgoM m (i : Int) = (mov h (i : Int) && inS (h 0 8) (i : Int)) := by
  unfold cgoM
  rw [hR.looq hH.1 hi]
  cases hm : mov h (i : Int) with
  | false => rfl
  | true =>
    have hf := mov_full hH.1 hi hm
    obtain ⟨u1, -⟩ := hR.use hi hf
    rw [xw_nat (by omega), toNat_nat, ((hR.2.1 i hi).2.2 u1).2.2.2.1]
    cases inS (h 0 8) (i : Int) <;> rfl
theorem cbl_eq {T : Int} {h m : Ob} (hH : HI T h) (hR : Rel h (m 1)) {i : Nat} (hi : i < 8) : cblM m (i : Int) = (mov h (i : Int) && decide (xw (h 5 i) < xw (h 2 i))) := by
  unfold cblM
  rw [hR.looq hH.1 hi]
  cases hm : mov h (i : Int) with
  | false => rw [Bool.false_and, Bool.false_and]
  | true =>
    have hf := mov_full hH.1 hi hm
    obtain ⟨u1, -⟩ := hR.use hi hf
    obtain ⟨a, b, -⟩ := (hR.2.1 i hi).2.2 u1
    rw [xw_nat (by omega), toNat_nat, a, b]
theorem e_order (T : Int) (hT0 : 0 ≤ T) (hT : T ≤ 600) (p1 : Int) (hp1 : xw p1 = p1) (h0 h1 h2 h3 h4 h5 h6 h7 h8 h9 h10 h11 h12 h13 h14 h15 h16 h17 h18 h19 h20 h21 h22 h23 h24 m : Ob) (hI : INV T h1 h3 [h4, h5, h6, h7, h8, h9, h10, h11, h12, h13, h14, h15, h16] m) : Same (T + 1) (md_X7_order_0 p1 h0 h1 h2 h3 h4 h5 h6 h7 h8 h9 h10 h11 h12 h13 h14 h15 h16 h17 h18 h19 h20 h21 h22 h23 h24 xfu ()) (md_X8_order_0 p1 m xfu ()) := by
  have hI0 := hI
  obtain ⟨i1, i2, i3⟩ := hI
  have hU : ∀ o : Nat, o < 8 → (mov h1 (o : Int) && inS (h1 0 8) (o : Int)) = true → inS (h1 0 7) (o : Int) = true := fun o ho hg => by
    rw [Bool.and_eq_true] at hg
    exact (i2.use ho (mov_full i1.1 ho hg.1)).1
  obtain ⟨G, hGd⟩ : ∃ G : Nat → Bool, G = fun o : Nat => mov h1 (o : Int) && inS (h1 0 8) (o : Int) := ⟨_, rfl⟩
  have hr := r_order i1 i2 G (fun o ho => by rw [hGd]; exact cgo_eq i1 i2 ho) (fun o ho hg => by rw [hGd] at hg; exact hU o ho hg) p1 hp1 xfu (xfu_ge (by decide))
  have hGS : ∀ o : Nat, o < 8 → inS (goS h1) (o : Int) = G o := fun o ho => by
    rw [hGd]
    unfold goS
    rw [inS_and _ _ ho, movS_in h1 (by omega)]
  have none_of : (∀ b, b < 8 → G b = true → (bfr (wv h1) G b : Int) ≠ p1) → (match (List.range 8).find? (fun b => G b && decide ((bfr (wv h1) G b : Int) = p1)) with | some b => (b : Int) | none => -1) = -1 := by
    intro hn
    have : (List.range 8).find? (fun b => G b && decide ((bfr (wv h1) G b : Int) = p1)) = none := by
      rw [List.find?_eq_none]
      intro b hb hc
      simp only [Bool.and_eq_true, decide_eq_true_eq] at hc
      exact hn b (List.mem_range.mp hb) hc.1 hc.2
    rw [this]
  have some_of : ∀ b, b < 8 → G b = true → (bfr (wv h1) G b : Int) = p1 → (match (List.range 8).find? (fun b => G b && decide ((bfr (wv h1) G b : Int) = p1)) with | some b => (b : Int) | none => -1) = (b : Int) := by
    intro b hb hg he
    cases hf : (List.range 8).find? (fun b => G b && decide ((bfr (wv h1) G b : Int) = p1)) with
    | none =>
      rw [List.find?_eq_none] at hf
      exact absurd (by simp [hg, he]) (hf b (List.mem_range.mpr hb))
    | some c =>
      have hc := List.find?_some hf
      have hc8 := List.mem_range.mp (List.mem_of_find?_eq_some hf)
      simp only [Bool.and_eq_true, decide_eq_true_eq] at hc
      have : c = b := bfr_inj (w := wv h1) hc8 hb hc.1 hg (by omega)
      rw [this]
  have hcG : (List.range 8).countP G ≤ 8 := by
    have := List.countP_le_length (p := G) (l := List.range 8)
    simpa using this
  by_cases hneg : p1 < 0
  · have e7 : md_X7_order_0 p1 h0 h1 h2 h3 h4 h5 h6 h7 h8 h9 h10 h11 h12 h13 h14 h15 h16 h17 h18 h19 h20 h21 h22 h23 h24 xfu () = RI (-1) [h0, h1, h2, h3, h4, h5, h6, h7, h8, h9, h10, h11, h12, h13, h14, h15, h16, h17, h18, h19, h20, h21, h22, h23, h24] := by
      have : md_X7_order_0 p1 h0 h1 h2 h3 h4 h5 h6 h7 h8 h9 h10 h11 h12 h13 h14 h15 h16 h17 h18 h19 h20 h21 h22 h23 h24 xfu () = tlp (lb_X7_order_10 p1 h0 h1 h2 h3 h4 h5 h6 h7 h8 h9 h10 h11 h12 h13 h14 h15 h16 h17 h18 h19 h20 h21 h22 h23 h24 xfu) xfu (goS h1, 0) := rfl
      rw [this]
      obtain ⟨f, hf⟩ : ∃ f, xfu = f + 1 := ⟨xfu - 1, by have := xfu_ge (n := 1) (by decide); omega⟩
      rw [hf, tlp_succ]
      simp only [lb_X7_order_10, mg_X7_order_10, hp1, xw0]
      rw [if_pos (by omega)]
    rw [e7, hr, none_of (fun b hb hg he => by omega)]
    exact ⟨_, _, _, rfl, rfl, hI0.mono (by omega)⟩
  have key : ∀ (d r : Nat) (s : Int) (f : Nat), r + d = 8 → d < f → (∀ o : Nat, o < 8 → inS s (o : Int) = true → G o = true) → (List.range 8).countP (fun o => G o && !inS s (o : Int)) = r → (∀ o c : Nat, o < 8 → c < 8 → G o = true → inS s (o : Int) = false → inS s (c : Int) = true → lxl (wv h1) o c) → (r : Int) ≤ p1 → ∃ q : Int, tlp (lb_X7_order_10 p1 h0 h1 h2 h3 h4 h5 h6 h7 h8 h9 h10 h11 h12 h13 h14 h15 h16 h17 h18 h19 h20 h21 h22 h23 h24 xfu) f (s, (r : Int)) = RI q [h0, h1, h2, h3, h4, h5, h6, h7, h8, h9, h10, h11, h12, h13, h14, h15, h16, h17, h18, h19, h20, h21, h22, h23, h24] ∧ (match (List.range 8).find? (fun b => G b && decide ((bfr (wv h1) G b : Int) = p1)) with | some b => (b : Int) | none => -1) = q := by
    intro d
    induction d with
    | zero =>
      intro r s f hr8 hf hs1 hs2 hs3 hrp
      cases f with
      | zero => omega
      | succ f =>
        refine ⟨-1, ?_, ?_⟩
        · rw [tlp_succ]
          simp only [lb_X7_order_10, mg_X7_order_10, hp1, xw_nat (show r < 2147483648 by omega)]
          rw [if_neg (by omega), if_pos (by omega)]
        · refine none_of (fun b hb hg he => ?_)
          have h1' := bfr_lt (w := wv h1) hb hg
          omega
    | succ d ih =>
      intro r s f hr8 hf hs1 hs2 hs3 hrp
      cases f with
      | zero => omega
      | succ f =>
        rw [tlp_succ]
        simp only [lb_X7_order_10, mg_X7_order_10, hp1, xw_nat (show r < 2147483648 by omega)]
        rw [if_neg (show ¬ (r : Int) > p1 by omega), if_neg (show ¬ (r : Int) ≥ 8 by omega)]
        rcases lwo_min h1 s with ⟨l1, l2⟩ | ⟨b, l1, l2, l3, l4⟩
        · rw [l1, if_pos xwm1]
          refine ⟨-1, rfl, none_of (fun b hb hg he => ?_)⟩
          have h1' := bfr_lt (w := wv h1) hb hg
          have h2' : (List.range 8).countP (fun o => G o && !inS s (o : Int)) = (List.range 8).countP G := List.countP_congr (fun o ho => by have := l2 o (List.mem_range.mp ho); dsimp only at this; rw [this]; simp)
          omega
        · rw [l2, xw_nat (show b < 2147483648 by omega), if_neg (show ¬ (b : Int) = -1 by omega)]
          by_cases hrk : (r : Int) = p1
          · rw [if_pos hrk]
            refine ⟨_, rfl, some_of b l1 (hs1 b l1 l3) ?_⟩
            rw [bfr_min (S := fun o => inS s (o : Int)) (fun o ho hg hso => hs3 o b ho l1 hg hso l3) (fun o ho hso hne => l4 o ho hso hne) (fun o ho hso => hs1 o ho hso) l3, hs2]
            exact hrk
          · rw [if_neg hrk]
            have hin : ∀ o : Nat, o < 8 → inS (xand s (xxor (xshl 1 (b : Int)) (-1))) (o : Int) = (inS s (o : Int) && !decide (o = b)) := fun o ho => by rw [inS_and _ _ ho, inS_not _ ho, inS_one b l1 o (by omega)]
            have hrr : (r : Int) + 1 = ((r + 1 : Nat) : Int) := by omega
            rw [hrr]
            refine ih (r + 1) _ f (by omega) (by omega) (fun o ho hso => ?_) ?_ (fun o c ho hc hg hso hsc => ?_) (by omega)
            · rw [hin o ho, Bool.and_eq_true] at hso
              exact hs1 o ho hso.1
            · rw [← hs2]
              refine cnt_add (p := fun o => G o && !inS s (o : Int)) _ List.nodup_range b (List.mem_range.mpr l1) (by simp [l3]) (fun o ho => ?_)
              have ho := List.mem_range.mp ho
              rw [hin o ho]
              by_cases hob : o = b
              · subst hob
                simp [hs1 o ho l3]
              · simp [hob]
            · rw [hin o ho] at hso
              rw [hin c hc, Bool.and_eq_true] at hsc
              have hcb : c ≠ b := by simpa using hsc.2
              by_cases hob : o = b
              · rw [hob]
                exact l4 c hc hsc.1 hcb
              · exact hs3 o c ho hc hg (by simpa [hob] using hso) hsc.1
  obtain ⟨q, q1, q2⟩ := key 8 0 (goS h1) xfu (by omega) (Nat.lt_of_lt_of_le (by decide) (xfu_ge (n := 1000) (by decide))) (fun o ho hso => by rw [← hGS o ho]; exact hso) (by
    have : (List.range 8).countP (fun o => G o && !inS (goS h1) (o : Int)) = (List.range 8).countP (fun _ => false) := List.countP_congr (fun o ho => by rw [hGS o (List.mem_range.mp ho)]; simp)
    rw [this]
    simp) (fun o c ho hc hg hso _ => by rw [hGS o ho, hg] at hso; cases hso) (by omega)
  rw [hr, q2]
  exact ⟨q, _, _, q1, rfl, hI0.mono (by omega)⟩
