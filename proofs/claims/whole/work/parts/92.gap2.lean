theorem r_fillsGaps {T : Int} {h m : Ob} (hH : HI T h) (hR : Rel h (m 1)) (hO : Own h (m 4)) {e : Int} (he1 : h 0 9 ≤ e) (he : e ≤ 200) : ∃ m', ov_X8_fillsGaps e m = RV [m'] ∧ GL m' (rnl h (movS h) e) ∧ GLs h m' (rnl h (movS h) e) (mvl h) ∧ (∀ j, j ≠ 0 → j ≠ 5 → j ≠ 6 → j ≠ 7 → j ≠ 8 → m' j = m j) ∧ ∀ q, q ≠ 8 → q ≠ 11 → m' 0 q = m 0 q := by
  have hL := hH.1
  obtain ⟨z1, z2, z3, z4, -⟩ := id hL
  have hM := hL.mr (s := movS h) (e := e) he1 he
  have hRl := rnl_len hL (s := movS h) (e := e) he1 he
  have hml := hL.mvl_len
  have hxe : xw e = e := xw_id (by omega) (by omega)
  rw [ov_X8_fillsGaps_e]
  have e1 : md_X8_fillsGaps_0 e xfu m = tlp (lb_X8_fillsGaps_14 e xfu) xfu (0, 0, xset (xset m 0 8 0) 0 11 0) := rfl
  rw [e1]
  have loop : ∀ (d f : Nat) (b k : Int) (s : Ob) (L : List (Int × Int)) (A B : List Int), (e - k).toNat = d → d < f → 0 ≤ k → k ≤ e → MR (opn h (movS h)) k 0 L → ((b = 1 ∧ ∃ L' x l, L = L' ++ [(x, l)] ∧ x + l = k) ∨ (b = 0 ∧ (0 = k ∨ ¬ opn h (movS h) (k - 1)))) → GL s L → mvl h = A ++ B → (∀ a ∈ A, a < k) → (∀ a ∈ B, k ≤ a) → GLs h s L A → (∀ j, j ≠ 0 → j ≠ 5 → j ≠ 6 → j ≠ 7 → j ≠ 8 → s j = m j) → (∀ q, q ≠ 8 → q ≠ 11 → s 0 q = m 0 q) → ∃ m', tlp (lb_X8_fillsGaps_14 e xfu) f (b, k, s) = RV [m'] ∧ GL m' (rnl h (movS h) e) ∧ GLs h m' (rnl h (movS h) e) (mvl h) ∧ (∀ j, j ≠ 0 → j ≠ 5 → j ≠ 6 → j ≠ 7 → j ≠ 8 → m' j = m j) ∧ ∀ q, q ≠ 8 → q ≠ 11 → m' 0 q = m 0 q := by
    intro d
    induction d with
    | zero =>
      intro f b k s L A B q1 q2 q3 q4 q5 q6 q7 q8 q9 q10 q11 q12 q13
      have hk : k = e := by omega
      subst hk
      obtain ⟨f', rfl⟩ : ∃ f', f = f' + 1 := ⟨f - 1, by omega⟩
      have hLe : L = rnl h (movS h) k := MR_uniq q5 hM
      have hB : B = [] := by
        cases B with
        | nil => rfl
        | cons x B =>
          exfalso
          have h1 := q10 x List.mem_cons_self
          obtain ⟨i, i1, i2, -, i4⟩ := hL.mvl_mem (k := x) (by rw [q8]; simp)
          have hzi := z4 i (by omega)
          have := mov_full hL i1 i4
          omega
      subst hB
      rw [List.append_nil] at q8
      refine ⟨s, ?_, by rw [← hLe]; exact q7, by rw [← hLe, q8]; exact q11, q12, q13⟩
      rw [tlp_succ]
      simp only [lb_X8_fillsGaps_14, mg_X8_fillsGaps_14]
      rw [if_pos (by omega)]
    | succ d ih =>
      intro f b k s L A B q1 q2 q3 q4 q5 q6 q7 q8 q9 q10 q11 q12 q13
      obtain ⟨f', rfl⟩ : ∃ f', f = f' + 1 := ⟨f - 1, by omega⟩
      have hd1 : (e - (k + 1)).toNat = d := by clear q6; omega
      have hk : xw k = k := xw_id (by omega) (by omega)
      have hs1 : s 1 = m 1 := q12 1 (by decide) (by decide) (by decide) (by decide) (by decide)
      have hs4 : s 4 = m 4 := q12 4 (by decide) (by decide) (by decide) (by decide) (by decide)
      have hRs : Rel h (s 1) := by rw [hs1]; exact hR
      have hOs : Own h (s 4) := by rw [hs4]; exact hO
      have hsz : xw (s 1 0) = h 0 9 := by rw [hRs.szq]; exact hL.xsz
      have hs8 : s 0 8 = (L.length : Int) := q7.1
      have hs11 : s 0 11 = (A.length : Int) := q11.1
      have hAB : A.length + B.length = (mvl h).length := by rw [q8, List.length_append]
      have hsort := hL.mvl_sorted
      rw [q8, List.pairwise_append] at hsort
      -- a cell that is open
      have open_ : opn h (movS h) k → ∀ hb : Int, ((hb = 1 ∧ k < h 0 9) ∨ (hb = 0 ∧ h 0 9 ≤ k)) → ∃ m', md_X8_fillsGaps_54 e xfu (tlp (lb_X8_fillsGaps_14 e xfu) f') (b, k, hb, s) = RV [m'] ∧ GL m' (rnl h (movS h) e) ∧ GLs h m' (rnl h (movS h) e) (mvl h) ∧ (∀ j, j ≠ 0 → j ≠ 5 → j ≠ 6 → j ≠ 7 → j ≠ 8 → m' j = m j) ∧ ∀ q, q ≠ 8 → q ≠ 11 → m' 0 q = m 0 q := by
        intro hP hb hhb
        have hop : ∀ i, i < 11 → cvd h i k → mov h (i : Int) = true := fun i hi hcv => by rw [← movS_in h hi]; exact hP i hi hcv
        have hone : ∀ c, k ≤ c → c < k + 1 → opn h (movS h) c := fun c c1 c2 => by rw [show c = k by omega]; exact hP
        have ht8 : (∃ i, i < 8 ∧ h 1 i = k) → A.length < 8 := by
          rintro ⟨i, hi, hik⟩
          have hzi := z4 i (by omega)
          have hm := hL.mvl_of (i := i) (by omega) (hop i (by omega) ⟨by omega, by omega, by omega⟩)
          rw [hik, q8, List.mem_append] at hm
          rcases hm with hm | hm
          · have := q9 k hm; omega
          · have := List.length_pos_of_mem hm
            omega
        -- behind the gap's begin
        have go : ∀ (Y : Ob) (L' : List (Int × Int)) (x l : Int), L'.length < 16 → Y 1 = s 1 → Y 4 = s 4 → GL Y (L' ++ [(x, l)]) → GLs h Y (L' ++ [(x, l)]) A → MR (opn h (movS h)) (k + 1) 0 (L' ++ [(x, l + 1)]) → x + (l + 1) = k + 1 → x ≤ k → (∀ j, j ≠ 0 → j ≠ 5 → j ≠ 6 → j ≠ 7 → j ≠ 8 → Y j = m j) → (∀ q, q ≠ 8 → q ≠ 11 → Y 0 q = m 0 q) → ∃ m', md_X8_fillsGaps_88 e xfu (tlp (lb_X8_fillsGaps_14 e xfu) f') (k, hb, Y) = RV [m'] ∧ GL m' (rnl h (movS h) e) ∧ GLs h m' (rnl h (movS h) e) (mvl h) ∧ (∀ j, j ≠ 0 → j ≠ 5 → j ≠ 6 → j ≠ 7 → j ≠ 8 → m' j = m j) ∧ ∀ q, q ≠ 8 → q ≠ 11 → m' 0 q = m 0 q := by
          intro Y L' x l y1 y2 y3 y4 y5 y6 y7 y8 y9 y10
          have hY8 : Y 0 8 = ((L'.length + 1 : Nat) : Int) := by rw [y4.1]; simp
          obtain ⟨r1, r2⟩ := r_gap88 hL (Y := Y) (by rw [y2]; exact hRs) (by rw [y3]; exact hOs) (g := L'.length) (t := A.length) y1 hY8 y5.1 (k := k) (p1 := e) q3 (by omega) hhb hop ht8 xfu (tlp (lb_X8_fillsGaps_14 e xfu) f')
          have hGZ := y4.ext
          have hSZ : GLs h (xset Y 6 L'.length (Y 6 L'.length + 1)) (L' ++ [(x, l + 1)]) A := y5.grow rfl rfl rfl (fun g hg => by
            simp only [List.length_append, List.length_cons, List.length_nil] at hg
            refine ⟨by simp; omega, ?_⟩
            by_cases hgl : g = L'.length
            · subst hgl; simp; omega
            · rw [List.getElem_append_left (by omega), List.getElem_append_left (by omega)]
              exact ⟨rfl, Int.le_refl _⟩)
          have frZ : ∀ j, j ≠ 0 → j ≠ 5 → j ≠ 6 → j ≠ 7 → j ≠ 8 → xset Y 6 L'.length (Y 6 L'.length + 1) j = m j := fun j j0 j5 j6 j7 j8 => by
            funext q
            show (if j = 6 ∧ q = L'.length then _ else Y j q) = _
            rw [if_neg (fun z => j6 z.1), y9 j j0 j5 j6 j7 j8]
          by_cases hbeg : ∃ i, i < 8 ∧ h 1 i = k
          · obtain ⟨i, hi, hik⟩ := hbeg
            have hzi := z4 i (by omega)
            have hmv := hop i (by omega) ⟨by omega, by omega, by omega⟩
            have hm := hL.mvl_of (i := i) (by omega) hmv
            rw [hik, q8, List.mem_append] at hm
            have hmB : k ∈ B := by
              rcases hm with hm | hm
              · have := q9 k hm; omega
              · exact hm
            obtain ⟨B', rfl⟩ : ∃ B', B = k :: B' := by
              cases B with
              | nil => exact absurd hmB List.not_mem_nil
              | cons y B' =>
                rcases List.mem_cons.mp hmB with rfl | hq
                · exact ⟨B', rfl⟩
                · have h1 := (List.pairwise_cons.mp hsort.2.1).1 k hq
                  have h2 := q10 y List.mem_cons_self
                  omega
            rw [r2 i hi hik]
            refine ih f' 1 (k + 1) _ (L' ++ [(x, l + 1)]) (A ++ [k]) B' hd1 (by omega) (by omega) (by omega) y6 (Or.inl ⟨rfl, L', x, l + 1, rfl, y7⟩) ?_ (by rw [q8]; simp) (fun a ha => ?_) (fun a ha => ?_) (hSZ.add hi hik hmv (g := L'.length) (by simp) (by simpa using y8) (by simp; omega)) (fun j j0 j5 j6 j7 j8 => ?_) (fun q hq8 hq11 => ?_)
            · obtain ⟨w1, w2⟩ := hGZ
              exact ⟨w1, fun g hg => w2 g hg⟩
            · rw [List.mem_append, List.mem_singleton] at ha
              rcases ha with ha | ha
              · have := q9 a ha; omega
              · omega
            · have := (List.pairwise_cons.mp hsort.2.1).1 a ha
              omega
            · rw [← frZ j j0 j5 j6 j7 j8]
              funext q
              show (if j = 0 ∧ q = 11 then _ else (if j = 8 ∧ q = A.length then _ else (if j = 7 ∧ q = A.length then _ else _))) = _
              rw [if_neg (fun z => j0 z.1), if_neg (fun z => j8 z.1), if_neg (fun z => j7 z.1)]
            · rw [xne hq11]
              exact y10 q hq8 hq11
          · rw [r1 (fun i hi hik => hbeg ⟨i, hi, hik⟩)]
            refine ih f' 1 (k + 1) _ (L' ++ [(x, l + 1)]) A B hd1 (by omega) (by omega) (by omega) y6 (Or.inl ⟨rfl, L', x, l + 1, rfl, y7⟩) hGZ q8 (fun a ha => by have := q9 a ha; omega) (fun a ha => ?_) hSZ frZ (fun q hq8 hq11 => y10 q hq8 hq11)
            have h1 := q10 a ha
            obtain ⟨i, i1, i2, -, i4⟩ := hL.mvl_mem (k := a) (by rw [q8]; simp [ha])
            by_cases hak : a = k
            · exact absurd ⟨i, i1, i2.trans hak⟩ hbeg
            · omega
        rcases q6 with ⟨hb1, L', x, l, hLe, hxl⟩ | ⟨hb0, hedge⟩
        · simp only [md_X8_fillsGaps_54, mg_X8_fillsGaps_54, hb1]
          rw [if_neg (by decide)]
          subst hLe
          have hmr := MR_ext (e' := k + 1) (by omega) hxl hone q3 q5
          rw [show l + (k + 1 - k) = l + 1 by omega] at hmr
          have hlen := MR_len (show k + 1 ≤ e by omega) (by omega) hmr hM
          have hl1 := (MR_mem q5 (x, l) (by simp)).2.1
          refine go s L' x l (by simp at hlen; omega) rfl rfl q7 q11 hmr (by omega) (by omega) q12 q13
        · have hmr := MR_new (e' := k + 1) (by omega) hone q3 hedge q5
          rw [show k + 1 - k = 0 + 1 by omega] at hmr
          have hlen := MR_len (show k + 1 ≤ e by omega) (by omega) hmr hM
          have hl16 : L.length < 16 := by simp at hlen; omega
          have hxl : xw (L.length : Int) = (L.length : Int) := xw_nat (by omega)
          have hn := q7.new k
          have hw1 : xset s 5 L.length k 0 8 = (L.length : Int) := hs8
          have hw2 : xset (xset s 5 L.length k) 6 L.length 0 0 8 = (L.length : Int) := hs8
          simp only [md_X8_fillsGaps_54, mg_X8_fillsGaps_54, hb0, xw0, if_true, hs8, hxl, toNat_nat, xin_nat hl16 (show 16 ≤ 2147483648 by omega), hw1, hw2]
          refine go _ L k 0 hl16 rfl rfl hn (q11.grow rfl rfl rfl (fun g hg => ⟨by simp; omega, by rw [List.getElem_append_left hg]; exact ⟨rfl, Int.le_refl _⟩⟩)) hmr (by omega) (Int.le_refl _) (fun j j0 j5 j6 j7 j8 => ?_) (fun q hq8 hq11 => ?_)
          · funext q
            show (if j = 0 ∧ q = 8 then _ else (if j = 6 ∧ q = L.length then _ else (if j = 5 ∧ q = L.length then _ else s j q))) = _
            rw [if_neg (fun z => j0 z.1), if_neg (fun z => j6 z.1), if_neg (fun z => j5 z.1), q12 j j0 j5 j6 j7 j8]
          · rw [xne hq8]
            exact q13 q hq8 hq11
      rw [tlp_succ]
      simp only [lb_X8_fillsGaps_14, mg_X8_fillsGaps_14, md_X8_fillsGaps_34, mg_X8_fillsGaps_34, hk, hxe, hsz, xw0, xw10, if_true, if_false]
      rw [if_neg (show ¬ k ≥ e by omega)]
      by_cases hin : k ≥ h 0 9
      · rw [if_pos hin]
        refine open_ (fun i hi hcv => ?_) 0 (Or.inr ⟨rfl, hin⟩)
        have hzi := z4 i hi
        obtain ⟨c1, c2, c3⟩ := hcv
        omega
      · rw [if_neg hin]
        have hfa := r_isFixedAt hL hRs hOs (k := k) q3 (by omega)
        by_cases hc : ∃ i, i < 11 ∧ cvd h i k
        · obtain ⟨i, hi, hcv⟩ := hc
          have hfi : ov_X8_isFixedAt k s = RI (bz (!mov h (i : Int))) [s] := (ov_X8_isFixedAt_e _ _).trans (hfa.1 i hi hcv)
          simp only [hfi, oqR_I, pd_rfl, pd_T, if_true, bz_0]
          cases hmv : mov h (i : Int)
          · simp only [Bool.not_false, Bool.true_eq_false, if_false, md_X8_fillsGaps_184, mg_X8_fillsGaps_184]
            have hnP : ¬ opn h (movS h) k := fun z => by
              have := z i hi hcv
              rw [movS_in h hi, hmv] at this
              cases this
            refine ih f' 0 (k + 1) s L A B hd1 (by omega) (by omega) (by omega) (MR_close (by omega) (fun c c1 c2 => by rw [show c = k by omega]; exact hnP) q3 q5) (Or.inr ⟨rfl, Or.inr (by rw [show k + 1 - 1 = k by omega]; exact hnP)⟩) q7 q8 (fun a ha => by have := q9 a ha; omega) (fun a ha => ?_) q11 q12 q13
            have h1 := q10 a ha
            obtain ⟨j, j1, j2, -, j4⟩ := hL.mvl_mem (k := a) (by rw [q8]; simp [ha])
            by_cases hak : a = k
            · exfalso
              have hzj := z4 j (by omega)
              have := hL.cv1 (show j < 11 by omega) hi (c := k) ⟨mov_full hL j1 j4, by omega, by omega⟩ hcv
              subst this
              rw [hmv] at j4
              cases j4
            · omega
          · simp only [Bool.not_true, if_true]
            refine open_ (fun j hj hcj => ?_) 1 (Or.inl ⟨rfl, by omega⟩)
            rw [hL.cv1 hj hi hcj hcv, movS_in h hi]
            exact hmv
        · have hfi : ov_X8_isFixedAt k s = RI 0 [s] := (ov_X8_isFixedAt_e _ _).trans (hfa.2 (fun i hi hcv => hc ⟨i, hi, hcv⟩))
          simp only [hfi, oqR_I, pd_rfl, pd_T, if_true, xw0]
          exact open_ (fun j hj hcj => absurd ⟨j, hj, hcj⟩ hc) 1 (Or.inl ⟨rfl, by omega⟩)
  refine loop e.toNat xfu 0 0 _ [] [] (mvl h) (by omega) (by have := xfu_ge (n := 1000) (by decide); omega) (by omega) (by omega) (fun c c1 c2 => by omega) (Or.inr ⟨rfl, Or.inl rfl⟩) ⟨rfl, fun g hg => absurd hg (by simp)⟩ rfl (fun a ha => absurd ha List.not_mem_nil) (fun a ha => ?_) ⟨rfl, fun t ht => absurd ht (by simp)⟩ (fun j j0 _ _ _ _ => ?_) (fun q hq8 hq11 => ?_)
  · obtain ⟨i, i1, i2, -, i4⟩ := hL.mvl_mem ha
    have hzi := z4 i (by omega)
    have := mov_full hL i1 i4
    omega
  · funext q
    show (if j = 0 ∧ q = 11 then _ else (if j = 0 ∧ q = 8 then _ else m j q)) = _
    rw [if_neg (fun z => j0 z.1), if_neg (fun z => j0 z.1)]
  · rw [xne hq11, xne hq8]
