theorem bgn_att {h : Ob} (hL : LW h) : bgn h = 0 ∨ ∃ i, i < 11 ∧ h 1 i ≠ -1 ∧ h 1 i + h 2 i + 1 = bgn h := by
  unfold bgn
  have key : ∀ n : Nat, n ≤ 11 → ((List.range n).foldl (fun (b : Int) (i : Nat) => if xw (h 1 i) = -1 then b else xmax b (h 1 i + h 2 i + 1)) 0 = 0 ∨ ∃ i, i < 11 ∧ h 1 i ≠ -1 ∧ h 1 i + h 2 i + 1 = (List.range n).foldl (fun (b : Int) (i : Nat) => if xw (h 1 i) = -1 then b else xmax b (h 1 i + h 2 i + 1)) 0) := by
    intro n
    induction n with
    | zero => intro _; exact Or.inl rfl
    | succ n ih =>
      intro hn
      rw [List.range_succ, List.foldl_append, List.foldl_cons, List.foldl_nil]
      have ih' := ih (by omega)
      generalize (List.range n).foldl (fun (b : Int) (i : Nat) => if xw (h 1 i) = -1 then b else xmax b (h 1 i + h 2 i + 1)) 0 = b at ih'
      rw [hL.xpl (by omega)]
      split
      · exact ih'
      · rename_i hne
        unfold xmax
        split
        · exact Or.inr ⟨n, by omega, hne, rfl⟩
        · exact ih'
  exact key 11 (by omega)
theorem r_freeEnd {h m : Ob} (hL : LW h) (hR : Rel h (m 1)) (hO : Own h (m 4)) : ov_X8_freeEnd m = RI (bgn h) [m] := by
  obtain ⟨z1, z2, z3, -⟩ := id hL
  obtain ⟨b1, b2, b3⟩ := hL.bgnc
  rw [ov_X8_freeEnd_e]
  have hmd : md_X8_freeEnd_0 m xfu () = tlp (lb_X8_freeEnd_7 m xfu) xfu (m 1 0) := rfl
  rw [hmd, hR.szq]
  refine tlp_inv (B := lb_X8_freeEnd_7 m xfu) (fun k => bgn h ≤ k ∧ k ≤ h 0 9) (fun k => k.toNat) (fun _ => RI (bgn h) [m]) ?_ xfu (h 0 9) ⟨b2, Int.le_refl _⟩ (by have := xfu_ge (n := 1000) (by decide); omega)
  rintro k ⟨k1, k2⟩
  have hk : xw k = k := xw_id (by omega) (by omega)
  have hk1 : xw (k - 1) = k - 1 := xw_id (by omega) (by omega)
  by_cases hkb : k = bgn h
  · right
    intro kk
    simp only [lb_X8_freeEnd_7, mg_X8_freeEnd_7, hk]
    by_cases hk0 : k ≤ 0
    · rw [if_pos hk0, hkb]
    · rw [if_neg hk0, xin_of (i := k - 1) (n := 200) (by rw [hk1]; omega) (by rw [hk1]; omega), if_pos rfl, hk1, hO.xwq (k := (k - 1).toNat) (by omega)]
      rcases bgn_att hL with z | ⟨i, hi, hp, hz⟩
      · omega
      · have hz4 := hL.2.2.2.1 i hi
        have := (hO (k - 1).toNat (by omega)).1 i hi ⟨hp, by omega, by omega⟩
        rw [this, if_neg (by have := oc_pos i; omega), hkb]
  · left
    refine ⟨k + -1, fun kk => ?_, ⟨by omega, by omega⟩, by omega, rfl⟩
    simp only [lb_X8_freeEnd_7, mg_X8_freeEnd_7, hk]
    rw [if_neg (by omega), xin_of (i := k - 1) (n := 200) (by rw [hk1]; omega) (by rw [hk1]; omega), if_pos rfl, hk1, hO.xwq (k := (k - 1).toNat) (by omega)]
    have := (hO (k - 1).toNat (by omega)).2 (fun i hi hc => by
      obtain ⟨c1, c2, c3⟩ := hc
      have := b3 i hi c1
      omega)
    rw [this, if_pos rfl]
theorem Rel_size {h : Ob} {q : Nat → Int} (hR : Rel h q) {v : Int} : Rel (xset h 0 9 v) (fun k => if k = 0 then v else q k) := by
  obtain ⟨⟨r0, r1, r2, r3, r4⟩, rh, rp, rc⟩ := hR
  refine ⟨⟨rfl, r1, r2, r3, r4⟩, fun i hi => ?_, fun p hp => ?_, fun j hj hne k hk => ?_⟩
  · have := rh i hi
    unfold RelH at this ⊢
    (try dsimp only)
    rw [if_neg (by omega), if_neg (by omega), if_neg (by omega), if_neg (by omega), if_neg (by omega), if_neg (by omega), if_neg (by omega), if_neg (by omega)]
    exact this
  · have := rp p hp
    unfold RelP at this ⊢
    (try dsimp only)
    rw [if_neg (by omega), if_neg (by omega)]
    exact this
  · (try dsimp only)
    rw [if_neg (by omega)]
    exact rc j hj hne k hk
theorem v_grows {T : Int} {h m : Ob} (hH : HI T h) (hR : Rel h (m 1)) (hO : Own h (m 4)) {n : Int} (h1 : 1 ≤ n) (h2 : n ≤ 200) (hno : h 0 9 < bgn h + n) : ∃ m', ov_X8_grows n m = RI (grR h n) [m'] ∧ HI T (grO h n) ∧ Rel (grO h n) (m' 1) ∧ Own (grO h n) (m' 4) ∧ ∀ j, j ≠ 1 → j ≠ 4 → m' j = m j := by
  have hL := hH.1
  obtain ⟨z1, z2, z3, -⟩ := id hL
  obtain ⟨b1, b2, b3⟩ := hL.bgnc
  have hLg := hL.grow (n := n) (by omega) h2
  have e10 : m 1 1 = h 0 10 := hR.1.2.1
  have hx1 : xw (bgn h + n) = bgn h + n := xw_id (by omega) (by omega)
  have hx2 : xw (h 0 10) = h 0 10 := xw_id (by omega) (by omega)
  have hgr : grO h n = xset h 0 9 (if bgn h + n ≥ h 0 10 then h 0 10 else bgn h + n) := by
    unfold grO
    congr 1
    unfold xmax xmin
    rw [hx1, hx2]
    by_cases hc : bgn h + n < h 0 10
    · rw [if_pos hc, hL.xsz, hx1, if_pos hno, if_neg (show ¬ bgn h + n ≥ h 0 10 by omega)]
    · rw [if_neg hc, hL.xsz, hx2, if_pos (show bgn h + n ≥ h 0 10 by omega)]
      split <;> omega
  have hHg : HI T (grO h n) := by
    obtain ⟨a1, a2, a3, a4, a5, a6, a7⟩ := hH
    exact ⟨hLg, a2, a3, a4, a5, a6, a7⟩
  have hRg : Rel (grO h n) ((xset m 1 0 (if bgn h + n ≥ h 0 10 then h 0 10 else bgn h + n)) 1) := by
    rw [xs1, hgr]
    exact Rel_size hR
  obtain ⟨m', o1, o2, o3⟩ := fo_e hLg hRg
  refine ⟨m', ?_, hHg, own_frame hRg o2, o3, fun j j1 j4 => ?_⟩
  · have e0' : m' 1 0 = if bgn h + n ≥ h 0 10 then h 0 10 else bgn h + n := by
      rw [o2 1 (by decide)]
      exact xeq
    rw [ov_X8_grows_e]
    unfold grR
    rw [hx1, hx2]
    simp only [md_X8_grows_0, mg_X8_grows_0, md_X8_grows_34, mg_X8_grows_34, r_freeEnd hL hR hO, oqR_I, pd_rfl, pd_T, if_true, e10, hx1, hx2, xin_nat (i := 0) (n := 735) (by decide) (by decide), xw0]
    have hx0 : xin (0 : Int) 735 = true := xin_nat (i := 0) (by decide) (by decide)
    by_cases hc : bgn h + n ≥ h 0 10
    · rw [if_pos hc] at o1 e0' ⊢
      have ho1 : ov_X8_fillsOwners (xset m 1 (Int.toNat 0) (h 0 10)) = RV [m'] := o1
      simp only [hx0, ho1, oqV_t, oqO_V, if_true, e0']
      rw [xw_id (x := h 0 10 - bgn h) (by omega) (by omega), xw_id (x := n) (by omega) (by omega)]
      by_cases hd : h 0 10 < bgn h + n
      · rw [if_pos (show h 0 10 - bgn h < n by omega), if_pos hd]
      · rw [if_neg (show ¬ h 0 10 - bgn h < n by omega), if_neg hd]
    · rw [if_neg hc] at o1 e0' ⊢
      have ho1 : ov_X8_fillsOwners (xset m 1 (Int.toNat 0) (bgn h + n)) = RV [m'] := o1
      simp only [hx0, ho1, oqV_t, oqO_V, if_true, e0']
      rw [xw_id (x := bgn h + n - bgn h) (by omega) (by omega), xw_id (x := n) (by omega) (by omega), if_neg (show ¬ bgn h + n - bgn h < n by omega), if_neg (show ¬ h 0 10 < bgn h + n by omega)]
  · rw [o2 j j4]
    funext k
    show (if j = 1 ∧ k = 0 then _ else m j k) = m j k
    rw [if_neg (fun z => j1 z.1)]
/-- no n cells are free -/
def NF (h : Ob) (n : Int) : Prop := ∀ x, ¬ Fre h x n
theorem run_begin {h : Ob} (hL : LW h) : ∀ (d : Nat) (x : Int), x.toNat = d → 0 ≤ x → (∀ i, i < 11 → ¬ cvd h i x) → ∃ k, 0 ≤ k ∧ k ≤ x ∧ Bnd h k ∧ (∀ c, k ≤ c → c ≤ x → ∀ i, i < 11 → ¬ cvd h i c) := by
  intro d
  induction d with
  | zero =>
    intro x h0 h1 hx
    have : x = 0 := by omega
    subst this
    exact ⟨0, Int.le_refl _, Int.le_refl _, Or.inl rfl, fun c c1 c2 => by rw [show c = 0 by omega]; exact hx⟩
  | succ d ih =>
    intro x h0 h1 hx
    by_cases hc : ∀ i, i < 11 → ¬ cvd h i (x - 1)
    · obtain ⟨k, k1, k2, k3, k4⟩ := ih (x - 1) (by omega) (by omega) hc
      refine ⟨k, k1, by omega, k3, fun c c1 c2 => ?_⟩
      by_cases hcx : c = x
      · rw [hcx]; exact hx
      · exact k4 c c1 (by omega)
    · have : ∃ i, i < 11 ∧ cvd h i (x - 1) := by
        by_cases hq : ∃ i, i < 11 ∧ cvd h i (x - 1)
        · exact hq
        · exact absurd (fun i hi hcv => hq ⟨i, hi, hcv⟩) hc
      obtain ⟨i, hi, c1, c2, c3⟩ := this
      have hni := hx i hi
      have he : h 1 i + h 2 i + 1 = x := by
        by_cases hle : x ≤ h 1 i + h 2 i
        · exact absurd ⟨c1, by omega, hle⟩ hni
        · omega
      exact ⟨x, h1, Int.le_refl _, Or.inr ⟨i, hi, c1, Or.inr he⟩, fun c d1 d2 => by rw [show c = x by omega]; exact hx⟩
theorem ffr_none {h : Ob} (hL : LW h) {n : Int} (h1 : 1 ≤ n) (h2 : n ≤ 200) (hf : ffr h n = -1) : NF h n := by
  obtain ⟨z1, z2, z3, z4, -⟩ := id hL
  intro x hx
  obtain ⟨f1, f2, f3⟩ := hx
  have hfree : ∀ c, x ≤ c → c < x + n → ∀ i, i < 11 → ¬ cvd h i c := by
    intro c c1 c2 i hi hcv
    obtain ⟨d1, d2, d3⟩ := hcv
    rcases f3 i hi d1 with z | z <;> omega
  obtain ⟨k, k1, k2, k3, k4⟩ := run_begin hL x.toNat x rfl f1 (hfree x (Int.le_refl _) (by omega))
  have hall : ∀ c, k ≤ c → c < x + n → ∀ i, i < 11 → ¬ cvd h i c := fun c c1 c2 => by
    by_cases hcx : c ≤ x
    · exact k4 c c1 hcx
    · exact hfree c (by omega) c2
  have hno : ∀ i, i < 11 → h 1 i ≠ k := by
    intro i hi e
    have hz := z4 i hi
    exact hall k (Int.le_refl _) (by omega) i hi ⟨by omega, by omega, by omega⟩
  have hmem := (hL.wls_mem (Int.le_refl _) (by omega) k).mpr ⟨k1, by omega, nb_of (hall k (Int.le_refl _) (by omega)), k3⟩
  have hhol : hol h k = -1 := by
    rcases hL.holc (k := k) k1 (by omega) with ⟨l, l1, l2, l3⟩ | ⟨l1, l3⟩
    · exact absurd l2 (hno l l1)
    · exact l3
  obtain ⟨c1, c2, c3, c4⟩ := hL.nxt_free (k := k) (e := h 0 9) k1 (by omega) (by omega) hno
  have hlen : x + n ≤ nxt h k (h 0 9) := by
    rcases c4 with c4 | ⟨j, hj, c4⟩
    · omega
    · have hz := z4 j hj
      by_cases hq : x + n ≤ h 1 j
      · omega
      · exact absurd ⟨by omega, by omega, by omega⟩ (hall (h 1 j) (by omega) (by omega) j hj)
  rw [ffr_e] at hf
  unfold ffrI at hf
  cases hq : (wls h (h 0 9)).find? (fun k => decide (hol h k = -1) && decide (xw n ≤ nxt h k (h 0 9) - k)) with
  | some y =>
    rw [hq] at hf
    have hy := ((hL.wlsc (Int.le_refl _) (by omega)).1 y (List.mem_of_find?_eq_some hq)).1
    have : y = -1 := hf
    omega
  | none =>
    rw [List.find?_eq_none] at hq
    refine hq k hmem ?_
    rw [hhol, xw_id (by omega) (by omega)]
    simp
    omega
theorem NF.end_ {h : Ob} (hL : LW h) {n : Int} (hN : NF h n) (h1 : 1 ≤ n) : h 0 9 < bgn h + n := by
  obtain ⟨b1, b2, b3⟩ := hL.bgnc
  by_cases hq : h 0 9 < bgn h + n
  · exact hq
  · exact absurd ⟨b1, by omega, fun i hi hp => Or.inl (b3 i hi hp)⟩ (hN (bgn h))
theorem NF.slide {h : Ob} (hL : LW h) {n : Int} (h1 : 1 ≤ n) (hN : NF h n) (hf : ffm h ≠ -1) {i : Nat} (hi : i < 8) (hq : h 1 i = nxt h (ffm h) (h 0 9)) (hlt : ffm h < h 1 i) (hr : ¬ n ≤ nxt (xset h 1 i (ffm h)) (nxt (xset h 1 i (ffm h)) (ffm h) (h 0 9)) (h 0 9) - nxt (xset h 1 i (ffm h)) (ffm h) (h 0 9)) : NF (xset h 1 i (ffm h)) n := by
  obtain ⟨z1, z2, z3, z4, z5, -⟩ := id hL
  have hL' := hL.slide1 hf (by omega) hq
  obtain ⟨a1, a2, a3, a4, -⟩ := hL.ffmc hf
  obtain ⟨c1, c2, c3, c4⟩ := hL.nxt_free a1 a2 (by omega) a4
  have hz := z4 i (by omega)
  have hn' : nxt (xset h 1 i (ffm h)) (ffm h) (h 0 9) = ffm h + h 2 i + 1 := by
    have := hL'.nxt_at (i := i) (by omega) (by rw [xeq]; omega) (h 0 9)
    rw [xeq] at this
    exact this
  rw [hn'] at hr
  intro x hx
  obtain ⟨f1, f2, f3⟩ := hx
  have f2' : x + n ≤ h 0 9 := f2
  have fi := f3 i (by omega) (by rw [xeq]; omega)
  rw [xeq] at fi
  have fi' : ffm h + h 2 i + 1 ≤ x ∨ x + n ≤ ffm h := fi
  have fo : ∀ l, l < 11 → l ≠ i → h 1 l ≠ -1 → h 1 l + h 2 l + 1 ≤ x ∨ x + n ≤ h 1 l := by
    intro l hl hli hp
    have := f3 l hl (by rw [xne hli]; exact hp)
    rw [xne hli] at this
    exact this
  by_cases hdis : h 1 i + h 2 i + 1 ≤ x ∨ x + n ≤ h 1 i
  · refine hN x ⟨f1, f2', fun l hl hp => ?_⟩
    by_cases hli : l = i
    · subst hli; exact hdis
    · exact fo l hl hli hp
  · have hx1 : ffm h + h 2 i + 1 ≤ x := by omega
    have hno : ∀ l, l < 11 → xset h 1 i (ffm h) 1 l ≠ ffm h + h 2 i + 1 := by
      intro l hl e
      by_cases hli : l = i
      · subst hli; rw [xeq] at e; omega
      · rw [xne hli] at e
        have hzl := z4 l hl
        rcases z5 l i hl (by omega) hli (by omega) (by omega) with w | w
        · have hlf : ¬ h 1 l = ffm h := a4 l hl
          have := c3 l hl (by omega)
          omega
        · omega
    obtain ⟨d1, d2, d3, d4⟩ := hL'.nxt_free (k := ffm h + h 2 i + 1) (e := h 0 9) (by omega) (by omega) (by omega) hno
    apply hr
    rcases d4 with d4 | ⟨l, hl, d4⟩
    · omega
    · by_cases hli : l = i
      · subst hli; rw [xeq] at d4; omega
      · rw [xne hli] at d4
        have hzl := z4 l hl
        have hp : h 1 l ≠ -1 := by omega
        rcases fo l hl hli hp with w | w
        · rcases z5 l i hl (by omega) hli hp (by omega) with v | v
          · have := c3 l hl (by omega)
            omega
          · omega
        · omega
theorem NF.slides {n : Int} (h1 : 1 ≤ n) (h2 : n ≤ 200) : ∀ (t : Nat) {h : Ob}, LW h → NF h n → (ffm h = -1 ∨ (200 - ffm h).toNat ≤ t) → (sldI n (t + 1) h).1 = -1 → NF (sldI n (t + 1) h).2 n := by
  intro t
  induction t with
  | zero =>
    intro h hL hN hm he
    have hfm : ffm h = -1 := by
      rcases hm with z | z
      · exact z
      · by_cases hq : ffm h = -1
        · exact hq
        · obtain ⟨a1, a2, -⟩ := hL.ffmc hq
          have := hL.2.2.1
          have := hL.2.1
          omega
    unfold sldI
    rw [if_pos hfm]
    exact hN
  | succ t ih =>
    intro h hL hN hm he
    unfold sldI at he ⊢
    by_cases hf : ffm h = -1
    · rw [if_pos hf]
      exact hN
    · rw [if_neg hf] at he ⊢
      obtain ⟨a1, a2, a3, a4, i, a5, a6, a7, a8, a9, a10⟩ := hL.ffmc hf
      have hti : (hol h (nxt h (ffm h) (h 0 9))).toNat = i := by rw [a6, toNat_nat]
      rw [hti, xw_id (x := n) (by omega) (by omega)] at he ⊢
      have hL' := hL.slide1 hf (by omega) a7
      have hz := hL.2.2.2.1 i (by omega)
      split at he
      · rename_i hc
        have hn' : nxt (xset h 1 i (ffm h)) (ffm h) (h 0 9) = ffm h + h 2 i + 1 := by
          have := hL'.nxt_at (i := i) (by omega) (by rw [xeq]; omega) (h 0 9)
          rw [xeq] at this
          exact this
        have : nxt (xset h 1 i (ffm h)) (ffm h) (h 0 9) = -1 := he
        omega
      · rename_i hc
        rw [if_neg hc]
        refine ih hL' (hN.slide hL h1 hf a5 a7 a8 hc) ?_ he
        rcases ffm_next hL hf a5 a7 a8 with z | z
        · exact Or.inl z
        · right
          rcases hm with z2 | z2
          · exact absurd z2 hf
          · omega
