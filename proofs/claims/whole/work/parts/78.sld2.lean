/-- a block lies elsewhere -/
theorem Ch_place {T : Int} {h : Ob} {q : Nat → Int} {i : Nat} (hi : i < 8) (hH : HI T h) (hR : Rel h q) {v : Int} (hf : h 1 i ≠ -1) (hv : v ≠ -1) (hL : LW (xset h 1 i v)) : HI T (xset h 1 i v) ∧ Rel (xset h 1 i v) (fun k => if k = 13 + i then v else q k) := by
  have hr := hR.2.1 i hi
  have hb := hH.2.1 i hi
  refine Ch hi hH hR (fun k _ _ => rfl) (fun j _ hji => ⟨xne hji, rfl⟩) (fun j hj hji => ⟨rfl, rfl, rfl, rfl, rfl, rfl⟩) rfl (fun k _ hk => ?_) hL ?_ (fun _ => ⟨hf, Int.le_refl _⟩) ⟨hb.1, fun z => absurd (xeq.symm.trans z) hv⟩ hH.2.2.2.2.2.1 hH.2.2.2.2.2.2
  · (try dsimp only); rw [if_neg hk.2.1]
  · obtain ⟨u1, u2, u3, u4⟩ := hR.use hi hf
    unfold RelH at hr ⊢
    (try dsimp only)
    rw [if_neg (show ¬ 5 + i = 13 + i by omega), if_pos rfl, if_neg (show ¬ 29 + i = 13 + i by omega), if_neg (show ¬ 21 + i = 13 + i by omega), if_neg (show ¬ 37 + i = 13 + i by omega), if_neg (show ¬ 45 + i = 13 + i by omega), if_neg (show ¬ 53 + i = 13 + i by omega), if_neg (show ¬ 61 + i = 13 + i by omega)]
    exact ⟨Or.inr (Or.inl ⟨u1, by rw [xeq]; exact hv, u2, xeq.symm⟩), hr.2⟩
theorem r_walkE {A : Type} {B : (A → Option Rt) → A → Option Rt} {h : Ob} (hL : LW h) (enc : Int → A) (p : Int → Bool) (r : Int → Option Rt) (R : Option Rt) (h1 : ∀ kk k, 0 ≤ k → k < h 0 9 → Nb h k → B kk (enc k) = if p k then r k else kk (enc (nxt h k (h 0 9)))) (h2 : ∀ kk, B kk (enc (h 0 9)) = R) (f : Nat) (hf : 1000 ≤ f) : tlp B f (enc 0) = match (wls h (h 0 9)).find? p with | some k => r k | none => R := by
  obtain ⟨z1, z2, z3, -⟩ := id hL
  have key : ∀ (t f : Nat) (k : Int), 0 ≤ k → k ≤ h 0 9 → (h 0 9 - k).toNat ≤ t → t < f → Nb h k → tlp B f (enc k) = match (wlk h (h 0 9) t k).find? p with | some k => r k | none => R := by
    intro t
    induction t with
    | zero =>
      intro f k a b c d _
      have e : k = h 0 9 := by omega
      subst e
      cases f with
      | zero => omega
      | succ f => exact h2 _
    | succ t ih =>
      intro f k a b c d hN
      cases f with
      | zero => omega
      | succ f =>
        by_cases hk : k < h 0 9
        · have hq := hL.nxc (k := k) a hk (Int.le_refl _) (by omega)
          show B (tlp B f) (enc k) = _
          rw [h1 _ k a hk hN]
          unfold wlk
          rw [if_pos hk, List.find?_cons]
          cases hp : p k with
          | true => simp
          | false =>
            simp only [Bool.false_eq_true, if_false]
            rw [hq.2.2]
            exact ih f _ (by omega) (by omega) (by omega) (by omega) (hL.nb_nxt a hk (by omega) hN)
        · have e : k = h 0 9 := by omega
          subst e
          unfold wlk
          rw [if_neg hk]
          exact h2 _
  rw [wls_e]
  unfold wlsI
  rw [wfu_e]
  exact key 256 f 0 (by omega) (by omega) (by omega) (by omega) hL.nb0
theorem mov_neg (h : Ob) : mov h (-1) = false := by
  unfold mov ful
  have : hdl (-1) = false := by decide
  rw [this]
  rfl
theorem hol_end {h : Ob} (hL : LW h) : hol h (h 0 9) = -1 := by
  have h8 := hL.1
  have h9 := hL.2.1
  have h10 := hL.2.2.1
  rcases hL.holc (k := h 0 9) (by omega) (by omega) with ⟨i, i1, i2, i3⟩ | ⟨i1, i3⟩
  · have := hL.2.2.2.1 i i1
    omega
  · exact i3
theorem r_slidesOne {T : Int} {h m : Ob} (hH : HI T h) (hR : Rel h (m 1)) (hO : Own h (m 4)) :
    (ffm h = -1 ∧ ov_X8_slidesOne m = RI (-1) [m]) ∨ (ffm h ≠ -1 ∧ ∃ i : Nat, i < 8 ∧ hol h (nxt h (ffm h) (h 0 9)) = (i : Int) ∧ h 1 i = nxt h (ffm h) (h 0 9) ∧ ffm h < h 1 i ∧ ∃ m', ov_X8_slidesOne m = RI (nxt (xset h 1 i (ffm h)) (ffm h) (h 0 9)) [m'] ∧ (∀ j, j ≠ 1 → j ≠ 4 → m' j = m j) ∧ HI T (xset h 1 i (ffm h)) ∧ Rel (xset h 1 i (ffm h)) (m' 1) ∧ Own (xset h 1 i (ffm h)) (m' 4)) := by
  have hL := hH.1
  obtain ⟨z1, z2, z3, -⟩ := id hL
  have hsz : xw (m 1 0) = h 0 9 := by rw [hR.szq]; exact hL.xsz
  rw [ov_X8_slidesOne_e]
  have hw := r_walkE (B := lb_X8_slidesOne_2 xfu) hL (fun k => (k, m)) (fun k => decide (hol h k = -1) && mov h (hol h (nxt h k (h 0 9)))) (fun k => if xin (13 + ((m 4 (xw (nxt h k (h 0 9))).toNat) - 1)) 735 then (if oqV (ov_X8_fillsOwners (xset m 1 (xw (13 + ((m 4 (xw (nxt h k (h 0 9))).toNat) - 1))).toNat k)) then (if hdl ((m 4 (xw (nxt h k (h 0 9))).toNat) - 1) then RI (k + (lenM (oqO (ov_X8_fillsOwners (xset m 1 (xw (13 + ((m 4 (xw (nxt h k (h 0 9))).toNat) - 1))).toNat k)) 0) ((m 4 (xw (nxt h k (h 0 9))).toNat) - 1))) [oqO (ov_X8_fillsOwners (xset m 1 (xw (13 + ((m 4 (xw (nxt h k (h 0 9))).toNat) - 1))).toNat k)) 0] else none) else none) else none) (RI (-1) [m]) (fun kk k a b hN => by
      have hb : ov_X8_behind k m = RI (nxt h k (h 0 9)) [m] := (ov_X8_behind_e _ _).trans (r_behind xfu (xfu_ge (by decide)) hL hR hO a b hN)
      have hk : xw k = k := xw_id (by omega) (by omega)
      have hq := hL.nxc (k := k) a b (Int.le_refl _) (by omega)
      have hnn : xw (nxt h k (h 0 9)) = nxt h k (h 0 9) := xw_id (by omega) (by omega)
      have ew := hO.xwq (k := k.toNat) (by omega)
      have eh := hO.holq hL (k := k.toNat) (by omega) (by rw [show ((k.toNat : Nat) : Int) = k by omega]; exact hN)
      rw [show ((k.toNat : Nat) : Int) = k by omega] at eh
      simp only [lb_X8_slidesOne_2, mg_X8_slidesOne_2, md_X8_slidesOne_79, mg_X8_slidesOne_79, hsz, hk, xin_of (i := k) (n := 200) (by omega) (by omega), if_true, hb, oqR_I, pd_rfl, pd_T, ew, hnn]
      rw [if_neg (show ¬ k ≥ h 0 9 by omega)]
      by_cases hc : hol h k = -1
      · rw [if_pos (eh.mpr hc)]
        by_cases hend : nxt h k (h 0 9) ≥ h 0 9
        · rw [if_pos hend]
          have : nxt h k (h 0 9) = h 0 9 := by omega
          rw [this, hol_end hL, mov_neg]
          simp
        · rw [if_neg hend]
          have hno : ∀ i, i < 11 → h 1 i ≠ k := by
            rcases hL.holc (k := k) a (by omega) with ⟨i, i1, i2, i3⟩ | ⟨i1, i3⟩
            · rw [i3] at hc; omega
            · exact i1
          obtain ⟨c1, c2, c3, c4⟩ := hL.nxt_free a b (by omega) hno
          rcases c4 with c4 | ⟨j, hj, c4⟩
          · omega
          · have hz := hL.2.2.2.1 j hj
            have hla := (r_isLooseAt hL hR hO (k := nxt h k (h 0 9)) (by omega) (by omega)).1 j hj ⟨by omega, by omega, by omega⟩
            have hla' : ov_X8_isLooseAt (nxt h k (h 0 9)) m = RI (bz (mov h (j : Int))) [m] := (ov_X8_isLooseAt_e _ _).trans hla
            have hhj : hol h (nxt h k (h 0 9)) = (j : Int) := by rw [c4]; exact hL.hol_at hj (by omega)
            simp only [hla', oqR_I, pd_rfl, pd_T, if_true, bz_0, hhj, hc, decide_true, Bool.true_and, xin_of (i := nxt h k (h 0 9)) (n := 200) (by rw [hnn]; omega) (by rw [hnn]; omega)]
            cases mov h (j : Int)
            · simp
            · simp
      · rw [if_neg (fun z => hc (eh.mp z))]
        simp [hc]) (fun kk => by
      simp only [lb_X8_slidesOne_2, mg_X8_slidesOne_2, hsz, hL.xsz]
      rw [if_pos (by omega)]) xfu (xfu_ge (by decide))
  have hmd : md_X8_slidesOne_0 xfu m = tlp (lb_X8_slidesOne_2 xfu) xfu ((0 : Int), m) := rfl
  rw [hmd, hw]
  by_cases hf : ffm h = -1
  · left
    refine ⟨hf, ?_⟩
    have : (wls h (h 0 9)).find? (fun k => decide (hol h k = -1) && mov h (hol h (nxt h k (h 0 9)))) = none := by
      cases hq : (wls h (h 0 9)).find? (fun k => decide (hol h k = -1) && mov h (hol h (nxt h k (h 0 9)))) with
      | none => rfl
      | some k =>
        have hm := ((hL.wlsc (Int.le_refl _) (by omega)).1 k (List.mem_of_find?_eq_some hq)).1
        rw [ffm_e] at hf
        unfold ffmI at hf
        rw [hq] at hf
        have : k = -1 := hf
        omega
    rw [this]
  · right
    refine ⟨hf, ?_⟩
    rw [ffm_find hf]
    obtain ⟨a1, a2, a3, a4, i, a5, a6, a7, a8, a9, a10⟩ := hL.ffmc hf
    have hfi : h 1 i ≠ -1 := by omega
    have hL' := hL.slide1 hf (by omega) a7
    obtain ⟨c1, c2⟩ := Ch_place a5 hH hR hfi (by omega) hL'
    have hz := hL.2.2.2.1 i (by omega)
    have hq := hL.nxc (k := ffm h) a1 a2 (Int.le_refl _) (by omega)
    have hnn : xw (nxt h (ffm h) (h 0 9)) = nxt h (ffm h) (h 0 9) := xw_id (by omega) (by omega)
    have ho : m 4 (nxt h (ffm h) (h 0 9)).toNat = 1 + (i : Int) := by
      have := (hO (nxt h (ffm h) (h 0 9)).toNat (by omega)).1 i (by omega) ⟨hfi, by omega, by omega⟩
      rw [this]
      unfold oc
      rw [if_pos a5]
    have e1 : 1 + (i : Int) - 1 = (i : Int) := by omega
    obtain ⟨x1, x2⟩ := ixn (c := 13) 13 rfl (by decide) a5
    obtain ⟨m', o1, o2, o3⟩ := fo_e (h := xset h 1 i (ffm h)) (m := xset m 1 (13 + i) (ffm h)) c1.1 (by rw [xs1]; exact c2)
    refine ⟨i, a5, a6, a7, a8, m', ?_, fun j j1 j4 => ?_, c1, own_frame (m := xset m 1 (13 + i) (ffm h)) (by rw [xs1]; exact c2) o2, o3⟩
    · obtain ⟨u1, -⟩ := hR.use a5 hfi
      have hu' : inS (xset h 1 i (ffm h) 0 7) (i : Int) = true := u1
      have hl := (own_frame (m := xset m 1 (13 + i) (ffm h)) (by rw [xs1]; exact c2) o2 : Rel (xset h 1 i (ffm h)) (m' 1)).lenq a5 hu'
      have hn' : nxt (xset h 1 i (ffm h)) (ffm h) (h 0 9) = ffm h + h 2 i + 1 := by
        have := hL'.nxt_at (i := i) (by omega) (by rw [xeq]; omega) (h 0 9)
        rw [xeq] at this
        exact this
      simp only [hnn, ho, e1, x1, x2, o1, oqV_t, oqO_V, hdl_nat a5, if_true, hl]
      rw [hn']
      show RI (ffm h + (h 2 i + 1)) [m'] = _
      rw [show ffm h + (h 2 i + 1) = ffm h + h 2 i + 1 by omega]
    · rw [o2 j j4]
      funext k
      show (if j = 1 ∧ k = 13 + i then _ else m j k) = m j k
      rw [if_neg (fun z => j1 z.1)]
theorem r_slides {T : Int} (n : Int) (hn : xw n = n) : ∀ (t f : Nat) {h m : Ob}, HI T h → Rel h (m 1) → Own h (m 4) → (ffm h = -1 ∨ (200 - ffm h).toNat ≤ t) → t + 1 < f → ∃ m', (if oqI (ov_X8_slidesOne m) then tlp (lb_X8_slides_5 n xfu) f (oqR (ov_X8_slidesOne m), oqO (ov_X8_slidesOne m) 0) else none) = RI (sldI n (t + 1) h).1 [m'] ∧ HI T (sldI n (t + 1) h).2 ∧ Rel (sldI n (t + 1) h).2 (m' 1) ∧ Own (sldI n (t + 1) h).2 (m' 4) ∧ ∀ j, j ≠ 1 → j ≠ 4 → m' j = m j := by
  intro t
  induction t with
  | zero =>
    intro f h m hH hR hO hm hf
    have hL := hH.1
    obtain ⟨z1, z2, z3, -⟩ := id hL
    have hfm : ffm h = -1 := by
      rcases hm with z | z
      · exact z
      · by_cases hq : ffm h = -1
        · exact hq
        · obtain ⟨a1, a2, -⟩ := hL.ffmc hq
          omega
    rcases r_slidesOne hH hR hO with ⟨b1, b2⟩ | ⟨b1, b2⟩
    · refine ⟨m, ?_, ?_⟩
      · rw [b2, oqI_t, if_pos rfl, oqR_I, oqO_I]
        obtain ⟨f', rfl⟩ : ∃ f', f = f' + 1 := ⟨f - 1, by omega⟩
        rw [tlp_succ]
        simp only [lb_X8_slides_5, mg_X8_slides_5, sldI]
        rw [if_pos (by decide), if_pos hfm]
      · unfold sldI
        rw [if_pos hfm]
        exact ⟨hH, hR, hO, fun j _ _ => rfl⟩
    · exact absurd hfm b1
  | succ t ih =>
    intro f h m hH hR hO hm hf
    have hL := hH.1
    obtain ⟨z1, z2, z3, -⟩ := id hL
    rcases r_slidesOne hH hR hO with ⟨b1, b2⟩ | ⟨b1, i, b2, b3, b4, b5, m1, b6, b7, b8, b9, b10⟩
    · refine ⟨m, ?_, ?_⟩
      · rw [b2, oqI_t, if_pos rfl, oqR_I, oqO_I]
        obtain ⟨f', rfl⟩ : ∃ f', f = f' + 1 := ⟨f - 1, by omega⟩
        rw [tlp_succ]
        simp only [lb_X8_slides_5, mg_X8_slides_5]
        rw [if_pos (by decide)]
        unfold sldI
        rw [if_pos b1]
      · unfold sldI
        rw [if_pos b1]
        exact ⟨hH, hR, hO, fun j _ _ => rfl⟩
    · obtain ⟨a1, a2, -⟩ := hL.ffmc b1
      have hL' := b8.1
      have hz := hL.2.2.2.1 i (by omega)
      have hn' : nxt (xset h 1 i (ffm h)) (ffm h) (h 0 9) = ffm h + h 2 i + 1 := by
        have := hL'.nxt_at (i := i) (by omega) (by rw [xeq]; omega) (h 0 9)
        rw [xeq] at this
        exact this
      have hNb : Nb (xset h 1 i (ffm h)) (ffm h) := by
        intro l hl hp hlk
        by_cases hli : l = i
        · subst hli; rw [xeq] at hlk; omega
        · rw [xne hli] at hp hlk ⊢
          exact (hL.ffmc b1).2.2.1 l hl hp hlk
      have hNb2 := hL'.nb_nxt (k := ffm h) (e := h 0 9) a1 a2 (by omega) hNb
      have e9 : xset h 1 i (ffm h) 0 9 = h 0 9 := rfl
      have hbh : ov_X8_behind (nxt (xset h 1 i (ffm h)) (ffm h) (h 0 9)) m1 = RI (nxt (xset h 1 i (ffm h)) (nxt (xset h 1 i (ffm h)) (ffm h) (h 0 9)) (h 0 9)) [m1] := (ov_X8_behind_e _ _).trans (r_behind xfu (xfu_ge (by decide)) hL' b9 b10 (by rw [hn']; omega) (by rw [e9, hn']; omega) hNb2)
      have hq := hL'.nxc (k := nxt (xset h 1 i (ffm h)) (ffm h) (h 0 9)) (e := h 0 9) (by rw [hn']; omega) (by rw [hn']; omega) (Int.le_refl _) (by omega)
      obtain ⟨f', rfl⟩ : ∃ f', f = f' + 1 := ⟨f - 1, by omega⟩
      have hti : (hol h (nxt h (ffm h) (h 0 9))).toNat = i := by rw [b3, toNat_nat]
      rw [b6, oqI_t, if_pos rfl, oqR_I, oqO_I, tlp_succ]
      simp only [lb_X8_slides_5, mg_X8_slides_5, hbh, oqR_I, pd_rfl, pd_T, if_true]
      rw [if_neg (by rw [hn', xw_id (by omega) (by omega)]; omega)]
      have hx1 : xw (nxt (xset h 1 i (ffm h)) (nxt (xset h 1 i (ffm h)) (ffm h) (h 0 9)) (h 0 9) - nxt (xset h 1 i (ffm h)) (ffm h) (h 0 9)) = nxt (xset h 1 i (ffm h)) (nxt (xset h 1 i (ffm h)) (ffm h) (h 0 9)) (h 0 9) - nxt (xset h 1 i (ffm h)) (ffm h) (h 0 9) := xw_id (by omega) (by omega)
      rw [hx1, hn]
      unfold sldI
      rw [if_neg b1, hti, hn]
      by_cases hc : n ≤ nxt (xset h 1 i (ffm h)) (nxt (xset h 1 i (ffm h)) (ffm h) (h 0 9)) (h 0 9) - nxt (xset h 1 i (ffm h)) (ffm h) (h 0 9)
      · rw [if_pos hc, if_pos hc]
        exact ⟨m1, rfl, b8, b9, b10, b7⟩
      · rw [if_neg hc, if_neg hc]
        obtain ⟨m2, c1, c2, c3, c4, c5⟩ := ih f' b8 b9 b10 (by
          rcases ffm_next hL b1 b2 b4 b5 with z | z
          · exact Or.inl z
          · by_cases hq2 : ffm (xset h 1 i (ffm h)) = -1
            · exact Or.inl hq2
            · right
              rcases hm with z2 | z2
              · exact absurd z2 b1
              · omega) (by omega)
        exact ⟨m2, c1, c2, c3, c4, fun j j1 j4 => (c5 j j1 j4).trans (b7 j j1 j4)⟩
theorem v_slides {T : Int} {h m : Ob} (hH : HI T h) (hR : Rel h (m 1)) (hO : Own h (m 4)) (n : Int) (hn : xw n = n) : ∃ m', ov_X8_slides n m = RI (sld h n).1 [m'] ∧ HI T (sld h n).2 ∧ Rel (sld h n).2 (m' 1) ∧ Own (sld h n).2 (m' 4) ∧ ∀ j, j ≠ 1 → j ≠ 4 → m' j = m j := by
  obtain ⟨z1, z2, z3, -⟩ := id hH.1
  obtain ⟨m', a, b, c, d, e⟩ := r_slides n hn 999 xfu hH hR hO (by
    by_cases hq : ffm h = -1
    · exact Or.inl hq
    · obtain ⟨a1, a2, -⟩ := hH.1.ffmc hq
      right
      omega) (Nat.lt_of_lt_of_le (by decide) (xfu_ge (n := 2000) (by decide)))
  rw [sld_e]
  refine ⟨m', ?_, b, c, d, e⟩
  rw [ov_X8_slides_e]
  exact a
