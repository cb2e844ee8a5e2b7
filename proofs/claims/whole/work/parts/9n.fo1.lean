theorem sld_keep (n : Int) (t : Nat) {h : Ob} (hL : LW h) : ∀ i, h 1 i ≠ -1 → (sldI n t h).2 1 i ≠ -1 := by
  induction t generalizing h with
  | zero => exact fun _ h => h
  | succ t ih =>
    unfold sldI
    split
    · exact fun _ h => h
    · rename_i hf
      obtain ⟨a1, a2, a3, a4, i, b1, b2, b3, b4, b5, b6⟩ := hL.ffmc hf
      have hl2 := hL.slide1 hf (show i < 11 by omega) b3
      rw [b2, toNat_nat]
      have p2 : ∀ k, h 1 k ≠ -1 → xset h 1 i (ffm h) 1 k ≠ -1 := fun k hk => by
        by_cases e : k = i
        · rw [e, xset_same]; omega
        · rw [xset_idx _ _ _ _ e]; exact hk
      split
      · exact p2
      · exact fun k hk => ih hl2 k (p2 k hk)
/-- what a fit by moving leaves -/
def FO (T n : Int) (h m : Ob) (r : Int) (h' m' : Ob) : Prop := HI T h' ∧ Rel h' (m' 1) ∧ (r = -1 ∨ Fre h' r n) ∧ m' 2 = m 2 ∧ m' 3 = m 3 ∧ (∀ q, q ≠ 8 → q ≠ 11 → q ≠ 19 → m' 0 q = m 0 q) ∧ (∀ i, i < 11 → (h' 1 i = -1 ↔ h 1 i = -1)) ∧ ∀ j i, j ≠ 1 → (j = 0 → i ≠ 9) → h' j i = h j i
theorem v_fitsOnce {T : Int} {h m : Ob} (hH : HI T h) (hR : Rel h (m 1)) {n : Int} (hn1 : 1 ≤ n) (hn2 : n ≤ 200) (F A G P : Ob) :
    ∃ m', ov_X8_fitsOnce n m = RI (bmF F A G P h n).1 [m'] ∧ FO T n h m (bmF F A G P h n).1 (bmF F A G P h n).2.2.2.2.2 m' ∧ m' 0 19 = (bmF F A G P h n).2.1 0 1 ∧ ∀ k, k ≠ 1 → (bmF F A G P h n).2.1 0 k = F 0 k := by
  have hL := hH.1
  obtain ⟨z1, z2, z3, -⟩ := id hL
  have hxn : xw n = n := xw_id (by omega) (by omega)
  obtain ⟨m1, o1, o2, o3⟩ := fo_e hL hR
  have hR1 : Rel h (m1 1) := own_frame hR o2
  have hff : ov_X8_firstFree n (xset m1 0 19 1) = RI (ffr h n) [xset m1 0 19 1] := (ov_X8_firstFree_e _ _).trans (r_firstFree xfu (xfu_ge (by decide)) hL (m := xset m1 0 19 1) hR1 o3 n)
  have hxs : ∀ (s : Ob) (v : Int), xset s 0 19 v 0 19 = v := fun s v => xset_same _ _ _ _
  have hx0 : ∀ (s : Ob) (v : Int) (q : Nat), q ≠ 19 → xset s 0 19 v 0 q = s 0 q := fun s v q hq => xset_idx _ _ _ _ hq _
  have hF1 : ∀ (v : Int) (k : Nat), k ≠ 1 → xset F 0 1 v 0 k = F 0 k := fun v k hk => xset_idx _ _ _ _ hk _
  rw [ov_X8_fitsOnce_e]
  simp only [md_X8_fitsOnce_0, mg_X8_fitsOnce_0, o1, oqV_t, oqO_V, if_true, hff, oqR_I, pd_rfl, pd_T]
  rcases ffr_free hL (n := n) hn1 hn2 with e | e
  rotate_left
  · obtain ⟨f1, f2, -⟩ := id e
    have hx : xw (ffr h n) = ffr h n := xw_id (by omega) (by omega)
    have b1 : bm1 h n = (ffr h n, 1, h) := by unfold bm1; rw [if_neg (by rw [hx]; omega)]
    have b2 : bm2 h n = (ffr h n, 1, h) := by unfold bm2; simp only [b1]; rw [if_neg (by rw [hx]; omega)]
    have hb : bmF F A G P h n = (ffr h n, xset F 0 1 1, A, G, P, h) := by rw [bmF_e]; unfold bmI; simp only [b2]; rw [if_neg (by rw [hx]; omega)]
    rw [hb, hx, if_neg (show ¬ ffr h n < 0 by omega)]
    refine ⟨_, rfl, ⟨hH, hR1, Or.inr e, o2 2 (by decide), o2 3 (by decide), fun q h8 h11 h19 => ?_, fun _ _ => Iff.rfl, fun _ _ _ _ => rfl⟩, ?_, hF1 1⟩
    · rw [hx0 _ _ _ h19, o2 0 (by decide)]
    · show xset m1 0 19 1 0 19 = xset F 0 1 1 0 1
      rw [hxs, xset_same]
  · have hN := ffr_none hL hn1 hn2 e
    rw [e, if_pos (show xw (-1) < 0 by decide)]
    obtain ⟨m2, s1, s2, s3, s4, s5⟩ := v_slides hH (m := xset (xset m1 0 19 1) 0 19 2) hR1 o3 n hxn
    simp only [s1, oqI_t, oqR_I, oqO_I, if_true]
    have hse := sld_e h n
    have hsf := sld_full n 1000 hL
    have hsk := sld_keep n 1000 hL
    have hfr := sld_free hn1 hn2 1000 hL
    rw [← hse] at hsf hsk hfr
    have hL2 := s2.1
    have m22 : m2 2 = m 2 := by rw [s5 2 (by decide) (by decide)]; exact o2 2 (by decide)
    have m23 : m2 3 = m 3 := by rw [s5 3 (by decide) (by decide)]; exact o2 3 (by decide)
    have m20 : ∀ q, q ≠ 19 → m2 0 q = m 0 q := fun q h19 => by rw [s5 0 (by decide) (by decide), hx0 _ _ _ h19, hx0 _ _ _ h19, o2 0 (by decide)]
    have b1 : bm1 h n = ((sld h n).1, 2, (sld h n).2) := by unfold bm1; rw [if_pos (by rw [e]; exact xwm1)]
    have hS1 : ∀ i, (sld h n).2 1 i = -1 ↔ h 1 i = -1 := fun i => ⟨fun z => Classical.byContradiction (fun y => hsk i y z), hsf.2 i⟩
    rcases hfr with e2 | e2
    rotate_left
    · obtain ⟨f1, f2, -⟩ := id e2
      have h9 : (sld h n).2 0 9 = h 0 9 := hsf.1 0 9 (by decide)
      have hx : xw (sld h n).1 = (sld h n).1 := xw_id (by omega) (by omega)
      have b2 : bm2 h n = ((sld h n).1, 2, (sld h n).2) := by unfold bm2; simp only [b1]; rw [if_neg (by rw [hx]; omega)]
      have hb : bmF F A G P h n = ((sld h n).1, xset F 0 1 2, A, G, P, (sld h n).2) := by rw [bmF_e]; unfold bmI; simp only [b2]; rw [if_neg (by rw [hx]; omega)]
      rw [hb, hx, if_neg (show ¬ (sld h n).1 < 0 by omega)]
      refine ⟨m2, rfl, ⟨s2, s3, Or.inr e2, m22, m23, fun q _ _ h19 => m20 q h19, fun i _ => hS1 i, fun j i hj _ => hsf.1 j i hj⟩, ?_, hF1 2⟩
      show m2 0 19 = xset F 0 1 2 0 1
      rw [s5 0 (by decide) (by decide), hxs, xset_same]
    · have hx : xw (sld h n).1 = -1 := by rw [e2]; exact xwm1
      have hN2 : NF (sld h n).2 n := by
        have := NF.slides hn1 hn2 999 hL hN (by
          by_cases hf : ffm h = -1
          · exact Or.inl hf
          · have := (hL.ffmc hf).1
            exact Or.inr (by omega)) (by rw [← hse]; exact e2)
        rw [hse]
        exact this
      have hno := hN2.end_ hL2 hn1
      obtain ⟨m3, g1, g2, g3, g4, g5⟩ := v_grows s2 (m := xset m2 0 19 3) s3 s4 hn1 hn2 hno
      rw [if_pos (show xw (sld h n).1 < 0 by omega)]
      simp only [g1, oqI_t, oqR_I, oqO_I, if_true]
      have grp : ∀ j i, j ≠ 0 → grO (sld h n).2 n j i = (sld h n).2 j i := fun j i hj => by unfold grO; rw [xset_part _ _ _ _ hj]
      have gr0 : ∀ i, i ≠ 9 → grO (sld h n).2 n 0 i = (sld h n).2 0 i := fun i hi => by unfold grO; rw [xset_idx _ _ _ _ hi]
      have hG1 : ∀ i, grO (sld h n).2 n 1 i = -1 ↔ h 1 i = -1 := fun i => by rw [grp 1 i (by decide)]; exact hS1 i
      have hG2 : ∀ j i, j ≠ 1 → (j = 0 → i ≠ 9) → grO (sld h n).2 n j i = h j i := fun j i hj h9 => by
        by_cases j0 : j = 0
        · subst j0; rw [gr0 i (h9 rfl)]; exact hsf.1 0 i (by decide)
        · rw [grp j i j0]; exact hsf.1 j i hj
      have m32 : m3 2 = m 2 := by rw [g5 2 (by decide) (by decide)]; exact m22
      have m33 : m3 3 = m 3 := by rw [g5 3 (by decide) (by decide)]; exact m23
      have m30 : ∀ q, q ≠ 19 → m3 0 q = m 0 q := fun q h19 => by rw [g5 0 (by decide) (by decide), hx0 _ _ _ h19, m20 q h19]
      have b2 : bm2 h n = (grR (sld h n).2 n, 3, grO (sld h n).2 n) := by unfold bm2; simp only [b1]; rw [if_pos hx]
      rcases grR_free hL2 hn1 hn2 with e3 | e3
      rotate_left
      · obtain ⟨f1, f2, -⟩ := id e3
        have y2 := g2.1.2.1
        have y3 := g2.1.2.2.1
        have hx3 : xw (grR (sld h n).2 n) = grR (sld h n).2 n := xw_id (by omega) (by omega)
        have hb : bmF F A G P h n = (grR (sld h n).2 n, xset F 0 1 3, A, G, P, grO (sld h n).2 n) := by rw [bmF_e]; unfold bmI; simp only [b2]; rw [if_neg (by rw [hx3]; omega)]
        rw [hb, hx3, if_neg (show ¬ grR (sld h n).2 n < 0 by omega)]
        refine ⟨m3, rfl, ⟨g2, g3, Or.inr e3, m32, m33, fun q _ _ h19 => m30 q h19, fun i _ => hG1 i, hG2⟩, ?_, hF1 3⟩
        show m3 0 19 = xset F 0 1 3 0 1
        rw [g5 0 (by decide) (by decide), hxs, xset_same]
      · have hx3 : xw (grR (sld h n).2 n) = -1 := by rw [e3]; exact xwm1
        obtain ⟨m4, a1, a2, a3, a4, a5, a6, a7, a8, a9⟩ := r_arranges g2 (m := xset m3 0 19 4) g3 g4 hn1 hn2 A G P
        rw [if_pos (show xw (grR (sld h n).2 n) < 0 by omega)]
        simp only [a1, oqI_t, oqR_I, oqO_I, if_true]
        have hb : bmF F A G P h n = ((asF A G P (grO (sld h n).2 n) n).1, xset F 0 1 4, (asF A G P (grO (sld h n).2 n) n).2.1, skG G (grO (sld h n).2 n), skP G P (grO (sld h n).2 n) n, (asF A G P (grO (sld h n).2 n) n).2.2) := by rw [bmF_e]; unfold bmI; simp only [b2]; rw [if_pos hx3]
        rw [hb]
        refine ⟨m4, rfl, ⟨a2, a3, a4, ?_, ?_, fun q h8 h11 h19 => ?_, fun i hi => (a8 i hi).trans (hG1 i), fun j i hj h9 => ?_⟩, ?_, hF1 4⟩
        · rw [a5]; exact m32
        · rw [a6]; exact m33
        · rw [a7 q h8 h11, hx0 _ _ _ h19, m30 q h19]
        · show (asF A G P (grO (sld h n).2 n) n).2.2 j i = h j i
          rw [a9 j i hj]; exact hG2 j i hj h9
        · show m4 0 19 = xset F 0 1 4 0 1
          rw [a7 19 (by decide) (by decide), hxs, xset_same]
