theorem Frm_pu {b : Int} {h : Ob} {c : Nat} (hc : (c : Int) ≠ b) : Frm b h (xset h 1 c (-1)) := by
  refine ⟨fun i _ z => ⟨?_, xset_part _ _ _ _ (by decide) _⟩, fun i _ e => ⟨fun z => ?_, xset_part _ _ _ _ (by decide) _⟩, fun j i h1 _ _ => xset_part _ _ _ _ h1 _⟩
  · by_cases e : i = c
    · rw [e, xset_same]
    · rw [xset_idx _ _ _ _ e]; exact z
  · rw [xset_idx _ _ _ _ (show i ≠ c from fun y => hc (by rw [← y]; exact e))]
    exact z
theorem Frm_sq {b v : Int} {h : Ob} {c : Nat} (hc : (c : Int) ≠ b) (hf : h 1 c ≠ -1) : Frm b h (xset h 2 c v) := by
  refine ⟨fun i _ z => ⟨?_, ?_⟩, fun i _ e => ⟨fun z => ?_, ?_⟩, fun j i _ h2 _ => xset_part _ _ _ _ h2 _⟩
  · rw [xset_part _ _ _ _ (by decide)]; exact z
  · rw [xset_idx _ _ _ _ (show i ≠ c from fun y => hf (by rw [← y]; exact z))]
  · rw [xset_part _ _ _ _ (by decide)]; exact z
  · rw [xset_idx _ _ _ _ (show i ≠ c from fun y => hc (by rw [← y]; exact e))]
/-- what a fit leaves -/
def FT (T n b : Int) (h m : Ob) (R : Int × Ob × Ob × Ob × Ob × Ob) (m' : Ob) : Prop := HI T R.2.2.2.2.2 ∧ Rel R.2.2.2.2.2 (m' 1) ∧ (R.1 = -1 ∨ Fre R.2.2.2.2.2 R.1 n) ∧ m' 2 = m 2 ∧ m' 3 = m 3 ∧ (∀ q, q ≠ 8 → q ≠ 11 → q ≠ 19 → q ≠ 20 → q ≠ 21 → m' 0 q = m 0 q) ∧ m' 0 19 = R.2.1 0 1 ∧ m' 0 20 = R.2.1 0 3 ∧ m' 0 21 = R.2.1 0 2 ∧ Frm b h R.2.2.2.2.2
theorem v_fitsL {T n b : Int} (hn1 : 1 ≤ n) (hn2 : n ≤ 200) (hb : b = -1 ∨ ∃ i : Nat, i < 8 ∧ b = (i : Int)) : ∀ (d f : Nat) (F A G P h m : Ob), HI T h → Rel h (m 1) → mu h < (d : Int) → d < f → m 0 20 = F 0 3 → m 0 21 = F 0 2 →
    ∃ m', (if oqI (ov_X8_fitsOnce n m) then tlp (lb_X8_fits_16 n b xfu) f (oqR (ov_X8_fitsOnce n m), oqO (ov_X8_fitsOnce n m) 0) else none) = RI (fsI n (spr b) d F A G P h).1 [m'] ∧ FT T n b h m (fsI n (spr b) d F A G P h) m' := by
  have hxb : xw b = b := by
    rcases hb with rfl | ⟨i, hi, rfl⟩
    · exact xwm1
    · exact xw_nat (by omega)
  intro d
  induction d with
  | zero =>
    intro f F A G P h m _ _ hm
    have := (mu_bd h).1
    omega
  | succ d ih =>
    intro f F A G P h m hH hR hmu hf e20 e21
    obtain ⟨m1, o1, o2, o3, o4⟩ := v_fitsOnce hH hR hn1 hn2 F A G P
    have hfrm := o2.frm b
    obtain ⟨f', rfl⟩ : ∃ f', f = f' + 1 := ⟨f - 1, by omega⟩
    simp only [o1, oqI_t, oqR_I, oqO_I, if_true]
    rw [tlp_succ]
    simp only [fsI]
    generalize hB : bmF F A G P h n = B at *
    obtain ⟨p1, p2, p3, p4, p5, p6, p7, p8⟩ := id o2
    have e20' : m1 0 20 = B.2.1 0 3 := by rw [p6 20 (by decide) (by decide) (by decide), e20, o4 3 (by decide)]
    have e21' : m1 0 21 = B.2.1 0 2 := by rw [p6 21 (by decide) (by decide) (by decide), e21, o4 2 (by decide)]
    rcases p3 with e | e
    rotate_left
    · obtain ⟨f1, f2, -⟩ := id e
      have y2 := p1.1.2.1
      have y3 := p1.1.2.2.1
      have hx : xw B.1 = B.1 := xw_id (by omega) (by omega)
      rw [if_neg (show ¬ xw B.1 = -1 by rw [hx]; omega)]
      simp only [lb_X8_fits_16, mg_X8_fits_16]
      rw [if_pos (show xw B.1 ≥ 0 by rw [hx]; omega)]
      exact ⟨m1, rfl, p1, p2, Or.inr e, p4, p5, fun q q8 q11 q19 _ _ => p6 q q8 q11 q19, o3, e20', e21', hfrm⟩
    · have hx : xw B.1 = -1 := by rw [e]; exact xwm1
      rw [if_pos hx]
      simp only [lb_X8_fits_16, mg_X8_fits_16]
      rw [if_neg (show ¬ xw B.1 ≥ 0 by rw [hx]; decide)]
      generalize hh : B.2.2.2.2.2 = h' at *
      have hU : ∀ o : Nat, o < 8 → mov h' (o : Int) = true → inS (h' 0 7) (o : Int) = true := fun o ho hm => (p2.use ho (mov_full p1.1 ho hm)).1
      have hmu' : mu h' = mu h := mu_cong (fun i hi => p7 i (by omega)) (fun i hi => ⟨p8 5 i (by decide) (by omega), p8 2 i (by decide) (by omega)⟩)
      obtain ⟨r1, l1, l2⟩ := r_leastOne p1 p2 (fun o => mov h' (o : Int) && decide (xw (h' 5 o) < xw (h' 2 o))) (fun o ho hg => by
        have hg' : (mov h' (o : Int) && decide (xw (h' 5 o) < xw (h' 2 o))) = true := hg
        rw [Bool.and_eq_true] at hg'
        exact hU o ho hg'.1) 1 b hxb (fun o ho => by rw [if_neg (by decide)]; exact cbl_eq p1 p2 ho) xfu (xfu_ge (by decide))
      have l1' : ov_X8_leastOne (1 : Int) b m1 = RI r1 [m1] := (ov_X8_leastOne_e _ _ _).trans l1
      have hsq : r1 = sqb h' (spr b) := by
        refine LMin_uniq l2 (LMin_cong (fun o ho => ?_) (lwo_min h' (xand (sqS h') (spr b))))
        rw [inS_and _ _ ho, spr_in hb ho, sqS_e]
        unfold sqSI
        rw [set_in (fun (i : Nat) => mov h' (i : Int) && decide (xw (h' 5 i) < xw (h' 2 i))) o ho]
      simp only [l1', oqR_I, pd_rfl, if_true, pd_T]
      by_cases hs : sqb h' (spr b) = -1
      · have hsH : sqH h' (spr b) = h' := by unfold sqH; rw [if_pos hs]
        have hsF : sqF B.2.1 h' (spr b) = B.2.1 := by unfold sqF; rw [if_pos hs]
        rw [if_pos hs, hsH, hsF, hsq, hs, if_pos (show xw (-1) < 0 by decide)]
        obtain ⟨r2, k1, k2⟩ := r_leastOne p1 p2 (fun o => mov h' (o : Int) && inS (h' 0 8) (o : Int)) (fun o ho hg => by
          have hg' : (mov h' (o : Int) && inS (h' 0 8) (o : Int)) = true := hg
          rw [Bool.and_eq_true] at hg'
          exact hU o ho hg'.1) 0 b hxb (fun o ho => by rw [if_pos (by decide)]; exact cgo_eq p1 p2 ho) xfu (xfu_ge (by decide))
        have k1' : ov_X8_leastOne (0 : Int) b m1 = RI r2 [m1] := (ov_X8_leastOne_e _ _ _).trans k1
        have hpu : r2 = pub h' (spr b) := by
          refine LMin_uniq k2 (LMin_cong (fun o ho => ?_) (lwo_min h' (xand (goS h') (spr b))))
          rw [inS_and _ _ ho, spr_in hb ho]
          unfold goS
          rw [inS_and _ _ ho, movS_in h' (by omega)]
        simp only [k1', oqR_I, pd_rfl, pd_T, if_true]
        simp only [md_X8_fits_44, mg_X8_fits_44]
        by_cases hp : pub h' (spr b) = -1
        · have hpH : puH h' (spr b) = h' := by unfold puH; rw [if_pos hp]
          have hpF : puF B.2.1 h' (spr b) = B.2.1 := by unfold puF; rw [if_pos hp]
          rw [if_pos hp, hpH, hpF, hpu, hp, if_neg (show ¬ xw (-1) ≥ 0 by decide)]
          exact ⟨m1, rfl, p1, p2, Or.inl rfl, p4, p5, fun q q8 q11 q19 _ _ => p6 q q8 q11 q19, o3, e20', e21', hfrm⟩
        · rcases lwo_cases h' (xand (goS h') (spr b)) with c0 | ⟨c, c1, c2, c3⟩
          · exact absurd c0 hp
          have c2' : pub h' (spr b) = (c : Int) := c2
          obtain ⟨u1, u2, u3⟩ := pub_in c1 c3
          have hcb : (c : Int) ≠ b := fun z => by
            rw [spr_in hb c1, decide_eq_true z] at u3
            cases u3
          have hfl := mov_full p1.1 c1 u1
          have hl : h' 4 c = 0 := by
            have h4 := ((mov_iff c1).mp u1).2
            have := p1.1.2.2.2.2.2 c c1
            rwa [xw_id (by omega) (by omega)] at h4
          have hpH : puH h' (spr b) = xset h' 1 c (-1) := by unfold puH; rw [if_neg hp, c2', toNat_nat]
          have hpF : puF B.2.1 h' (spr b) = xset B.2.1 0 3 (xor_ (B.2.1 0 3) (xshl 1 (c : Int))) := by unfold puF; rw [if_neg hp, c2']
          rw [if_neg hp, hpH, hpF, hpu, c2', if_pos (show xw (c : Int) ≥ 0 by rw [xw_nat (by omega)]; omega), if_pos (show xw (-1) < 0 by decide)]
          obtain ⟨x1, x2⟩ := ixn (c := 5) 5 rfl (by decide) c1
          have hem : ov_X8_empties (c : Int) m1 = RV [xset m1 1 (5 + c) 2] := by
            rw [ov_X8_empties_e]
            simp only [md_X8_empties_0, mg_X8_empties_0, x1, x2, if_true]
          simp only [hem, oqV_t, oqO_V, if_true, md_X8_fits_73, mg_X8_fits_73]
          rw [if_pos (show xw (-1) < 0 by decide)]
          simp only [md_X8_fits_107, mg_X8_fits_107]
          obtain ⟨q1, q2⟩ := Ch_purge c1 p1 p2 (hU c c1 u1) hl
          have hmp := mu_pu c1 hfl
          obtain ⟨m', j1, j2⟩ := ih f' (xset B.2.1 0 3 (xor_ (B.2.1 0 3) (xshl 1 (c : Int)))) B.2.2.1 B.2.2.2.1 B.2.2.2.2.1 (xset h' 1 c (-1)) (xset (xset m1 1 (5 + c) 2) 0 20 (xor_ ((xset m1 1 (5 + c) 2) 0 20) (xshl 1 (c : Int)))) q1 (Rel_cong q1.1 (fun k _ => by
            show (if 1 = 1 ∧ k = 5 + c then (2 : Int) else m1 1 k) = if k = 5 + c then 2 else m1 1 k
            simp only [true_and]) q2) (by omega) (by omega) (by
            rw [xset_same, xset_same, ← e20']
            rfl) e21'
          obtain ⟨t1, t2, t3, t4, t5, t6, t7, t8, t9, t10⟩ := j2
          refine ⟨m', j1, t1, t2, t3, t4.trans p4, t5.trans p5, fun q q8 q11 q19 q20 q21 => ?_, t7, t8, t9, (hfrm.trans (Frm_pu hcb)).trans t10⟩
          rw [t6 q q8 q11 q19 q20 q21, xset_idx _ _ _ _ q20]
          exact p6 q q8 q11 q19
      · rcases lwo_cases h' (xand (sqS h') (spr b)) with c0 | ⟨c, c1, c2, c3⟩
        · exact absurd c0 hs
        have c2' : sqb h' (spr b) = (c : Int) := c2
        obtain ⟨u1, u2, u3⟩ := sqb_in c1 c3
        have hcb : (c : Int) ≠ b := fun z => by
          rw [spr_in hb c1, decide_eq_true z] at u3
          cases u3
        have hfl := mov_full p1.1 c1 u1
        have hus := hU c c1 u1
        have hbd := (p1.2.1 c c1).1 hus
        have hz := p1.1.2.2.2.1 c (by omega)
        rw [xw_id (x := h' 5 c) (by omega) (by omega), xw_id (x := h' 2 c) (by omega) (by omega)] at u2
        have hsH : sqH h' (spr b) = xset h' 2 c (h' 5 c) := by unfold sqH; rw [if_neg hs, c2', toNat_nat]
        have hsF : sqF B.2.1 h' (spr b) = xset B.2.1 0 2 (xor_ (B.2.1 0 2) (xshl 1 (c : Int))) := by unfold sqF; rw [if_neg hs, c2']
        rw [if_neg hs, hsH, hsF, hsq, c2', if_neg (show ¬ xw (c : Int) < 0 by rw [xw_nat (by omega)]; omega)]
        simp only [md_X8_fits_44, mg_X8_fits_44]
        rw [if_pos (show xw (c : Int) ≥ 0 by rw [xw_nat (by omega)]; omega), if_neg (show ¬ xw (c : Int) < 0 by rw [xw_nat (by omega)]; omega)]
        obtain ⟨x1, x2⟩ := ixn (c := 37) 37 rfl (by decide) c1
        obtain ⟨x3, x4⟩ := ixn (c := 21) 21 rfl (by decide) c1
        have e37 : m1 1 (37 + c) = h' 5 c := ((p2.2.1 c c1).2.2 hus).2.1
        have hem : ov_X8_squeezes (c : Int) m1 = RV [xset m1 1 (21 + c) (h' 5 c)] := by
          rw [ov_X8_squeezes_e]
          simp only [md_X8_squeezes_0, mg_X8_squeezes_0, x1, x2, x3, x4, if_true, e37]
        simp only [hem, oqV_t, oqO_V, if_true, md_X8_fits_73, mg_X8_fits_73]
        rw [if_neg (show ¬ xw (c : Int) < 0 by rw [xw_nat (by omega)]; omega)]
        simp only [md_X8_fits_107, mg_X8_fits_107]
        obtain ⟨q1, q2⟩ := Ch_sq c1 p1 p2 hus
        have hmp := mu_sq c1 hfl u2
        obtain ⟨m', j1, j2⟩ := ih f' (xset B.2.1 0 2 (xor_ (B.2.1 0 2) (xshl 1 (c : Int)))) B.2.2.1 B.2.2.2.1 B.2.2.2.2.1 (xset h' 2 c (h' 5 c)) (xset (xset m1 1 (21 + c) (h' 5 c)) 0 21 (xor_ ((xset m1 1 (21 + c) (h' 5 c)) 0 21) (xshl 1 (c : Int)))) q1 (Rel_cong q1.1 (fun k _ => by
          show (if 1 = 1 ∧ k = 21 + c then h' 5 c else m1 1 k) = if k = 21 + c then h' 5 c else m1 1 k
          simp only [true_and]) q2) (by omega) (by omega) e20' (by
          rw [xset_same, xset_same, ← e21']
          rfl)
        obtain ⟨t1, t2, t3, t4, t5, t6, t7, t8, t9, t10⟩ := j2
        refine ⟨m', j1, t1, t2, t3, t4.trans p4, t5.trans p5, fun q q8 q11 q19 q20 q21 => ?_, t7, t8, t9, (hfrm.trans (Frm_sq hcb hfl)).trans t10⟩
        rw [t6 q q8 q11 q19 q20 q21, xset_idx _ _ _ _ q21]
        exact p6 q q8 q11 q19
theorem v_fits {T n b : Int} {h m : Ob} (hH : HI T h) (hR : Rel h (m 1)) (hn1 : 1 ≤ n) (hn2 : n ≤ 200) (hb : b = -1 ∨ ∃ i : Nat, i < 8 ∧ b = (i : Int)) (F A G P : Ob) :
    ∃ m', ov_X8_fits n b m = RI (fsF F A G P h n b).1 [m'] ∧ FT T n b h m (fsF F A G P h n b) m' := by
  have hmu := (mu_bd h).2
  have hf := xfu_ge (n := 5000) (by decide)
  obtain ⟨m', j1, j2⟩ := v_fitsL hn1 hn2 hb 17 xfu (xset (xset F 0 2 0) 0 3 0) A G P h (xset (xset m 0 20 0) 0 21 0) hH hR (by omega) (by omega) rfl rfl
  rw [ov_X8_fits_e, fsF_e]
  obtain ⟨t1, t2, t3, t4, t5, t6, t7, t8, t9, t10⟩ := j2
  refine ⟨m', j1, t1, t2, t3, t4, t5, fun q q8 q11 q19 q20 q21 => ?_, t7, t8, t9, t10⟩
  rw [t6 q q8 q11 q19 q20 q21, xset_idx _ _ _ _ q21, xset_idx _ _ _ _ q20]
