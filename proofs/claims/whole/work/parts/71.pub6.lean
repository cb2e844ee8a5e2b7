theorem own_frame {h m m' : Ob} (hR : Rel h (m 1)) (e : ∀ j, j ≠ 4 → m' j = m j) : Rel h (m' 1) := by rw [e 1 (by decide)]; exact hR
theorem InvP_frame {T : Int} {P m m' : Ob} {K : List Ob} (hI : InvP T P K m) (e3 : m' 3 = m 3) (e03 : m' 0 3 = m 0 3) (e04 : m' 0 4 = m 0 4) : InvP T P K m' := by
  obtain ⟨h1, h2, h3, h4, h5⟩ := hI
  refine ⟨h1, h2, by rw [e03]; exact h3, by rw [e04]; exact h4, fun i hi => ?_⟩
  rw [e3]
  exact h5 i hi
theorem INV_frame {T : Int} {n P m m' : Ob} {K : List Ob} (hI : INV T n P K m) (e : ∀ j, j ≠ 4 → m' j = m j) : INV T n P K m' :=
  ⟨hI.1, own_frame hI.2.1 e, InvP_frame hI.2.2 (e 3 (by decide)) (by rw [e 0 (by decide)]) (by rw [e 0 (by decide)])⟩
theorem fo_e {h m : Ob} (hL : LW h) (hR : Rel h (m 1)) : ∃ m', ov_X8_fillsOwners m = RV [m'] ∧ (∀ j, j ≠ 4 → m' j = m j) ∧ Own h (m' 4) := by
  obtain ⟨m', a, b, c⟩ := r_fillsOwners xfu (xfu_ge (by decide)) hL hR
  exact ⟨m', (ov_X8_fillsOwners_e m).trans a, b, c⟩
theorem kpk_u {T : Int} {P m : Ob} {K : List Ob} (hI : InvP T P K m) {u : Nat} (hu : (u : Int) = P 0 2 - 1) : HI T (kpk P (-1) K) ∧ Rel (kpk P (-1) K) (fun k => m 3 (735 * u + k)) := by
  obtain ⟨⟨g1, g2, g3, g4⟩, -, -, -, h5⟩ := hI
  have := h5 u (by omega)
  unfold kpk
  rw [flm_e, show P 0 1 + P 0 2 + -1 = P 0 1 + (u : Int) by omega]
  exact this
theorem kpk_e {T : Int} {P m : Ob} {K : List Ob} (hI : InvP T P K m) (h1 : 1 ≤ P 0 2) : HI T (kpk P (-1) K) ∧ Rel (kpk P (-1) K) (fun k => m 3 (735 * (P 0 2 - 1).toNat + k)) := kpk_u hI (by omega)
theorem r_moved {T : Int} {h P m : Ob} {K : List Ob} (hI : INV T h P K m) (f : Nat) (hf : 1000 ≤ f) : md_X8_moved_0 m f () = RI (mvsF P h K) [m] := by
  obtain ⟨i1, i2, i3⟩ := hI
  obtain ⟨⟨g1, g2, g3, g4⟩, j2, j3, j4, j5⟩ := id i3
  show md_X8_moved_4 m f (0, 0) = _
  unfold mvsF
  rcases j2 with j2 | ⟨j2, j6⟩
  · rw [if_pos j2]
    cases f with
    | zero => omega
    | succ f =>
      refine (tlp_succ (B := lb_X8_moved_4 m (f + 1)) (n := f)).trans ?_
      simp only [lb_X8_moved_4, mg_X8_moved_4, j4, j2]
      rw [if_neg (by decide), if_pos (by decide)]
  · rw [if_neg (by omega)]
    obtain ⟨u, hu0⟩ : ∃ u : Nat, (u : Int) = P 0 2 - 1 := ⟨(P 0 2 - 1).toNat, by omega⟩
    obtain ⟨s1, s2⟩ := kpk_u i3 hu0
    generalize kpk P (-1) K = s at s1 s2
    rw [mvs_e]
    refine (loop_fold (B := lb_X8_moved_4 m f) 8 _ (fun r => RI r [m]) (fun i r => (r, (i : Int))) (fun _ _ => True) (fun k i r hi _ => ⟨?_, trivial⟩) (fun k r _ => rfl) f 0 (by omega) trivial).1
    obtain ⟨x3, x4⟩ := ixn (c := 13) 13 rfl (by decide) hi
    have a5 : ov_X8_ahead (5 + (i : Int)) m = RI (m 3 (735 * u + (5 + i))) [m] := (ov_X8_ahead_e _ _).trans (r_ahead (c := 5 + i) (by omega) (u := u) (by omega) (by rw [j3]; omega) (by omega))
    have a13 : ov_X8_ahead (13 + (i : Int)) m = RI (m 3 (735 * u + (13 + i))) [m] := (ov_X8_ahead_e _ _).trans (r_ahead (c := 13 + i) (by omega) (u := u) (by omega) (by rw [j3]; omega) (by omega))
    simp only [lb_X8_moved_4, mg_X8_moved_4, md_X8_moved_61, mg_X8_moved_61, md_X8_moved_62, mg_X8_moved_62, xw_nat (show i < 2147483648 by omega), bz_0, i2.fulq i1.1 hi, a5, a13, oqR_I, pd_rfl, pd_T, if_true, x3, x4, j4, j2]
    rw [if_neg (by omega), if_neg (by decide)]
    cases hu : ful h (i : Int)
    · simp
    · have hf' := (i1.1.fu hi).mp hu
      obtain ⟨u1, u2, u3, u4⟩ := i2.use hi hf'
      simp only [Bool.true_eq_false, if_false]
      rcases (s2.2.1 i hi).1 with ⟨a, b, c⟩ | ⟨a, b, c, d⟩ | ⟨a, b, c⟩
      · have hn : ful s (i : Int) = false := by
          cases hq : ful s (i : Int) with
          | false => rfl
          | true => exact absurd b ((s1.1.fu hi).mp hq)
        dsimp only at c
        rw [c, hn, if_neg (by decide)]
        simp
      · dsimp only at c d
        rw [c, d, (s1.1.fu hi).mpr b, u3, if_pos (by decide)]
        by_cases hq : xw (s 1 i) = xw (h 1 i)
        · simp [hq]
        · simp [hq]
      · have hn : ful s (i : Int) = false := by
          cases hq : ful s (i : Int) with
          | false => rfl
          | true => exact absurd b ((s1.1.fu hi).mp hq)
        dsimp only at c
        rw [c, hn, if_neg (by decide)]
        simp
theorem r_blocks {h m : Ob} (hL : LW h) (hR : Rel h (m 1)) (f : Nat) (hf : 1000 ≤ f) : ∃ m', md_X8_blocks_0 f m = RI ((wls h (h 0 9)).length : Int) [m'] ∧ ∀ j, j ≠ 4 → m' j = m j := by
  obtain ⟨z1, z2, z3, -⟩ := id hL
  obtain ⟨m', a, b, c⟩ := fo_e hL hR
  refine ⟨m', ?_, b⟩
  have hR' := own_frame hR b
  have hsz : xw (m' 1 0) = h 0 9 := by rw [hR'.szq]; exact hL.xsz
  simp only [md_X8_blocks_0, mg_X8_blocks_0, a, oqV_t, oqO_V, if_true]
  have := loop_walk (B := lb_X8_blocks_8 f) (h := h) (e := h 0 9) (fun k (s : Nat) => ((s : Int), k, m')) (fun s k => .inl (s + 1)) (fun s => RI (s : Int) [m']) (fun k _ => Nb h k) (fun k a b => ⟨(hL.nxc a b (by omega) (by omega)).1, (hL.nxc a b (by omega) (by omega)).2.1⟩)
    (fun kk k s a' b' hN => by
      have hn := hL.nxc a' b' (Int.le_refl _) (by omega)
      have hb : ov_X8_behind k m' = RI (nxt h k (h 0 9)) [m'] := (ov_X8_behind_e _ _).trans (r_behind xfu (xfu_ge (by decide)) hL hR' c a' b' hN)
      refine ⟨?_, fun s' _ => ?_⟩
      · simp only [lb_X8_blocks_8, mg_X8_blocks_8, xw_id (x := k) (by omega) (by omega), hsz, hb, oqR_I, pd_rfl, pd_T, if_true]
        rw [if_neg (by omega), hn.2.2]
        rfl
      · rw [hn.2.2]
        exact hL.nb_nxt a' b' (by omega) hN)
    (fun kk s _ => by
      simp only [lb_X8_blocks_8, mg_X8_blocks_8, hL.xsz, hsz]
      rw [if_pos (by omega)]) wfu f 0 0 (by omega) (by omega) (by rw [wfu_e]; omega) (by rw [wfu_e]; omega) hL.nb0
  refine Eq.trans (b := _) this ?_
  have key : ∀ (l : List Int) (s : Nat), wrun (fun (s : Nat) k => .inl (s + 1)) (fun s => RI (s : Int) [m']) l s = RI ((l.length + s : Nat) : Int) [m'] := by
    intro l
    induction l with
    | nil => intro s; simp [wrun]
    | cons a l ih => intro s; simp only [wrun]; rw [ih, List.length_cons, show l.length + (s + 1) = l.length + 1 + s by omega]
  rw [wls_e]
  exact key _ 0
theorem e_count (T : Int) (hT0 : 0 ≤ T) (hT : T ≤ 600) (p1 : Int) (hp1 : xw p1 = p1) (h0 h1 h2 h3 h4 h5 h6 h7 h8 h9 h10 h11 h12 h13 h14 h15 h16 h17 h18 h19 h20 h21 h22 h23 h24 m : Ob) (hI : INV T h1 h3 [h4, h5, h6, h7, h8, h9, h10, h11, h12, h13, h14, h15, h16] m) : Same (T + 1) (md_X7_count_0 p1 h0 h1 h2 h3 h4 h5 h6 h7 h8 h9 h10 h11 h12 h13 h14 h15 h16 h17 h18 h19 h20 h21 h22 h23 h24 ()) (md_X8_count_0 p1 m) := by
  have hI0 := hI
  obtain ⟨i1, i2, i3⟩ := hI
  obtain ⟨r0, r1, r2, r3, r4⟩ := i2.1
  have hm : ov_X8_moved m = RI (mvsF h3 h1 [h4, h5, h6, h7, h8, h9, h10, h11, h12, h13, h14, h15, h16]) [m] := (ov_X8_moved_e m).trans (r_moved hI0 xfu (xfu_ge (by decide)))
  obtain ⟨m', hb, hfr⟩ := r_blocks i1.1 i2 xfu (xfu_ge (by decide))
  have hb' : ov_X8_blocks m = RI ((wls h1 (h1 0 9)).length : Int) [m'] := (ov_X8_blocks_e m).trans hb
  simp only [md_X7_count_0, mg_X7_count_0, md_X8_count_0, mg_X8_count_0, hp1, hm, hb', oqR_I, oqI_t, oqO_I, pd_rfl, pd_T, if_true, pd_t i1.1, pd_t (p := PG h3 ∧ (h3 0 3 = 0 ∨ h3 0 3 = 1 ∧ 1 ≤ h3 0 2)) ⟨i3.1, i3.2.1⟩, r0, r1, r2, r3, r4, i3.2.2.1]
  by_cases b7 : p1 = 7
  · subst b7
    exact ⟨_, _, _, rfl, rfl, (INV_frame hI0 hfr).mono (by omega)⟩
  · by_cases hc : 0 ≤ p1 ∧ p1 ≤ 6
    · have hc : p1 = 0 ∨ p1 = 1 ∨ p1 = 2 ∨ p1 = 3 ∨ p1 = 4 ∨ p1 = 5 ∨ p1 = 6 := by omega
      rcases hc with rfl | rfl | rfl | rfl | rfl | rfl | rfl <;> exact ⟨_, _, _, rfl, rfl, hI0.mono (by omega)⟩
    · rw [if_neg (by omega), if_neg (by omega), if_neg (by omega), if_neg (by omega), if_neg (by omega), if_neg (by omega), if_neg (by omega), if_neg b7, if_neg (by omega), if_neg (by omega), if_neg (by omega), if_neg (by omega), if_neg (by omega), if_neg (by omega), if_neg (by omega), if_neg b7]
      exact ⟨_, _, _, rfl, rfl, hI0.mono (by omega)⟩
/-- the row that comes back -/
def unO (m : Ob) (u : Nat) : Ob := fun j k => if j = 0 ∧ k = 3 then (u : Int) else if j = 0 ∧ k = 4 then 0 else if j = 1 ∧ k < 735 then m 3 (735 * u + k) else m j k
theorem r_undo (f : Nat) (hf : 1000 ≤ f) (m : Ob) (u : Nat) (hu : u < 12) (e : m 0 3 = ((u + 1 : Nat) : Int)) : md_X8_undo_0 f m = RI (u : Int) [unO m u] := by
  unfold md_X8_undo_0 mg_X8_undo_0
  rw [e, xw_nat (by omega), if_neg (by omega), show (((u + 1 : Nat) : Int) - 1) = (u : Int) by omega]
  have L := loop_fold (B := lb_X8_undo_21 f) 735 (fun (s : Ob) (i : Nat) => xset s 1 i (m 3 (735 * u + i))) (fun s => RI ((xset s 0 4 0) 0 3) [xset s 0 4 0]) (fun i s => ((i : Int), s)) (fun i s => s = fun j k => if j = 0 ∧ k = 3 then (u : Int) else if j = 1 ∧ k < i then m 3 (735 * u + k) else m j k) (fun k i s hi hI => by
    refine ⟨?_, ?_⟩
    · have e3 : s 0 3 = (u : Int) := by rw [hI]; rfl
      have e2 : s 3 (735 * u + i) = m 3 (735 * u + i) := by rw [hI]; rfl
      have e4 : xw (735 * (u : Int) + (i : Int)) = ((735 * u + i : Nat) : Int) := by rw [xw_id (by omega) (by omega)]; omega
      simp only [lb_X8_undo_21, mg_X8_undo_21, xw_nat (show i < 2147483648 by omega), xin_nat hi (show 735 ≤ 2147483648 by omega), toNat_nat, if_true, e3, e4, e2]
      rw [if_neg (by omega), xin_of (n := 8820) (by rw [e4]; omega) (by rw [e4]; omega)]
      rfl
    · subst hI
      funext j q
      unfold xset
      dsimp only
      by_cases h1 : j = 1
      · rw [if_neg (show ¬ (j = 0 ∧ q = 3) by omega), if_neg (show ¬ (j = 0 ∧ q = 3) by omega)]
        by_cases h2 : q = i
        · rw [if_pos ⟨h1, h2⟩, if_pos ⟨h1, by omega⟩, h2]
        · rw [if_neg (fun z => h2 z.2)]
          by_cases h3 : q < i
          · rw [if_pos ⟨h1, h3⟩, if_pos ⟨h1, by omega⟩]
          · rw [if_neg (fun z => h3 z.2), if_neg (fun z => h3 (by omega))]
      · rw [if_neg (fun z => h1 z.1)]
        by_cases h5 : j = 0 ∧ q = 3
        · rw [if_pos h5, if_pos h5]
        · rw [if_neg h5, if_neg h5, if_neg (fun z => h1 z.1), if_neg (fun z => h1 z.1)]) (fun k s _ => rfl) f (xset m 0 3 (u : Int)) (by omega) (by funext j k; unfold xset; by_cases hh : j = 0 ∧ k = 3 <;> simp [hh])
  refine Eq.trans (b := _) L.1 ?_
  rw [L.2]
  have e5 : ∀ s : Ob, (s = fun j k => if j = 0 ∧ k = 3 then (u : Int) else if j = 1 ∧ k < 735 then m 3 (735 * u + k) else m j k) → xset s 0 4 0 = unO m u := by
    intro s hs
    subst hs
    funext j q
    unfold xset unO
    by_cases h4 : j = 0 ∧ q = 4
    · rw [if_pos h4, if_neg (by omega), if_pos h4]
    · rw [if_neg h4, if_neg h4]
  rw [e5 _ rfl]
  rfl
theorem e_undo (T : Int) (hT0 : 0 ≤ T) (hT : T ≤ 600) (h0 h1 h2 h3 h4 h5 h6 h7 h8 h9 h10 h11 h12 h13 h14 h15 h16 h17 h18 h19 h20 h21 h22 h23 h24 m : Ob) (hI : INV T h1 h3 [h4, h5, h6, h7, h8, h9, h10, h11, h12, h13, h14, h15, h16] m) : Same (T + 1) (md_X7_undo_0 h0 h2 h4 h5 h6 h7 h8 h9 h10 h11 h12 h13 h14 h15 h16 h17 h18 h19 h20 h21 h22 h23 h24 (h1, h3)) (md_X8_undo_0 xfu m) := by
  have hI0 := hI
  obtain ⟨i1, i2, i3⟩ := hI
  obtain ⟨⟨g1, g2, g3, g4⟩, j2, j3, j4, j5⟩ := id i3
  have hc7 : ∀ x : Ob × Ob, x = x := fun _ => rfl
  simp only [md_X7_undo_0, mg_X7_undo_0, pd_t i3.1, if_true]
  unfold tkR tkH tkP
  by_cases h0' : h3 0 2 < 1
  · rw [if_pos h0', if_pos h0', if_pos h0']
    have e : md_X8_undo_0 xfu m = RI (-1) [m] := by
      unfold md_X8_undo_0 mg_X8_undo_0
      rw [if_pos (by rw [j3, xw_id (by omega) (by omega)]; omega)]
    rw [e]
    exact ⟨_, _, _, rfl, rfl, hI0.mono (by omega)⟩
  · rw [if_neg h0', if_neg h0', if_neg h0', r_undo xfu (xfu_ge (by decide)) m (h3 0 2 - 1).toNat (by omega) (by rw [j3]; omega), show (((h3 0 2 - 1).toNat : Nat) : Int) = h3 0 2 - 1 by omega]
    obtain ⟨s1, s2⟩ := kpk_e i3 (by omega)
    refine ⟨_, _, _, rfl, rfl, ?_⟩
    show INV (T + 1) (cpyO h1 (kpk h3 (-1) [h4, h5, h6, h7, h8, h9, h10, h11, h12, h13, h14, h15, h16])) (xset (xset h3 0 2 (h3 0 2 - 1)) 0 3 0) [h4, h5, h6, h7, h8, h9, h10, h11, h12, h13, h14, h15, h16] (unO m (h3 0 2 - 1).toNat)
    refine ⟨(HI_Sam (Sam_cpy _ _) s1).mono (by omega), Rel_cong (LW_Sam (Sam_cpy _ _) s1.1) (fun k hk => ?_) (Rel_Sam (Sam_cpy _ _) s1.1 s2), ⟨⟨g1, g2, ?_, ?_⟩, Or.inl rfl, ?_, rfl, fun i hi => ?_⟩⟩
    · show unO m (h3 0 2 - 1).toNat 1 k = _
      unfold unO
      rw [if_neg (by omega), if_neg (by omega), if_pos ⟨rfl, hk⟩]
    · show 0 ≤ h3 0 2 - 1
      omega
    · show h3 0 2 - 1 ≤ 12
      omega
    · show (((h3 0 2 - 1).toNat : Nat) : Int) = h3 0 2 - 1
      omega
    · have hi' : (i : Int) < h3 0 2 - 1 := hi
      obtain ⟨a, b⟩ := j5 i (by omega)
      exact ⟨a.mono (by omega), b⟩
