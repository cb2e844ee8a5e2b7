theorem opn_own {h m : Ob} (hL : LW h) (hO : Own h (m 4)) {b : Nat} (hb : b < 8) (hf : h 1 b ≠ -1) {k : Nat} (hk : (k : Int) < h 0 9) : (laM m (h 1 b) (h 2 b + 1) 0) 4 k = 0 ↔ opn h (xshl 1 (b : Int)) (k : Int) := by
  have hz := hL.2.2.2.1 b (by omega)
  have hs := hL.2.1
  have hs2 := hL.2.2.1
  have x1 := hL.xpl (show b < 11 by omega)
  have x2 : xw (h 2 b + 1) = h 2 b + 1 := xw_id (by omega) (by omega)
  unfold laM
  rw [x1, x2]
  simp only [true_and]
  by_cases hcb : cvd h b (k : Int)
  · obtain ⟨c1, c2, c3⟩ := id hcb
    rw [if_pos ⟨c2, by omega⟩]
    refine ⟨fun _ i hi hc => ?_, fun _ => rfl⟩
    rw [hL.cv1 hi (by omega) hc hcb, inS_one b hb b (by omega)]
    simp
  · rw [if_neg (fun z => hcb ⟨hf, z.1, by omega⟩), hO.at0 hk]
    constructor
    · intro hn i hi hc
      exact absurd hc (hn i hi)
    · intro ho i hi hc
      have := ho i hi hc
      rw [inS_one b hb i hi] at this
      have hib : i = b := by simpa using this
      subst hib
      exact hcb hc
theorem r_highest {T : Int} {h m : Ob} (hH : HI T h) (hR : Rel h (m 1)) {b : Nat} (hb : b < 8) (hf : h 1 b ≠ -1) {a n : Int} (ha : 0 ≤ a) (hn : 0 ≤ n) (han : a + n ≤ 200) : ∃ m', ov_X8_highest (b : Int) a n m = RI (hiF h (b : Int) a n) [m'] ∧ ∀ j, j ≠ 4 → m' j = m j := by
  have hL := hH.1
  obtain ⟨z1, z2, z3, z4, -⟩ := id hL
  have hz := z4 b (by omega)
  obtain ⟨m1, o1, o2, o3⟩ := fo_e hL hR
  have hR1 := own_frame hR o2
  obtain ⟨u1, u2, u3, u4⟩ := hR1.use hb hf
  obtain ⟨x1, x2⟩ := ixn (c := 13) 13 rfl (by decide) hb
  have hlen := hR1.lenq hb u1
  generalize hmo : laM m1 (h 1 b) (h 2 b + 1) 0 = mo
  have hmo1 : mo 1 = m1 1 := by rw [← hmo]; rfl
  have hfr : ∀ j, j ≠ 4 → mo j = m j := fun j hj => by
    rw [← o2 j hj, ← hmo]
    funext k
    simp [laM, hj]
  have hRo : Rel h (mo 1) := by rw [hmo1]; exact hR1
  have hlo := hRo.lenq hb (hR1.use hb hf).1
  have hsz : xw (mo 1 0) = h 0 9 := by rw [hRo.szq]; exact hL.xsz
  have hxa : xw a = a := xw_id (by omega) (by omega)
  have hxan : xw (a + n) = a + n := xw_id (by omega) (by omega)
  refine ⟨mo, ?_, hfr⟩
  rw [ov_X8_highest_e]
  have e1 : md_X8_highest_0 (b : Int) a n xfu m = tlp (lb_X8_highest_32 (b : Int) a n xfu) xfu ((0 : Int), (-1 : Int), (0 : Int), mo) := by
    simp only [md_X8_highest_0, mg_X8_highest_0, o1, oqV_t, oqO_V, x1, x2, hdl_nat hb, u3, hlen, if_true]
    rw [if_pos (decide_eq_true ⟨by rw [hL.xpl (by omega)]; omega, by rw [xw_id (by omega) (by omega)]; omega, by rw [hL.xpl (by omega), xw_id (by omega) (by omega)]; omega⟩), hmo]
    rfl
  rw [e1]
  have hQ : ∀ k : Nat, (k : Int) < h 0 9 → ((mo 4 k = 0 ∧ ¬ (a ≤ (k : Int) ∧ (k : Int) < a + n)) ↔ (opn h (xshl 1 (b : Int)) (k : Int) ∧ ¬ (a ≤ (k : Int) ∧ (k : Int) < a + n))) := by
    intro k hk
    rw [← hmo, opn_own hL o3 hb hf hk]
  have hox : ∀ k : Nat, (k : Int) < h 0 9 → xw (mo 4 k) = mo 4 k := by
    intro k hk
    rw [← hmo]
    show xw (if _ then _ else _) = (if _ then _ else _)
    split
    · decide
    · exact o3.xwq hk
  -- the loop
  have loop : ∀ (d : Nat) (f : Nat) (run best k : Int), (h 0 9 - k).toNat = d → d < f → 0 ≤ k → k ≤ h 0 9 → 0 ≤ run → run ≤ k → (∀ c, k - run ≤ c → c < k → opn h (xshl 1 (b : Int)) c ∧ ¬ (a ≤ c ∧ c < a + n)) → (run = k ∨ ¬ (opn h (xshl 1 (b : Int)) (k - run - 1) ∧ ¬ (a ≤ k - run - 1 ∧ k - run - 1 < a + n))) → ((best = -1 ∧ ∀ x, 0 ≤ x → x + (h 2 b + 1) ≤ k → ¬ ∀ c, x ≤ c → c < x + (h 2 b + 1) → opn h (xshl 1 (b : Int)) c ∧ ¬ (a ≤ c ∧ c < a + n)) ∨ (0 ≤ best ∧ best + (h 2 b + 1) ≤ k ∧ (∀ c, best ≤ c → c < best + (h 2 b + 1) → opn h (xshl 1 (b : Int)) c ∧ ¬ (a ≤ c ∧ c < a + n)) ∧ ∀ x, best < x → x + (h 2 b + 1) ≤ k → ¬ ∀ c, x ≤ c → c < x + (h 2 b + 1) → opn h (xshl 1 (b : Int)) c ∧ ¬ (a ≤ c ∧ c < a + n))) → tlp (lb_X8_highest_32 (b : Int) a n xfu) f (run, best, k, mo) = RI (hiF h (b : Int) a n) [mo] := by
    intro d
    induction d with
    | zero =>
      intro f run best k q1 q2 q3 q4 q5 q6 q7 q8 q9
      have hk : k = h 0 9 := by omega
      subst hk
      obtain ⟨f', rfl⟩ : ∃ f', f = f' + 1 := ⟨f - 1, by omega⟩
      rw [tlp_succ]
      simp only [lb_X8_highest_32, mg_X8_highest_32, hsz, hL.xsz]
      rw [if_pos (by omega)]
      have : hiF h (b : Int) a n = best := by
        unfold hiF
        rw [(hL.fu hb).mpr hf, if_pos rfl, xop_eq]
        rcases q9 with ⟨w1, w2⟩ | ⟨w1, w2, w3, w4⟩
        · rw [w1]
          refine gmx_none (fun y y1 y2 hP => ?_)
          unfold hiP at hP
          rw [toNat_nat] at hP
          exact w2 y y1 hP.2.1 hP.2.2
        · refine gmx_some w1 ?_ (by omega) (fun y y1 y2 hP => ?_)
          · unfold hiP
            rw [toNat_nat]
            exact ⟨w1, w2, w3⟩
          · unfold hiP at hP
            rw [toNat_nat] at hP
            exact w4 y y1 hP.2.1 hP.2.2
      rw [this]
    | succ d ih =>
      intro f run best k q1 q2 q3 q4 q5 q6 q7 q8 q9
      obtain ⟨f', rfl⟩ : ∃ f', f = f' + 1 := ⟨f - 1, by omega⟩
      have hlt : k < h 0 9 := by omega
      have hk : xw k = k := xw_id (by omega) (by omega)
      obtain ⟨kn, hkn⟩ : ∃ kn : Nat, k = (kn : Int) := ⟨k.toNat, by omega⟩
      have hq := hQ kn (by omega)
      have hx := hox kn (by omega)
      rw [← hkn] at hq
      have ekn : k.toNat = kn := by omega
      have hl1 : xw (h 2 b + 1) = h 2 b + 1 := xw_id (by omega) (by omega)
      rw [tlp_succ]
      have yes : (opn h (xshl 1 (b : Int)) k ∧ ¬ (a ≤ k ∧ k < a + n)) → md_X8_highest_67 (b : Int) a n xfu (tlp (lb_X8_highest_32 (b : Int) a n xfu) f') (run, best, k, mo) = RI (hiF h (b : Int) a n) [mo] := by
        intro hy
        simp only [md_X8_highest_67, mg_X8_highest_67, md_X8_highest_72, mg_X8_highest_72, md_X8_highest_87, mg_X8_highest_87, md_X8_highest_111, mg_X8_highest_111, xw1, hdl_nat hb, if_true, hlo, hl1]
        rw [if_neg (by decide), xw_id (x := run + 1) (by omega) (by omega)]
        have hrun : ∀ c, k + 1 - (run + 1) ≤ c → c < k + 1 → opn h (xshl 1 (b : Int)) c ∧ ¬ (a ≤ c ∧ c < a + n) := by
          intro c c1 c2
          by_cases hck : c = k
          · rw [hck]; exact hy
          · exact q7 c (by omega) (by omega)
        have hend : run + 1 = k + 1 ∨ ¬ (opn h (xshl 1 (b : Int)) (k + 1 - (run + 1) - 1) ∧ ¬ (a ≤ k + 1 - (run + 1) - 1 ∧ k + 1 - (run + 1) - 1 < a + n)) := by
          rw [show k + 1 - (run + 1) - 1 = k - run - 1 by omega]
          rcases q8 with z | z
          · left; omega
          · exact Or.inr z
        by_cases hge : run + 1 < h 2 b + 1
        · rw [if_pos hge]
          refine ih f' (run + 1) best (k + 1) (by omega) (by omega) (by omega) (by omega) (by omega) (by omega) hrun hend ?_
          have hnew : ∀ x, 0 ≤ x → x + (h 2 b + 1) = k + 1 → ¬ ∀ c, x ≤ c → c < x + (h 2 b + 1) → opn h (xshl 1 (b : Int)) c ∧ ¬ (a ≤ c ∧ c < a + n) := by
            intro x x1 x2 hall
            rcases q8 with z | z
            · omega
            · exact z (hall (k - run - 1) (by omega) (by omega))
          rcases q9 with ⟨w1, w2⟩ | ⟨w1, w2, w3, w4⟩
          · refine Or.inl ⟨w1, fun x x1 x2 => ?_⟩
            by_cases hxk : x + (h 2 b + 1) = k + 1
            · exact hnew x x1 hxk
            · exact w2 x x1 (by omega)
          · refine Or.inr ⟨w1, by omega, w3, fun x x1 x2 => ?_⟩
            by_cases hxk : x + (h 2 b + 1) = k + 1
            · exact hnew x (by omega) hxk
            · exact w4 x x1 (by omega)
        · rw [if_neg hge]
          refine ih f' (run + 1) _ (k + 1) (by omega) (by omega) (by omega) (by omega) (by omega) (by omega) hrun hend (Or.inr ⟨by omega, by omega, fun c c1 c2 => hrun c (by omega) (by omega), fun x x1 x2 => by omega⟩)
      have no : ¬ (opn h (xshl 1 (b : Int)) k ∧ ¬ (a ≤ k ∧ k < a + n)) → md_X8_highest_71 (b : Int) a n xfu (tlp (lb_X8_highest_32 (b : Int) a n xfu) f') (run, best, k, mo) = RI (hiF h (b : Int) a n) [mo] := by
        intro hy
        simp only [md_X8_highest_71, mg_X8_highest_71, md_X8_highest_72, mg_X8_highest_72, md_X8_highest_87, mg_X8_highest_87, md_X8_highest_111, mg_X8_highest_111, xw0, hdl_nat hb, if_true, hlo, hl1]
        rw [if_pos (show (0 : Int) < h 2 b + 1 by omega)]
        refine ih f' 0 best (k + 1) (by omega) (by omega) (by omega) (by omega) (by omega) (by omega) (fun c c1 c2 => by omega) (Or.inr (by rw [show k + 1 - 0 - 1 = k by omega]; exact hy)) ?_
        have hnew : ∀ x, 0 ≤ x → x + (h 2 b + 1) = k + 1 → ¬ ∀ c, x ≤ c → c < x + (h 2 b + 1) → opn h (xshl 1 (b : Int)) c ∧ ¬ (a ≤ c ∧ c < a + n) := by
          intro x x1 x2 hall
          exact hy (hall k (by omega) (by omega))
        rcases q9 with ⟨w1, w2⟩ | ⟨w1, w2, w3, w4⟩
        · refine Or.inl ⟨w1, fun x x1 x2 => ?_⟩
          by_cases hxk : x + (h 2 b + 1) = k + 1
          · exact hnew x x1 hxk
          · exact w2 x x1 (by omega)
        · refine Or.inr ⟨w1, by omega, w3, fun x x1 x2 => ?_⟩
          by_cases hxk : x + (h 2 b + 1) = k + 1
          · exact hnew x (by omega) hxk
          · exact w4 x x1 (by omega)
      simp only [lb_X8_highest_32, mg_X8_highest_32, hsz, hk, xin_of (i := k) (n := 200) (by omega) (by omega), if_true, ekn, hx, hxa, hxan]
      rw [if_neg (show ¬ k ≥ h 0 9 by omega)]
      by_cases ho : mo 4 kn = 0
      · rw [if_pos ho]
        by_cases hka : k < a
        · rw [if_pos hka]
          exact yes (hq.mp ⟨ho, by omega⟩)
        · rw [if_neg hka]
          by_cases hkb : k < a + n
          · rw [if_pos hkb]
            exact no (fun z => z.2 ⟨by omega, hkb⟩)
          · rw [if_neg hkb]
            exact yes (hq.mp ⟨ho, by omega⟩)
      · rw [if_neg ho]
        exact no (fun z => ho (hq.mpr z).1)
  exact loop (h 0 9).toNat xfu 0 (-1) 0 (by omega) (by have := xfu_ge (n := 1000) (by decide); omega) (by omega) (by omega) (by omega) (by omega) (fun c c1 c2 => by omega) (Or.inl rfl) (Or.inl ⟨rfl, fun x x1 x2 => by omega⟩)
