/-- the fewest cells, then the set's own value -/
def FC (h : Ob) (Q : Nat → Prop) (v : Int) : Prop := (v = -2 ∧ ∀ s, ¬ Q s) ∨ ∃ b : Nat, v = (b : Int) ∧ Q b ∧ ∀ s, Q s → cof h (b : Int) < cof h (s : Int) ∨ (cof h (b : Int) = cof h (s : Int) ∧ b ≤ s)
theorem FC_uniq {h : Ob} {Q : Nat → Prop} {v w : Int} (h1 : FC h Q v) (h2 : FC h Q w) : v = w := by
  rcases h1 with ⟨a1, a2⟩ | ⟨b, b1, b2, b3⟩
  · rcases h2 with ⟨c1, -⟩ | ⟨c, -, c2, -⟩
    · rw [a1, c1]
    · exact absurd c2 (a2 c)
  · rcases h2 with ⟨-, c2⟩ | ⟨c, c1, c2, c3⟩
    · exact absurd b2 (c2 b)
    · have x1 := b3 c c2
      have x2 := c3 b b2
      rw [b1, c1]
      omega
theorem r_cheapest {T : Int} {h m : Ob} (hH : HI T h) (hR : Rel h (m 1)) {p1 p2 : Int} (hp1 : xw p1 = p1) (a1 : 1 ≤ p1 ∧ p1 ≤ 199) (a2 : p2 = 0 ∨ p2 = 1) {M : Nat} (hM : M < 256) (hMb : ∀ i : Nat, i < 8 → M.testBit i = mov h (i : Int)) :
    ∃ v m', FC h (fun s => s &&& M = s ∧ Wc h (p1 + 1) (h 0 10) s) v ∧ md_X8_cheapest_0 p1 p2 xfu m = RI (if v < 0 then -2 else if p2 = 0 then cof h v else v) [m'] ∧ m' 1 = m 1 ∧ m' 3 = m 3 ∧ m' 0 3 = m 0 3 ∧ m' 0 4 = m 0 4 := by
  have hL := hH.1
  have hf := xfu_ge (n := 5000) (by decide)
  have hp2 : xw p2 = p2 := by rcases a2 with rfl | rfl <;> decide
  have x1 : xlr p1 = true := by rw [← hp1]; exact xlr_xw
  have x2 : xlr p2 = true := by rw [← hp2]; exact xlr_xw
  have hin1 : inn p1 1 199 = true := by rw [inn_e]; exact decide_eq_true a1
  have hin2 : inn p2 0 1 = true := by rw [inn_e]; exact decide_eq_true (by omega)
  have hsb : ∀ s : Nat, s &&& M = s → ∀ i : Nat, i < 8 → s.testBit i = true → mov h (i : Int) = true := fun s hs i hi hb => by
    have h1 : (s &&& M).testBit i = true := by rw [hs]; exact hb
    rw [Nat.testBit_and, Bool.and_eq_true] at h1
    rw [← hMb i hi]; exact h1.2
  obtain ⟨may, ⟨q1, q2⟩, q3⟩ := loop_ex (B := lb_X8_cheapest_29 p1 p2 xfu) 8 (fun (q : Nat) => md_X8_cheapest_69 p1 p2 xfu ((q : Int), -2, 0, m)) (fun i (q : Nat) => ((q : Int), (i : Int), m)) (fun i (q : Nat) => q < 2 ^ i ∧ ∀ j : Nat, j < i → q.testBit j = mov h (j : Int)) (fun i q hi hI => by
      obtain ⟨k1, k2⟩ := hI
      have hcg := hR.looq hL hi
      have h256 : (2 : Nat) ^ i ≤ 2 ^ 7 := Nat.pow_le_pow_right (by decide) (by omega)
      have h256' : (2 : Nat) ^ 7 = 128 := by decide
      have hpp : (2 : Nat) ^ (i + 1) = 2 ^ i + 2 ^ i := by rw [Nat.pow_succ]; omega
      cases hg : mov h (i : Int) with
      | false =>
        rw [hg] at hcg
        refine ⟨q, fun k => ?_, by omega, fun j hj => ?_⟩
        · have h0 : xor_ (q : Int) 0 = (q : Int) := by rw [show (0 : Int) = ((0 : Nat) : Int) from rfl, xor_nat (by omega) (by omega), Nat.or_zero]
          simp only [lb_X8_cheapest_29, mg_X8_cheapest_29, md_X8_cheapest_54, mg_X8_cheapest_54, xw_nat (show i < 2147483648 by omega), hcg, bz_0, if_true, h0]
          rw [if_neg (show ¬ (i : Int) ≥ 8 by omega)]
          rfl
        · by_cases hji : j = i
          · subst hji
            rw [hg]
            exact Nat.testBit_lt_two_pow k1
          · exact k2 j (by omega)
      | true =>
        rw [hg] at hcg
        refine ⟨q ||| 2 ^ i, fun k => ?_, Nat.or_lt_two_pow (by omega) (by omega), fun j hj => ?_⟩
        · have h0 : xor_ (q : Int) (xshl 1 (i : Int)) = ((q ||| 2 ^ i : Nat) : Int) := by rw [xshl_1 i (by omega), xor_nat (by omega) (by omega)]
          simp only [lb_X8_cheapest_29, mg_X8_cheapest_29, md_X8_cheapest_54, mg_X8_cheapest_54, xw_nat (show i < 2147483648 by omega), hcg, bz_0, Bool.true_eq_false, if_false, h0]
          rw [if_neg (show ¬ (i : Int) ≥ 8 by omega)]
          rfl
        · rw [Nat.testBit_or]
          by_cases hji : j = i
          · subst hji
            rw [Nat.testBit_two_pow_self, hg, Bool.or_true]
          · rw [Nat.testBit_two_pow_of_ne (Ne.symm hji), Bool.or_false]
            exact k2 j (by omega)) (fun k q hI => by
      simp only [lb_X8_cheapest_29, mg_X8_cheapest_29]
      rw [if_pos (show xw ((8 : Nat) : Int) ≥ 8 by decide)]) 8 0 xfu 0 (by omega) (by omega) ⟨by decide, fun j hj => by omega⟩
  have hmay : may = M := nat_ext8 q1 hM (fun i hi => by rw [q2 i hi, hMb i hi])
  subst hmay
  obtain ⟨⟨v, mm⟩, ⟨g1, g2, g3⟩, g4⟩ := loop_ex (B := lb_X8_cheapest_69 p1 p2 xfu) (may + 1) (fun (q : Int × Ob) => RI (if q.1 < 0 then -2 else if p2 = 0 then cof h q.1 else q.1) [q.2]) (fun s (q : Int × Ob) => ((may : Int), q.1, (s : Int), q.2)) (fun s (q : Int × Ob) => (q.2 1 = m 1 ∧ q.2 3 = m 3 ∧ q.2 0 3 = m 0 3 ∧ q.2 0 4 = m 0 4) ∧ (-2 ≤ q.1 ∧ q.1 < 256) ∧ FC h (fun t => t < s ∧ t &&& may = t ∧ Wc h (p1 + 1) (h 0 10) t) q.1) (fun s q hs hI => by
      obtain ⟨best, mm⟩ := q
      obtain ⟨⟨k1, k1', k1'', k1'''⟩, k2, k3⟩ := hI
      dsimp only at k1 k1' k1'' k1''' k2 k3
      have hxs : xw (s : Int) = s := xw_nat (by omega)
      have hxm : xw (may : Int) = may := xw_nat (by omega)
      have hxb : xw best = best := xw_id (by omega) (by omega)
      have hb1 := cof_bd hL best
      have hb2 := cof_bd hL (s : Int)
      have hRm : Rel h (mm 1) := by rw [k1]; exact hR
      have keep : ¬ (s &&& may = s ∧ Wc h (p1 + 1) (h 0 10) s) ∨ (0 ≤ best ∧ cof h best ≤ cof h (s : Int)) → FC h (fun t => t < s + 1 ∧ t &&& may = t ∧ Wc h (p1 + 1) (h 0 10) t) best := by
        intro hk
        rcases k3 with ⟨e, k3⟩ | ⟨b, e, ⟨b1, b2⟩, b3⟩
        · refine Or.inl ⟨e, fun t ht => ?_⟩
          by_cases hts : t = s
          · subst hts
            rcases hk with hk | hk
            · exact hk ht.2
            · omega
          · exact k3 t ⟨by omega, ht.2⟩
        · refine Or.inr ⟨b, e, ⟨by omega, b2⟩, fun t ht => ?_⟩
          by_cases hts : t = s
          · subst hts
            rcases hk with hk | hk
            · exact absurd ht.2 hk
            · rw [e] at hk
              have := hk.2
              omega
          · exact b3 t ⟨by omega, ht.2⟩
      have better : s &&& may = s ∧ Wc h (p1 + 1) (h 0 10) s → (best < 0 ∨ cof h (s : Int) < cof h best) → FC h (fun t => t < s + 1 ∧ t &&& may = t ∧ Wc h (p1 + 1) (h 0 10) t) (s : Int) := by
        intro hs' hb
        refine Or.inr ⟨s, rfl, ⟨by omega, hs'⟩, fun t ht => ?_⟩
        by_cases hts : t = s
        · subst hts; exact Or.inr ⟨rfl, Nat.le_refl _⟩
        · left
          rcases k3 with ⟨e, k3⟩ | ⟨b, e, ⟨b1, b2⟩, b3⟩
          · exact absurd ⟨by omega, ht.2⟩ (k3 t)
          · have := b3 t ⟨by omega, ht.2⟩
            rw [e] at hb
            omega
      by_cases hsub : s &&& may = s
      · have hst := (sub_test (show s < 256 by omega) hM).mpr hsub
        have hls : ov_X8_lengthsOf (s : Int) mm = RI (cof h (s : Int)) [mm] := r_lengthsOf hRm (by omega) (fun i hi hb => (hRm.use hi (mov_full hL hi (hsb s hsub i hi hb))).1)
        have tried : (best < 0 ∨ cof h (s : Int) < cof h best) → ∃ q' : Int × Ob, (∀ k, md_X8_cheapest_104 p1 p2 xfu k ((may : Int), best, (s : Int), mm) = k ((may : Int), q'.1, ((s + 1 : Nat) : Int), q'.2)) ∧ (q'.2 1 = m 1 ∧ q'.2 3 = m 3 ∧ q'.2 0 3 = m 0 3 ∧ q'.2 0 4 = m 0 4) ∧ (-2 ≤ q'.1 ∧ q'.1 < 256) ∧ FC h (fun t => t < s + 1 ∧ t &&& may = t ∧ Wc h (p1 + 1) (h 0 10) t) q'.1 := by
          intro hb
          obtain ⟨m4, u1, u2, u3, u4, u5⟩ := r_findPlaces hH hRm (s := s) (by omega) (hsb s hsub) (n := p1 + 1) (by omega) (by omega)
          cases hW : pd (Wc h (p1 + 1) (h 0 10) s) with
          | true =>
            rw [hW] at u1
            refine ⟨((s : Int), m4), fun k => ?_, ⟨by rw [← k1]; exact u2, by rw [← k1']; exact u3, by rw [← k1'']; exact u4, by rw [← k1''']; exact u5⟩, ⟨by show -2 ≤ (s : Int); omega, by show (s : Int) < 256; omega⟩, better ⟨hsub, pd_of hW⟩ hb⟩
            simp only [md_X8_cheapest_104, mg_X8_cheapest_104, md_X8_cheapest_123, mg_X8_cheapest_123, u1, oqI_t, oqR_I, oqO_I, if_true, bz_0, Bool.true_eq_false, if_false]
            rfl
          | false =>
            rw [hW] at u1
            refine ⟨(best, m4), fun k => ?_, ⟨by rw [← k1]; exact u2, by rw [← k1']; exact u3, by rw [← k1'']; exact u4, by rw [← k1''']; exact u5⟩, k2, keep (Or.inl (fun z => by rw [pd_t z.2] at hW; cases hW))⟩
            simp only [md_X8_cheapest_104, mg_X8_cheapest_104, md_X8_cheapest_123, mg_X8_cheapest_123, u1, oqI_t, oqR_I, oqO_I, if_true, bz_0]
            rfl
        by_cases hneg : best < 0
        · obtain ⟨q', w1, w2⟩ := tried (Or.inl hneg)
          refine ⟨q', fun k => ?_, w2⟩
          simp only [lb_X8_cheapest_69, mg_X8_cheapest_69, hxs, hxm, hst, if_true, hxb]
          rw [if_neg (show ¬ (s : Int) > (may : Int) by omega), if_pos hneg]
          exact w1 k
        · obtain ⟨b, hbe⟩ : ∃ b : Nat, best = (b : Int) := ⟨best.toNat, by omega⟩
          have hbsub : b &&& may = b := by
            rcases k3 with ⟨e, -⟩ | ⟨b', e, ⟨-, b2⟩, -⟩
            · omega
            · have : b = b' := by omega
              rw [this]; exact b2.1
          have hlb : ov_X8_lengthsOf best mm = RI (cof h best) [mm] := by
            rw [hbe]
            exact r_lengthsOf hRm (by omega) (fun i hi hb => (hRm.use hi (mov_full hL hi (hsb b hbsub i hi hb))).1)
          by_cases hge : cof h (s : Int) ≥ cof h best
          · refine ⟨(best, mm), fun k => ?_, ⟨k1, k1', k1'', k1'''⟩, k2, keep (Or.inr ⟨by omega, hge⟩)⟩
            simp only [lb_X8_cheapest_69, mg_X8_cheapest_69, md_X8_cheapest_123, mg_X8_cheapest_123, hxs, hxm, hst, if_true, hxb, hls, hlb, oqR_I, pd_rfl, pd_T, xw_id (x := cof h (s : Int)) (by omega) (by omega), xw_id (x := cof h best) (by omega) (by omega)]
            rw [if_neg (show ¬ (s : Int) > (may : Int) by omega), if_neg hneg, if_pos hge]
            rfl
          · obtain ⟨q', w1, w2⟩ := tried (Or.inr (by omega))
            refine ⟨q', fun k => ?_, w2⟩
            simp only [lb_X8_cheapest_69, mg_X8_cheapest_69, hxs, hxm, hst, if_true, hxb, hls, hlb, oqR_I, pd_rfl, pd_T, xw_id (x := cof h (s : Int)) (by omega) (by omega), xw_id (x := cof h best) (by omega) (by omega)]
            rw [if_neg (show ¬ (s : Int) > (may : Int) by omega), if_neg hneg, if_neg hge]
            exact w1 k
      · have hst : ¬ xw (xand (s : Int) (xxor (may : Int) (-1))) = 0 := fun z => hsub ((sub_test (show s < 256 by omega) hM).mp z)
        refine ⟨(best, mm), fun k => ?_, ⟨k1, k1', k1'', k1'''⟩, k2, keep (Or.inl (fun z => hsub z.1))⟩
        show (if xw (s : Int) > xw (may : Int) then _ else if xw (xand (s : Int) (xxor (may : Int) (-1))) = 0 then _ else md_X8_cheapest_123 p1 p2 xfu k ((may : Int), best, (s : Int), mm)) = _
        rw [if_neg (show ¬ xw (s : Int) > xw (may : Int) by omega), if_neg hst]
        rfl) (fun k q hI => by
      obtain ⟨k0, k2, k3⟩ := hI
      have hxb : xw q.1 = q.1 := xw_id (by omega) (by omega)
      unfold lb_X8_cheapest_69 mg_X8_cheapest_69
      dsimp only
      rw [if_pos (show xw ((may + 1 : Nat) : Int) > xw (may : Int) by rw [xw_nat (by omega), xw_nat (by omega)]; omega), hxb, hp2]
      by_cases hneg : q.1 < 0
      · rw [if_neg (show ¬ q.1 ≥ 0 by omega), if_pos hneg]
      · obtain ⟨b, hbe⟩ : ∃ b : Nat, q.1 = (b : Int) := ⟨q.1.toNat, by omega⟩
        have hbsub : b &&& may = b := by
          rcases k3 with ⟨e, -⟩ | ⟨b', e, ⟨-, b2⟩, -⟩
          · omega
          · have : b = b' := by omega
            rw [this]; exact b2.1
        have hRm : Rel h (q.2 1) := by rw [k0.1]; exact hR
        have hlb : ov_X8_lengthsOf q.1 q.2 = RI (cof h q.1) [q.2] := by
          rw [hbe]
          exact r_lengthsOf hRm (by omega) (fun i hi hb => (hRm.use hi (mov_full hL hi (hsb b hbsub i hi hb))).1)
        rw [if_pos (show q.1 ≥ 0 by omega), if_neg hneg]
        simp only [hlb, oqR_I, pd_rfl, pd_T, if_true]
        split <;> rfl) (may + 1) 0 xfu (-2, m) (by omega) (by omega) ⟨⟨rfl, rfl, rfl, rfl⟩, ⟨Int.le_refl _, by show (-2 : Int) < 256; omega⟩, Or.inl ⟨rfl, fun t ht => by omega⟩⟩
  dsimp only at g1 g2 g3 g4
  refine ⟨v, mm, ?_, ?_, g1⟩
  · have hiff : ∀ t, (t < may + 1 ∧ t &&& may = t ∧ Wc h (p1 + 1) (h 0 10) t) ↔ (t &&& may = t ∧ Wc h (p1 + 1) (h 0 10) t) := fun t => ⟨fun z => z.2, fun z => ⟨by have := (sub_xor may t z.1).1; omega, z⟩⟩
    have : (fun t => t < may + 1 ∧ t &&& may = t ∧ Wc h (p1 + 1) (h 0 10) t) = (fun t => t &&& may = t ∧ Wc h (p1 + 1) (h 0 10) t) := funext fun t => propext (hiff t)
    rw [← this]
    exact g3
  · simp only [md_X8_cheapest_0, mg_X8_cheapest_0, hp1, hp2, x1, x2, xlr_s (p := 0) (by decide) (by decide), xlr_s (p := 1) (by decide) (by decide), xlr_s (p := 199) (by decide) (by decide), Bool.and_self, if_true, hin1, hin2, bz_0, Bool.true_eq_false, if_false]
    have st : md_X8_cheapest_29 p1 p2 xfu (0, 0, m) = tlp (lb_X8_cheapest_29 p1 p2 xfu) xfu (((0 : Nat) : Int), ((0 : Nat) : Int), m) := rfl
    rw [st, q3]
    have st2 : md_X8_cheapest_69 p1 p2 xfu ((may : Int), -2, 0, m) = tlp (lb_X8_cheapest_69 p1 p2 xfu) xfu ((may : Int), -2, ((0 : Nat) : Int), m) := rfl
    rw [st2, g4]
theorem e_cheapest (T : Int) (hT0 : 0 ≤ T) (hT : T ≤ 600) (p1 : Int) (hp1 : xw p1 = p1) (p2 : Int) (hp2 : xw p2 = p2) (h0 h1 h2 h3 h4 h5 h6 h7 h8 h9 h10 h11 h12 h13 h14 h15 h16 h17 h18 h19 h20 h21 h22 h23 h24 m : Ob) (hI : INV T h1 h3 [h4, h5, h6, h7, h8, h9, h10, h11, h12, h13, h14, h15, h16] m) : Same (T + 1) (md_X7_cheapest_0 p1 p2 h0 h1 h2 h3 h4 h5 h6 h7 h8 h9 h10 h11 h12 h13 h14 h15 h16 h19 h20 h21 h22 h23 h24 xfu (h17, h18)) (md_X8_cheapest_0 p1 p2 xfu m) := by
  have hI0 := hI
  obtain ⟨i1, i2, i3⟩ := hI
  have hL := i1.1
  obtain ⟨z1, z2, z3, z4, -⟩ := id hL
  have hf := xfu_ge (n := 5000) (by decide)
  have x1 : xlr p1 = true := by rw [← hp1]; exact xlr_xw
  have x2 : xlr p2 = true := by rw [← hp2]; exact xlr_xw
  by_cases a1 : 1 ≤ p1 ∧ p1 ≤ 199
  · have hin1 : inn p1 1 199 = true := by rw [inn_e]; exact decide_eq_true a1
    have hak : ask p1 = true := by rw [ask_e hp1]; exact decide_eq_true a1
    by_cases a2 : p2 = 0 ∨ p2 = 1
    · obtain ⟨M, hM1, hM2, hM3⟩ := movS_nat h1
      obtain ⟨v, m', b1, b2, b3, b4, b5, b6⟩ := r_cheapest i1 i2 hp1 a1 a2 hM2 hM3
      rw [b2]
      have hRd : RdG h1 (h1 0 10) := ⟨hL, z2, z3⟩
      have hgi : ∀ (q r : Ob) (s : Nat), gi (pkA (pkF q h1 (s : Int)) (p1 + 1)) (rdO r (rnl h1 (s : Int) (h1 0 10))) = pd (Wc h1 (p1 + 1) (h1 0 10) s) ∧ (pd (RdG h1 (h1 0 10)) && pd (GiG (pkA (pkF q h1 (s : Int)) (p1 + 1)) (rdO r (rnl h1 (s : Int) (h1 0 10))))) = true := fun q r s => by
        obtain ⟨g1, g2⟩ := gi_h hL hL q r (s : Int) (s : Int) (n := p1 + 1) (by omega) (by omega) z2 z3
        exact ⟨g1, by rw [pd_t hRd, g2]; rfl⟩
      have hfin : INV (T + 1) h1 h3 [h4, h5, h6, h7, h8, h9, h10, h11, h12, h13, h14, h15, h16] m' := INV.mono (T := T) ⟨i1, by rw [b3]; exact i2, InvP_frame i3 b4 b5 b6⟩ (by omega)
      have hpl : ∀ i, i < 8 → M.testBit i = true → h1 1 i ≠ -1 := fun i hi hb => mov_full hL hi (by rw [← hM3 i hi]; exact hb)
      have e0 : md_X7_cheapest_0 p1 p2 h0 h1 h2 h3 h4 h5 h6 h7 h8 h9 h10 h11 h12 h13 h14 h15 h16 h19 h20 h21 h22 h23 h24 xfu (h17, h18) = if pd (Wc h1 (p1 + 1) (h1 0 10) M) = false then RI (-2) [h0, h1, h2, h3, h4, h5, h6, h7, h8, h9, h10, h11, h12, h13, h14, h15, h16, rdO h17 (rnl h1 (M : Int) (h1 0 10)), giO xfu (pkA (pkF h18 h1 (M : Int)) (p1 + 1)) (rdO h17 (rnl h1 (M : Int) (h1 0 10))), h19, h20, h21, h22, h23, h24] else md_X7_cheapest_46 p1 p2 h0 h1 h2 h3 h4 h5 h6 h7 h8 h9 h10 h11 h12 h13 h14 h15 h16 h19 h20 h21 h22 h23 h24 xfu ((M : Int), (M : Int), 0, rdO h17 (rnl h1 (M : Int) (h1 0 10)), giO xfu (pkA (pkF h18 h1 (M : Int)) (p1 + 1)) (rdO h17 (rnl h1 (M : Int) (h1 0 10)))) := by
        simp only [md_X7_cheapest_0, mg_X7_cheapest_0, hak, bz_0, Bool.true_eq_false, if_false, hp2, if_true, hM1, (hgi h18 h17 M).1, (hgi h18 h17 M).2]
        rw [if_neg (show ¬ p2 < 0 by omega), if_pos (show p2 ≤ 1 by omega)]
      rw [e0]
      cases hWM : pd (Wc h1 (p1 + 1) (h1 0 10) M) with
      | false =>
        have hnone : ∀ s, ¬ (s &&& M = s ∧ Wc h1 (p1 + 1) (h1 0 10) s) := fun s z => by
          have := Wc_mono hL z2 z3 (s := s) (by have := sub_le8 z.1; omega) hM2 z.1 hpl z.2
          rw [pd_t this] at hWM
          cases hWM
        have hv : v = -2 := by
          rcases b1 with ⟨e, -⟩ | ⟨b, -, e, -⟩
          · exact e
          · exact absurd e (hnone b)
        rw [if_pos rfl, hv, if_pos (show (-2 : Int) < 0 by omega)]
        exact ⟨_, _, _, rfl, rfl, hfin⟩
      | true =>
        rw [if_neg (by simp)]
        obtain ⟨⟨best, r, pk⟩, ⟨g1, g2, g3⟩, g4⟩ := loop_ex (B := lb_X7_cheapest_46 p1 p2 h0 h1 h2 h3 h4 h5 h6 h7 h8 h9 h10 h11 h12 h13 h14 h15 h16 h19 h20 h21 h22 h23 h24 xfu) M (fun (q : Nat × Ob × Ob) => RI (if p2 = 0 then cof h1 (q.1 : Int) else (q.1 : Int)) [h0, h1, h2, h3, h4, h5, h6, h7, h8, h9, h10, h11, h12, h13, h14, h15, h16, q.2.1, q.2.2, h19, h20, h21, h22, h23, h24]) (fun s (q : Nat × Ob × Ob) => ((M : Int), (q.1 : Int), (s : Int), q.2.1, q.2.2)) (fun s (q : Nat × Ob × Ob) => (q.1 &&& M = q.1 ∧ Wc h1 (p1 + 1) (h1 0 10) q.1) ∧ (q.1 = M ∨ q.1 < s) ∧ ∀ t, t < s → t &&& M = t ∧ Wc h1 (p1 + 1) (h1 0 10) t → cof h1 (q.1 : Int) < cof h1 (t : Int) ∨ (cof h1 (q.1 : Int) = cof h1 (t : Int) ∧ q.1 ≤ t)) (fun s q hs hI => by
            obtain ⟨best, r, pk⟩ := q
            obtain ⟨k1, k2, k3⟩ := hI
            dsimp only at k1 k2 k3
            have hxs : xw (s : Int) = s := xw_nat (by omega)
            have hxm : xw (M : Int) = M := xw_nat (by omega)
            have hbM := sub_le8 k1.1
            have hc1 := cof_bd hL (best : Int)
            have hc2 := cof_bd hL (s : Int)
            by_cases hsub : s &&& M = s
            · have hst := (sub_test (show s < 256 by omega) hM2).mpr hsub
              have hsM := cof_lt hL hM2 hsub hs
              by_cases hge : cof h1 (s : Int) ≥ cof h1 (best : Int)
              · have hbs : best < s := by
                  rcases k2 with k2 | k2
                  · rw [k2] at hge; omega
                  · exact k2
                refine ⟨(best, r, pk), fun k => ?_, k1, Or.inr (by show best < s + 1; omega), fun t ht hq => ?_⟩
                · simp only [lb_X7_cheapest_46, mg_X7_cheapest_46, md_X7_cheapest_98, mg_X7_cheapest_98, hxs, hxm, hst, if_true, xw_id (x := cof h1 (s : Int)) (by omega) (by omega), xw_id (x := cof h1 (best : Int)) (by omega) (by omega)]
                  rw [if_neg (show ¬ (s : Int) ≥ (M : Int) by omega), if_pos hge]
                  rfl
                · show cof h1 (best : Int) < cof h1 (t : Int) ∨ (cof h1 (best : Int) = cof h1 (t : Int) ∧ best ≤ t)
                  by_cases hts : t = s
                  · subst hts; omega
                  · exact k3 t (by omega) hq
              · obtain ⟨y1, y2⟩ := hgi pk r s
                cases hW : pd (Wc h1 (p1 + 1) (h1 0 10) s) with
                | true =>
                  rw [hW] at y1
                  refine ⟨(s, rdO r (rnl h1 (s : Int) (h1 0 10)), giO xfu (pkA (pkF pk h1 (s : Int)) (p1 + 1)) (rdO r (rnl h1 (s : Int) (h1 0 10)))), fun k => ?_, ⟨hsub, pd_of hW⟩, Or.inr (by show s < s + 1; omega), fun t ht hq => ?_⟩
                  · simp only [lb_X7_cheapest_46, mg_X7_cheapest_46, md_X7_cheapest_98, mg_X7_cheapest_98, hxs, hxm, hst, if_true, xw_id (x := cof h1 (s : Int)) (by omega) (by omega), xw_id (x := cof h1 (best : Int)) (by omega) (by omega), y1, y2, bz_0, Bool.true_eq_false, if_false]
                    rw [if_neg (show ¬ (s : Int) ≥ (M : Int) by omega), if_neg hge]
                    rfl
                  · show cof h1 (s : Int) < cof h1 (t : Int) ∨ (cof h1 (s : Int) = cof h1 (t : Int) ∧ s ≤ t)
                    by_cases hts : t = s
                    · subst hts; omega
                    · have := k3 t (by omega) hq
                      omega
                | false =>
                  rw [hW] at y1
                  refine ⟨(best, rdO r (rnl h1 (s : Int) (h1 0 10)), giO xfu (pkA (pkF pk h1 (s : Int)) (p1 + 1)) (rdO r (rnl h1 (s : Int) (h1 0 10)))), fun k => ?_, k1, ?_, fun t ht hq => ?_⟩
                  · simp only [lb_X7_cheapest_46, mg_X7_cheapest_46, md_X7_cheapest_98, mg_X7_cheapest_98, hxs, hxm, hst, if_true, xw_id (x := cof h1 (s : Int)) (by omega) (by omega), xw_id (x := cof h1 (best : Int)) (by omega) (by omega), y1, y2, bz_0]
                    rw [if_neg (show ¬ (s : Int) ≥ (M : Int) by omega), if_neg hge]
                    rfl
                  · rcases k2 with k2 | k2
                    · exact Or.inl k2
                    · exact Or.inr (by show best < s + 1; omega)
                  · show cof h1 (best : Int) < cof h1 (t : Int) ∨ (cof h1 (best : Int) = cof h1 (t : Int) ∧ best ≤ t)
                    by_cases hts : t = s
                    · subst hts
                      rw [pd_t hq.2] at hW
                      cases hW
                    · exact k3 t (by omega) hq
            · have hst : ¬ xw (xand (s : Int) (xxor (M : Int) (-1))) = 0 := fun z => hsub ((sub_test (show s < 256 by omega) hM2).mp z)
              refine ⟨(best, r, pk), fun k => ?_, k1, ?_, fun t ht hq => ?_⟩
              · show (if xw (s : Int) ≥ xw (M : Int) then _ else if xw (xand (s : Int) (xxor (M : Int) (-1))) = 0 then _ else md_X7_cheapest_98 p1 p2 h0 h1 h2 h3 h4 h5 h6 h7 h8 h9 h10 h11 h12 h13 h14 h15 h16 h19 h20 h21 h22 h23 h24 xfu k ((M : Int), (best : Int), (s : Int), r, pk)) = _
                rw [if_neg (show ¬ xw (s : Int) ≥ xw (M : Int) by omega), if_neg hst]
                rfl
              · rcases k2 with k2 | k2
                · exact Or.inl k2
                · exact Or.inr (by show best < s + 1; omega)
              · show cof h1 (best : Int) < cof h1 (t : Int) ∨ (cof h1 (best : Int) = cof h1 (t : Int) ∧ best ≤ t)
                by_cases hts : t = s
                · subst hts; exact absurd hq.1 hsub
                · exact k3 t (by omega) hq) (fun k q hI => by
            unfold lb_X7_cheapest_46 mg_X7_cheapest_46
            dsimp only
            rw [if_pos (show xw (M : Int) ≥ xw (M : Int) by omega), hp2]
            split <;> rfl) M 0 xfu (M, rdO h17 (rnl h1 (M : Int) (h1 0 10)), giO xfu (pkA (pkF h18 h1 (M : Int)) (p1 + 1)) (rdO h17 (rnl h1 (M : Int) (h1 0 10)))) (by omega) (by omega) ⟨⟨Nat.and_self M, pd_of hWM⟩, Or.inl rfl, fun t ht => by omega⟩
        dsimp only at g1 g2 g3 g4
        have hbM := sub_le8 g1.1
        have hFC : FC h1 (fun s => s &&& M = s ∧ Wc h1 (p1 + 1) (h1 0 10) s) (best : Int) := Or.inr ⟨best, rfl, g1, fun t ht => by
          have htM := sub_le8 ht.1
          by_cases hlt : t < M
          · exact g3 t hlt ht
          · have : t = M := by omega
            rw [this]
            rcases g2 with g2 | g2
            · rw [g2]; omega
            · have := cof_lt hL hM2 g1.1 g2
              omega⟩
        have hv := FC_uniq b1 hFC
        have : md_X7_cheapest_46 p1 p2 h0 h1 h2 h3 h4 h5 h6 h7 h8 h9 h10 h11 h12 h13 h14 h15 h16 h19 h20 h21 h22 h23 h24 xfu ((M : Int), (M : Int), 0, rdO h17 (rnl h1 (M : Int) (h1 0 10)), giO xfu (pkA (pkF h18 h1 (M : Int)) (p1 + 1)) (rdO h17 (rnl h1 (M : Int) (h1 0 10)))) = _ := g4
        rw [this, hv, if_neg (show ¬ (best : Int) < 0 by omega)]
        exact ⟨_, _, _, rfl, rfl, hfin⟩
    · have hin2 : inn p2 0 1 = false := by rw [inn_e]; exact decide_eq_false (by omega)
      have e8 : md_X8_cheapest_0 p1 p2 xfu m = RI (-1) [m] := by
        simp only [md_X8_cheapest_0, mg_X8_cheapest_0, hp1, hp2, x1, x2, xlr_s (p := 0) (by decide) (by decide), xlr_s (p := 1) (by decide) (by decide), xlr_s (p := 199) (by decide) (by decide), Bool.and_self, if_true, hin1, hin2, bz_0, Bool.true_eq_false, if_false]
      rw [e8]
      simp only [md_X7_cheapest_0, mg_X7_cheapest_0, hak, bz_0, Bool.true_eq_false, if_false, hp2]
      by_cases hneg : p2 < 0
      · rw [if_pos hneg]
        exact ⟨_, _, _, rfl, rfl, hI0.mono (by omega)⟩
      · rw [if_neg hneg, if_neg (show ¬ p2 ≤ 1 by omega)]
        exact ⟨_, _, _, rfl, rfl, hI0.mono (by omega)⟩
  · have hin1 : inn p1 1 199 = false := by rw [inn_e]; exact decide_eq_false a1
    have hak : ask p1 = false := by rw [ask_e hp1]; exact decide_eq_false a1
    have e8 : md_X8_cheapest_0 p1 p2 xfu m = RI (-1) [m] := by
      simp only [md_X8_cheapest_0, mg_X8_cheapest_0, hp1, x1, xlr_s (p := 1) (by decide) (by decide), xlr_s (p := 199) (by decide) (by decide), Bool.and_self, if_true, hin1, bz_0]
    rw [e8]
    simp only [md_X7_cheapest_0, mg_X7_cheapest_0, hak, bz_0, if_true]
    exact ⟨_, _, _, rfl, rfl, hI0.mono (by omega)⟩
