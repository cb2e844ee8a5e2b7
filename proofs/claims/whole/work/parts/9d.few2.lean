theorem loop_fink {K A S : Type} {B : K → (A → Option Rt) → A → Option Rt} (n : Nat) (F : Option Rt → Prop) (enc : Nat → S → A) (I : Nat → S → Prop) (h1 : ∀ i s, i < n → I i s → ∃ s', (∀ q k, B q k (enc i s) = k (enc (i + 1) s')) ∧ I (i + 1) s') (h2 : ∀ s, I n s → ∃ r, F r ∧ ∀ q k, B q k (enc n s) = r) : ∀ (d i f : Nat) (s : S), i + d = n → d < f → I i s → ∃ r, F r ∧ ∀ q, tlp (B q) f (enc i s) = r := by
  intro d
  induction d with
  | zero =>
    intro i f s hi hf hI
    obtain ⟨f, rfl⟩ : ∃ k, f = k + 1 := ⟨f - 1, by omega⟩
    rw [Nat.add_zero] at hi
    subst hi
    obtain ⟨r, r1, r2⟩ := h2 s hI
    exact ⟨r, r1, fun q => by rw [tlp_succ, r2]⟩
  | succ d ih =>
    intro i f s hi hf hI
    obtain ⟨f, rfl⟩ : ∃ k, f = k + 1 := ⟨f - 1, by omega⟩
    obtain ⟨s', e, hI'⟩ := h1 i s (by omega) hI
    obtain ⟨r, r1, r2⟩ := ih (i + 1) f s' (by omega) (by omega) hI'
    exact ⟨r, r1, fun q => by rw [tlp_succ, e, r2]⟩
theorem ask_e {p : Int} (hp : xw p = p) : ask p = decide (1 ≤ p ∧ p ≤ 199) := by
  unfold ask
  rw [hp]
  by_cases h : 1 ≤ p ∧ p ≤ 199
  · rw [decide_eq_true h]
    simp
    omega
  · rw [decide_eq_false h]
    simp
    omega
theorem sub_le8 {b G : Nat} (h : b &&& G = b) : b ≤ G := (sub_xor G b h).1
theorem e_fewest (T : Int) (hT0 : 0 ≤ T) (hT : T ≤ 600) (p1 : Int) (hp1 : xw p1 = p1) (p2 : Int) (hp2 : xw p2 = p2) (h0 h1 h2 h3 h4 h5 h6 h7 h8 h9 h10 h11 h12 h13 h14 h15 h16 h17 h18 h19 h20 h21 h22 h23 h24 m : Ob) (hI : INV T h1 h3 [h4, h5, h6, h7, h8, h9, h10, h11, h12, h13, h14, h15, h16] m) : Same (T + 1) (md_X7_fewest_0 p1 p2 h0 h1 h2 h3 h4 h5 h6 h7 h8 h9 h10 h11 h12 h13 h14 h15 h16 h19 h20 h21 h22 h23 h24 xfu (h17, h18)) (md_X8_fewest_0 p1 p2 xfu m) := by
  have hI0 := hI
  obtain ⟨i1, i2, i3⟩ := hI
  have hL := i1.1
  obtain ⟨z1, z2, z3, z4, -⟩ := id hL
  have hf := xfu_ge (n := 5000) (by decide)
  have x1 : xlr p1 = true := by rw [← hp1]; exact xlr_xw
  have x2 : xlr p2 = true := by rw [← hp2]; exact xlr_xw
  by_cases a1 : 1 ≤ p1 ∧ p1 ≤ 199
  · have hin1 : inn p1 1 199 = true := by rw [inn_e]; exact decide_eq_true a1
    have hak : ask p1 = true := by rw [ask_e hp1]; exact decide_eq_true a1
    by_cases a2 : p2 = 0 ∨ p2 = 1
    · obtain ⟨G, hG1, hG2, hG3⟩ := goS_nat i1
      obtain ⟨v, m', b1, b2, b3, b4, b5, b6⟩ := r_fewest i1 i2 hp1 a1 a2 hG2 hG3
      rw [b2]
      have hRd : RdG h1 (h1 0 10) := ⟨hL, z2, z3⟩
      have hgi : ∀ (q : Ob) (s : Nat), gi (pkA (pkF q h1 (xand (movS h1) (xxor (s : Int) (-1)))) (p1 + 1)) (rdO h17 (rnl h1 (movS h1) (h1 0 10))) = pd (Wk h1 (p1 + 1) s) ∧ pd (GiG (pkA (pkF q h1 (xand (movS h1) (xxor (s : Int) (-1)))) (p1 + 1)) (rdO h17 (rnl h1 (movS h1) (h1 0 10)))) = true := fun q s => gi_h hL hL q h17 _ _ (by omega) (by omega) z2 z3
      have hfin : INV (T + 1) h1 h3 [h4, h5, h6, h7, h8, h9, h10, h11, h12, h13, h14, h15, h16] m' := INV.mono (T := T) ⟨i1, by rw [b3]; exact i2, InvP_frame i3 b4 b5 b6⟩ (by omega)
      have e0 : md_X7_fewest_0 p1 p2 h0 h1 h2 h3 h4 h5 h6 h7 h8 h9 h10 h11 h12 h13 h14 h15 h16 h19 h20 h21 h22 h23 h24 xfu (h17, h18) = if pd (Wk h1 (p1 + 1) G) = false then RI (-2) [h0, h1, h2, h3, h4, h5, h6, h7, h8, h9, h10, h11, h12, h13, h14, h15, h16, rdO h17 (rnl h1 (movS h1) (h1 0 10)), giO xfu (pkA (pkF h18 h1 (xand (movS h1) (xxor (G : Int) (-1)))) (p1 + 1)) (rdO h17 (rnl h1 (movS h1) (h1 0 10))), h19, h20, h21, h22, h23, h24] else md_X7_fewest_87 p1 p2 h0 h1 h2 h3 h4 h5 h6 h7 h8 h9 h10 h11 h12 h13 h14 h15 h16 h19 h20 h21 h22 h23 h24 xfu (movS h1, (G : Int), 0, rdO h17 (rnl h1 (movS h1) (h1 0 10)), giO xfu (pkA (pkF h18 h1 (xand (movS h1) (xxor (G : Int) (-1)))) (p1 + 1)) (rdO h17 (rnl h1 (movS h1) (h1 0 10)))) := by
        simp only [md_X7_fewest_0, mg_X7_fewest_0, hak, bz_0, Bool.true_eq_false, if_false, hp2, pd_t hRd, if_true, hG1, (hgi h18 G).1, (hgi h18 G).2]
        rw [if_neg (show ¬ p2 < 0 by omega), if_pos (show p2 ≤ 1 by omega)]
      rw [e0]
      rcases b1 with ⟨v1, v2⟩ | ⟨b, v1, ⟨v2, v3⟩, v4⟩
      · have hWG : pd (Wk h1 (p1 + 1) G) = false := by
          cases hq : pd (Wk h1 (p1 + 1) G) with
          | false => rfl
          | true => exact absurd ⟨Nat.and_self G, pd_of hq⟩ (v2 G)
        rw [hWG, if_pos rfl, v1, if_pos (show (-2 : Int) < 0 by omega)]
        exact ⟨_, _, _, rfl, rfl, hfin⟩
      · have hbG := sub_le8 v2
        have hWG : pd (Wk h1 (p1 + 1) G) = true := pd_t (Wk_mono hL (by omega) (by omega) hG2 v2 v3)
        rw [hWG, if_neg (by simp), v1, if_neg (show ¬ (b : Int) < 0 by omega)]
        have hbb := bcn_bd (b : Int)
        obtain ⟨kb, hkb⟩ : ∃ kb : Nat, bcn (b : Int) = (kb : Int) := ⟨(bcn (b : Int)).toNat, by omega⟩
        -- a set of so many that is tried
        have step : ∀ (i s : Nat) (pk : Ob), s < 256 → i ≤ 8 → ¬ (s &&& G = s ∧ bcn (s : Int) = (i : Int) ∧ Wk h1 (p1 + 1) s) → ∃ pk' : Ob, ∀ (k87 : Int × Int × Int × Ob × Ob → Option Rt) (k : Int × Int × Int × Int × Ob × Ob → Option Rt), lb_X7_fewest_97 p1 p2 h0 h1 h2 h3 h4 h5 h6 h7 h8 h9 h10 h11 h12 h13 h14 h15 h16 h19 h20 h21 h22 h23 h24 xfu k87 k (movS h1, (G : Int), (i : Int), (s : Int), rdO h17 (rnl h1 (movS h1) (h1 0 10)), pk) = k (movS h1, (G : Int), (i : Int), ((s + 1 : Nat) : Int), rdO h17 (rnl h1 (movS h1) (h1 0 10)), pk') := by
          intro i s pk hs hi hno
          have hxs : xw (s : Int) = s := xw_nat (by omega)
          have hbs := bcn_bd (s : Int)
          have hd : decide (0 ≤ (s : Int) ∧ (s : Int) < 256) = true := decide_eq_true (by omega)
          by_cases hsub : s &&& G = s
          · have hst := (sub_test hs hG2).mpr hsub
            by_cases hbc : bcn (s : Int) = (i : Int)
            · have hW : pd (Wk h1 (p1 + 1) s) = false := by
                cases hq : pd (Wk h1 (p1 + 1) s) with
                | false => rfl
                | true => exact absurd ⟨hsub, hbc, pd_of hq⟩ hno
              refine ⟨giO xfu (pkA (pkF pk h1 (xand (movS h1) (xxor (s : Int) (-1)))) (p1 + 1)) (rdO h17 (rnl h1 (movS h1) (h1 0 10))), fun k87 k => ?_⟩
              simp only [lb_X7_fewest_97, mg_X7_fewest_97, md_X7_fewest_164, mg_X7_fewest_164, hxs, hst, if_true, hd, hbc, (hgi pk s).1, (hgi pk s).2, hW, bz_0]
              rw [if_neg (show ¬ (s : Int) ≥ 256 by omega)]
              rfl
            · refine ⟨pk, fun k87 k => ?_⟩
              have hbc' : ¬ xw (bcn (s : Int)) = xw (i : Int) := by rw [xw_id (x := bcn (s : Int)) (by omega) (by omega), xw_nat (by omega)]; exact hbc
              show (if xw (s : Int) ≥ 256 then _ else if xw (xand (s : Int) (xxor (G : Int) (-1))) = 0 then (if decide (0 ≤ (s : Int) ∧ (s : Int) < 256) = true then (if xw (bcn (s : Int)) = xw (i : Int) then _ else md_X7_fewest_164 p1 p2 h0 h1 h2 h3 h4 h5 h6 h7 h8 h9 h10 h11 h12 h13 h14 h15 h16 h19 h20 h21 h22 h23 h24 xfu k87 k (movS h1, (G : Int), (i : Int), (s : Int), rdO h17 (rnl h1 (movS h1) (h1 0 10)), pk)) else none) else _) = _
              rw [if_neg (show ¬ xw (s : Int) ≥ 256 by omega), if_pos hst, if_pos hd, if_neg hbc']
              rfl
          · refine ⟨pk, fun k87 k => ?_⟩
            have hst : ¬ xw (xand (s : Int) (xxor (G : Int) (-1))) = 0 := fun z => hsub ((sub_test hs hG2).mp z)
            show (if xw (s : Int) ≥ 256 then _ else if xw (xand (s : Int) (xxor (G : Int) (-1))) = 0 then _ else md_X7_fewest_164 p1 p2 h0 h1 h2 h3 h4 h5 h6 h7 h8 h9 h10 h11 h12 h13 h14 h15 h16 h19 h20 h21 h22 h23 h24 xfu k87 k (movS h1, (G : Int), (i : Int), (s : Int), rdO h17 (rnl h1 (movS h1) (h1 0 10)), pk)) = _
            rw [if_neg (show ¬ xw (s : Int) ≥ 256 by omega), if_neg hst]
            rfl
        have hlp : ∀ pk0 : Ob, ∃ r, (∃ pk, r = RI (if p2 = 0 then bcn (b : Int) else (b : Int)) [h0, h1, h2, h3, h4, h5, h6, h7, h8, h9, h10, h11, h12, h13, h14, h15, h16, rdO h17 (rnl h1 (movS h1) (h1 0 10)), pk, h19, h20, h21, h22, h23, h24]) ∧ tlp (lb_X7_fewest_87 p1 p2 h0 h1 h2 h3 h4 h5 h6 h7 h8 h9 h10 h11 h12 h13 h14 h15 h16 h19 h20 h21 h22 h23 h24 xfu) xfu (movS h1, (G : Int), ((0 : Nat) : Int), rdO h17 (rnl h1 (movS h1) (h1 0 10)), pk0) = r := by
          intro pk0
          refine loop_fin (B := lb_X7_fewest_87 p1 p2 h0 h1 h2 h3 h4 h5 h6 h7 h8 h9 h10 h11 h12 h13 h14 h15 h16 h19 h20 h21 h22 h23 h24 xfu) kb (fun r => ∃ pk, r = RI (if p2 = 0 then bcn (b : Int) else (b : Int)) [h0, h1, h2, h3, h4, h5, h6, h7, h8, h9, h10, h11, h12, h13, h14, h15, h16, rdO h17 (rnl h1 (movS h1) (h1 0 10)), pk, h19, h20, h21, h22, h23, h24]) (fun i (pk : Ob) => (movS h1, (G : Int), (i : Int), rdO h17 (rnl h1 (movS h1) (h1 0 10)), pk)) (fun _ _ => True) (fun i pk hi _ => ?_) (fun pk _ => ?_) kb 0 xfu pk0 (by omega) (by omega) trivial
          · obtain ⟨pk', -, w⟩ := loop_exk (K := Int × Int × Int × Ob × Ob → Option Rt) (B := fun k87 => lb_X7_fewest_97 p1 p2 h0 h1 h2 h3 h4 h5 h6 h7 h8 h9 h10 h11 h12 h13 h14 h15 h16 h19 h20 h21 h22 h23 h24 xfu k87) 256 (fun k87 (q : Ob) => k87 (movS h1, (G : Int), (i : Int) + 1, rdO h17 (rnl h1 (movS h1) (h1 0 10)), q)) (fun s (q : Ob) => (movS h1, (G : Int), (i : Int), (s : Int), rdO h17 (rnl h1 (movS h1) (h1 0 10)), q)) (fun _ _ => True) (fun s q hs _ => by
                obtain ⟨pk', w⟩ := step i s q hs (by omega) (fun z => by
                  have := v4 s ⟨z.1, z.2.2⟩
                  have := z.2.1
                  omega)
                exact ⟨pk', w, trivial⟩) (fun k87 k q _ => by
                unfold lb_X7_fewest_97 mg_X7_fewest_97
                dsimp only
                rw [if_pos (show xw ((256 : Nat) : Int) ≥ 256 by decide)]) 256 0 xfu pk (by omega) (by omega) trivial
            refine ⟨pk', fun k => ?_, trivial⟩
            show (if xw (i : Int) > 8 then _ else md_X7_fewest_97 p1 p2 h0 h1 h2 h3 h4 h5 h6 h7 h8 h9 h10 h11 h12 h13 h14 h15 h16 h19 h20 h21 h22 h23 h24 xfu k (movS h1, (G : Int), (i : Int), 0, rdO h17 (rnl h1 (movS h1) (h1 0 10)), pk)) = _
            rw [if_neg (by rw [xw_nat (by omega)]; omega)]
            exact w k
          · have hin : ∃ r, (∃ pk, r = RI (if p2 = 0 then bcn (b : Int) else (b : Int)) [h0, h1, h2, h3, h4, h5, h6, h7, h8, h9, h10, h11, h12, h13, h14, h15, h16, rdO h17 (rnl h1 (movS h1) (h1 0 10)), pk, h19, h20, h21, h22, h23, h24]) ∧ ∀ k87 : Int × Int × Int × Ob × Ob → Option Rt, tlp (lb_X7_fewest_97 p1 p2 h0 h1 h2 h3 h4 h5 h6 h7 h8 h9 h10 h11 h12 h13 h14 h15 h16 h19 h20 h21 h22 h23 h24 xfu k87) xfu (movS h1, (G : Int), (kb : Int), ((0 : Nat) : Int), rdO h17 (rnl h1 (movS h1) (h1 0 10)), pk) = r := by
              refine loop_fink (K := Int × Int × Int × Ob × Ob → Option Rt) (B := fun k87 => lb_X7_fewest_97 p1 p2 h0 h1 h2 h3 h4 h5 h6 h7 h8 h9 h10 h11 h12 h13 h14 h15 h16 h19 h20 h21 h22 h23 h24 xfu k87) b (fun r => ∃ pk, r = RI (if p2 = 0 then bcn (b : Int) else (b : Int)) [h0, h1, h2, h3, h4, h5, h6, h7, h8, h9, h10, h11, h12, h13, h14, h15, h16, rdO h17 (rnl h1 (movS h1) (h1 0 10)), pk, h19, h20, h21, h22, h23, h24]) (fun s (q : Ob) => (movS h1, (G : Int), (kb : Int), (s : Int), rdO h17 (rnl h1 (movS h1) (h1 0 10)), q)) (fun _ _ => True) (fun s q hs _ => ?_) (fun q _ => ?_) b 0 xfu pk (by omega) (by omega) trivial
              · obtain ⟨pk', w⟩ := step kb s q (by omega) (by omega) (fun z => by
                  have := v4 s ⟨z.1, z.2.2⟩
                  have := z.2.1
                  omega)
                exact ⟨pk', w, trivial⟩
              · refine ⟨_, ⟨giO xfu (pkA (pkF q h1 (xand (movS h1) (xxor (b : Int) (-1)))) (p1 + 1)) (rdO h17 (rnl h1 (movS h1) (h1 0 10))), rfl⟩, fun k87 k => ?_⟩
                have hxs : xw (b : Int) = b := xw_nat (by omega)
                have hst := (sub_test (show b < 256 by omega) hG2).mpr v2
                have hd : decide (0 ≤ (b : Int) ∧ (b : Int) < 256) = true := decide_eq_true (by omega)
                simp only [lb_X7_fewest_97, mg_X7_fewest_97, hxs, hst, if_true, hd, hkb, (hgi q b).1, (hgi q b).2, pd_t v3, bz_0, Bool.true_eq_false, if_false, hp2]
                rw [if_neg (show ¬ (b : Int) ≥ 256 by omega)]
                split <;> rfl
            obtain ⟨r, r1, r2⟩ := hin
            refine ⟨r, r1, fun k => ?_⟩
            show (if xw (kb : Int) > 8 then _ else md_X7_fewest_97 p1 p2 h0 h1 h2 h3 h4 h5 h6 h7 h8 h9 h10 h11 h12 h13 h14 h15 h16 h19 h20 h21 h22 h23 h24 xfu k (movS h1, (G : Int), (kb : Int), 0, rdO h17 (rnl h1 (movS h1) (h1 0 10)), pk)) = _
            rw [if_neg (by rw [xw_nat (by omega)]; omega)]
            exact r2 k
        obtain ⟨r, ⟨pk, rfl⟩, hr⟩ := hlp (giO xfu (pkA (pkF h18 h1 (xand (movS h1) (xxor (G : Int) (-1)))) (p1 + 1)) (rdO h17 (rnl h1 (movS h1) (h1 0 10))))
        have : md_X7_fewest_87 p1 p2 h0 h1 h2 h3 h4 h5 h6 h7 h8 h9 h10 h11 h12 h13 h14 h15 h16 h19 h20 h21 h22 h23 h24 xfu (movS h1, (G : Int), 0, rdO h17 (rnl h1 (movS h1) (h1 0 10)), giO xfu (pkA (pkF h18 h1 (xand (movS h1) (xxor (G : Int) (-1)))) (p1 + 1)) (rdO h17 (rnl h1 (movS h1) (h1 0 10)))) = _ := hr
        rw [this]
        exact ⟨_, _, _, rfl, rfl, hfin⟩
    · have hin2 : inn p2 0 1 = false := by rw [inn_e]; exact decide_eq_false (by omega)
      have e8 : md_X8_fewest_0 p1 p2 xfu m = RI (-1) [m] := by
        simp only [md_X8_fewest_0, mg_X8_fewest_0, hp1, hp2, x1, x2, xlr_s (p := 0) (by decide) (by decide), xlr_s (p := 1) (by decide) (by decide), xlr_s (p := 199) (by decide) (by decide), Bool.and_self, if_true, hin1, hin2, bz_0, Bool.true_eq_false, if_false]
      rw [e8]
      simp only [md_X7_fewest_0, mg_X7_fewest_0, hak, bz_0, Bool.true_eq_false, if_false, hp2]
      by_cases hneg : p2 < 0
      · rw [if_pos hneg]
        exact ⟨_, _, _, rfl, rfl, hI0.mono (by omega)⟩
      · rw [if_neg hneg, if_neg (show ¬ p2 ≤ 1 by omega)]
        exact ⟨_, _, _, rfl, rfl, hI0.mono (by omega)⟩
  · have hin1 : inn p1 1 199 = false := by rw [inn_e]; exact decide_eq_false a1
    have hak : ask p1 = false := by rw [ask_e hp1]; exact decide_eq_false a1
    have e8 : md_X8_fewest_0 p1 p2 xfu m = RI (-1) [m] := by
      simp only [md_X8_fewest_0, mg_X8_fewest_0, hp1, x1, xlr_s (p := 1) (by decide) (by decide), xlr_s (p := 199) (by decide) (by decide), Bool.and_self, if_true, hin1, bz_0]
    rw [e8]
    simp only [md_X7_fewest_0, mg_X7_fewest_0, hak, bz_0, if_true]
    exact ⟨_, _, _, rfl, rfl, hI0.mono (by omega)⟩
