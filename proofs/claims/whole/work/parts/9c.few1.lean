theorem loop_fin {A S : Type} {B : (A → Option Rt) → A → Option Rt} (n : Nat) (F : Option Rt → Prop) (enc : Nat → S → A) (I : Nat → S → Prop) (h1 : ∀ i s, i < n → I i s → ∃ s', (∀ k, B k (enc i s) = k (enc (i + 1) s')) ∧ I (i + 1) s') (h2 : ∀ s, I n s → ∃ r, F r ∧ ∀ k, B k (enc n s) = r) : ∀ (d i f : Nat) (s : S), i + d = n → d < f → I i s → ∃ r, F r ∧ tlp B f (enc i s) = r := by
  intro d
  induction d with
  | zero =>
    intro i f s hi hf hI
    obtain ⟨f, rfl⟩ : ∃ k, f = k + 1 := ⟨f - 1, by omega⟩
    rw [Nat.add_zero] at hi
    subst hi
    obtain ⟨r, r1, r2⟩ := h2 s hI
    exact ⟨r, r1, by rw [tlp_succ, r2]⟩
  | succ d ih =>
    intro i f s hi hf hI
    obtain ⟨f, rfl⟩ : ∃ k, f = k + 1 := ⟨f - 1, by omega⟩
    obtain ⟨s', e, hI'⟩ := h1 i s (by omega) hI
    obtain ⟨r, r1, r2⟩ := ih (i + 1) f s' (by omega) (by omega) hI'
    exact ⟨r, r1, by rw [tlp_succ, e, r2]⟩
theorem PkI_sub {I' I : List Int} (hs : I'.Sublist I) : (∀ b ∈ I, 0 ≤ b) → ∀ {len : Nat → Int} {ok : Nat → Prop}, PkI I len ok → PkI I' len ok := by
  induction hs with
  | slnil => intro _ len ok h; exact h
  | cons a _ ih =>
    intro hb len ok h
    exact ih (fun b hb' => hb b (by simp [hb'])) (PkI_tail (hb a (by simp)) h)
  | cons_cons a _ ih =>
    rintro hb len ok ⟨j, h1, h2⟩
    exact ⟨j, h1, ih (fun b hb' => hb b (by simp [hb'])) h2⟩
theorem movS_nat (h : Ob) : ∃ M : Nat, movS h = (M : Int) ∧ M < 256 ∧ ∀ i : Nat, i < 8 → M.testBit i = mov h (i : Int) := by
  obtain ⟨a, a1, a2, a3⟩ := set_fold (fun i => mov h (i : Int)) 8 (by omega)
  exact ⟨a, by rw [movS_e]; exact a1, a2, a3⟩
theorem goS_nat {T : Int} {h : Ob} (hH : HI T h) : ∃ G : Nat, goS h = (G : Int) ∧ G < 256 ∧ ∀ i : Nat, i < 8 → G.testBit i = (mov h (i : Int) && inS (h 0 8) (i : Int)) := by
  obtain ⟨M, m1, m2, m3⟩ := movS_nat h
  obtain ⟨p1, p2⟩ := hH.2.2.2.2.2.2
  obtain ⟨P, hP⟩ : ∃ P : Nat, h 0 8 = (P : Int) := ⟨(h 0 8).toNat, by omega⟩
  refine ⟨M &&& P, ?_, Nat.lt_of_le_of_lt Nat.and_le_left m2, fun i hi => ?_⟩
  · unfold goS
    rw [m1, hP, xand_nat (by omega) (by omega)]
  · rw [Nat.testBit_and, m3 i hi, hP, inS_nat (by omega) hi]
theorem nat_ext8 {a b : Nat} (ha : a < 256) (hb : b < 256) (h : ∀ i, i < 8 → a.testBit i = b.testBit i) : a = b := by
  apply Nat.eq_of_testBit_eq
  intro i
  by_cases hi : i < 8
  · exact h i hi
  · have h8 : 2 ^ 8 ≤ 2 ^ i := Nat.pow_le_pow_right (by decide) (by omega)
    have h9 : (2 : Nat) ^ 8 = 256 := by decide
    rw [Nat.testBit_lt_two_pow (show a < 2 ^ i by omega), Nat.testBit_lt_two_pow (show b < 2 ^ i by omega)]
theorem sub_test {s g : Nat} (hs : s < 256) (hg : g < 256) : xw (xand (s : Int) (xxor (g : Int) (-1))) = 0 ↔ s &&& g = s := by
  have h1 := sub_xor s (s &&& g) (by rw [Nat.and_comm s g, Nat.and_assoc, Nat.and_self])
  have h2 : s ^^^ (s &&& g) < 256 := Nat.xor_lt_two_pow (n := 8) hs (Nat.lt_of_le_of_lt Nat.and_le_left hs)
  rw [xnot_nat (by omega) (by omega), xw_nat (by omega), ← h1.2]
  omega
theorem not_set {s : Nat} (hs : s < 256) : ∃ s' : Nat, xand 255 (xxor (s : Int) (-1)) = (s' : Int) ∧ s' < 256 ∧ ∀ i, i < 8 → s'.testBit i = !s.testBit i := by
  refine ⟨255 ^^^ (255 &&& s), ?_, ?_, fun i hi => ?_⟩
  · rw [show (255 : Int) = ((255 : Nat) : Int) from rfl, xnot_nat (by omega) (by omega)]
  · exact Nat.xor_lt_two_pow (n := 8) (by decide) (Nat.lt_of_le_of_lt Nat.and_le_left (by decide))
  · have h255 : Nat.testBit 255 i = true := full_bit (c := 8) hi
    rw [Nat.testBit_xor, Nat.testBit_and, h255]
    cases s.testBit i <;> rfl
theorem bcn_bd (s : Int) : 0 ≤ bcn s ∧ bcn s ≤ 8 := by
  rw [bcn_e]
  have hl : ((List.range 8).filter (fun (i : Nat) => inS s (i : Int))).length ≤ 8 := List.length_filter_le _ _
  omega
/-- the fewest: by number, then by the set's own value -/
def FB (Q : Nat → Prop) (v : Int) : Prop := (v = -2 ∧ ∀ s, ¬ Q s) ∨ ∃ b : Nat, v = (b : Int) ∧ Q b ∧ ∀ s, Q s → bcn (b : Int) < bcn (s : Int) ∨ (bcn (b : Int) = bcn (s : Int) ∧ b ≤ s)
def Wk (h : Ob) (n : Int) (s : Nat) : Prop := PkI (n :: its h (xand (movS h) (xxor (s : Int) (-1)))) (glen (rnl h (movS h) (h 0 10))) (fun j => j < (rnl h (movS h) (h 0 10)).length)
theorem Wk_mono {h : Ob} (hL : LW h) {n : Int} (hn : 0 ≤ n) {s t : Nat} (hs : s < 256) (ht : t < 256) (hst : s &&& t = s) (hw : Wk h n s) : Wk h n t := by
  refine PkI_sub (I := n :: its h (xand (movS h) (xxor (s : Int) (-1)))) ?_ (fun b hb => ?_) hw
  · refine List.Sublist.cons_cons n ?_
    unfold its
    refine List.Sublist.map _ ?_
    have e : (List.range 8).filter (fun (i : Nat) => inS (xand (movS h) (xxor (t : Int) (-1))) (i : Int)) = ((List.range 8).filter (fun (i : Nat) => inS (xand (movS h) (xxor (s : Int) (-1))) (i : Int))).filter (fun (i : Nat) => !t.testBit i) := by
      rw [List.filter_filter]
      refine List.filter_congr (fun i hi => ?_)
      have hi := List.mem_range.mp hi
      rw [inS_and _ _ hi, inS_not _ hi, inS_nat (show t < 2147483648 by omega) hi, inS_and _ _ hi, inS_not _ hi, inS_nat (show s < 2147483648 by omega) hi]
      have hb : (s &&& t).testBit i = s.testBit i := by rw [hst]
      rw [Nat.testBit_and] at hb
      cases h1 : s.testBit i <;> cases h2 : t.testBit i <;> simp [h1, h2] at hb ⊢
    rw [e]
    exact List.filter_sublist
  · rcases List.mem_cons.mp hb with hb | hb
    · rw [hb]; exact hn
    · have := its_mem hL _ b hb
      omega
theorem r_fewest {T : Int} {h m : Ob} (hH : HI T h) (hR : Rel h (m 1)) {p1 p2 : Int} (hp1 : xw p1 = p1) (a1 : 1 ≤ p1 ∧ p1 ≤ 199) (a2 : p2 = 0 ∨ p2 = 1) {G : Nat} (hG : G < 256) (hGb : ∀ i : Nat, i < 8 → G.testBit i = (mov h (i : Int) && inS (h 0 8) (i : Int))) :
    ∃ v m', FB (fun s => s &&& G = s ∧ Wk h (p1 + 1) s) v ∧ md_X8_fewest_0 p1 p2 xfu m = RI (if v < 0 then -2 else if p2 = 0 then bcn v else v) [m'] ∧ m' 1 = m 1 ∧ m' 3 = m 3 ∧ m' 0 3 = m 0 3 ∧ m' 0 4 = m 0 4 := by
  have hL := hH.1
  have hf := xfu_ge (n := 5000) (by decide)
  have hp2 : xw p2 = p2 := by rcases a2 with rfl | rfl <;> decide
  have x1 : xlr p1 = true := by rw [← hp1]; exact xlr_xw
  have x2 : xlr p2 = true := by rw [← hp2]; exact xlr_xw
  have hin1 : inn p1 1 199 = true := by rw [inn_e]; exact decide_eq_true a1
  have hin2 : inn p2 0 1 = true := by rw [inn_e]; exact decide_eq_true (by omega)
  -- those that can go
  obtain ⟨may, ⟨q1, q2⟩, q3⟩ := loop_ex (B := lb_X8_fewest_29 p1 p2 xfu) 8 (fun (q : Nat) => md_X8_fewest_69 p1 p2 xfu ((q : Int), -2, 0, m)) (fun i (q : Nat) => ((q : Int), (i : Int), m)) (fun i (q : Nat) => q < 2 ^ i ∧ ∀ j : Nat, j < i → q.testBit j = (mov h (j : Int) && inS (h 0 8) (j : Int))) (fun i q hi hI => by
      obtain ⟨k1, k2⟩ := hI
      have hcg := cgo_eq hH hR hi
      have h256 : (2 : Nat) ^ i ≤ 2 ^ 7 := Nat.pow_le_pow_right (by decide) (by omega)
      have h256' : (2 : Nat) ^ 7 = 128 := by decide
      have hpp : (2 : Nat) ^ (i + 1) = 2 ^ i + 2 ^ i := by rw [Nat.pow_succ]; omega
      cases hg : (mov h (i : Int) && inS (h 0 8) (i : Int)) with
      | false =>
        rw [hg] at hcg
        refine ⟨q, fun k => ?_, by omega, fun j hj => ?_⟩
        · have h0 : xor_ (q : Int) 0 = (q : Int) := by rw [show (0 : Int) = ((0 : Nat) : Int) from rfl, xor_nat (by omega) (by omega), Nat.or_zero]
          simp only [lb_X8_fewest_29, mg_X8_fewest_29, md_X8_fewest_54, mg_X8_fewest_54, xw_nat (show i < 2147483648 by omega), hcg, bz_0, if_true, h0]
          rw [if_neg (show ¬ (i : Int) ≥ 8 by omega)]
          rfl
        · by_cases hji : j = i
          · subst hji
            rw [hg]
            exact Nat.testBit_lt_two_pow k1
          · exact k2 j (by omega)
      | true =>
        rw [hg] at hcg
        refine ⟨q ||| 2 ^ i, fun k => ?_, Nat.or_lt_two_pow (by omega) (by omega), fun j hj => ?_⟩
        · have h0 : xor_ (q : Int) (xshl 1 (i : Int)) = ((q ||| 2 ^ i : Nat) : Int) := by rw [xshl_1 i (by omega), xor_nat (by omega) (by omega)]
          simp only [lb_X8_fewest_29, mg_X8_fewest_29, md_X8_fewest_54, mg_X8_fewest_54, xw_nat (show i < 2147483648 by omega), hcg, bz_0, Bool.true_eq_false, if_false, h0]
          rw [if_neg (show ¬ (i : Int) ≥ 8 by omega)]
          rfl
        · rw [Nat.testBit_or]
          by_cases hji : j = i
          · subst hji
            rw [Nat.testBit_two_pow_self, hg, Bool.or_true]
          · rw [Nat.testBit_two_pow_of_ne (Ne.symm hji), Bool.or_false]
            exact k2 j (by omega)) (fun k q hI => by
      simp only [lb_X8_fewest_29, mg_X8_fewest_29]
      rw [if_pos (show xw ((8 : Nat) : Int) ≥ 8 by decide)]) 8 0 xfu 0 (by omega) (by omega) ⟨by decide, fun j hj => by omega⟩
  have hmay : may = G := nat_ext8 q1 hG (fun i hi => by rw [q2 i hi, hGb i hi])
  subst hmay
  -- the sets
  obtain ⟨⟨v, mm⟩, ⟨g1, g2, g3⟩, g4⟩ := loop_ex (B := lb_X8_fewest_69 p1 p2 xfu) (may + 1) (fun (q : Int × Ob) => RI (if q.1 < 0 then -2 else if p2 = 0 then bcn q.1 else q.1) [q.2]) (fun s (q : Int × Ob) => ((may : Int), q.1, (s : Int), q.2)) (fun s (q : Int × Ob) => (q.2 1 = m 1 ∧ q.2 3 = m 3 ∧ q.2 0 3 = m 0 3 ∧ q.2 0 4 = m 0 4) ∧ (-2 ≤ q.1 ∧ q.1 < 256) ∧ FB (fun t => t < s ∧ t &&& may = t ∧ Wk h (p1 + 1) t) q.1) (fun s q hs hI => by
      obtain ⟨best, mm⟩ := q
      obtain ⟨⟨k1, k1', k1'', k1'''⟩, k2, k3⟩ := hI
      dsimp only at k1 k1' k1'' k1''' k2 k3
      have hxs : xw (s : Int) = s := xw_nat (by omega)
      have hxm : xw (may : Int) = may := xw_nat (by omega)
      have hxb : xw best = best := xw_id (by omega) (by omega)
      have hb1 := bcn_bd best
      have hb2 := bcn_bd (s : Int)
      -- the set is no better
      have keep : ¬ (s &&& may = s ∧ Wk h (p1 + 1) s) ∨ (0 ≤ best ∧ bcn best ≤ bcn (s : Int)) → FB (fun t => t < s + 1 ∧ t &&& may = t ∧ Wk h (p1 + 1) t) best := by
        intro hk
        rcases k3 with ⟨e, k3⟩ | ⟨b, e, ⟨b1, b2⟩, b3⟩
        · refine Or.inl ⟨e, fun t ht => ?_⟩
          by_cases hts : t = s
          · subst hts
            rcases hk with hk | hk
            · exact hk ht.2
            · omega
          · exact k3 t ⟨by omega, ht.2⟩
        · refine Or.inr ⟨b, e, ⟨by omega, b2⟩, fun t ht => ?_⟩
          by_cases hts : t = s
          · subst hts
            rcases hk with hk | hk
            · exact absurd ht.2 hk
            · rw [e] at hk
              have := hk.2
              omega
          · exact b3 t ⟨by omega, ht.2⟩
      have better : s &&& may = s ∧ Wk h (p1 + 1) s → (best < 0 ∨ bcn (s : Int) < bcn best) → FB (fun t => t < s + 1 ∧ t &&& may = t ∧ Wk h (p1 + 1) t) (s : Int) := by
        intro hs' hb
        refine Or.inr ⟨s, rfl, ⟨by omega, hs'⟩, fun t ht => ?_⟩
        by_cases hts : t = s
        · subst hts; exact Or.inr ⟨rfl, Nat.le_refl _⟩
        · left
          rcases k3 with ⟨e, k3⟩ | ⟨b, e, ⟨b1, b2⟩, b3⟩
          · exact absurd ⟨by omega, ht.2⟩ (k3 t)
          · have := b3 t ⟨by omega, ht.2⟩
            rw [e] at hb
            omega
      by_cases hsub : s &&& may = s
      · have hst := (sub_test (show s < 256 by omega) hG).mpr hsub
        -- it is tried
        have tried : (best < 0 ∨ bcn (s : Int) < bcn best) → ∃ q' : Int × Ob, (∀ k, md_X8_fewest_102 p1 p2 xfu k ((may : Int), best, (s : Int), mm) = k ((may : Int), q'.1, ((s + 1 : Nat) : Int), q'.2)) ∧ (q'.2 1 = m 1 ∧ q'.2 3 = m 3 ∧ q'.2 0 3 = m 0 3 ∧ q'.2 0 4 = m 0 4) ∧ (-2 ≤ q'.1 ∧ q'.1 < 256) ∧ FB (fun t => t < s + 1 ∧ t &&& may = t ∧ Wk h (p1 + 1) t) q'.1 := by
          intro hb
          obtain ⟨s', t1, t2, t3⟩ := not_set (show s < 256 by omega)
          obtain ⟨v, m4, u1, u2, u3, u4, u5, u6, u7, u8, u9⟩ := r_mostThen (m := mm) hH (by rw [k1]; exact hR) t2 (w := xand (movS h) (xxor (s : Int) (-1))) (fun i hi => by rw [inS_and _ _ hi, inS_not _ hi, inS_nat (show s < 2147483648 by omega) hi, movS_in h (by omega), t3 i hi])
          have hW := u4 (p1 + 1) (by omega)
          have hxv : xw v = v := xw_id (by omega) (by omega)
          have hxp : xw (p1 + 1) = p1 + 1 := xw_id (by omega) (by omega)
          by_cases hv : p1 + 1 ≤ v
          · refine ⟨((s : Int), m4), fun k => ?_, ⟨by rw [← k1]; exact u5, by rw [← k1']; exact u7, by rw [← k1'']; exact u8, by rw [← k1''']; exact u9⟩, ⟨by show -2 ≤ (s : Int); omega, by show (s : Int) < 256; omega⟩, better ⟨hsub, hW.mp hv⟩ hb⟩
            simp only [md_X8_fewest_102, mg_X8_fewest_102, md_X8_fewest_127, mg_X8_fewest_127, t1, u1, oqI_t, oqR_I, oqO_I, if_true, hxv, hxp]
            rw [if_pos (show v ≥ p1 + 1 by omega)]
            rfl
          · refine ⟨(best, m4), fun k => ?_, ⟨by rw [← k1]; exact u5, by rw [← k1']; exact u7, by rw [← k1'']; exact u8, by rw [← k1''']; exact u9⟩, k2, keep (Or.inl (fun z => hv (hW.mpr z.2)))⟩
            simp only [md_X8_fewest_102, mg_X8_fewest_102, md_X8_fewest_127, mg_X8_fewest_127, t1, u1, oqI_t, oqR_I, oqO_I, if_true, hxv, hxp]
            rw [if_neg (show ¬ v ≥ p1 + 1 by omega)]
            rfl
        by_cases hneg : best < 0
        · obtain ⟨q', w1, w2⟩ := tried (Or.inl hneg)
          refine ⟨q', fun k => ?_, w2⟩
          simp only [lb_X8_fewest_69, mg_X8_fewest_69, hxs, hxm, hst, if_true, hxb]
          rw [if_neg (show ¬ (s : Int) > (may : Int) by omega), if_pos hneg]
          exact w1 k
        · have hd1 : decide (0 ≤ (s : Int) ∧ (s : Int) < 256) = true := decide_eq_true (by omega)
          have hd2 : decide (0 ≤ best ∧ best < 256) = true := decide_eq_true (by omega)
          by_cases hge : bcn (s : Int) ≥ bcn best
          · refine ⟨(best, mm), fun k => ?_, ⟨k1, k1', k1'', k1'''⟩, k2, keep (Or.inr ⟨by omega, hge⟩)⟩
            simp only [lb_X8_fewest_69, mg_X8_fewest_69, md_X8_fewest_127, mg_X8_fewest_127, hxs, hxm, hst, if_true, hxb, hd1, hd2, xw_id (x := bcn (s : Int)) (by omega) (by omega), xw_id (x := bcn best) (by omega) (by omega)]
            rw [if_neg (show ¬ (s : Int) > (may : Int) by omega), if_neg hneg, if_pos hge]
            rfl
          · obtain ⟨q', w1, w2⟩ := tried (Or.inr (by omega))
            refine ⟨q', fun k => ?_, w2⟩
            simp only [lb_X8_fewest_69, mg_X8_fewest_69, hxs, hxm, hst, if_true, hxb, hd1, hd2, xw_id (x := bcn (s : Int)) (by omega) (by omega), xw_id (x := bcn best) (by omega) (by omega)]
            rw [if_neg (show ¬ (s : Int) > (may : Int) by omega), if_neg hneg, if_neg hge]
            exact w1 k
      · have hst : ¬ xw (xand (s : Int) (xxor (may : Int) (-1))) = 0 := fun z => hsub ((sub_test (show s < 256 by omega) hG).mp z)
        refine ⟨(best, mm), fun k => ?_, ⟨k1, k1', k1'', k1'''⟩, k2, keep (Or.inl (fun z => hsub z.1))⟩
        show (if xw (s : Int) > xw (may : Int) then _ else if xw (xand (s : Int) (xxor (may : Int) (-1))) = 0 then _ else md_X8_fewest_127 p1 p2 xfu k ((may : Int), best, (s : Int), mm)) = _
        rw [if_neg (show ¬ xw (s : Int) > xw (may : Int) by omega), if_neg hst]
        rfl) (fun k q hI => by
      obtain ⟨-, k2, -⟩ := hI
      simp only [lb_X8_fewest_69, mg_X8_fewest_69, xw_nat (show may + 1 < 2147483648 by omega), xw_nat (show may < 2147483648 by omega), hp2, xw_id (x := q.1) (by omega) (by omega)]
      rw [if_pos (show ((may + 1 : Nat) : Int) > (may : Int) by omega)]
      by_cases hneg : q.1 < 0
      · rw [if_neg (show ¬ q.1 ≥ 0 by omega), if_pos hneg]
      · rw [if_pos (show q.1 ≥ 0 by omega), if_neg hneg, decide_eq_true (show 0 ≤ q.1 ∧ q.1 < 256 by omega), if_pos rfl]
        split <;> rfl) (may + 1) 0 xfu (-2, m) (by omega) (by omega) ⟨⟨rfl, rfl, rfl, rfl⟩, ⟨Int.le_refl _, by show (-2 : Int) < 256; omega⟩, Or.inl ⟨rfl, fun t ht => by omega⟩⟩
  dsimp only at g1 g2 g3 g4
  refine ⟨v, mm, ?_, ?_, g1⟩
  · have hiff : ∀ t, (t < may + 1 ∧ t &&& may = t ∧ Wk h (p1 + 1) t) ↔ (t &&& may = t ∧ Wk h (p1 + 1) t) := fun t => ⟨fun z => z.2, fun z => ⟨by have := (sub_xor may t z.1).1; omega, z⟩⟩
    have : (fun t => t < may + 1 ∧ t &&& may = t ∧ Wk h (p1 + 1) t) = (fun t => t &&& may = t ∧ Wk h (p1 + 1) t) := funext fun t => propext (hiff t)
    rw [← this]
    exact g3
  · simp only [md_X8_fewest_0, mg_X8_fewest_0, hp1, hp2, x1, x2, xlr_s (p := 0) (by decide) (by decide), xlr_s (p := 1) (by decide) (by decide), xlr_s (p := 199) (by decide) (by decide), Bool.and_self, if_true, hin1, hin2, bz_0, Bool.true_eq_false, if_false]
    have st : md_X8_fewest_29 p1 p2 xfu (0, 0, m) = tlp (lb_X8_fewest_29 p1 p2 xfu) xfu (((0 : Nat) : Int), ((0 : Nat) : Int), m) := rfl
    rw [st, q3]
    have st2 : md_X8_fewest_69 p1 p2 xfu ((may : Int), -2, 0, m) = tlp (lb_X8_fewest_69 p1 p2 xfu) xfu ((may : Int), -2, ((0 : Nat) : Int), m) := rfl
    rw [st2, g4]
