theorem ifc {α : Type} {p q : Prop} [Decidable p] [Decidable q] (h : p ↔ q) (a b : α) : (if p then a else b) = if q then a else b := by
  by_cases hp : p
  · rw [if_pos hp, if_pos (h.mp hp)]
  · rw [if_neg hp, if_neg (fun z => hp (h.mpr z))]
theorem LW_ext {h h' : Ob} (hL : LW h) (e9 : h' 0 9 = h 0 9) (e10 : h' 0 10 = h 0 10) (e1 : ∀ i, i < 11 → h' 1 i = h 1 i) (e2 : ∀ i, i < 11 → h' 2 i = h 2 i) (e4 : ∀ i, i < 8 → h' 4 i = h 4 i) : LW h' := by
  obtain ⟨z1, z2, z3, z4, z5, z6⟩ := hL
  refine ⟨by rw [e9]; exact z1, by rw [e9, e10]; exact z2, by rw [e10]; exact z3, fun i hi => ?_, fun i j hi hj hij => ?_, fun i hi => by rw [e4 i hi]; exact z6 i hi⟩
  · rw [e1 i hi, e2 i hi, e9]; exact z4 i hi
  · rw [e1 i hi, e2 i hi, e1 j hj, e2 j hj]; exact z5 i j hi hj hij
theorem LW_less {h : Ob} (hL : LW h) {b : Nat} {v : Int} (h1 : 1 ≤ v) (h2 : v ≤ h 2 b) : LW (xset h 2 b v) := by
  obtain ⟨z1, z2, z3, z4, z5, z6⟩ := hL
  have p2 : ∀ i, xset h 2 b v 2 i = if i = b then v else h 2 i := fun i => by
    by_cases hi : i = b
    · rw [if_pos hi, hi, xset_same]
    · rw [if_neg hi, xset_idx _ _ _ _ hi]
  refine ⟨z1, z2, z3, fun i hi => ?_, fun i j hi hj hij hpi hpj => ?_, z6⟩
  · have hz := z4 i hi
    show 0 ≤ xset h 2 b v 2 i ∧ xset h 2 b v 2 i ≤ 60 ∧ (h 1 i = -1 ∨ (0 ≤ h 1 i ∧ 1 ≤ xset h 2 b v 2 i ∧ h 1 i + xset h 2 b v 2 i + 1 ≤ h 0 9))
    rw [p2 i]
    by_cases hib : i = b
    · subst hib; rw [if_pos rfl]; omega
    · rw [if_neg hib]; exact hz
  · have hz := z5 i j hi hj hij hpi hpj
    show h 1 i + xset h 2 b v 2 i + 1 ≤ h 1 j ∨ h 1 j + xset h 2 b v 2 j + 1 ≤ h 1 i
    rw [p2 i, p2 j]
    by_cases hib : i = b
    · subst hib
      rw [if_pos rfl, if_neg (Ne.symm hij)]
      omega
    · rw [if_neg hib]
      by_cases hjb : j = b
      · subst hjb; rw [if_pos rfl]; omega
      · rw [if_neg hjb]; exact hz
theorem Ch_sq {T : Int} {h : Ob} {q : Nat → Int} {i : Nat} (hi : i < 8) (hH : HI T h) (hR : Rel h q) (hu : inS (h 0 7) (i : Int) = true) : HI T (xset h 2 i (h 5 i)) ∧ Rel (xset h 2 i (h 5 i)) (fun k => if k = 21 + i then h 5 i else q k) := by
  have hr := hR.2.1 i hi
  have hb := hH.2.1 i hi
  have hb1 := hb.1 hu
  refine Ch hi hH hR (fun k _ _ => rfl) (fun j _ hji => ⟨rfl, xne hji⟩) (fun j hj hji => ⟨rfl, rfl, rfl, rfl, rfl, rfl⟩) rfl (fun k _ hk => ?_) (LW_less hH.1 hb1.2.1 hb1.2.2.1) ?_ (fun hne => ⟨hne, ?_⟩) ⟨fun _ => ?_, hb.2⟩ hH.2.2.2.2.2.1 hH.2.2.2.2.2.2
  · (try dsimp only); rw [if_neg hk.2.2.1]
  · unfold RelH at hr ⊢
    (try dsimp only)
    rw [if_neg (by omega), if_neg (by omega), if_pos rfl, if_neg (by omega), if_neg (by omega), if_neg (by omega), if_neg (by omega), if_neg (by omega)]
    refine ⟨hr.1, hr.2.1, fun hu => ?_⟩
    obtain ⟨a, b, c, d, e⟩ := hr.2.2 hu
    exact ⟨xeq.symm, b, c, d, e⟩
  · rw [show xset h 2 i (h 5 i) 2 i = h 5 i from xeq]; exact hb1.2.2.1
  · rw [show xset h 2 i (h 5 i) 2 i = h 5 i from xeq]
    show 1 ≤ h 5 i ∧ 1 ≤ h 5 i ∧ h 5 i ≤ h 5 i ∧ 0 ≤ h 6 i ∧ h 6 i ≤ 9 ∧ 0 ≤ h 7 i ∧ h 7 i ≤ h 0 11
    omega
def sqf (h : Ob) (n : Nat) : Ob := (List.range n).foldl (fun (g : Ob) (i : Nat) => if mov g (i : Int) then xset g 2 i (g 5 i) else g) h
theorem sqf_succ (h : Ob) (n : Nat) : sqf h (n + 1) = if mov (sqf h n) (n : Int) then xset (sqf h n) 2 n (sqf h n 5 n) else sqf h n := by
  unfold sqf
  rw [List.range_succ, List.foldl_append]
  rfl
theorem sqf_off (h : Ob) : ∀ (n j k : Nat), j ≠ 2 → sqf h n j k = h j k
  | 0, j, k, _ => rfl
  | n + 1, j, k, hj => by
    rw [sqf_succ]
    split
    · rw [xset_part _ _ _ _ hj, sqf_off h n j k hj]
    · exact sqf_off h n j k hj
theorem mov_off {h h' : Ob} (e1 : ∀ i, i < 8 → h' 1 i = h 1 i) (e4 : ∀ i, i < 8 → h' 4 i = h 4 i) {i : Nat} (hi : i < 8) : mov h' (i : Int) = mov h (i : Int) := by
  unfold mov ful
  rw [hdl_nat hi, xw_nat (by omega), toNat_nat, e1 i hi, e4 i hi]
theorem sqf_2 (h : Ob) : ∀ (n : Nat), n ≤ 8 → ∀ k, sqf h n 2 k = if k < n ∧ mov h (k : Int) = true then h 5 k else h 2 k
  | 0, _, k => by rw [if_neg (fun z => Nat.not_lt_zero _ z.1)]; rfl
  | n + 1, hn, k => by
    have ih := sqf_2 h n (by omega) k
    have hm : mov (sqf h n) (n : Int) = mov h (n : Int) := mov_off (fun i _ => sqf_off h n 1 i (by decide)) (fun i _ => sqf_off h n 4 i (by decide)) (by omega)
    rw [sqf_succ, hm, sqf_off h n 5 n (by decide)]
    by_cases hkn : k = n
    · subst hkn
      rw [if_neg (fun z => Nat.lt_irrefl _ z.1)] at ih
      cases hmm : mov h (k : Int) with
      | true =>
        rw [if_pos rfl, xset_same, if_pos ⟨by omega, rfl⟩]
      | false =>
        rw [if_neg (by simp), ih, if_neg (by simp)]
    · have e : (k < n + 1 ∧ mov h (k : Int) = true) ↔ (k < n ∧ mov h (k : Int) = true) := by
        constructor
        · rintro ⟨a, b⟩; exact ⟨by omega, b⟩
        · rintro ⟨a, b⟩; exact ⟨by omega, b⟩
      rw [ifc e]
      split
      · rw [xset_idx _ _ _ _ hkn, ih]
      · exact ih
theorem movS_off {h h' : Ob} (e1 : ∀ i, i < 8 → h' 1 i = h 1 i) (e4 : ∀ i, i < 8 → h' 4 i = h 4 i) : movS h' = movS h := by
  have hm : ∀ a : Int, mov h' a = mov h a := fun a => by
    unfold mov ful
    cases hh : hdl a with
    | false => rw [Bool.false_and, Bool.false_and, Bool.false_and, Bool.false_and]
    | true =>
      have h8 := hdl_iff.mp hh
      rw [e1 _ (show (xw a).toNat < 8 by omega), e4 _ (show (xw a).toNat < 8 by omega)]
  rw [movS_e, movS_e]
  unfold movSI
  simp only [hm]
/-- the gaps of a heap whose movable blocks became less -/
theorem rnl_sq {h h' : Ob} (hL : LW h) (hL' : LW h') (e9 : h' 0 9 = h 0 9) (e1 : ∀ i, i < 11 → h' 1 i = h 1 i) (e4 : ∀ i, i < 8 → h' 4 i = h 4 i) (e2 : ∀ i : Nat, i < 11 → mov h (i : Int) = false → h' 2 i = h 2 i) {e : Int} (he1 : h 0 9 ≤ e) (he : e ≤ 200) : rnl h' (movS h') e = rnl h (movS h) e := by
  rw [movS_off (fun i hi => e1 i (by omega)) e4]
  have m1 := hL.mr (s := movS h) (e := e) he1 he
  have m2 := hL'.mr (s := movS h) (e := e) (by rw [e9]; exact he1) he
  refine MR_uniq (MR_cong (fun c _ _ => ⟨fun z i hi hcv => ?_, fun z i hi hcv => ?_⟩) m2) m1
  · cases hm : mov h (i : Int) with
    | true => rw [movS_in h hi]; exact hm
    | false =>
      refine z i hi ?_
      unfold cvd at hcv ⊢
      rw [e1 i hi, e2 i hi hm]; exact hcv
  · cases hm : mov h (i : Int) with
    | true => rw [movS_in h hi]; exact hm
    | false =>
      refine z i hi ?_
      unfold cvd at hcv ⊢
      rw [← e1 i hi, ← e2 i hi hm]; exact hcv
theorem sqz_e (m : Ob) {i : Nat} (hi : i < 8) : ov_X8_squeezes (i : Int) m = RV [xset m 1 (21 + i) (m 1 (37 + i))] := by
  rw [ov_X8_squeezes_e]
  obtain ⟨x1, x2⟩ := ixn (c := 21) 21 rfl (by decide) hi
  obtain ⟨x3, x4⟩ := ixn (c := 37) 37 rfl (by decide) hi
  simp only [md_X8_squeezes_0, mg_X8_squeezes_0, x1, x2, x3, x4, if_true, toNat_nat]
theorem bit_off {s i : Nat} (hs : s < 256) (hi : i < 8) : ∃ s' : Nat, xand (s : Int) (xxor (xshl 1 (i : Int)) (-1)) = (s' : Int) ∧ s' < 256 ∧ ∀ j, j < 8 → s'.testBit j = (s.testBit j && !decide (j = i)) := by
  have h2 : 2 ^ i ≤ 128 := Nat.le_trans (Nat.pow_le_pow_right (by decide) (show i ≤ 7 by omega)) (by decide)
  refine ⟨s ^^^ (s &&& 2 ^ i), ?_, ?_, fun j hj => ?_⟩
  · rw [xshl_1 i (by omega), xnot_nat (by omega) (by omega)]
  · exact Nat.xor_lt_two_pow (n := 8) hs (Nat.lt_of_le_of_lt Nat.and_le_left hs)
  · rw [Nat.testBit_xor, Nat.testBit_and, Nat.testBit_two_pow]
    by_cases hji : j = i
    · subst hji
      cases s.testBit j <;> simp
    · have : ¬ i = j := fun z => hji z.symm
      cases s.testBit j <;> simp [hji, this]
theorem goS_in (h : Ob) {i : Nat} (hi : i < 8) : inS (goS h) (i : Int) = (mov h (i : Int) && inS (h 0 8) (i : Int)) := by
  unfold goS
  rw [inS_and _ _ hi, movS_in h (by omega)]
/-- the reference's greatest: as far as the most cells left -/
theorem r_great {T : Int} {h m : Ob} (hH : HI T h) (hR : Rel h (m 1)) {p : Int} (hp : p = 0 ∨ p = 1 ∨ p = 2) : ∃ (H : Ob) (v : Int) (m' : Ob), md_X8_greatest_0 p xfu m = RI (if v - 1 ≤ 0 then 0 else v - 1) [m'] ∧ -1 ≤ v ∧ v ≤ 200 ∧ HI T H ∧ (∀ j k, j ≠ 2 → H j k = h j k) ∧ (∀ k, H 2 k = if 1 ≤ p ∧ k < 8 ∧ mov h (k : Int) = true then h 5 k else h 2 k) ∧
    (∀ n : Int, 0 ≤ n → (n ≤ v ↔ PkI (n :: its H (if p = 2 then xand (movS h) (xxor (goS h) (-1)) else movS h)) (glen (rnl h (movS h) (h 0 10))) (fun j => j < (rnl h (movS h) (h 0 10)).length))) ∧ Rel h (m' 1) ∧ m' 3 = m 3 ∧ m' 0 3 = m 0 3 ∧ m' 0 4 = m 0 4 := by
  have hL := hH.1
  obtain ⟨z1, z2, z3, z4, -⟩ := id hL
  have hf := xfu_ge (n := 5000) (by decide)
  have hpw : xw p = p := by rcases hp with rfl | rfl | rfl <;> decide
  have x1 : xlr p = true := by rw [← hpw]; exact xlr_xw
  have hin : inn p 0 2 = true := by rw [inn_e]; exact decide_eq_true (by omega)
  -- the squeezing
  have sq : ∃ (H m2 : Ob), HI T H ∧ Rel H (m2 1) ∧ (∀ j k, j ≠ 2 → H j k = h j k) ∧ (∀ k, H 2 k = if 1 ≤ p ∧ k < 8 ∧ mov h (k : Int) = true then h 5 k else h 2 k) ∧ (∀ j, j ≠ 1 → m2 j = ksO m j) ∧ md_X8_greatest_24 p xfu (255, 0, ksO m) = md_X8_greatest_55 p xfu (255, 0, m2) := by
    by_cases hp0 : p = 0
    · subst hp0
      refine ⟨h, ksO m, hH, hR, fun _ _ _ => rfl, fun k => by rw [if_neg (by omega)], fun _ _ => rfl, ?_⟩
      have e1 : ∀ f : Nat, 0 < f → tlp (lb_X8_greatest_24 0 xfu) f (255, 0, ksO m) = md_X8_greatest_55 0 xfu (255, 0, ksO m) := fun f hf0 => by
        obtain ⟨f, rfl⟩ : ∃ k, f = k + 1 := ⟨f - 1, by omega⟩
        rw [tlp_succ]
        simp only [lb_X8_greatest_24, mg_X8_greatest_24]
        rw [if_neg (show ¬ xw 0 ≥ 8 by decide), if_pos (show xw 0 ≤ 0 by decide)]
        rfl
      exact e1 xfu (by omega)
    · obtain ⟨m2, ⟨q1, q2, q3⟩, q4⟩ := loop_ex (B := lb_X8_greatest_24 p xfu) 8 (fun (q : Ob) => md_X8_greatest_55 p xfu (255, 0, q)) (fun i (q : Ob) => (255, (i : Int), q)) (fun i (q : Ob) => HI T (sqf h i) ∧ Rel (sqf h i) (q 1) ∧ ∀ j, j ≠ 1 → q j = ksO m j) (fun i q hi hI => by
          obtain ⟨k1, k2, k3⟩ := hI
          have hgl := k1.1
          have hcb := cbl_eq k1 k2 hi
          rw [sqf_succ]
          cases hmv : mov (sqf h i) (i : Int) with
          | false =>
            rw [hmv, Bool.false_and] at hcb
            refine ⟨q, fun k => ?_, by rw [if_neg (by simp)]; exact k1, by rw [if_neg (by simp)]; exact k2, k3⟩
            simp only [lb_X8_greatest_24, mg_X8_greatest_24, md_X8_greatest_47, mg_X8_greatest_47, xw_nat (show i < 2147483648 by omega), hpw, hcb, bz_0, if_true]
            rw [if_neg (show ¬ (i : Int) ≥ 8 by omega), if_neg (show ¬ p ≤ 0 by omega)]
            rfl
          | true =>
            have hfl := mov_full hgl hi hmv
            have hu := (k2.use hi hfl).1
            have hb1 := (k1.2.1 i hi).1 hu
            have hz := hgl.2.2.2.1 i (by omega)
            obtain ⟨c1, c2⟩ := Ch_sq hi k1 k2 hu
            rw [hmv, Bool.true_and] at hcb
            rw [if_pos rfl]
            by_cases hlt : sqf h i 5 i < sqf h i 2 i
            · rw [xw_id (x := sqf h i 5 i) (by omega) (by omega), xw_id (x := sqf h i 2 i) (by omega) (by omega), decide_eq_true hlt] at hcb
              have e37 : q 1 (37 + i) = sqf h i 5 i := ((k2.2.1 i hi).2.2 hu).2.1
              refine ⟨xset q 1 (21 + i) (q 1 (37 + i)), fun k => ?_, c1, ?_, fun j hj => ?_⟩
              · simp only [lb_X8_greatest_24, mg_X8_greatest_24, md_X8_greatest_47, mg_X8_greatest_47, xw_nat (show i < 2147483648 by omega), hpw, hcb, bz_0, Bool.true_eq_false, if_false, sqz_e q hi, oqV_t, oqO_V, if_true]
                rw [if_neg (show ¬ (i : Int) ≥ 8 by omega), if_neg (show ¬ p ≤ 0 by omega)]
                rfl
              · refine Rel_cong c1.1 (fun k hk => ?_) c2
                rw [e37]
                by_cases hk21 : k = 21 + i
                · rw [if_pos hk21, hk21, xeq]
                · rw [if_neg hk21, xne hk21]
              · funext k
                rw [xset_part _ _ _ _ hj, k3 j hj]
            · have he : xset (sqf h i) 2 i (sqf h i 5 i) = sqf h i := by
                funext j k
                unfold xset
                by_cases hjk : j = 2 ∧ k = i
                · rw [if_pos hjk, hjk.1, hjk.2]; omega
                · rw [if_neg hjk]
              rw [he]
              rw [xw_id (x := sqf h i 5 i) (by omega) (by omega), xw_id (x := sqf h i 2 i) (by omega) (by omega), decide_eq_false hlt] at hcb
              refine ⟨q, fun k => ?_, k1, k2, k3⟩
              simp only [lb_X8_greatest_24, mg_X8_greatest_24, md_X8_greatest_47, mg_X8_greatest_47, xw_nat (show i < 2147483648 by omega), hpw, hcb, bz_0, if_true]
              rw [if_neg (show ¬ (i : Int) ≥ 8 by omega), if_neg (show ¬ p ≤ 0 by omega)]
              rfl) (fun k q hI => by
          simp only [lb_X8_greatest_24, mg_X8_greatest_24]
          rw [if_pos (by decide)]
          rfl) 8 0 xfu (ksO m) (by omega) (by omega) ⟨hH, hR, fun _ _ => rfl⟩
      refine ⟨sqf h 8, m2, q1, q2, fun j k hj => sqf_off h 8 j k hj, fun k => ?_, q3, q4⟩
      rw [sqf_2 h 8 (by omega) k]
      have e : (k < 8 ∧ mov h (k : Int) = true) ↔ (1 ≤ p ∧ k < 8 ∧ mov h (k : Int) = true) := ⟨fun z => ⟨by omega, z⟩, fun z => z.2⟩
      rw [ifc e]
  obtain ⟨H, m2, s1, s2, s3, s4, s5, s6⟩ := sq
  have hmv : ∀ i : Nat, i < 8 → mov H (i : Int) = mov h (i : Int) := fun i hi => mov_off (fun i _ => s3 1 i (by decide)) (fun i _ => s3 4 i (by decide)) hi
  -- the set
  obtain ⟨⟨st, m3⟩, ⟨g1, g2, g3⟩, g4⟩ := loop_ex (B := lb_X8_greatest_55 p xfu) 8 (fun (q : Nat × Ob) => mg_X8_greatest_55 p (fun _ => none) ((q.1 : Int), 8, q.2)) (fun i (q : Nat × Ob) => ((q.1 : Int), (i : Int), q.2)) (fun i (q : Nat × Ob) => q.2 = m2 ∧ q.1 < 256 ∧ ∀ j : Nat, j < 8 → q.1.testBit j = !(decide (j < i) && (decide (p = 2) && (mov h (j : Int) && inS (h 0 8) (j : Int))))) (fun i q hi hI => by
      obtain ⟨s, mm⟩ := q
      obtain ⟨k1, k2, k3⟩ := hI
      dsimp only at k1 k2 k3
      subst k1
      have hcg := cgo_eq s1 s2 hi
      rw [hmv i hi, s3 0 8 (by decide)] at hcg
      by_cases hp2 : p = 2
      · cases hg : (mov h (i : Int) && inS (h 0 8) (i : Int)) with
        | false =>
          rw [hg] at hcg
          refine ⟨(s, mm), fun k => ?_, rfl, k2, fun j hj => ?_⟩
          · simp only [lb_X8_greatest_55, mg_X8_greatest_55, md_X8_greatest_82, mg_X8_greatest_82, xw_nat (show i < 2147483648 by omega), hpw, hcg, bz_0, if_true]
            rw [if_neg (show ¬ (i : Int) ≥ 8 by omega), if_pos hp2]
            rfl
          · rw [k3 j hj]
            by_cases hji : j = i
            · subst hji
              rw [hg]
              simp
            · have : (j < i + 1) = (j < i) := propext (by omega)
              simp only [this]
        | true =>
          rw [hg] at hcg
          obtain ⟨s', t1, t2, t3⟩ := bit_off k2 hi
          refine ⟨(s', mm), fun k => ?_, rfl, t2, fun j hj => ?_⟩
          · simp only [lb_X8_greatest_55, mg_X8_greatest_55, md_X8_greatest_82, mg_X8_greatest_82, xw_nat (show i < 2147483648 by omega), hpw, hcg, bz_0, if_true, Bool.true_eq_false, if_false, t1]
            rw [if_neg (show ¬ (i : Int) ≥ 8 by omega), if_pos hp2]
            rfl
          · show s'.testBit j = _
            rw [t3 j hj, k3 j hj]
            by_cases hji : j = i
            · subst hji
              rw [hg]
              simp [hp2]
            · have : (j < i + 1) = (j < i) := propext (by omega)
              simp only [this, hji, decide_false, Bool.not_false, Bool.and_true]
      · refine ⟨(s, mm), fun k => ?_, rfl, k2, fun j hj => ?_⟩
        · simp only [lb_X8_greatest_55, mg_X8_greatest_55, md_X8_greatest_82, mg_X8_greatest_82, xw_nat (show i < 2147483648 by omega), hpw]
          rw [if_neg (show ¬ (i : Int) ≥ 8 by omega), if_neg hp2]
          rfl
        · show s.testBit j = _
          rw [k3 j hj]
          simp [hp2]) (fun k q hI => by
      simp only [lb_X8_greatest_55, mg_X8_greatest_55]
      rw [if_pos (show xw ((8 : Nat) : Int) ≥ 8 by decide), if_pos (show xw (8 : Int) ≥ 8 by decide)]) 8 0 xfu (255, m2) (by omega) (by omega) ⟨rfl, (by show 255 < 256; decide), fun j hj => by
        show Nat.testBit 255 j = _
        rw [show (255 : Nat) = 2 ^ 8 - 1 from rfl, full_bit hj]
        simp⟩
  dsimp only at g1 g2 g3 g4
  subst g1
  have hw : ∀ i : Nat, i < 8 → inS (if p = 2 then xand (movS h) (xxor (goS h) (-1)) else movS h) (i : Int) = (mov H (i : Int) && st.testBit i) := fun i hi => by
    rw [g3 i hi, hmv i hi]
    by_cases hp2 : p = 2
    · rw [if_pos hp2, inS_and _ _ hi, inS_not _ hi, goS_in h hi, movS_in h (by omega)]
      simp [hp2, hi]
    · rw [if_neg hp2, movS_in h (by omega)]
      simp [hp2]
  obtain ⟨v, m4, u1, u2, u3, u4, u5, u6, u7, u8, u9⟩ := r_mostThen s1 s2 g2 hw
  have hrn : rnl H (movS H) (H 0 10) = rnl h (movS h) (h 0 10) := by
    rw [s3 0 10 (by decide)]
    exact rnl_sq hL s1.1 (s3 0 9 (by decide)) (fun i _ => s3 1 i (by decide)) (fun i _ => s3 4 i (by decide)) (fun i hi hm => by rw [s4 i, if_neg (fun z => by rw [z.2.2] at hm; cases hm)]) z2 z3
  rw [hrn] at u4
  have hlb : ov_X8_laysBack m4 = RV [lbO m4] := (ov_X8_laysBack_e m4).trans (r_laysBack xfu (xfu_ge (by decide)) m4)
  refine ⟨H, v, lbO m4, ?_, u2, u3, s1, s3, s4, u4, ?_, ?_, ?_, ?_⟩
  · simp only [md_X8_greatest_0, mg_X8_greatest_0, hpw, x1, xlr_s (p := 0) (by decide) (by decide), xlr_s (p := 2) (by decide) (by decide), Bool.and_self, if_true, hin, bz_0, Bool.true_eq_false, if_false, ks_e, oqV_t, oqO_V]
    rw [s6]
    have st2 : md_X8_greatest_55 p xfu (255, 0, m3) = tlp (lb_X8_greatest_55 p xfu) xfu (((255 : Nat) : Int), ((0 : Nat) : Int), m3) := rfl
    rw [st2, g4]
    simp only [mg_X8_greatest_55, u1, oqI_t, oqR_I, oqO_I, hlb, oqV_t, oqO_V, if_true, xw_id (x := v - 1) (by omega) (by omega)]
    rw [if_pos (by decide), if_pos (show v - 1 ≤ 199 by omega)]
    split <;> rfl
  · refine Rel_cong hL (fun k hk => ?_) hR
    show (if 1 = 1 ∧ k < 735 then m4 2 k else m4 1 k) = _
    rw [if_pos ⟨rfl, hk⟩, u6, s5 2 (by decide), ks_2 m hk]
  · show m4 3 = m 3
    rw [u7, s5 3 (by decide)]
    rfl
  · show m4 0 3 = m 0 3
    rw [u8, s5 0 (by decide)]
    rfl
  · show m4 0 4 = m 0 4
    rw [u9, s5 0 (by decide)]
    rfl
