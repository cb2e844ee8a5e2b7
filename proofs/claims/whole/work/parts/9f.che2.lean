theorem r_lengthsOf {h m : Ob} (hR : Rel h (m 1)) {s : Nat} (hs : s < 256) (hu : ∀ i : Nat, i < 8 → s.testBit i = true → inS (h 0 7) (i : Int) = true) : ov_X8_lengthsOf (s : Int) m = RI (cof h (s : Int)) [m] := by
  have hf := xfu_ge (n := 5000) (by decide)
  rw [ov_X8_lengthsOf_e, cof_n]
  have e1 : md_X8_lengthsOf_0 (s : Int) m xfu () = tlp (lb_X8_lengthsOf_4 (s : Int) m xfu) xfu (0, ((0 : Nat) : Int)) := rfl
  rw [e1]
  refine (loop_fold (B := lb_X8_lengthsOf_4 (s : Int) m xfu) 8 (fun (c : Int) (i : Nat) => if inS (s : Int) (i : Int) then c + (h 2 i + 1) else c) (fun c => RI c [m]) (fun i c => (c, (i : Int))) (fun _ _ => True) (fun k i c hi _ => ⟨?_, trivial⟩) (fun k c _ => ?_) xfu 0 (by omega) trivial).1
  · have hio : isO (s : Int) (i : Int) = inS (s : Int) (i : Int) := by rw [isO_nat (by omega) (by omega), inS_nat (by omega) hi]
    have ei : (i : Int) + 1 = ((i + 1 : Nat) : Int) := by omega
    simp only [lb_X8_lengthsOf_4, mg_X8_lengthsOf_4, md_X8_lengthsOf_28, mg_X8_lengthsOf_28, xw_nat (show i < 2147483648 by omega), hio, bz_0, hdl_nat hi, if_true, ei]
    rw [if_neg (show ¬ (i : Int) ≥ 8 by omega)]
    cases hb : inS (s : Int) (i : Int) with
    | false =>
      rw [if_pos rfl, if_neg (by simp), Int.add_zero]
    | true =>
      rw [if_neg (by simp), if_pos rfl, hR.lenq hi (hu i hi (by rw [← inS_nat (by omega) hi]; exact hb))]
  · simp only [lb_X8_lengthsOf_4, mg_X8_lengthsOf_4]
    rw [if_pos (show xw ((8 : Nat) : Int) ≥ 8 by decide)]
theorem PkS_cong {a : Nat → Int} {c S : Nat} {len len' : Nat → Int} {ok : Nat → Prop} (h : ∀ j, ok j → len j = len' j) : PkS a c S len ok ↔ PkS a c S len' ok :=
  ⟨fun ⟨f, f1, f2⟩ => ⟨f, f1, fun j hj => by rw [← h j hj]; exact f2 j hj⟩, fun ⟨f, f1, f2⟩ => ⟨f, f1, fun j hj => by rw [h j hj]; exact f2 j hj⟩⟩
theorem glen_app {L : List (Int × Int)} {q : Int × Int} {j : Nat} (hj : j < L.length) : glen (L ++ [q]) j = glen L j := by
  unfold glen
  rw [List.getElem?_append_left hj]
theorem glen_last (L : List (Int × Int)) (q : Int × Int) : glen (L ++ [q]) L.length = q.2 := by
  unfold glen
  rw [List.getElem?_append_right (Nat.le_refl _), Nat.sub_self]
  rfl
/-- one run more is packed into -/
theorem r_pack {m : Ob} {c : Nat} (hc : c ≤ 11) {a : Nat → Int} (ha : ∀ S, S < 2 ^ c → m 10 S = ssu a c S) (hab : ∀ S, 0 ≤ ssu a c S ∧ ssu a c S ≤ 100000) {L : List (Int × Int)} (hP : ∀ S, S < 2 ^ c → m 11 S = bz (pd (PkS a c S (glen L) (fun j => j < L.length)))) (x : Int) {l : Int} (h1 : 0 ≤ l) (h2 : l ≤ 200) : ∃ m', ov_X8_packsInto l (c : Int) m = RV [m'] ∧ (∀ j, j ≠ 11 → j ≠ 12 → m' j = m j) ∧ ∀ S, S < 2 ^ c → m' 11 S = bz (pd (PkS a c S (glen (L ++ [(x, l)])) (fun j => j < (L ++ [(x, l)]).length))) := by
  obtain ⟨m', e1, e2, e3⟩ := r_packsInto m hc h1 h2 ha (fun S _ => hab S) hP
  refine ⟨m', e1, e2, fun S hS => ?_⟩
  rw [e3 S hS]
  refine bz_cong ?_
  rw [pks_split (g := L.length) (ok := fun j => j < L.length) hS (fun z => by omega) (fun j => by rw [List.length_append, List.length_singleton]; omega), glen_last]
  constructor
  · rintro ⟨t, t1, t2, t3⟩
    exact ⟨t, t1, t2, (PkS_cong (fun j hj => (glen_app hj).symm)).mp t3⟩
  · rintro ⟨t, t1, t2, t3⟩
    exact ⟨t, t1, t2, (PkS_cong (fun j hj => glen_app hj)).mp t3⟩
def itsn (h : Ob) (s : Int) (n : Nat) : List Int := ((List.range n).filter (fun (i : Nat) => inS s (i : Int))).map (fun i => h 2 i + 1)
theorem itsn_succ (h : Ob) (s : Int) (n : Nat) : itsn h s (n + 1) = itsn h s n ++ (if inS s (n : Int) then [h 2 n + 1] else []) := by
  unfold itsn
  rw [List.range_succ, List.filter_append, List.map_append]
  cases hb : inS s (n : Int) <;> simp [hb]
theorem itsn_len (h : Ob) (s : Int) (n : Nat) : (itsn h s n).length ≤ n := by
  unfold itsn
  rw [List.length_map]
  exact Nat.le_trans (List.length_filter_le _ _) (by simp)
theorem r_findPlaces {T : Int} {h m : Ob} (hH : HI T h) (hR : Rel h (m 1)) {s : Nat} (hs : s < 256) (hmv : ∀ i : Nat, i < 8 → s.testBit i = true → mov h (i : Int) = true) {n : Int} (hn1 : 1 ≤ n) (hn2 : n ≤ 200) :
    ∃ m', ov_X8_findPlaces (s : Int) n m = RI (bz (pd (Wc h n (h 0 10) s))) [m'] ∧ m' 1 = m 1 ∧ m' 3 = m 3 ∧ m' 0 3 = m 0 3 ∧ m' 0 4 = m 0 4 := by
  have hL := hH.1
  obtain ⟨z1, z2, z3, z4, -⟩ := id hL
  have hf := xfu_ge (n := 5000) (by decide)
  obtain ⟨m1, a, b, c⟩ := fo_e hL hR
  have hR1 := own_frame hR b
  rw [ov_X8_findPlaces_e]
  -- those of the set are taken, their cells are free
  obtain ⟨s1, ⟨q1, q2, q3, q4, q5⟩, q6⟩ := loop_ex (B := lb_X8_findPlaces_11 (s : Int) n xfu) 8 (fun (q : Ob) => mg_X8_findPlaces_11 (s : Int) n (md_X8_findPlaces_88 (s : Int) n xfu) (fun _ => none) (8, q)) (fun i (q : Ob) => ((i : Int), q)) (fun i (q : Ob) => Thg q (itsn h (s : Int) i) ∧ q 1 = m 1 ∧ q 3 = m 3 ∧ (q 0 3 = m 0 3 ∧ q 0 4 = m 0 4) ∧ ∀ k : Nat, (k : Int) < h 0 9 → (0 ≤ q 4 k ∧ q 4 k < 100) ∧ (q 4 k = 0 ↔ ∀ j : Nat, j < 11 → cvd h j (k : Int) → inS (s : Int) (j : Int) = true ∧ j < i)) (fun i q hi hI => by
      obtain ⟨k1, k2, k3, k4, k5⟩ := hI
      have hio : isO (s : Int) (i : Int) = inS (s : Int) (i : Int) := by rw [isO_nat (by omega) (by omega), inS_nat (by omega) hi]
      cases hb : inS (s : Int) (i : Int) with
      | false =>
        rw [hb] at hio
        refine ⟨q, fun k => ?_, by rw [itsn_succ, hb]; simpa using k1, k2, k3, k4, fun k hk => ⟨(k5 k hk).1, (k5 k hk).2.trans ⟨fun z j hj hc => ?_, fun z j hj hc => ?_⟩⟩⟩
        · simp only [lb_X8_findPlaces_11, mg_X8_findPlaces_11, md_X8_findPlaces_56, mg_X8_findPlaces_56, xw_nat (show i < 2147483648 by omega), hio, bz_0, if_true]
          rw [if_neg (show ¬ (i : Int) ≥ 8 by omega)]
          rfl
        · have := z j hj hc; exact ⟨this.1, by omega⟩
        · have h1 := z j hj hc
          have : j ≠ i := fun e => by rw [e, hb] at h1; cases h1.1
          exact ⟨h1.1, by omega⟩
      | true =>
        rw [hb] at hio
        have hm := hmv i hi (by rw [← inS_nat (by omega) hi]; exact hb)
        have hfl := mov_full hL hi hm
        obtain ⟨u1, u2, u3, u4⟩ := hR.use hi hfl
        have hz := z4 i (by omega)
        have eM : lenM q (i : Int) = h 2 i + 1 := by rw [lenM_nat _ hi, k2, u4]
        obtain ⟨q', w1, w2, w3⟩ := r_takes k1 (by have := itsn_len h (s : Int) i; omega) (h 2 i + 1)
        have e1' : q' 1 = m 1 := by rw [w3.1 1 (by decide) (by decide)]; exact k2
        have eM' : lenM q' (i : Int) = h 2 i + 1 := by rw [lenM_nat _ hi, e1', u4]
        obtain ⟨x1, x2⟩ := ixn (c := 13) 13 rfl (by decide) hi
        have eb : q' 1 (13 + i) = h 1 i := by rw [e1', u3]
        have hg : decide (0 ≤ xw (h 1 i) ∧ 0 ≤ xw (h 2 i + 1) ∧ xw (h 1 i) + xw (h 2 i + 1) ≤ 200) = true := decide_eq_true (by rw [hL.xpl (by omega), xw_id (x := h 2 i + 1) (by omega) (by omega)]; omega)
        refine ⟨laM q' (h 1 i) (h 2 i + 1) 0, fun k => ?_, ?_, e1', by show q' 3 = m 3; rw [w3.1 3 (by decide) (by decide)]; exact k3, ⟨by show q' 0 3 = m 0 3; rw [w3.2 3 (by decide)]; exact k4.1, by show q' 0 4 = m 0 4; rw [w3.2 4 (by decide)]; exact k4.2⟩, fun k hk => ?_⟩
        · simp only [lb_X8_findPlaces_11, mg_X8_findPlaces_11, md_X8_findPlaces_56, mg_X8_findPlaces_56, xw_nat (show i < 2147483648 by omega), hio, bz_0, Bool.true_eq_false, if_false, if_true, hdl_nat hi, eM, w1, oqV_t, oqO_V, x1, x2, toNat_nat, eb, eM', hg]
          rw [if_neg (show ¬ (i : Int) ≥ 8 by omega)]
          rfl
        · rw [itsn_succ, hb]
          exact w2
        · have hk5 := k5 k hk
          have e4 : q' 4 k = q 4 k := by rw [w3.1 4 (by decide) (by decide)]
          show (0 ≤ (if 4 = 4 ∧ xw (h 1 i) ≤ (k : Int) ∧ (k : Int) < xw (h 1 i) + xw (h 2 i + 1) then (0 : Int) else q' 4 k) ∧ (if 4 = 4 ∧ xw (h 1 i) ≤ (k : Int) ∧ (k : Int) < xw (h 1 i) + xw (h 2 i + 1) then (0 : Int) else q' 4 k) < 100) ∧ ((if 4 = 4 ∧ xw (h 1 i) ≤ (k : Int) ∧ (k : Int) < xw (h 1 i) + xw (h 2 i + 1) then (0 : Int) else q' 4 k) = 0 ↔ _)
          rw [hL.xpl (by omega), xw_id (x := h 2 i + 1) (by omega) (by omega), e4]
          by_cases hc : cvd h i (k : Int)
          · have hcc := hc
            obtain ⟨-, c1, c2⟩ := hcc
            rw [if_pos ⟨rfl, c1, by omega⟩]
            refine ⟨⟨Int.le_refl _, by omega⟩, ⟨fun _ j hj hcj => ?_, fun _ => rfl⟩⟩
            have := hL.cv1 hj (show i < 11 by omega) hcj hc
            subst this
            exact ⟨hb, by omega⟩
          · rw [if_neg (fun z => hc ⟨hfl, z.2.1, by omega⟩)]
            refine ⟨hk5.1, hk5.2.trans ⟨fun z j hj hcj => ?_, fun z j hj hcj => ?_⟩⟩
            · have := z j hj hcj; exact ⟨this.1, by omega⟩
            · have h1 := z j hj hcj
              have : j ≠ i := fun e => by rw [e] at hcj; exact hc hcj
              exact ⟨h1.1, by omega⟩) (fun k q hI => by
      unfold lb_X8_findPlaces_11 mg_X8_findPlaces_11
      dsimp only
      rw [if_pos (show xw ((8 : Nat) : Int) ≥ 8 by decide), if_pos (show xw (8 : Int) ≥ 8 by decide)]) 8 0 xfu (xset m1 0 24 0) (by omega) (by omega) ⟨⟨by rw [xeq]; rfl, fun t v ht => by simp [itsn] at ht⟩, by show m1 1 = m 1; rw [b 1 (by decide)], by show m1 3 = m 3; rw [b 3 (by decide)], ⟨by show m1 0 3 = m 0 3; rw [b 0 (by decide)], by show m1 0 4 = m 0 4; rw [b 0 (by decide)]⟩, fun k hk => by
        show (0 ≤ m1 4 k ∧ m1 4 k < 100) ∧ (m1 4 k = 0 ↔ _)
        have ho := c k hk
        by_cases hc : ∃ i, i < 11 ∧ cvd h i (k : Int)
        · obtain ⟨i, hi, hcv⟩ := hc
          rw [ho.1 i hi hcv]
          have hoc : 0 < oc i ∧ oc i < 100 := by unfold oc; split <;> omega
          exact ⟨by omega, ⟨fun z => by omega, fun z => by have := (z i hi hcv).2; omega⟩⟩
        · rw [ho.2 (fun i hi hcv => hc ⟨i, hi, hcv⟩)]
          exact ⟨⟨Int.le_refl _, by omega⟩, ⟨fun _ j hj hcj => absurd ⟨j, hj, hcj⟩ hc, fun _ => rfl⟩⟩⟩
  have hop : ∀ k : Nat, (k : Int) < h 0 10 → (((k : Int) ≥ h 0 9 ∨ s1 4 k = 0) ↔ opn h (s : Int) (k : Int)) := fun k hk => by
    by_cases hk9 : (k : Int) < h 0 9
    · constructor
      · rintro (z | z)
        · omega
        · intro i hi hcv
          exact ((q5 k hk9).2.mp z i hi hcv).1
      · intro z
        exact Or.inr ((q5 k hk9).2.mpr (fun j hj hcj => ⟨z j hj hcj, inS_lt (z j hj hcj) (by omega)⟩))
    · refine ⟨fun _ i hi hcv => ?_, fun _ => Or.inl (by omega)⟩
      have hz := z4 i hi
      obtain ⟨c1, c2, c3⟩ := hcv
      omega
  have hl8 := itsn_len h (s : Int) 8
  obtain ⟨s2, w1, w2, w3⟩ := r_takes q1 (by omega) n
  generalize hl : itsn h (s : Int) 8 ++ [n] = l at w2
  have hl11 : l.length ≤ 11 := by rw [← hl, List.length_append, List.length_singleton]; omega
  have hml : ∀ b ∈ l, 1 ≤ b ∧ b ≤ 200 := fun b hb => by
    rw [← hl] at hb
    rcases List.mem_append.mp hb with hb | hb
    · exact its_mem hL (s : Int) b hb
    · rw [List.mem_singleton.mp hb]; omega
  obtain ⟨n1, f1, f2, f3⟩ := r_fillsLong s2 (c := l.length) hl11
  obtain ⟨n2, k1, k2, k3⟩ := r_packsNothing n1 (c := l.length) hl11
  have e24 : s2 0 24 = (l.length : Int) := w2.1
  have e124 : n1 0 24 = (l.length : Int) := by rw [f2 0 (by decide)]; exact e24
  have hp := p2_le hl11
  have hpos : 0 < 2 ^ l.length := Nat.two_pow_pos _
  obtain ⟨most, hmost⟩ : ∃ most : Nat, h 0 10 = (most : Int) := ⟨(h 0 10).toNat, by omega⟩
  have n11 : n1 1 = m 1 := by rw [f2 1 (by decide), w3.1 1 (by decide) (by decide), q2]
  have n14 : n1 4 = s1 4 := by rw [f2 4 (by decide), w3.1 4 (by decide) (by decide)]
  have hM := hL.mr (s := (s : Int)) (e := h 0 10) z2 z3
  -- the runs
  obtain ⟨⟨run, n3⟩, ⟨y1, Lf, y2, y3⟩, y4⟩ := loop_ex (B := lb_X8_findPlaces_88 (s : Int) n xfu) (most + 1) (fun (q : Int × Ob) => RI (q.2 11 (2 ^ l.length - 1)) [q.2]) (fun k (q : Int × Ob) => (q.1, (k : Int), q.2)) (fun k (q : Int × Ob) => (∀ j, j ≠ 11 → j ≠ 12 → q.2 j = n1 j) ∧ ∃ L : List (Int × Int), (∀ S, S < 2 ^ l.length → q.2 11 S = bz (pd (PkS (s2 9) l.length S (glen L) (fun j => j < L.length)))) ∧ ((k ≤ most ∧ ((q.1 = 0 ∧ (k = 0 ∨ ¬ opn h (s : Int) ((k : Int) - 1)) ∧ MR (opn h (s : Int)) (k : Int) 0 L) ∨ (∃ x : Int, 1 ≤ q.1 ∧ q.1 ≤ (k : Int) ∧ x + q.1 = (k : Int) ∧ MR (opn h (s : Int)) (k : Int) 0 (L ++ [(x, q.1)])))) ∨ (k = most + 1 ∧ L = rnl h (s : Int) (h 0 10)))) (fun k q hk hI => by
      obtain ⟨run, mm⟩ := q
      obtain ⟨g1, L, g2, g3⟩ := hI
      dsimp only at g1 g2 g3
      have hkx : xw (k : Int) = k := xw_nat (by omega)
      have e11 : mm 1 1 = (most : Int) := by rw [g1 1 (by decide) (by decide), n11, hR.1.2.1, hmost]
      have e10 : mm 1 0 = h 0 9 := by rw [g1 1 (by decide) (by decide), n11]; exact hR.szq
      have e4 : mm 4 = s1 4 := by rw [g1 4 (by decide) (by decide), n14]
      have e24' : mm 0 24 = (l.length : Int) := by rw [g1 0 (by decide) (by decide)]; exact e124
      have hxm : xw (most : Int) = most := xw_nat (by omega)
      have hx9 : xw (h 0 9) = h 0 9 := hL.xsz
      have ha : ∀ S, S < 2 ^ l.length → mm 10 S = ssu (s2 9) l.length S := fun S hS => by rw [g1 10 (by decide) (by decide)]; exact f3 S hS
      have ek : (k : Int) + 1 = ((k + 1 : Nat) : Int) := by omega
      have g3 := g3.resolve_right (fun z => by omega)
      obtain ⟨hkm, g3⟩ := g3
      -- closed
      have closed : (∀ kk : Int × Int × Ob → Option Rt, lb_X8_findPlaces_88 (s : Int) n xfu kk (run, (k : Int), mm) = md_X8_findPlaces_135 (s : Int) n xfu kk (run, (k : Int), mm)) → ∃ q' : Int × Ob, (∀ kk : Int × Int × Ob → Option Rt, lb_X8_findPlaces_88 (s : Int) n xfu kk (run, (k : Int), mm) = kk (q'.1, ((k + 1 : Nat) : Int), q'.2)) ∧ q'.1 = 0 ∧ (∀ j, j ≠ 11 → j ≠ 12 → q'.2 j = n1 j) ∧ ∃ L' : List (Int × Int), (∀ S, S < 2 ^ l.length → q'.2 11 S = bz (pd (PkS (s2 9) l.length S (glen L') (fun j => j < L'.length)))) ∧ MR (opn h (s : Int)) (k : Int) 0 L' := by
        intro hst
        rcases g3 with ⟨r0, -, r2⟩ | ⟨x, r0, r1, r2, r3⟩
        · refine ⟨(0, mm), fun kk => ?_, rfl, g1, L, g2, r2⟩
          rw [hst kk]
          simp only [md_X8_findPlaces_135, mg_X8_findPlaces_135, md_X8_findPlaces_136, mg_X8_findPlaces_136, md_X8_findPlaces_156, mg_X8_findPlaces_156, md_X8_findPlaces_168, mg_X8_findPlaces_168, xw0, if_true, r0, ek]
          rw [if_pos (Int.le_refl _)]
        · obtain ⟨mm', c1, c2, c3⟩ := r_pack hl11 ha (fun S => thg_bd w2 hml hl11 S) g2 x (l := run) (by omega) (by omega)
          refine ⟨(0, mm'), fun kk => ?_, rfl, fun j h11 h12 => (by show mm' j = n1 j; rw [c2 j h11 h12, g1 j h11 h12]), L ++ [(x, run)], c3, r3⟩
          rw [hst kk]
          simp only [md_X8_findPlaces_135, mg_X8_findPlaces_135, md_X8_findPlaces_136, mg_X8_findPlaces_136, md_X8_findPlaces_156, mg_X8_findPlaces_156, md_X8_findPlaces_168, mg_X8_findPlaces_168, xw0, if_true, e24', c1, oqV_t, oqO_V, ek, xw_id (x := run) (by omega) (by omega)]
          rw [if_neg (show ¬ run ≤ 0 by omega)]
      by_cases hkl : k < most
      · have hopk := hop k (by omega)
        by_cases hP : opn h (s : Int) (k : Int)
        · -- open
          have hst : ∀ kk : Int × Int × Ob → Option Rt, lb_X8_findPlaces_88 (s : Int) n xfu kk (run, (k : Int), mm) = kk (run + 1, ((k + 1 : Nat) : Int), mm) := fun kk => by
            have h131 : md_X8_findPlaces_131 (s : Int) n xfu kk (run, (k : Int), mm) = kk (run + 1, ((k + 1 : Nat) : Int), mm) := by
              have h10 : ¬ xw 1 = 0 := by decide
              simp only [md_X8_findPlaces_131, mg_X8_findPlaces_131, md_X8_findPlaces_136, mg_X8_findPlaces_136, md_X8_findPlaces_156, mg_X8_findPlaces_156, md_X8_findPlaces_168, mg_X8_findPlaces_168, ek, h10, if_false]
            simp only [lb_X8_findPlaces_88, mg_X8_findPlaces_88, hkx, e11, hxm, e10, hx9, e4, toNat_nat]
            rw [if_neg (show ¬ (k : Int) > (most : Int) by omega), if_neg (show ¬ (k : Int) ≥ (most : Int) by omega)]
            by_cases hk9 : (k : Int) ≥ h 0 9
            · rw [if_pos hk9]
              exact h131
            · have h40 : s1 4 k = 0 := by
                rcases hopk.mpr hP with z | z
                · exact absurd z hk9
                · exact z
              rw [if_neg hk9, xin_nat (show k < 200 by omega) (by omega), if_pos rfl, h40, if_pos xw0]
              exact h131
          refine ⟨(run + 1, mm), hst, g1, L, g2, Or.inl ⟨by omega, Or.inr ?_⟩⟩
          show ∃ x : Int, 1 ≤ run + 1 ∧ run + 1 ≤ ((k + 1 : Nat) : Int) ∧ x + (run + 1) = ((k + 1 : Nat) : Int) ∧ MR (opn h (s : Int)) ((k + 1 : Nat) : Int) 0 (L ++ [(x, run + 1)])
          have hone : ∀ c, (k : Int) ≤ c → c < ((k + 1 : Nat) : Int) → opn h (s : Int) c := fun c c1 c2 => by rw [show c = (k : Int) by omega]; exact hP
          rcases g3 with ⟨r0, r1, r2⟩ | ⟨x, r0, r1, r2, r3⟩
          · have := MR_new (e' := ((k + 1 : Nat) : Int)) (by omega) hone (by omega) (by
              rcases r1 with r1 | r1
              · exact Or.inl (by omega)
              · exact Or.inr r1) r2
            rw [show ((k + 1 : Nat) : Int) - (k : Int) = 0 + 1 by omega] at this
            rw [r0]
            exact ⟨(k : Int), by omega, by omega, by omega, this⟩
          · have := MR_ext (e' := ((k + 1 : Nat) : Int)) (by omega) r2 hone (by omega) r3
            rw [show run + (((k + 1 : Nat) : Int) - (k : Int)) = run + 1 by omega] at this
            exact ⟨x, by omega, by omega, by omega, this⟩
        · obtain ⟨q', v1, v2, v3, L', v4, v5⟩ := closed (fun kk => by
            simp only [lb_X8_findPlaces_88, mg_X8_findPlaces_88, hkx, e11, hxm, e10, hx9, e4, toNat_nat]
            have hk9 : ¬ (k : Int) ≥ h 0 9 := fun z => hP (hopk.mp (Or.inl z))
            have h40 : ¬ xw (s1 4 k) = 0 := by
              have hb4 := (q5 k (by omega)).1
              rw [xw_id (by omega) (by omega)]
              exact fun z => hP (hopk.mp (Or.inr z))
            rw [if_neg (show ¬ (k : Int) > (most : Int) by omega), if_neg (show ¬ (k : Int) ≥ (most : Int) by omega), if_neg hk9, xin_nat (show k < 200 by omega) (by omega), if_pos rfl, if_neg h40])
          refine ⟨q', v1, v3, L', v4, Or.inl ⟨by omega, Or.inl ⟨v2, Or.inr (by rw [show ((k + 1 : Nat) : Int) - 1 = (k : Int) by omega]; exact hP), ?_⟩⟩⟩
          exact MR_close (by omega) (fun c c1 c2 => by rw [show c = (k : Int) by omega]; exact hP) (by omega) v5
      · have hke : k = most := by omega
        obtain ⟨q', v1, v2, v3, L', v4, v5⟩ := closed (fun kk => by
          simp only [lb_X8_findPlaces_88, mg_X8_findPlaces_88, hkx, e11, hxm]
          rw [if_neg (show ¬ (k : Int) > (most : Int) by omega), if_pos (show (k : Int) ≥ (most : Int) by omega)])
        refine ⟨q', v1, v3, L', v4, Or.inr ⟨by omega, ?_⟩⟩
        rw [hke, ← hmost] at v5
        exact MR_uniq v5 hM) (fun kk q hI => by
      obtain ⟨g1, L, g2, g3⟩ := hI
      have e11 : q.2 1 1 = (most : Int) := by rw [g1 1 (by decide) (by decide), n11, hR.1.2.1, hmost]
      have e24' : q.2 0 24 = (l.length : Int) := by rw [g1 0 (by decide) (by decide)]; exact e124
      have ew : xshl 1 (l.length : Int) - 1 = ((2 ^ l.length - 1 : Nat) : Int) := by rw [xshl_1 _ (by omega)]; omega
      have eb := g2 (2 ^ l.length - 1) (by omega)
      simp only [lb_X8_findPlaces_88, mg_X8_findPlaces_88, e11, xw_nat (show most < 2147483648 by omega), xw_nat (show most + 1 < 2147483648 by omega), e24', ew, xin_nat (show 2 ^ l.length - 1 < 4096 by omega) (show 4096 ≤ 2147483648 by omega), xw_nat (show 2 ^ l.length - 1 < 2147483648 by omega), toNat_nat, eb, xb_bz, if_true]
      rw [if_pos (show ((most + 1 : Nat) : Int) > (most : Int) by omega)]) (most + 1) 0 xfu (0, n2) (by omega) (by omega) ⟨fun j j11 _ => k2 j j11, [], fun S hS => by
        show n2 11 S = _
        rw [k3 S hS, ← pd_dec]
        exact bz_cong (pks_none hS (fun j hj => by simp at hj)).symm, Or.inl ⟨by omega, Or.inl ⟨rfl, Or.inl rfl, fun c c1 c2 => by omega⟩⟩⟩
  have y3 := (y3.resolve_left (fun z => by omega)).2
  subst y3
  dsimp only at y1 y2 y4
  have hval : PkS (s2 9) l.length (2 ^ l.length - 1) (glen (rnl h (s : Int) (h 0 10))) (fun j => j < (rnl h (s : Int) (h 0 10)).length) ↔ Wc h n (h 0 10) s := by
    have hpl : l.Perm (n :: its h (s : Int)) := by
      rw [← hl]
      exact List.perm_append_singleton _ _
    exact pks_pki.trans ⟨fun z => PkI_perm ((thg_sel w2).trans hpl) z, fun z => PkI_perm ((thg_sel w2).trans hpl).symm z⟩
  refine ⟨n3, ?_, ?_, ?_, ?_, ?_⟩
  · simp only [md_X8_findPlaces_0, mg_X8_findPlaces_0, a, oqV_t, oqO_V, if_true]
    have st : md_X8_findPlaces_11 (s : Int) n xfu (0, xset m1 0 24 0) = tlp (lb_X8_findPlaces_11 (s : Int) n xfu) xfu (((0 : Nat) : Int), xset m1 0 24 0) := rfl
    rw [st, q6]
    unfold mg_X8_findPlaces_11
    dsimp only
    rw [if_pos (show xw (8 : Int) ≥ 8 by decide)]
    simp only [w1, oqV_t, oqO_V, if_true, e24, f1, e124, k1]
    have st4 : md_X8_findPlaces_88 (s : Int) n xfu (0, 0, n2) = tlp (lb_X8_findPlaces_88 (s : Int) n xfu) xfu (0, ((0 : Nat) : Int), n2) := rfl
    rw [st4, y4, y2 (2 ^ l.length - 1) (by omega), propext hval]
  · rw [y1 1 (by decide) (by decide), n11]
  · rw [y1 3 (by decide) (by decide), f2 3 (by decide), w3.1 3 (by decide) (by decide), q3]
  · rw [y1 0 (by decide) (by decide), f2 0 (by decide), w3.2 3 (by decide), q4.1]
  · rw [y1 0 (by decide) (by decide), f2 0 (by decide), w3.2 4 (by decide), q4.2]
