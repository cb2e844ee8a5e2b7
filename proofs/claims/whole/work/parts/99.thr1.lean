/-- the things that are taken -/
def Thg (m : Ob) (l : List Int) : Prop := m 0 24 = (l.length : Int) ∧ ∀ (t : Nat) (v : Int), l[t]? = some v → m 9 t = v
def Thf (m m' : Ob) : Prop := (∀ j, j ≠ 0 → j ≠ 9 → m' j = m j) ∧ ∀ q, q ≠ 24 → m' 0 q = m 0 q
theorem Thf.rfl' (m : Ob) : Thf m m := ⟨fun _ _ _ => rfl, fun _ _ => rfl⟩
theorem Thf.trans' {a b c : Ob} (h1 : Thf a b) (h2 : Thf b c) : Thf a c := ⟨fun j x y => by rw [h2.1 j x y, h1.1 j x y], fun q x => by rw [h2.2 q x, h1.2 q x]⟩
theorem r_takes {m : Ob} {l : List Int} (hT : Thg m l) (hl : l.length < 12) (x : Int) : ∃ m', ov_X8_takes x m = RV [m'] ∧ Thg m' (l ++ [x]) ∧ Thf m m' := by
  obtain ⟨h1, h2⟩ := hT
  refine ⟨xset (xset m 9 l.length x) 0 24 ((l.length : Int) + 1), ?_, ⟨?_, fun t v ht => ?_⟩, fun j j0 j9 => ?_, fun q hq => ?_⟩
  · have e : xset m 9 l.length x 0 24 = (l.length : Int) := h1
    rw [ov_X8_takes_e]
    simp only [md_X8_takes_0, mg_X8_takes_0, h1, xin_nat hl (show 12 ≤ 2147483648 by omega), if_true, xw_nat (show l.length < 2147483648 by omega), toNat_nat, e]
  · rw [xeq, List.length_append, List.length_singleton]; omega
  · show xset m 9 l.length x 9 t = v
    by_cases htl : t = l.length
    · subst htl
      rw [xeq]
      rw [List.getElem?_append_right (Nat.le_refl _), Nat.sub_self] at ht
      simpa using ht
    · rw [xne htl]
      by_cases hlt : t < l.length
      · rw [List.getElem?_append_left hlt] at ht
        exact h2 t v ht
      · rw [List.getElem?_eq_none (by simp; omega)] at ht
        cases ht
  · funext k
    rw [xset_part _ _ _ _ j0, xset_part _ _ _ _ j9]
  · rw [xne hq]
    rfl
def tz (z : Int) : List Int := if z ≤ 0 then [] else [z + 1]
theorem tz_len (z : Int) : (tz z).length ≤ 1 := by unfold tz; split <;> simp
theorem tz_mem {z : Int} (hz : z ≤ 199) : ∀ b ∈ tz z, 1 ≤ b ∧ b ≤ 200 := by
  unfold tz
  intro b hb
  split at hb
  · cases hb
  · rw [List.mem_singleton.mp hb]; omega
theorem r_tk {m : Ob} {l : List Int} (hT : Thg m l) (hl : l.length < 12) {p : Int} (hp : xw p = p) (k : Ob → Option Rt) : ∃ m', (if xw p ≤ 0 then k m else if oqV (ov_X8_takes (p + 1) m) then k (oqO (ov_X8_takes (p + 1) m) 0) else none) = k m' ∧ Thg m' (l ++ tz p) ∧ Thf m m' := by
  rw [hp]
  unfold tz
  by_cases h0 : p ≤ 0
  · rw [if_pos h0, if_pos h0]
    exact ⟨m, rfl, by rw [List.append_nil]; exact hT, Thf.rfl' m⟩
  · rw [if_neg h0, if_neg h0]
    obtain ⟨m', a, b, c⟩ := r_takes hT hl (p + 1)
    refine ⟨m', ?_, b, c⟩
    rw [a, oqV_t, oqO_V]
    rfl
theorem abO_l (p : Ob) {l : List Int} (hl : l.length < 11) (hm : ∀ b ∈ l, 1 ≤ b ∧ b ≤ 200) {z : Int} (hz : xw z = z) (h1 : z ≤ 199) : abO (pkO p l) z = pkO p (l ++ tz z) := by
  unfold abO tz
  rw [hz]
  by_cases h0 : z ≤ 0
  · rw [if_pos h0, if_pos h0, List.append_nil]
  · rw [if_neg h0, if_neg h0, pkO_add p l (z + 1) hl (by omega) hm]
/-- the things into rooms, one after the other: the set of all of them at the end -/
theorem thg_sel {m : Ob} {l : List Int} (hT : Thg m l) : (sel (m 9) l.length (2 ^ l.length - 1)).Perm l := by
  have := sel_list l (m 9) l.length (Nat.le_refl _) (fun i hi => by
    have h1 : l[i]? = some l[i] := List.getElem?_eq_getElem hi
    rw [h1, hT.2 i _ h1])
  rwa [List.take_length] at this
theorem thg_bd {m : Ob} {l : List Int} (hT : Thg m l) (hm : ∀ b ∈ l, 1 ≤ b ∧ b ≤ 200) (hl : l.length ≤ 11) (S : Nat) : 0 ≤ ssu (m 9) l.length S ∧ ssu (m 9) l.length S ≤ 100000 := by
  have := ssu_bd (a := m 9) (c := l.length) (S := S) (fun i hi => by
    have h1 : l[i]? = some l[i] := List.getElem?_eq_getElem hi
    rw [hT.2 i _ h1]
    have := hm _ (List.getElem_mem hi)
    omega)
  omega
theorem ask0_e {p : Int} (hp : xw p = p) : ask0 p = decide (0 ≤ p ∧ p ≤ 199) := by
  unfold ask0 ask
  rw [hp]
  by_cases h : 0 ≤ p ∧ p ≤ 199
  · rw [decide_eq_true h]
    simp
    omega
  · rw [decide_eq_false h]
    simp
    omega
theorem inn_e (p a b : Int) : inn p a b = decide (a ≤ p ∧ p ≤ b) := by
  unfold inn
  by_cases h : a ≤ p ∧ p ≤ b
  · rw [decide_eq_true h]
    simp
    omega
  · rw [decide_eq_false h]
    simp
    omega
def lits (q : Nat → Int) (B : List Nat) : List Int := B.map (fun i => q (21 + i) + 1)
theorem lits_its {h : Ob} {q : Nat → Int} (hL : LW h) (hR : Rel h q) : (lits q (Bh h)).Perm (its h (movS h)) := by
  have h255 : ∀ i, i < 8 → Nat.testBit 255 i = true := fun i hi => full_bit (c := 8) hi
  have := lit_its hL hR (s := 255) (w := movS h) (fun i hi => by rw [movS_in h (by omega), h255 i hi, Bool.and_true])
  unfold lit at this
  rw [List.filter_eq_self.mpr (fun i hi => h255 i ((Bh_mem hL i).mp hi).1)] at this
  exact this
theorem r_three {T : Int} {h m : Ob} (hH : HI T h) (hR : Rel h (m 1)) {p1 p2 p3 : Int} (hp1 : xw p1 = p1) (hp2 : xw p2 = p2) (hp3 : xw p3 = p3) (a1 : 0 ≤ p1 ∧ p1 ≤ 199) (a2 : 0 ≤ p2 ∧ p2 ≤ 199) (a3 : 0 ≤ p3 ∧ p3 ≤ 199) :
    ∃ m', md_X8_three_0 p1 p2 p3 xfu m = RI (bz (pd (PkI (its h (movS h) ++ tz p1 ++ tz p2 ++ tz p3) (glen (rnl h (movS h) (h 0 10))) (fun j => j < (rnl h (movS h) (h 0 10)).length)))) [m'] ∧ m' 1 = m 1 ∧ m' 3 = m 3 ∧ m' 0 3 = m 0 3 ∧ m' 0 4 = m 0 4 := by
  have hL := hH.1
  obtain ⟨z1, z2, z3, -⟩ := id hL
  have hf := xfu_ge (n := 5000) (by decide)
  have x1 : xlr p1 = true := by rw [← hp1]; exact xlr_xw
  have x2 : xlr p2 = true := by rw [← hp2]; exact xlr_xw
  have x3 : xlr p3 = true := by rw [← hp3]; exact xlr_xw
  obtain ⟨m1, a, b, c⟩ := fo_e hL hR
  have hR1 := own_frame hR b
  have e10 : m1 1 1 = h 0 10 := hR1.1.2.1
  obtain ⟨m2, g1, g2, g3, g4, g5⟩ := r_fillsGaps hH hR1 c (e := h 0 10) z2 z3
  have e21 : m2 1 = m 1 := by rw [g4 1 (by decide) (by decide) (by decide) (by decide) (by decide), b 1 (by decide)]
  have e23 : m2 3 = m 3 := by rw [g4 3 (by decide) (by decide) (by decide) (by decide) (by decide), b 3 (by decide)]
  have e203 : m2 0 3 = m 0 3 := by rw [g5 3 (by decide) (by decide), b 0 (by decide)]
  have e204 : m2 0 4 = m 0 4 := by rw [g5 4 (by decide) (by decide), b 0 (by decide)]
  obtain ⟨hB1, hB2, hB3⟩ := GLB_of hL g3
  generalize hB : Bh h = B at hB1 hB2 hB3
  have hRl := rnl_len hL (s := movS h) (e := h 0 10) z2 z3
  have hM := hL.mr (s := movS h) (e := h 0 10) z2 z3
  -- the looses
  obtain ⟨s1, ⟨q1, q2⟩, q3⟩ := loop_ex (B := lb_X8_three_60 p1 p2 p3 xfu) B.length (fun (q : Ob) => (if xw p1 ≤ 0 then md_X8_three_101 p1 p2 p3 xfu q else if oqV (ov_X8_takes (p1 + 1) q) then md_X8_three_101 p1 p2 p3 xfu (oqO (ov_X8_takes (p1 + 1) q) 0) else none)) (fun i (q : Ob) => ((i : Int), q)) (fun i (q : Ob) => Thg q (lits (m 1) (B.take i)) ∧ Thf m2 q) (fun i q hi hI => by
      obtain ⟨k1, k2⟩ := hI
      obtain ⟨x, hx⟩ : ∃ x, B[i]? = some x := ⟨B[i], List.getElem?_eq_getElem hi⟩
      obtain ⟨y1, y2⟩ := hB3 i x hx
      have e0 : q 0 11 = (B.length : Int) := by rw [k2.2 11 (by decide)]; exact hB1
      have e7 : q 7 i = (x : Int) := by rw [k2.1 7 (by decide) (by decide)]; exact y1
      have eM : lenM q (x : Int) = m 1 (21 + x) + 1 := by rw [lenM_nat _ y2, k2.1 1 (by decide) (by decide), e21]
      obtain ⟨q', w1, w2, w3⟩ := r_takes k1 (by unfold lits; rw [List.length_map, List.length_take]; omega) (m 1 (21 + x) + 1)
      refine ⟨q', fun k => ?_, ?_, k2.trans' w3⟩
      · simp only [lb_X8_three_60, mg_X8_three_60, xw_nat (show i < 2147483648 by omega), e0, xw_nat (show B.length < 2147483648 by omega), xin_nat (show i < 8 by omega) (show 8 ≤ 2147483648 by omega), toNat_nat, e7, hdl_nat y2, eM, w1, oqV_t, oqO_V, if_true]
        rw [if_neg (show ¬ (i : Int) ≥ (B.length : Int) by omega)]
        rfl
      · have : lits (m 1) (B.take (i + 1)) = lits (m 1) (B.take i) ++ [m 1 (21 + x) + 1] := by
          rw [List.take_add_one, hx]
          unfold lits
          rw [List.map_append]
          rfl
        rw [this]
        exact w2) (fun k q hI => by
      have e0 : q 0 11 = (B.length : Int) := by rw [hI.2.2 11 (by decide)]; exact hB1
      simp only [lb_X8_three_60, mg_X8_three_60, e0]
      rw [if_pos (show xw (B.length : Int) ≥ xw (B.length : Int) by omega)]) B.length 0 xfu (xset m2 0 24 0) (by omega) (by omega) ⟨⟨by rw [xeq]; simp [lits], fun t v ht => by simp [lits] at ht⟩, ⟨fun j j0 _ => by funext k; exact xset_part _ _ _ _ j0 k, fun q hq => xne hq⟩⟩
  rw [List.take_length] at q1
  have hperm : (lits (m 1) B).Perm (its h (movS h)) := by rw [← hB]; exact lits_its hL hR
  generalize hl0 : lits (m 1) B = l0 at q1 hperm
  have hl8 : l0.length ≤ 8 := by rw [← hl0]; unfold lits; rw [List.length_map]; exact hB2
  have hm0 : ∀ b ∈ l0, 1 ≤ b ∧ b ≤ 200 := fun b hb => its_mem hL (movS h) b (hperm.mem_iff.mp hb)
  have t1 := tz_len p1
  have t2 := tz_len p2
  have t3 := tz_len p3
  obtain ⟨s2, r1, r2, r3⟩ := r_tk q1 (by omega) hp1 (md_X8_three_101 p1 p2 p3 xfu)
  obtain ⟨s3, u1, u2, u3⟩ := r_tk r2 (by rw [List.length_append]; omega) hp2 (md_X8_three_112 p1 p2 p3 xfu)
  obtain ⟨s4, v1, v2, v3⟩ := r_tk u2 (by rw [List.length_append, List.length_append]; omega) hp3 (md_X8_three_123 p1 p2 p3 xfu)
  generalize hl : l0 ++ tz p1 ++ tz p2 ++ tz p3 = l at v2
  have hl11 : l.length ≤ 11 := by rw [← hl]; simp only [List.length_append]; omega
  have hml : ∀ b ∈ l, 1 ≤ b ∧ b ≤ 200 := fun b hb => by
    rw [← hl] at hb
    simp only [List.mem_append] at hb
    rcases hb with ((hb | hb) | hb) | hb
    · exact hm0 b hb
    · exact tz_mem a1.2 b hb
    · exact tz_mem a2.2 b hb
    · exact tz_mem a3.2 b hb
  have hfr : Thf m2 s4 := ((q2.trans' r3).trans' u3).trans' v3
  obtain ⟨n1, f1, f2, f3⟩ := r_fillsLong s4 (c := l.length) hl11
  obtain ⟨n2, k1, k2, k3⟩ := r_packsNothing n1 (c := l.length) hl11
  have e24 : s4 0 24 = (l.length : Int) := v2.1
  have e124 : n1 0 24 = (l.length : Int) := by rw [f2 0 (by decide)]; exact e24
  have hp := p2_le hl11
  have hpos : 0 < 2 ^ l.length := Nat.two_pow_pos _
  -- the rooms
  obtain ⟨n3, ⟨y1, y2⟩, y3⟩ := loop_ex (B := lb_X8_three_142 p1 p2 p3 xfu) (rnl h (movS h) (h 0 10)).length (fun (q : Ob) => RI (q 11 (2 ^ l.length - 1)) [q]) (fun o (q : Ob) => ((o : Int), q)) (fun o (q : Ob) => (∀ j, j ≠ 11 → j ≠ 12 → q j = n1 j) ∧ ∀ S, S < 2 ^ l.length → q 11 S = bz (pd (PkS (s4 9) l.length S (m2 6) (fun j => j < o)))) (fun o q ho hI => by
      obtain ⟨w1, w2⟩ := hI
      have e8 : q 0 8 = ((rnl h (movS h) (h 0 10)).length : Int) := by rw [w1 0 (by decide) (by decide), f2 0 (by decide), hfr.2 8 (by decide)]; exact g2.1
      have e6 : q 6 o = m2 6 o := by rw [w1 6 (by decide) (by decide), f2 6 (by decide), hfr.1 6 (by decide) (by decide)]
      have e24 : q 0 24 = (l.length : Int) := by rw [w1 0 (by decide) (by decide)]; exact e124
      have h6 : 0 ≤ m2 6 o ∧ m2 6 o ≤ 200 := by
        rw [(g2.2 o ho).2]
        have := MR_mem hM _ (List.getElem_mem ho)
        omega
      obtain ⟨q', x1, x2, x3⟩ := r_packsInto q (c := l.length) hl11 (room := m2 6 o) h6.1 h6.2 (a := s4 9) (fun S hS => by rw [w1 10 (by decide) (by decide)]; exact f3 S hS) (fun S _ => thg_bd v2 hml hl11 S) w2
      refine ⟨q', fun k => ?_, fun j h11 h12 => by rw [x2 j h11 h12, w1 j h11 h12], fun S hS => ?_⟩
      · simp only [lb_X8_three_142, mg_X8_three_142, e8, xw_nat (show o < 2147483648 by omega), xw_nat (show (rnl h (movS h) (h 0 10)).length < 2147483648 by omega), xin_nat (show o < 16 by omega) (show 16 ≤ 2147483648 by omega), toNat_nat, e6, e24, x1, oqV_t, oqO_V, if_true]
        rw [if_neg (show ¬ (o : Int) ≥ ((rnl h (movS h) (h 0 10)).length : Int) by omega)]
        rfl
      · rw [x3 S hS]
        exact bz_cong (pks_split (g := o) hS (fun z => by omega) (fun j => by omega)).symm) (fun k q hI => by
      have e8 : q 0 8 = ((rnl h (movS h) (h 0 10)).length : Int) := by rw [hI.1 0 (by decide) (by decide), f2 0 (by decide), hfr.2 8 (by decide)]; exact g2.1
      have e24 : q 0 24 = (l.length : Int) := by rw [hI.1 0 (by decide) (by decide)]; exact e124
      have ew : xshl 1 (l.length : Int) - 1 = ((2 ^ l.length - 1 : Nat) : Int) := by rw [xshl_1 _ (by omega)]; omega
      have eb := hI.2 (2 ^ l.length - 1) (by omega)
      simp only [lb_X8_three_142, mg_X8_three_142, e8, e24, ew, xin_nat (show 2 ^ l.length - 1 < 4096 by omega) (show 4096 ≤ 2147483648 by omega), xw_nat (show 2 ^ l.length - 1 < 2147483648 by omega), toNat_nat, eb, xb_bz, if_true]
      rw [if_pos (show xw ((rnl h (movS h) (h 0 10)).length : Int) ≥ xw ((rnl h (movS h) (h 0 10)).length : Int) by omega)]) (rnl h (movS h) (h 0 10)).length 0 xfu n2 (by omega) (by omega) ⟨fun j j11 _ => k2 j j11, fun S hS => by
        rw [k3 S hS, ← pd_dec]
        exact bz_cong (pks_none hS (fun j hj => by omega)).symm⟩
  have hlen6 : ∀ j, j < (rnl h (movS h) (h 0 10)).length → m2 6 j = glen (rnl h (movS h) (h 0 10)) j := fun j hj => by rw [glen_at hj]; exact (g2.2 j hj).2
  have hpl : l.Perm (its h (movS h) ++ tz p1 ++ tz p2 ++ tz p3) := by
    rw [← hl]
    exact ((hperm.append_right _).append_right _).append_right _
  have hval : PkS (s4 9) l.length (2 ^ l.length - 1) (m2 6) (fun j => j < (rnl h (movS h) (h 0 10)).length) ↔ PkI (its h (movS h) ++ tz p1 ++ tz p2 ++ tz p3) (glen (rnl h (movS h) (h 0 10))) (fun j => j < (rnl h (movS h) (h 0 10)).length) := by
    refine pks_pki.trans ⟨fun z => ?_, fun z => ?_⟩
    · exact PkI_cong (fun _ => Iff.rfl) hlen6 (PkI_perm ((thg_sel v2).trans hpl) z)
    · exact PkI_cong (fun _ => Iff.rfl) (fun j hj => (hlen6 j hj).symm) (PkI_perm ((thg_sel v2).trans hpl).symm z)
  refine ⟨n3, ?_, ?_, ?_, ?_, ?_⟩
  · have hin : ∀ {p : Int}, 0 ≤ p ∧ p ≤ 199 → inn p 0 199 = true := fun {p} hp => by rw [inn_e]; exact decide_eq_true hp
    simp only [md_X8_three_0, mg_X8_three_0, hp1, hp2, hp3, x1, x2, x3, xlr_s (p := 0) (by decide) (by decide), xlr_s (p := 199) (by decide) (by decide), Bool.and_self, if_true, hin a1, hin a2, hin a3, bz_0, Bool.true_eq_false, if_false, a, oqV_t, oqO_V, e10, g1]
    have st : md_X8_three_60 p1 p2 p3 xfu (0, xset m2 0 24 0) = tlp (lb_X8_three_60 p1 p2 p3 xfu) xfu (((0 : Nat) : Int), xset m2 0 24 0) := rfl
    rw [st, q3, r1]
    have st2 : md_X8_three_101 p1 p2 p3 xfu s2 = (if xw p2 ≤ 0 then md_X8_three_112 p1 p2 p3 xfu s2 else if oqV (ov_X8_takes (p2 + 1) s2) then md_X8_three_112 p1 p2 p3 xfu (oqO (ov_X8_takes (p2 + 1) s2) 0) else none) := rfl
    rw [st2, u1]
    have st3 : md_X8_three_112 p1 p2 p3 xfu s3 = (if xw p3 ≤ 0 then md_X8_three_123 p1 p2 p3 xfu s3 else if oqV (ov_X8_takes (p3 + 1) s3) then md_X8_three_123 p1 p2 p3 xfu (oqO (ov_X8_takes (p3 + 1) s3) 0) else none) := rfl
    rw [st3, v1]
    simp only [md_X8_three_123, mg_X8_three_123, e24, f1, oqV_t, oqO_V, if_true, e124, k1]
    have st4 : md_X8_three_142 p1 p2 p3 xfu (0, n2) = tlp (lb_X8_three_142 p1 p2 p3 xfu) xfu (((0 : Nat) : Int), n2) := rfl
    rw [st4, y3, y2 (2 ^ l.length - 1) (by omega), propext hval]
  · rw [y1 1 (by decide) (by decide), f2 1 (by decide), hfr.1 1 (by decide) (by decide), e21]
  · rw [y1 3 (by decide) (by decide), f2 3 (by decide), hfr.1 3 (by decide) (by decide), e23]
  · rw [y1 0 (by decide) (by decide), f2 0 (by decide), hfr.2 3 (by decide), e203]
  · rw [y1 0 (by decide) (by decide), f2 0 (by decide), hfr.2 4 (by decide), e204]
theorem e_three (T : Int) (hT0 : 0 ≤ T) (hT : T ≤ 600) (p1 : Int) (hp1 : xw p1 = p1) (p2 : Int) (hp2 : xw p2 = p2) (p3 : Int) (hp3 : xw p3 = p3) (h0 h1 h2 h3 h4 h5 h6 h7 h8 h9 h10 h11 h12 h13 h14 h15 h16 h17 h18 h19 h20 h21 h22 h23 h24 m : Ob) (hI : INV T h1 h3 [h4, h5, h6, h7, h8, h9, h10, h11, h12, h13, h14, h15, h16] m) : Same (T + 1) (md_X7_three_0 p1 p2 p3 h0 h1 h2 h3 h4 h5 h6 h7 h8 h9 h10 h11 h12 h13 h14 h15 h16 h19 h20 h21 h22 h23 h24 (h17, h18)) (md_X8_three_0 p1 p2 p3 xfu m) := by
  have hI0 := hI
  obtain ⟨i1, i2, i3⟩ := hI
  have hL := i1.1
  obtain ⟨z1, z2, z3, -⟩ := id hL
  have x1 : xlr p1 = true := by rw [← hp1]; exact xlr_xw
  have x2 : xlr p2 = true := by rw [← hp2]; exact xlr_xw
  have x3 : xlr p3 = true := by rw [← hp3]; exact xlr_xw
  have hno : ∀ {p : Int}, ¬ (0 ≤ p ∧ p ≤ 199) → inn p 0 199 = false := fun {p} hp => by rw [inn_e]; exact decide_eq_false hp
  have hin : ∀ {p : Int}, 0 ≤ p ∧ p ≤ 199 → inn p 0 199 = true := fun {p} hp => by rw [inn_e]; exact decide_eq_true hp
  by_cases a1 : 0 ≤ p1 ∧ p1 ≤ 199
  · by_cases a2 : 0 ≤ p2 ∧ p2 ≤ 199
    · by_cases a3 : 0 ≤ p3 ∧ p3 ≤ 199
      · obtain ⟨m', b1, b2, b3, b4, b5⟩ := r_three i1 i2 hp1 hp2 hp3 a1 a2 a3
        rw [b1]
        have hil := its_len h1 (movS h1)
        have him := its_mem hL (movS h1)
        have t1 := tz_len p1
        have t2 := tz_len p2
        have t3 := tz_len p3
        have hm1 : ∀ b ∈ its h1 (movS h1) ++ tz p1, 1 ≤ b ∧ b ≤ 200 := fun b hb => by
          rcases List.mem_append.mp hb with hb | hb
          · exact him b hb
          · exact tz_mem a1.2 b hb
        have hm2 : ∀ b ∈ its h1 (movS h1) ++ tz p1 ++ tz p2, 1 ≤ b ∧ b ≤ 200 := fun b hb => by
          rcases List.mem_append.mp hb with hb | hb
          · exact hm1 b hb
          · exact tz_mem a2.2 b hb
        have hm3 : ∀ b ∈ its h1 (movS h1) ++ tz p1 ++ tz p2 ++ tz p3, 1 ≤ b ∧ b ≤ 200 := fun b hb => by
          rcases List.mem_append.mp hb with hb | hb
          · exact hm2 b hb
          · exact tz_mem a3.2 b hb
        have l1 : (its h1 (movS h1) ++ tz p1).length ≤ 9 := by rw [List.length_append]; omega
        have l2 : (its h1 (movS h1) ++ tz p1 ++ tz p2).length ≤ 10 := by rw [List.length_append]; omega
        have l3 : (its h1 (movS h1) ++ tz p1 ++ tz p2 ++ tz p3).length ≤ 11 := by rw [List.length_append]; omega
        have hg := hL.gaps2 h17 (movS h1) z2 z3
        have hGi := pd_t (GiG_pkO h18 (rdO h17 (rnl h1 (movS h1) (h1 0 10))) _ l3 hm3 hg.1 hg.2)
        have hRd : RdG h1 (h1 0 10) := ⟨hL, z2, z3⟩
        have hc : ∀ l : List Int, l.length ≤ 11 → decide (0 ≤ xw (pkO h18 l 0 2)) = true := fun l hl => by
          have e : pkO h18 l 0 2 = (l.length : Int) := rfl
          rw [e, xw_nat (by omega)]
          exact decide_eq_true (by omega)
        simp only [md_X7_three_0, mg_X7_three_0, bz_0, ask0_e hp1, ask0_e hp2, ask0_e hp3, decide_eq_true a1, decide_eq_true a2, decide_eq_true a3, Bool.true_eq_false, if_false, pd_t hRd, if_true, pkF_its hL, abO_l h18 (show (its h1 (movS h1)).length < 11 by omega) him hp1 a1.2, abO_l h18 (show (its h1 (movS h1) ++ tz p1).length < 11 by omega) hm1 hp2 a2.2, abO_l h18 (show (its h1 (movS h1) ++ tz p1 ++ tz p2).length < 11 by omega) hm2 hp3 a3.2, hc _ (show (its h1 (movS h1)).length ≤ 11 by omega), hc _ (show (its h1 (movS h1) ++ tz p1).length ≤ 11 by omega), hc _ (show (its h1 (movS h1) ++ tz p1 ++ tz p2).length ≤ 11 by omega), hGi, xb_bz, gi_pki]
        refine ⟨_, _, _, rfl, rfl, ?_⟩
        exact INV.mono (T := T) ⟨i1, by rw [b2]; exact i2, InvP_frame i3 b3 b4 b5⟩ (by omega)
      · simp only [md_X7_three_0, mg_X7_three_0, md_X8_three_0, mg_X8_three_0, bz_0, ask0_e hp1, ask0_e hp2, ask0_e hp3, decide_eq_true a1, decide_eq_true a2, decide_eq_false a3, Bool.true_eq_false, if_false, hp1, hp2, hp3, x1, x2, x3, xlr_s (p := 0) (by decide) (by decide), xlr_s (p := 199) (by decide) (by decide), Bool.and_self, if_true, hin a1, hin a2, hno a3]
        exact ⟨_, _, _, rfl, rfl, hI0.mono (by omega)⟩
    · simp only [md_X7_three_0, mg_X7_three_0, md_X8_three_0, mg_X8_three_0, bz_0, ask0_e hp1, ask0_e hp2, decide_eq_true a1, decide_eq_false a2, Bool.true_eq_false, if_false, hp1, hp2, x1, x2, xlr_s (p := 0) (by decide) (by decide), xlr_s (p := 199) (by decide) (by decide), Bool.and_self, if_true, hin a1, hno a2]
      exact ⟨_, _, _, rfl, rfl, hI0.mono (by omega)⟩
  · simp only [md_X7_three_0, mg_X7_three_0, md_X8_three_0, mg_X8_three_0, bz_0, ask0_e hp1, decide_eq_false a1, Bool.true_eq_false, if_false, hp1, x1, xlr_s (p := 0) (by decide) (by decide), xlr_s (p := 199) (by decide) (by decide), Bool.and_self, if_true, hno a1]
    exact ⟨_, _, _, rfl, rfl, hI0.mono (by omega)⟩
