def INV (T : Int) (n P : Ob) (K : List Ob) (m : Ob) : Prop := HI T n ∧ Rel n (m 1) ∧ InvP T P K m
def IW (T : Int) (μ : List Ob) (m : Ob) : Prop := match μ with
  | [_, n, _, P, k0, k1, k2, k3, k4, k5, k6, k7, k8, k9, k10, k11, k12, _, _, _, _, _, _, _, _] => INV T n P [k0, k1, k2, k3, k4, k5, k6, k7, k8, k9, k10, k11, k12] m
  | _ => False
/-- both answer the same, and what they keep stays alike -/
def Same (T : Int) (a b : Option Rt) : Prop := ∃ (r : Int) (μ : List Ob) (m' : Ob), a = RI r μ ∧ b = RI r [m'] ∧ IW T μ m'
theorem InvP.mono {T T' : Int} {P m : Ob} {K : List Ob} (hI : InvP T P K m) (hT : T ≤ T') : InvP T' P K m := by
  obtain ⟨h1, h2, h3, h4, h5⟩ := hI
  exact ⟨h1, h2, h3, h4, fun i hi => ⟨(h5 i hi).1.mono hT, (h5 i hi).2⟩⟩
theorem INV.mono {T T' : Int} {n P m : Ob} {K : List Ob} (hI : INV T n P K m) (hT : T ≤ T') : INV T' n P K m := ⟨hI.1.mono hT, hI.2.1, hI.2.2.mono hT⟩
theorem Rel_tick {h : Ob} {q : Nat → Int} (hR : Rel h q) : Rel (xset h 0 11 (h 0 11 + 1)) (fun k => if k = 3 then q 3 + 1 else q k) := by
  obtain ⟨⟨r0, r1, r2, r3, r4⟩, rh, rp, rc⟩ := hR
  refine ⟨?_, fun i hi => ?_, fun p hp => ?_, fun i hi hne k hk => ?_⟩
  · simp [xset, r0, r1, r2, r3, r4]
  · have := rh i hi
    unfold RelH at this ⊢
    dsimp only
    rw [if_neg (by omega), if_neg (by omega), if_neg (by omega), if_neg (by omega), if_neg (by omega), if_neg (by omega), if_neg (by omega), if_neg (by omega)]
    exact this
  · have := rp p hp
    unfold RelP at this ⊢
    dsimp only
    rw [if_neg (by omega), if_neg (by omega)]
    exact this
  · dsimp only
    rw [if_neg (by omega)]
    exact rc i hi hne k hk
theorem HI_tick {T : Int} {h : Ob} (hH : HI T h) : HI (T + 1) (xset h 0 11 (h 0 11 + 1)) := by
  obtain ⟨h1, h2, h3, h4, h5, h6, h7⟩ := hH
  refine ⟨h1, fun i hi => ?_, ⟨by simp [xset]; omega, by simp [xset]; omega⟩, ⟨by simp [xset]; omega, by simp [xset]; omega⟩, h5, h6, h7⟩
  obtain ⟨a, b⟩ := h2 i hi
  refine ⟨fun hu => ?_, b⟩
  obtain ⟨c1, c2, c3, c4, c5, c6, c7⟩ := a hu
  refine ⟨c1, c2, c3, c4, c5, c6, ?_⟩
  simp [xset]
  omega
theorem Rel_touch {h : Ob} {q : Nat → Int} (hR : Rel h q) {i : Nat} (hi : i < 8) {v : Int} : Rel (xset h 7 i v) (fun k => if k = 61 + i then v else q k) := by
  obtain ⟨⟨r0, r1, r2, r3, r4⟩, rh, rp, rc⟩ := hR
  refine ⟨?_, fun j hj => ?_, fun p hp => ?_, fun j hj hne k hk => ?_⟩
  · dsimp only
    rw [if_neg (by omega), if_neg (by omega), if_neg (by omega), if_neg (by omega), if_neg (by omega)]
    exact ⟨r0, r1, r2, r3, r4⟩
  · have := rh j hj
    unfold RelH at this ⊢
    dsimp only
    rw [if_neg (by omega), if_neg (by omega), if_neg (by omega), if_neg (by omega), if_neg (by omega), if_neg (by omega), if_neg (by omega)]
    refine ⟨this.1, this.2.1, fun hu => ?_⟩
    obtain ⟨a, b, c, d, e⟩ := this.2.2 hu
    refine ⟨a, b, c, d, ?_⟩
    by_cases hji : j = i
    · subst hji
      simp [xset]
    · rw [if_neg (by omega)]
      simp [xset, hji]
      exact e
  · have := rp p hp
    unfold RelP at this ⊢
    dsimp only
    rw [if_neg (by omega), if_neg (by omega)]
    exact this
  · dsimp only
    rw [if_neg (by omega)]
    exact rc j hj hne k hk
theorem HI_touch {T : Int} {h : Ob} (hH : HI T h) {i : Nat} {v : Int} (h0 : 0 ≤ v) (h1 : v ≤ h 0 11) : HI T (xset h 7 i v) := by
  obtain ⟨a1, a2, a3, a4, a5, a6, a7⟩ := hH
  refine ⟨a1, fun j hj => ?_, a3, a4, a5, a6, a7⟩
  obtain ⟨a, b⟩ := a2 j hj
  refine ⟨fun hu => ?_, b⟩
  obtain ⟨c1, c2, c3, c4, c5, c6, c7⟩ := a hu
  refine ⟨c1, c2, c3, c4, c5, ?_, ?_⟩
  · simp only [xset]
    split <;> omega
  · simp only [xset]
    split
    · simp; exact h1
    · simp; exact c7
theorem finO_n (h : Ob) : finO h (-1) = xset h 0 11 (h 0 11 + 1) := by
  unfold finO
  rw [if_neg (by decide)]
theorem finO_i (h : Ob) {i : Nat} (hi : i < 8) : finO h (i : Int) = xset (xset h 0 11 (h 0 11 + 1)) 7 i (h 0 11 + 1) := by
  unfold finO
  rw [if_pos (hdl_nat hi), xw_nat (by omega), toNat_nat]
/-- the end of an act that touches no handle -/
theorem act_n {T : Int} {P h h1 m m1 : Ob} {k0 k1 k2 k3 k4 k5 k6 k7 k8 k9 k10 k11 k12 : Ob} (hI : INV T h P [k0, k1, k2, k3, k4, k5, k6, k7, k8, k9, k10, k11, k12] m) (hH : HI T h1) (hR : Rel h1 (m1 1)) (e2 : ∀ k, k < 735 → m1 2 k = m 1 k) (e3 : m1 3 = m 3) (e03 : m1 0 3 = m 0 3) : ∃ m2, ov_X8_keepsAct m1 = RV [m2] ∧ m2 1 = (fun k => if k = 3 then m1 1 3 + 1 else m1 1 k) ∧ INV (T + 1) (finO h1 (-1)) (keeO P) [svK P 0 k0 h, svK P 1 k1 h, svK P 2 k2 h, svK P 3 k3 h, svK P 4 k4 h, svK P 5 k5 h, svK P 6 k6 h, svK P 7 k7 h, svK P 8 k8 h, svK P 9 k9 h, svK P 10 k10 h, svK P 11 k11 h, svK P 12 k12 h] m2 := by
  obtain ⟨i1, i2, i3⟩ := hI
  obtain ⟨m2, a, b, c⟩ := i3.act (h := h) i1 (Rel_cong i1.1 e2 i2) e3 e03
  refine ⟨m2, (ov_X8_keepsAct_e m1).trans a, c, ?_, ?_, b.mono (by omega)⟩
  · rw [finO_n]
    exact HI_tick hH
  · rw [finO_n, c]
    exact Rel_tick hR
/-- the end of an act that touches a handle -/
theorem act_i {T : Int} {P h h1 m m1 : Ob} {k0 k1 k2 k3 k4 k5 k6 k7 k8 k9 k10 k11 k12 : Ob} {i : Nat} (hi : i < 8) (hI : INV T h P [k0, k1, k2, k3, k4, k5, k6, k7, k8, k9, k10, k11, k12] m) (hH : HI T h1) (hR : Rel h1 (m1 1)) (e2 : ∀ k, k < 735 → m1 2 k = m 1 k) (e3 : m1 3 = m 3) (e03 : m1 0 3 = m 0 3) : ∃ m2 m3, ov_X8_keepsAct m1 = RV [m2] ∧ ov_X8_touches (i : Int) m2 = RV [m3] ∧ m3 1 = (fun k => if k = 61 + i then m1 1 3 + 1 else if k = 3 then m1 1 3 + 1 else m1 1 k) ∧ INV (T + 1) (finO h1 (i : Int)) (keeO P) [svK P 0 k0 h, svK P 1 k1 h, svK P 2 k2 h, svK P 3 k3 h, svK P 4 k4 h, svK P 5 k5 h, svK P 6 k6 h, svK P 7 k7 h, svK P 8 k8 h, svK P 9 k9 h, svK P 10 k10 h, svK P 11 k11 h, svK P 12 k12 h] m3 := by
  obtain ⟨m2, a, b, c1, c2, c3⟩ := act_n hI hH hR e2 e3 e03
  rw [finO_n] at c1 c2
  have e4 : m2 1 3 = m1 1 3 + 1 := by rw [b]; rfl
  have e5 : m1 1 3 = h1 0 11 := hR.1.2.2.2.1
  have hm3 : (xset m2 1 (61 + i) (m2 1 3)) 1 = (fun k => if k = 61 + i then m1 1 3 + 1 else if k = 3 then m1 1 3 + 1 else m1 1 k) := by
    funext k
    show (if 1 = 1 ∧ k = 61 + i then m2 1 3 else m2 1 k) = _
    rw [e4, b]
    simp
  refine ⟨m2, _, a, (ov_X8_touches_e _ _).trans (r_touches hi m2), hm3, ?_, ?_, ?_⟩
  · rw [finO_i h1 hi]
    have := hH.2.2.1
    exact HI_touch c1 (by omega) (by simp [xset])
  · rw [finO_i h1 hi]
    have e6 : (xset m2 1 (61 + i) (m2 1 3)) 1 = (fun k => if k = 61 + i then h1 0 11 + 1 else m2 1 k) := by
      funext k
      show (if 1 = 1 ∧ k = 61 + i then m2 1 3 else m2 1 k) = _
      rw [e4, e5]
      simp
    rw [e6]
    exact Rel_touch c2 hi
  · obtain ⟨d1, d2, d3, d4, d5⟩ := c3
    exact ⟨d1, d2, d3, d4, d5⟩
theorem ks_e (m : Ob) : ov_X8_keepsAside m = RV [ksO m] := (ov_X8_keepsAside_e m).trans (r_keepsAside xfu (xfu_ge (by decide)) m)
theorem ks_1 (m : Ob) : ksO m 1 = m 1 := rfl
theorem ks_2 (m : Ob) {k : Nat} (hk : k < 735) : ksO m 2 k = m 1 k := by
  unfold ksO
  rw [if_pos ⟨rfl, hk⟩]
/-- a handle out of an int -/
theorem hdl_cases {p : Int} (hp : xw p = p) : (hdl p = false) ∨ ∃ i : Nat, i < 8 ∧ p = (i : Int) := by
  cases h : hdl p with
  | false => exact Or.inl rfl
  | true =>
    obtain ⟨h1, h2⟩ := hdl_iff.mp h
    exact Or.inr ⟨p.toNat, by omega, by omega⟩
theorem inS_f {s p : Int} (h : hdl p = false) : inS s p = false := by unfold inS; rw [h]; rfl
theorem ful_f {g : Ob} {p : Int} (h : hdl p = false) : ful g p = false := by unfold ful; rw [h]; rfl
theorem thrM_f {g : Ob} {p : Int} (h : hdl p = false) : thrM g p = false := by unfold thrM; rw [h]; rfl
theorem fulM_f {g : Ob} {p : Int} (h : hdl p = false) : fulM g p = false := by unfold fulM; rw [h]; rfl
theorem e_touch (T : Int) (hT0 : 0 ≤ T) (hT : T ≤ 600) (p1 : Int) (hp1 : xw p1 = p1) (h0 h1 h2 h3 h4 h5 h6 h7 h8 h9 h10 h11 h12 h13 h14 h15 h16 h17 h18 h19 h20 h21 h22 h23 h24 m : Ob) (hI : INV T h1 h3 [h4, h5, h6, h7, h8, h9, h10, h11, h12, h13, h14, h15, h16] m) : Same (T + 1) (md_X7_touch_0 p1 h0 h2 h17 h18 h19 h20 h21 h22 h23 h24 (h1, h3, h4, h5, h6, h7, h8, h9, h10, h11, h12, h13, h14, h15, h16)) (md_X8_touch_0 p1 m) := by
  have hI0 := hI
  obtain ⟨i1, i2, i3⟩ := hI
  simp only [md_X7_touch_0, mg_X7_touch_0, md_X8_touch_0, mg_X8_touch_0, bz_0, ks_e, oqV_t, oqO_V, if_true]
  rcases hdl_cases hp1 with hf | ⟨i, hi, rfl⟩
  · rw [inS_f hf, thrM_f hf]
    exact ⟨_, _, _, rfl, rfl, hI0.mono (by omega)⟩
  · rw [i2.thrq hi]
    cases hu : inS (h1 0 7) (i : Int)
    · exact ⟨_, _, _, rfl, rfl, hI0.mono (by omega)⟩
    · obtain ⟨m2, m3, a, b, c, d⟩ := act_i (m1 := ksO m) hi hI0 i1 i2 (fun k hk => ks_2 m hk) rfl rfl
      simp only [a, b, oqV_t, oqO_V, if_true, pd_t i3.1]
      exact ⟨_, _, _, rfl, rfl, d⟩
