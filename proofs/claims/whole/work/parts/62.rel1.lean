theorem oqR_I (r : Int) (μ : List Ob) : oqR (RI r μ) = r := rfl
theorem oqO_I (r : Int) (m : Ob) : oqO (RI r [m]) 0 = m := rfl
theorem oqO_V (m : Ob) : oqO (RV [m]) 0 = m := rfl
theorem oqI_t (r : Int) (m : Ob) : oqI (RI r [m]) = true := rfl
theorem oqV_t (m : Ob) : oqV (RV [m]) = true := rfl
theorem pd_rfl {α : Type} (a : α) : pd (a = a) = true := pd_t rfl
theorem pd_T : pd True = true := pd_t trivial
/-- a handle of the heap, in the reference's row -/
def RelH (h : Ob) (q : Nat → Int) (i : Nat) : Prop :=
  ((inS (h 0 7) (i : Int) = false ∧ h 1 i = -1 ∧ q (5 + i) = 0) ∨ (inS (h 0 7) (i : Int) = true ∧ h 1 i ≠ -1 ∧ q (5 + i) = 1 ∧ q (13 + i) = h 1 i) ∨ (inS (h 0 7) (i : Int) = true ∧ h 1 i = -1 ∧ q (5 + i) = 2)) ∧
  q (29 + i) = h 4 i ∧ (inS (h 0 7) (i : Int) = true → q (21 + i) = h 2 i ∧ q (37 + i) = h 5 i ∧ q (45 + i) = h 6 i ∧ q (53 + i) = bz (inS (h 0 8) (i : Int)) ∧ q (61 + i) = h 7 i)
def RelP (h : Ob) (q : Nat → Int) (p : Nat) : Prop := (h 1 (8 + p) = -1 ∧ q (69 + p) = 0) ∨ (h 1 (8 + p) ≠ -1 ∧ q (69 + p) = h 2 (8 + p) ∧ q (72 + p) = h 1 (8 + p))
def Rel (h : Ob) (q : Nat → Int) : Prop := (q 0 = h 0 9 ∧ q 1 = h 0 10 ∧ q 2 = h 0 12 ∧ q 3 = h 0 11 ∧ q 4 = h 0 13) ∧ (∀ i : Nat, i < 8 → RelH h q i) ∧ (∀ p : Nat, p < 3 → RelP h q p) ∧ ∀ i : Nat, i < 11 → h 1 i ≠ -1 → ∀ k : Nat, (k : Int) < h 2 i → q (75 + 60 * i + k) = h 3 (60 * i + k)
/-- what holds of every heap that there is -/
def HI (T : Int) (h : Ob) : Prop := LW h ∧ (∀ i : Nat, i < 8 → (inS (h 0 7) (i : Int) = true → 1 ≤ h 2 i ∧ 1 ≤ h 5 i ∧ h 5 i ≤ h 2 i ∧ 0 ≤ h 6 i ∧ h 6 i ≤ 9 ∧ 0 ≤ h 7 i ∧ h 7 i ≤ h 0 11) ∧ (h 1 i = -1 → h 4 i = 0)) ∧ (0 ≤ h 0 11 ∧ h 0 11 ≤ T) ∧ (0 ≤ h 0 13 ∧ h 0 13 ≤ 9 * T) ∧ (0 ≤ h 0 12 ∧ h 0 12 ≤ 4) ∧ (0 ≤ h 0 7 ∧ h 0 7 < 256) ∧ (0 ≤ h 0 8 ∧ h 0 8 < 256)
theorem Rel.use {h : Ob} {q : Nat → Int} (hR : Rel h q) {i : Nat} (hi : i < 8) (hf : h 1 i ≠ -1) : inS (h 0 7) (i : Int) = true ∧ q (5 + i) = 1 ∧ q (13 + i) = h 1 i ∧ q (21 + i) = h 2 i := by
  obtain ⟨h1, h2, h3⟩ := hR.2.1 i hi
  rcases h1 with ⟨a, b, c⟩ | ⟨a, b, c, d⟩ | ⟨a, b, c⟩
  · exact absurd b hf
  · exact ⟨a, c, d, (h3 a).1⟩
  · exact absurd b hf
theorem Rel.fulq {h m : Ob} (hL : LW h) (hR : Rel h (m 1)) {i : Nat} (hi : i < 8) : fulM m (i : Int) = ful h (i : Int) := by
  have e1 : fulM m (i : Int) = decide (m 1 (5 + i) = 1 ∨ xw (m 1 (5 + i)) = 1) := by
    unfold fulM
    rw [hdl_nat hi, xw_nat (by omega), toNat_nat]
    obtain ⟨h1, -⟩ := hR.2.1 i hi
    rcases h1 with ⟨a, b, c⟩ | ⟨a, b, c, d⟩ | ⟨a, b, c⟩ <;> rw [c] <;> decide
  rw [e1]
  obtain ⟨h1, -⟩ := hR.2.1 i hi
  rcases h1 with ⟨a, b, c⟩ | ⟨a, b, c, d⟩ | ⟨a, b, c⟩
  · have hn : ful h (i : Int) = false := by
      cases hf : ful h (i : Int) with
      | false => rfl
      | true => exact absurd b ((hL.fu hi).mp hf)
    rw [c, hn]; decide
  · rw [c, (hL.fu hi).mpr b]; decide
  · have hn : ful h (i : Int) = false := by
      cases hf : ful h (i : Int) with
      | false => rfl
      | true => exact absurd b ((hL.fu hi).mp hf)
    rw [c, hn]; decide
theorem Rel.thrq {h m : Ob} (hR : Rel h (m 1)) {i : Nat} (hi : i < 8) : thrM m (i : Int) = inS (h 0 7) (i : Int) := by
  unfold thrM
  rw [hdl_nat hi, xw_nat (by omega), toNat_nat]
  obtain ⟨h1, -⟩ := hR.2.1 i hi
  rcases h1 with ⟨a, b, c⟩ | ⟨a, b, c, d⟩ | ⟨a, b, c⟩ <;> rw [c, a] <;> decide
theorem Rel.looq {h m : Ob} (hL : LW h) (hR : Rel h (m 1)) {i : Nat} (hi : i < 8) : looM m (i : Int) = mov h (i : Int) := by
  unfold looM mov
  rw [hR.fulq hL hi, xw_nat (by omega), toNat_nat, (hR.2.1 i hi).2.1]
theorem Rel.lenq {h m : Ob} (hR : Rel h (m 1)) {i : Nat} (hi : i < 8) (hu : inS (h 0 7) (i : Int) = true) : lenM m (i : Int) = h 2 i + 1 := by
  unfold lenM
  rw [xw_nat (by omega), toNat_nat, ((hR.2.1 i hi).2.2 hu).1]
theorem Rel.islq {h m : Ob} (hL : LW h) (hR : Rel h (m 1)) {p : Nat} (hp : p < 3) : islM m (p : Int) = decide (h 1 (8 + p) ≠ -1) := by
  unfold islM
  rw [xw_nat (by omega), toNat_nat]
  have hz := hL.2.2.2.1 (8 + p) (by omega)
  rcases hR.2.2.1 p hp with ⟨a, b⟩ | ⟨a, b, c⟩
  · rw [a, b]
    have : decide ((0 : Int) < xw 0) = false := by decide
    simp [this]
  · rw [b, xw_id (by omega) (by omega)]
    have : 0 < h 2 (8 + p) := by omega
    have h3 : ((p : Int) < 3) := by omega
    simp [a, this, h3]
theorem Rel.szq {h m : Ob} (hR : Rel h (m 1)) : m 1 0 = h 0 9 := hR.1.1
theorem mov_full {h : Ob} (hL : LW h) {i : Nat} (hi : i < 8) (hm : mov h (i : Int) = true) : h 1 i ≠ -1 := by
  unfold mov at hm
  rw [Bool.and_eq_true] at hm
  exact (hL.fu hi).mp hm.1
/-- the number of a holder among the owners -/
def oc (i : Nat) : Int := if i < 8 then 1 + (i : Int) else 25 + (i : Int)
def Own (h : Ob) (w : Nat → Int) : Prop := ∀ k : Nat, (k : Int) < h 0 9 → (∀ i : Nat, i < 11 → cvd h i (k : Int) → w k = oc i) ∧ ((∀ i, i < 11 → ¬ cvd h i (k : Int)) → w k = 0)
def OwnT (h : Ob) (t : Nat) (w : Nat → Int) : Prop := ∀ k : Nat, (k : Int) < h 0 9 → (∀ i, i < t → cvd h i (k : Int) → w k = oc i) ∧ ((∀ i, i < t → ¬ cvd h i (k : Int)) → w k = 0)
theorem OwnT.next {h : Ob} (hL : LW h) {t : Nat} (ht : t < 11) {m : Ob} (hO : OwnT h t (m 4)) {b n v : Int} (hb : h 1 t ≠ -1) (e1 : b = h 1 t) (e2 : n = h 2 t + 1) (e3 : v = oc t) : OwnT h (t + 1) (laM m b n v 4) := by
  subst e1 e2 e3
  intro k hk
  have hz := hL.2.2.2.1 t ht
  have hs := hL.2.2.1
  have hs2 := hL.2.1
  have x1 := hL.xpl ht
  have x2 : xw (h 2 t + 1) = h 2 t + 1 := xw_id (by omega) (by omega)
  have hc : (cvd h t (k : Int)) ↔ (h 1 t ≤ (k : Int) ∧ (k : Int) < h 1 t + (h 2 t + 1)) := by
    unfold cvd
    constructor
    · rintro ⟨a, b, c⟩; exact ⟨b, by omega⟩
    · rintro ⟨a, b⟩; exact ⟨hb, a, by omega⟩
  unfold laM
  rw [x1, x2]
  simp only [true_and]
  by_cases hcv : cvd h t (k : Int)
  · rw [if_pos (hc.mp hcv)]
    refine ⟨fun i hi hci => ?_, fun hn => absurd hcv (hn t (by omega))⟩
    rw [hL.cv1 (by omega) ht hci hcv]
  · rw [if_neg (fun z => hcv (hc.mpr z))]
    refine ⟨fun i hi hci => ?_, fun hn => (hO k hk).2 (fun i hi => hn i (by omega))⟩
    by_cases hit : i = t
    · subst hit; exact absurd hci hcv
    · exact (hO k hk).1 i (by omega) hci
theorem OwnT.skip {h : Ob} {t : Nat} {w : Nat → Int} (hO : OwnT h t w) (hb : h 1 t = -1) : OwnT h (t + 1) w := by
  intro k hk
  have hc : ¬ cvd h t (k : Int) := fun z => z.1 hb
  refine ⟨fun i hi hci => ?_, fun hn => (hO k hk).2 (fun i hi => hn i (by omega))⟩
  by_cases hit : i = t
  · subst hit; exact absurd hci hc
  · exact (hO k hk).1 i (by omega) hci
/-- the owners are laid -/
theorem r_fillsOwners (f : Nat) (hf : 1000 ≤ f) {h m : Ob} (hL : LW h) (hR : Rel h (m 1)) : ∃ m', md_X8_fillsOwners_0 f m = RV [m'] ∧ (∀ j, j ≠ 4 → m' j = m j) ∧ Own h (m' 4) := by
  obtain ⟨z1, z2, z3, z4, -⟩ := id hL
  have hsz : xw (m 1 0) = h 0 9 := by rw [hR.szq]; exact hL.xsz
  unfold md_X8_fillsOwners_0 mg_X8_fillsOwners_0
  rw [if_pos (decide_eq_true ⟨by rw [xw0]; omega, by rw [hsz]; omega, by rw [hsz, xw0]; omega⟩)]
  generalize hm0 : laM m 0 (m 1 0) 0 = m0
  have k0 : ∀ j, j ≠ 4 → m0 j = m j := fun j hj => by rw [← hm0]; funext k; simp [laM, hj]
  have o0 : OwnT h 0 (m0 4) := fun k hk => ⟨fun i hi => by omega, fun _ => by
    rw [← hm0]
    show (if 4 = 4 ∧ xw 0 ≤ (k : Int) ∧ (k : Int) < xw 0 + xw (m 1 0) then (0 : Int) else m 4 k) = 0
    rw [if_pos (by rw [hsz, xw0]; simp; exact hk)]⟩
  have L1 := loop_fold (B := lb_X8_fillsOwners_14 f) 8 (fun (s : Ob) (i : Nat) => if h 1 i ≠ -1 then laM s (h 1 i) (h 2 i + 1) (1 + (i : Int)) else s) (fun s => md_X8_fillsOwners_57 f (0, s)) (fun i s => ((i : Int), s)) (fun i s => (∀ j, j ≠ 4 → s j = m j) ∧ OwnT h i (s 4)) (fun k i s hi hI => by
      obtain ⟨I1, I2⟩ := hI
      have hRs : Rel h (s 1) := by rw [I1 1 (by decide)]; exact hR
      have hfl := hRs.fulq hL hi
      by_cases hb : h 1 i = -1
      · have hff : ful h (i : Int) = false := by
          cases hq : ful h (i : Int) with
          | false => rfl
          | true => exact absurd hb ((hL.fu hi).mp hq)
        refine ⟨?_, ?_⟩
        · simp only [lb_X8_fillsOwners_14, mg_X8_fillsOwners_14, md_X8_fillsOwners_49, mg_X8_fillsOwners_49, xw_nat (show i < 2147483648 by omega), bz_0, hfl, hff, if_true]
          rw [if_neg (by omega), if_neg (by simp [hb])]
          rfl
        · rw [if_neg (by simp [hb])]
          exact ⟨I1, I2.skip hb⟩
      · have hff := (hL.fu hi).mpr hb
        obtain ⟨u1, u2, u3, u4⟩ := hRs.use hi hb
        have hz := z4 i (by omega)
        obtain ⟨x1, x2⟩ := ixm (a := (i : Int)) (c := 13) 13 rfl (by decide) (hdl_nat hi)
        rw [xw_nat (by omega), toNat_nat] at x2
        refine ⟨?_, ?_⟩
        · simp only [lb_X8_fillsOwners_14, mg_X8_fillsOwners_14, md_X8_fillsOwners_49, mg_X8_fillsOwners_49, xw_nat (show i < 2147483648 by omega), bz_0, hfl, hff, x1, x2, hdl_nat hi, u3, hRs.lenq hi u1, if_true]
          rw [if_neg (by omega), if_neg (by simp), if_pos (decide_eq_true ⟨by rw [hL.xpl (by omega)]; omega, by rw [xw_id (by omega) (by omega)]; omega, by rw [hL.xpl (by omega), xw_id (by omega) (by omega)]; omega⟩), if_pos hb]
          rfl
        · rw [if_pos hb]
          refine ⟨fun j hj => ?_, I2.next hL (by omega) hb rfl rfl (by unfold oc; rw [if_pos hi])⟩
          rw [← I1 j hj]
          funext k
          simp [laM, hj]) (fun k s _ => rfl) f m0 (by omega) ⟨k0, o0⟩
  have e1 : md_X8_fillsOwners_14 f (0, m0) = _ := L1.1
  rw [e1]
  obtain ⟨k1, o1⟩ := L1.2
  generalize (List.range 8).foldl _ m0 = m1 at k1 o1
  have L2 := loop_fold (B := lb_X8_fillsOwners_57 f) 3 (fun (s : Ob) (i : Nat) => if h 1 (8 + i) ≠ -1 then laM s (h 1 (8 + i)) (h 2 (8 + i) + 1) (33 + (i : Int)) else s) (fun s => RV [s]) (fun i s => ((i : Int), s)) (fun i s => (∀ j, j ≠ 4 → s j = m j) ∧ OwnT h (8 + i) (s 4)) (fun k i s hi hI => by
      obtain ⟨I1, I2⟩ := hI
      have hRs : Rel h (s 1) := by rw [I1 1 (by decide)]; exact hR
      have hfl := hRs.islq hL hi
      by_cases hb : h 1 (8 + i) = -1
      · refine ⟨?_, ?_⟩
        · simp only [lb_X8_fillsOwners_57, mg_X8_fillsOwners_57, md_X8_fillsOwners_98, mg_X8_fillsOwners_98, xw_nat (show i < 2147483648 by omega), bz_0, hfl, hb]
          rw [if_neg (by omega), if_pos (by simp), if_neg (by simp)]
          rfl
        · rw [if_neg (by simp [hb])]
          exact ⟨I1, I2.skip hb⟩
      · have hz := z4 (8 + i) (by omega)
        rcases hRs.2.2.1 i hi with ⟨u1, u2⟩ | ⟨u1, u2, u3⟩
        · exact absurd u1 hb
        obtain ⟨x1, x2⟩ := ixm (a := (i : Int)) (c := 72) 72 rfl (by decide) (hdl_nat (by omega))
        obtain ⟨x3, x4⟩ := ixm (a := (i : Int)) (c := 69) 69 rfl (by decide) (hdl_nat (by omega))
        rw [xw_nat (by omega), toNat_nat] at x2 x4
        refine ⟨?_, ?_⟩
        · simp only [lb_X8_fillsOwners_57, mg_X8_fillsOwners_57, md_X8_fillsOwners_98, mg_X8_fillsOwners_98, xw_nat (show i < 2147483648 by omega), bz_0, hfl, x1, x2, x3, x4, u2, u3, if_true]
          rw [if_neg (by omega), if_neg (by simp [hb]), if_pos (decide_eq_true ⟨by rw [hL.xpl (by omega)]; omega, by rw [xw_id (by omega) (by omega)]; omega, by rw [hL.xpl (by omega), xw_id (by omega) (by omega)]; omega⟩), if_pos hb]
          rfl
        · rw [if_pos hb]
          refine ⟨fun j hj => ?_, I2.next hL (by omega) hb rfl rfl (by unfold oc; rw [if_neg (by omega)]; push_cast; omega)⟩
          rw [← I1 j hj]
          funext k
          simp [laM, hj]) (fun k s _ => rfl) f m1 (by omega) ⟨k1, o1⟩
  have e2 : md_X8_fillsOwners_57 f (0, m1) = _ := L2.1
  exact ⟨_, e2, L2.2.1, fun k hk => L2.2.2 k hk⟩
