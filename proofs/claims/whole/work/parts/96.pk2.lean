theorem loop_ex {A S : Type} {B : (A → Option Rt) → A → Option Rt} (n : Nat) (R : S → Option Rt) (enc : Nat → S → A) (I : Nat → S → Prop) (h1 : ∀ i s, i < n → I i s → ∃ s', (∀ k, B k (enc i s) = k (enc (i + 1) s')) ∧ I (i + 1) s') (h2 : ∀ k s, I n s → B k (enc n s) = R s) : ∀ (d i f : Nat) (s : S), i + d = n → d < f → I i s → ∃ s', I n s' ∧ tlp B f (enc i s) = R s' := by
  intro d
  induction d with
  | zero =>
    intro i f s hi hf hI
    obtain ⟨f, rfl⟩ : ∃ k, f = k + 1 := ⟨f - 1, by omega⟩
    rw [Nat.add_zero] at hi
    subst hi
    exact ⟨s, hI, by rw [tlp_succ, h2 _ _ hI]⟩
  | succ d ih =>
    intro i f s hi hf hI
    obtain ⟨f, rfl⟩ : ∃ k, f = k + 1 := ⟨f - 1, by omega⟩
    obtain ⟨s', e, hI'⟩ := h1 i s (by omega) hI
    obtain ⟨s'', r1, r2⟩ := ih (i + 1) f s' (by omega) (by omega) hI'
    exact ⟨s'', r1, by rw [tlp_succ, e, r2]⟩
theorem isO_nat {a i : Nat} (ha : a < 2147483648) (hi : i < 32) : isO (a : Int) (i : Int) = a.testBit i := by
  unfold isO
  rw [xshr_nat ha (by omega)]
  have h1 : a / 2 ^ i ≤ a := Nat.div_le_self _ _
  rw [show (1 : Int) = ((1 : Nat) : Int) from rfl, xand_nat (by omega) (by omega), xw_nat (Nat.lt_of_le_of_lt Nat.and_le_right (by omega))]
  rw [Nat.and_one_is_mod, Nat.testBit_eq_decide_div_mod_eq]
  congr 1
  apply propext
  omega
theorem p2_le {c : Nat} (hc : c ≤ 11) : 2 ^ c ≤ 2048 := Nat.le_trans (Nat.pow_le_pow_right (by decide) hc) (by decide)
theorem shl_c {c : Nat} (hc : c ≤ 11) : xw (xshl 1 (c : Int)) = ((2 ^ c : Nat) : Int) := by
  have := p2_le hc
  rw [xshl_1 c (by omega), xw_nat (by omega)]
theorem low_ex {S c : Nat} (h0 : S ≠ 0) (hc : S < 2 ^ c) : ∃ l, l < c ∧ S.testBit l = true ∧ ∀ i, i < l → S.testBit i = false := by
  obtain ⟨i, hi⟩ := Nat.exists_testBit_of_ne_zero h0
  have hmin : ∀ n, (∃ i, i < n ∧ S.testBit i = true) → ∃ l, l < n ∧ S.testBit l = true ∧ ∀ i, i < l → S.testBit i = false := by
    intro n
    induction n with
    | zero => rintro ⟨i, h, -⟩; omega
    | succ n ih =>
      rintro ⟨i, h1, h2⟩
      by_cases hq : ∃ i, i < n ∧ S.testBit i = true
      · obtain ⟨l, l1, l2, l3⟩ := ih hq
        exact ⟨l, by omega, l2, l3⟩
      · refine ⟨n, by omega, ?_, fun k hk => ?_⟩
        · by_cases hin : i = n
          · rw [← hin]; exact h2
          · exact absurd ⟨i, by omega, h2⟩ hq
        · cases hb : S.testBit k with
          | false => rfl
          | true => exact absurd ⟨k, hk, hb⟩ hq
  refine hmin c ⟨i, ?_, hi⟩
  by_cases hic : i < c
  · exact hic
  · have h3 := Nat.testBit_lt_two_pow (Nat.lt_of_lt_of_le hc (Nat.pow_le_pow_right (by decide) (show c ≤ i by omega)))
    rw [hi] at h3
    cases h3
theorem r_fillsLong (m : Ob) {c : Nat} (hc : c ≤ 11) : ∃ m', ov_X8_fillsLong (c : Int) m = RV [m'] ∧ (∀ j, j ≠ 10 → m' j = m j) ∧ ∀ S, S < 2 ^ c → m' 10 S = ssu (m 9) c S := by
  have hp := p2_le hc
  have hf := xfu_ge (n := 5000) (by decide)
  have hpos : 0 < 2 ^ c := Nat.two_pow_pos c
  have inner : ∀ (S : Nat) (a : Ob) (kk : Int × Ob → Option Rt) (l : Nat), S < 2 ^ c → S ≠ 0 → l < c → S.testBit l = true → (∀ i, i < l → S.testBit i = false) → ∀ (d i f : Nat), i + d = l → d < f → tlp (lb_X8_fillsLong_18 (c : Int) xfu kk) f ((S : Int), (i : Int), a) = kk ((S : Int) + 1, xset a 10 S (a 10 (S &&& (S - 1)) + a 9 l)) := by
    intro S a kk l hS h0 hl hb hlow d
    have hSs : S &&& (S - 1) < 4096 := Nat.lt_of_le_of_lt Nat.and_le_left (by omega)
    have hxa : xand (S : Int) ((S : Int) - 1) = ((S &&& (S - 1) : Nat) : Int) := by rw [show (S : Int) - 1 = ((S - 1 : Nat) : Int) by omega, xand_nat (by omega) (by omega)]
    induction d with
    | zero =>
      intro i f hi hf
      obtain ⟨f, rfl⟩ : ∃ k, f = k + 1 := ⟨f - 1, by omega⟩
      rw [Nat.add_zero] at hi
      subst hi
      rw [tlp_succ]
      simp only [lb_X8_fillsLong_18, mg_X8_fillsLong_18, isO_nat (show S < 2147483648 by omega) (show i < 32 by omega), hb, bz_0, Bool.true_eq_false, if_false, hxa, xin_nat hSs (show 4096 ≤ 2147483648 by omega), xin_nat (show i < 12 by omega) (show 12 ≤ 2147483648 by omega), xin_nat (show S < 4096 by omega) (show 4096 ≤ 2147483648 by omega), if_true, xw_nat (show S < 2147483648 by omega), xw_nat (show i < 2147483648 by omega), xw_nat (show S &&& (S - 1) < 2147483648 by omega), toNat_nat]
    | succ d ih =>
      intro i f hi hf
      obtain ⟨f, rfl⟩ : ∃ k, f = k + 1 := ⟨f - 1, by omega⟩
      rw [tlp_succ]
      have hbi := hlow i (by omega)
      have := ih (i + 1) f (by omega) (by omega)
      simp only [lb_X8_fillsLong_18, mg_X8_fillsLong_18, isO_nat (show S < 2147483648 by omega) (show i < 32 by omega), hbi, bz_0, if_true]
      rw [show (i : Int) + 1 = ((i + 1 : Nat) : Int) by omega]
      exact this
  rw [ov_X8_fillsLong_e]
  have e1 : md_X8_fillsLong_0 (c : Int) xfu m = tlp (lb_X8_fillsLong_9 (c : Int) xfu) xfu (((1 : Nat) : Int), xset m 10 0 0) := rfl
  rw [e1]
  obtain ⟨m', q1, q2⟩ := loop_ex (B := lb_X8_fillsLong_9 (c : Int) xfu) (2 ^ c) (fun s : Ob => RV [s]) (fun i s => ((i : Int), s)) (fun i (s : Ob) => 1 ≤ i ∧ (∀ j, j ≠ 10 → s j = m j) ∧ ∀ S, S < i → s 10 S = ssu (m 9) c S) (fun i s hi hI => by
      obtain ⟨g1, g2, g3⟩ := hI
      obtain ⟨l, l1, l2, l3⟩ := low_ex (show i ≠ 0 by omega) hi
      refine ⟨xset s 10 i (s 10 (i &&& (i - 1)) + s 9 l), fun k => ?_, by omega, fun j hj => ?_, fun S hS => ?_⟩
      · have h3 := inner i s k l hi (by omega) l1 l2 l3 l 0 xfu (by omega) (by omega)
        simp only [lb_X8_fillsLong_9, mg_X8_fillsLong_9, shl_c hc, xw_nat (show i < 2147483648 by omega)]
        rw [if_neg (by omega)]
        exact h3
      · funext q
        rw [xset_part _ _ _ _ hj, g2 j hj]
      · by_cases hSi : S = i
        · subst hSi
          rw [xset_same, ssu_low l2 l3 l1, g2 9 (by decide), g3 _ (by have := Nat.and_le_right (n := S) (m := S - 1); omega)]
        · rw [xset_idx _ _ _ _ hSi]
          exact g3 S (by omega)) (fun k s _ => by
      simp only [lb_X8_fillsLong_9, mg_X8_fillsLong_9, shl_c hc, xw_nat (show 2 ^ c < 2147483648 by omega)]
      rw [if_pos (by omega)]) (2 ^ c - 1) 1 xfu (xset m 10 0 0) (by omega) (by omega) ⟨Nat.le_refl _, fun j hj => by funext q; exact xset_part _ _ _ _ hj q, fun S hS => by
        have : S = 0 := by omega
        subst this
        rw [xset_same]
        have hz : ∀ c, ssu (m 9) c 0 = 0 := fun c => by
          induction c with
          | zero => rfl
          | succ c ih => unfold ssu at ih ⊢; unfold lod; rw [ih]; simp
        exact (hz c).symm⟩
  exact ⟨m', q2, q1.2.1, q1.2.2⟩
theorem r_packsNothing (m : Ob) {c : Nat} (hc : c ≤ 11) : ∃ m', ov_X8_packsNothing (c : Int) m = RV [m'] ∧ (∀ j, j ≠ 11 → m' j = m j) ∧ ∀ S, S < 2 ^ c → m' 11 S = bz (decide (S = 0)) := by
  have hp := p2_le hc
  have hf := xfu_ge (n := 5000) (by decide)
  rw [ov_X8_packsNothing_e]
  have e1 : md_X8_packsNothing_0 (c : Int) xfu m = tlp (lb_X8_packsNothing_2 (c : Int) xfu) xfu (((0 : Nat) : Int), m) := rfl
  rw [e1]
  obtain ⟨m', q1, q2⟩ := loop_ex (B := lb_X8_packsNothing_2 (c : Int) xfu) (2 ^ c) (fun s : Ob => RV [s]) (fun i s => ((i : Int), s)) (fun i (s : Ob) => (∀ j, j ≠ 11 → s j = m j) ∧ ∀ S, S < i → s 11 S = bz (decide (S = 0))) (fun i s hi hI => by
      obtain ⟨g2, g3⟩ := hI
      refine ⟨xset s 11 i (bz (decide (i = 0))), fun k => ?_, fun j hj => ?_, fun S hS => ?_⟩
      · simp only [lb_X8_packsNothing_2, mg_X8_packsNothing_2, md_X8_packsNothing_23, mg_X8_packsNothing_23, shl_c hc, xw_nat (show i < 2147483648 by omega), xin_nat (show i < 4096 by omega) (show 4096 ≤ 2147483648 by omega), toNat_nat]
        rw [if_neg (show ¬ (i : Int) ≥ ((2 ^ c : Nat) : Int) by omega)]
        by_cases h0 : i = 0
        · subst h0
          rfl
        · rw [if_neg (show ¬ (i : Int) = 0 by omega)]
          simp [h0]
          rfl
      · funext q
        rw [xset_part _ _ _ _ hj, g2 j hj]
      · by_cases hSi : S = i
        · subst hSi
          rw [xset_same]
        · rw [xset_idx _ _ _ _ hSi]
          exact g3 S (by omega)) (fun k s _ => by
      simp only [lb_X8_packsNothing_2, mg_X8_packsNothing_2, shl_c hc, xw_nat (show 2 ^ c < 2147483648 by omega)]
      rw [if_pos (show ((2 ^ c : Nat) : Int) ≥ ((2 ^ c : Nat) : Int) by omega)]) (2 ^ c) 0 xfu m (by omega) (by omega) ⟨fun j hj => rfl, fun S hS => by omega⟩
  exact ⟨m', q2, q1.1, q1.2⟩
/-- one room more -/
theorem r_packsInto (m : Ob) {c : Nat} (hc : c ≤ 11) {room : Int} (hr0 : 0 ≤ room) (hr1 : room ≤ 200) {a : Nat → Int} (ha : ∀ S, S < 2 ^ c → m 10 S = ssu a c S) (hab : ∀ S, S < 2 ^ c → 0 ≤ ssu a c S ∧ ssu a c S ≤ 100000) {P : Nat → Prop} (hP : ∀ S, S < 2 ^ c → m 11 S = bz (pd (P S))) : ∃ m', ov_X8_packsInto room (c : Int) m = RV [m'] ∧ (∀ j, j ≠ 11 → j ≠ 12 → m' j = m j) ∧ ∀ S, S < 2 ^ c → m' 11 S = bz (pd (∃ T, T &&& S = T ∧ ssu a c T ≤ room ∧ P (S - T))) := by
  have hp := p2_le hc
  have hf := xfu_ge (n := 5000) (by decide)
  have hxr : xw room = room := xw_id (by omega) (by omega)
  have hz0 : ∀ c, ssu a c 0 = 0 := fun c => by
    induction c with
    | zero => rfl
    | succ c ih => unfold ssu at ih ⊢; unfold lod; rw [ih]; simp
  -- the loop over the subsets: is = some greater subset does it, or the empty one
  have inner : ∀ (S : Nat) (s : Ob) (kk : Int × Ob → Option Rt), S < 2 ^ c → s 10 = m 10 → s 11 = m 11 → ∀ (d t f : Nat) (is : Bool), t ≤ d → d < f → t &&& S = t → (is = true ↔ P S ∨ ∃ T, t < T ∧ T &&& S = T ∧ ssu a c T ≤ room ∧ P (S - T)) → tlp (lb_X8_packsInto_20 room (c : Int) xfu kk) f ((S : Int), bz is, (t : Int), s) = kk ((S : Int) + 1, xset s 12 S (bz (pd (∃ T, T &&& S = T ∧ ssu a c T ≤ room ∧ P (S - T))))) := by
    intro S s kk hS h10 h11 d
    have fin : ∀ is : Bool, (is = true ↔ ∃ T, T &&& S = T ∧ ssu a c T ≤ room ∧ P (S - T)) → md_X8_packsInto_71 room (c : Int) xfu kk ((S : Int), bz is, s) = kk ((S : Int) + 1, xset s 12 S (bz (pd (∃ T, T &&& S = T ∧ ssu a c T ≤ room ∧ P (S - T))))) := by
      intro is his
      have e2 : pd (∃ T, T &&& S = T ∧ ssu a c T ≤ room ∧ P (S - T)) = is := by
        cases is with
        | true => exact pd_t (his.mp rfl)
        | false =>
          cases hq : pd (∃ T, T &&& S = T ∧ ssu a c T ≤ room ∧ P (S - T)) with
          | false => rfl
          | true => exact absurd (his.mpr (pd_of hq)) (by simp)
      simp only [md_X8_packsInto_71, mg_X8_packsInto_71, e2, xb_bz, xin_nat (show S < 4096 by omega) (show 4096 ≤ 2147483648 by omega), Bool.and_self, if_true, xw_nat (show S < 2147483648 by omega), toNat_nat]
    induction d with
    | zero =>
      intro t f is ht hf hts his
      obtain ⟨f, rfl⟩ : ∃ k, f = k + 1 := ⟨f - 1, by omega⟩
      have t0 : t = 0 := by omega
      subst t0
      rw [tlp_succ]
      simp only [lb_X8_packsInto_20, mg_X8_packsInto_20, xw_nat (show 0 < 2147483648 by omega)]
      rw [if_pos (show ((0 : Nat) : Int) ≤ 0 by omega)]
      refine fin is (his.trans ⟨fun z => ?_, fun z => ?_⟩)
      · rcases z with z | ⟨T, -, z⟩
        · exact ⟨0, Nat.zero_and _, by rw [hz0]; exact hr0, z⟩
        · exact ⟨T, z⟩
      · obtain ⟨T, z1, z2, z3⟩ := z
        by_cases hT : T = 0
        · subst hT; exact Or.inl z3
        · exact Or.inr ⟨T, by omega, z1, z2, z3⟩
    | succ d ih =>
      intro t f is ht hf hts his
      obtain ⟨f, rfl⟩ : ∃ k, f = k + 1 := ⟨f - 1, by omega⟩
      by_cases t0 : t = 0
      · subst t0
        rw [tlp_succ]
        simp only [lb_X8_packsInto_20, mg_X8_packsInto_20, xw_nat (show 0 < 2147483648 by omega)]
        rw [if_pos (show ((0 : Nat) : Int) ≤ 0 by omega)]
        refine fin is (his.trans ⟨fun z => ?_, fun z => ?_⟩)
        · rcases z with z | ⟨T, -, z⟩
          · exact ⟨0, Nat.zero_and _, by rw [hz0]; exact hr0, z⟩
          · exact ⟨T, z⟩
        · obtain ⟨T, z1, z2, z3⟩ := z
          by_cases hT : T = 0
          · subst hT; exact Or.inl z3
          · exact Or.inr ⟨T, by omega, z1, z2, z3⟩
      · have htS := (sub_xor S t hts).1
        have htc : t < 2 ^ c := by omega
        have h10t : s 10 t = ssu a c t := by rw [h10]; exact ha t htc
        have h11t : s 11 (S - t) = bz (pd (P (S - t))) := by rw [h11]; exact hP _ (by omega)
        have hb := hab t htc
        have hnx : (t - 1) &&& S < t := by have := Nat.and_le_left (n := t - 1) (m := S); omega
        have hxn : xand ((t : Int) - 1) (S : Int) = (((t - 1) &&& S : Nat) : Int) := by rw [show (t : Int) - 1 = ((t - 1 : Nat) : Int) by omega, xand_nat (by omega) (by omega)]
        rw [tlp_succ]
        simp only [lb_X8_packsInto_20, mg_X8_packsInto_20, md_X8_packsInto_57, mg_X8_packsInto_57, md_X8_packsInto_58, mg_X8_packsInto_58, xw_nat (show t < 2147483648 by omega), bz_0, xin_nat (show t < 4096 by omega) (show 4096 ≤ 2147483648 by omega), if_true, toNat_nat, h10t, hxr, xw_id (x := ssu a c t) (by omega) (by omega), show (S : Int) - (t : Int) = ((S - t : Nat) : Int) by omega, xin_nat (show S - t < 4096 by omega) (show 4096 ≤ 2147483648 by omega), xw_nat (show S - t < 2147483648 by omega), h11t, hxn]
        rw [if_neg (show ¬ (t : Int) ≤ 0 by omega)]
        cases is with
        | true =>
          rw [if_neg (by simp)]
          refine fin true ⟨fun z => ?_, fun z => rfl⟩
          rcases his.mp z with z | ⟨T, -, z⟩
          · exact ⟨0, Nat.zero_and _, by rw [hz0]; exact hr0, z⟩
          · exact ⟨T, z⟩
        | false =>
          rw [if_pos rfl]
          have hno : ¬ (P S ∨ ∃ T, t < T ∧ T &&& S = T ∧ ssu a c T ≤ room ∧ P (S - T)) := fun z => by have := his.mpr z; cases this
          have step : ∀ b : Bool, (b = true ↔ ssu a c t ≤ room ∧ P (S - t)) → tlp (lb_X8_packsInto_20 room (c : Int) xfu kk) f ((S : Int), bz b, (((t - 1) &&& S : Nat) : Int), s) = kk ((S : Int) + 1, xset s 12 S (bz (pd (∃ T, T &&& S = T ∧ ssu a c T ≤ room ∧ P (S - T))))) := by
            intro b hbt
            refine ih ((t - 1) &&& S) f b (by omega) (by omega) and_sub (hbt.trans ⟨fun z => Or.inr ⟨t, hnx, hts, z.1, z.2⟩, fun z => ?_⟩)
            rcases z with z | ⟨T, z1, z2, z3, z4⟩
            · exact absurd (Or.inl z) hno
            · by_cases hTt : T = t
              · subst hTt; exact ⟨z3, z4⟩
              · by_cases hlt : t < T
                · exact absurd (Or.inr ⟨T, hlt, z2, z3, z4⟩) hno
                · have := sub_next S t T hts z2 (by omega)
                  omega
          by_cases hle : ssu a c t ≤ room
          · rw [if_neg (show ¬ ssu a c t > room by omega)]
            cases hq : pd (P (S - t)) with
            | false =>
              rw [if_pos rfl]
              exact step false ⟨fun z => (by cases z), fun z => by rw [pd_t z.2] at hq; cases hq⟩
            | true =>
              rw [if_neg (by simp)]
              exact step true ⟨fun _ => ⟨hle, pd_of hq⟩, fun _ => rfl⟩
          · rw [if_pos (show ssu a c t > room by omega)]
            exact step false ⟨fun z => (by cases z), fun z => absurd z.1 hle⟩
  rw [ov_X8_packsInto_e]
  have e1 : md_X8_packsInto_0 room (c : Int) xfu m = tlp (lb_X8_packsInto_2 room (c : Int) xfu) xfu (((0 : Nat) : Int), m) := rfl
  rw [e1]
  obtain ⟨m', q1, q2⟩ := loop_ex (B := lb_X8_packsInto_2 room (c : Int) xfu) (2 ^ c) (fun s : Ob => md_X8_packsInto_87 room (c : Int) xfu (((0 : Nat) : Int), s)) (fun i s => ((i : Int), s)) (fun i (s : Ob) => (∀ j, j ≠ 12 → s j = m j) ∧ ∀ S, S < i → s 12 S = bz (pd (∃ T, T &&& S = T ∧ ssu a c T ≤ room ∧ P (S - T)))) (fun i s hi hI => by
      obtain ⟨g2, g3⟩ := hI
      refine ⟨xset s 12 i (bz (pd (∃ T, T &&& i = T ∧ ssu a c T ≤ room ∧ P (i - T)))), fun k => ?_, fun j hj => ?_, fun S hS => ?_⟩
      · have h3 := inner i s k hi (g2 10 (by decide)) (g2 11 (by decide)) i i xfu (pd (P i)) (Nat.le_refl _) (by omega) (Nat.and_self _) ⟨fun z => Or.inl (pd_of z), fun z => by
          rcases z with z | ⟨T, z1, z2, -⟩
          · exact pd_t z
          · have := (sub_xor i T z2).1
            omega⟩
        have h4 : s 11 i = bz (pd (P i)) := by rw [g2 11 (by decide)]; exact hP i hi
        simp only [lb_X8_packsInto_2, mg_X8_packsInto_2, shl_c hc, xw_nat (show i < 2147483648 by omega), xin_nat (show i < 4096 by omega) (show 4096 ≤ 2147483648 by omega), toNat_nat, if_true, h4]
        rw [if_neg (show ¬ (i : Int) ≥ ((2 ^ c : Nat) : Int) by omega)]
        exact h3
      · funext q
        rw [xset_part _ _ _ _ hj, g2 j hj]
      · by_cases hSi : S = i
        · subst hSi
          rw [xset_same]
        · rw [xset_idx _ _ _ _ hSi]
          exact g3 S (by omega)) (fun k s _ => by
      simp only [lb_X8_packsInto_2, mg_X8_packsInto_2, shl_c hc, xw_nat (show 2 ^ c < 2147483648 by omega)]
      rw [if_pos (show ((2 ^ c : Nat) : Int) ≥ ((2 ^ c : Nat) : Int) by omega)]
      rfl) (2 ^ c) 0 xfu m (by omega) (by omega) ⟨fun j hj => rfl, fun S hS => by omega⟩
  rw [q2]
  obtain ⟨g2, g3⟩ := q1
  obtain ⟨m2, w1, w2⟩ := loop_ex (B := lb_X8_packsInto_87 room (c : Int) xfu) (2 ^ c) (fun s : Ob => RV [s]) (fun i s => ((i : Int), s)) (fun i (s : Ob) => (∀ j, j ≠ 11 → s j = m' j) ∧ ∀ S, S < i → s 11 S = m' 12 S) (fun i s hi hI => by
      obtain ⟨u2, u3⟩ := hI
      refine ⟨xset s 11 i (s 12 i), fun k => ?_, fun j hj => ?_, fun S hS => ?_⟩
      · have h4 : s 12 i = bz (pd (∃ T, T &&& i = T ∧ ssu a c T ≤ room ∧ P (i - T))) := by rw [u2 12 (by decide)]; exact g3 i hi
        simp only [lb_X8_packsInto_87, mg_X8_packsInto_87, shl_c hc, xw_nat (show i < 2147483648 by omega), xin_nat (show i < 4096 by omega) (show 4096 ≤ 2147483648 by omega), toNat_nat, if_true, h4, xb_bz, Bool.and_self]
        rw [if_neg (show ¬ (i : Int) ≥ ((2 ^ c : Nat) : Int) by omega)]
        rfl
      · funext q
        rw [xset_part _ _ _ _ hj, u2 j hj]
      · by_cases hSi : S = i
        · subst hSi
          rw [xset_same, u2 12 (by decide)]
        · rw [xset_idx _ _ _ _ hSi]
          exact u3 S (by omega)) (fun k s _ => by
      simp only [lb_X8_packsInto_87, mg_X8_packsInto_87, shl_c hc, xw_nat (show 2 ^ c < 2147483648 by omega)]
      rw [if_pos (show ((2 ^ c : Nat) : Int) ≥ ((2 ^ c : Nat) : Int) by omega)]) (2 ^ c) 0 xfu m' (by omega) (by omega) ⟨fun j hj => rfl, fun S hS => by omega⟩
  refine ⟨m2, w2, fun j j1 j2 => ?_, fun S hS => ?_⟩
  · rw [w1.1 j j1, g2 j j2]
  · rw [w1.2 S hS, g3 S hS]
