theorem tlp_to {A C : Type} {B : (C → Option Rt) → (A → Option Rt) → A → Option Rt} (I : A → Prop) (ms : A → Nat) (Q : C → Prop) (h : ∀ a, I a → (∃ a', (∀ kx k, B kx k a = k a') ∧ I a' ∧ ms a' < ms a) ∨ (∃ c, (∀ kx k, B kx k a = kx c) ∧ Q c)) : ∀ (f : Nat) (a : A), I a → ms a < f → ∃ c, (∀ kx, tlp (B kx) f a = kx c) ∧ Q c := by
  intro f
  induction f with
  | zero => intro a _ hf; omega
  | succ f ih =>
    intro a ha hf
    rcases h a ha with ⟨a', h1, h2, h3⟩ | ⟨c, h1, h2⟩
    · obtain ⟨c, c1, c2⟩ := ih a' h2 (by omega)
      exact ⟨c, fun kx => by rw [tlp_succ, h1]; exact c1 kx, c2⟩
    · exact ⟨c, fun kx => by rw [tlp_succ, h1], h2⟩
theorem ex_max (p : Nat → Prop) (f : Nat → Nat) : ∀ c : Nat, (∃ i, i < c ∧ p i) → ∃ i, i < c ∧ p i ∧ ∀ k, k < c → p k → f k ≤ f i := by
  intro c
  induction c with
  | zero => rintro ⟨i, h, _⟩; omega
  | succ c ih =>
    rintro ⟨i, hi, hp⟩
    by_cases hx : ∃ i, i < c ∧ p i
    · obtain ⟨j, j1, j2, j3⟩ := ih hx
      by_cases hc : p c ∧ f j < f c
      · exact ⟨c, by omega, hc.1, fun k hk hpk => by
          by_cases hkc : k = c
          · subst hkc; exact Nat.le_refl _
          · have := j3 k (by omega) hpk; omega⟩
      · refine ⟨j, by omega, j2, fun k hk hpk => ?_⟩
        by_cases hkc : k = c
        · subst hkc
          rcases Nat.lt_or_ge (f j) (f k) with z | z
          · exact absurd ⟨hpk, z⟩ hc
          · exact z
        · exact j3 k (by omega) hpk
    · have hic : i = c := by
        by_cases hic : i = c
        · exact hic
        · exact absurd ⟨i, by omega, hp⟩ hx
      subst hic
      exact ⟨i, by omega, hp, fun k hk hpk => by
        by_cases hki : k = i
        · subst hki; exact Nat.le_refl _
        · exact absurd ⟨k, by omega, hpk⟩ hx⟩
theorem bit_lt {T c i : Nat} (hT : T < 2 ^ c) (h : T.testBit i = true) : i < c := by
  rcases Nat.lt_or_ge i c with z | z
  · exact z
  · have : T.testBit i = false := Nat.testBit_lt_two_pow (Nat.lt_of_lt_of_le hT (Nat.pow_le_pow_right (by omega) z))
    rw [this] at h; cases h
theorem ex_bit {T c : Nat} (hT : T < 2 ^ c) (h0 : T ≠ 0) : ∃ i, i < c ∧ T.testBit i = true := by
  by_cases hx : ∃ i, T.testBit i = true
  · obtain ⟨i, hi⟩ := hx
    exact ⟨i, bit_lt hT hi, hi⟩
  · refine absurd (Nat.eq_of_testBit_eq (fun i => ?_)) h0
    rw [Nat.zero_testBit]
    cases hb : T.testBit i with
    | false => rfl
    | true => exact absurd ⟨i, hb⟩ hx
def uwx (len : Nat → Int) (n : Nat) (v x : Int) : Int := if v < 65536 then uwN len n v x else 65536
theorem dp_full {a : Nat → Int} {c n : Nat} {len : Nat → Int} {U : Nat → Int} (hlen : ∀ j, j < n → 0 ≤ len j ∧ len j ≤ 200) (ha : ∀ k, k < c → 1 ≤ a k) (hn : n ≤ 12) (U0 : U 0 = 0) (Ub : ∀ T, T < 2 ^ c → 0 ≤ U T ∧ (U T < 65536 → U T % 256 ≤ 200))
    (hr : ∀ S k, S < 2 ^ c → k < c → S.testBit k = false → U (S ||| 2 ^ k) ≤ uwx len n (U S) (a k)) : ∀ T, T < 2 ^ c → ∀ (r : Nat) (u : Int), Ach a c T len n r u → U T ≤ (r : Int) * 256 + u := by
  intro T
  induction T using Nat.strongRecOn with
  | ind T ih =>
    intro hT r u hA
    obtain ⟨h1, h2, f, f1, f2, f3⟩ := hA
    have hnn : ∀ j, 0 ≤ lod a f j c T := fun j => lod_nonneg (fun i hi => by have := ha i hi; omega)
    by_cases hT0 : T = 0
    · subst hT0
      rw [U0]
      have := hnn r
      omega
    · obtain ⟨i, hi, hb, hmax⟩ := ex_max (fun i => T.testBit i = true) f c (ex_bit hT hT0)
      have hS : ∀ k, (T ^^^ 2 ^ i).testBit k = if k = i then false else T.testBit k := by
        intro k
        rw [Nat.testBit_xor, Nat.testBit_two_pow]
        by_cases hk : i = k
        · subst hk; simp [hb]
        · simp [hk, Ne.symm hk]
      have hSi : (T ^^^ 2 ^ i).testBit i = false := by rw [hS]; simp
      have hSk : ∀ k, k ≠ i → T.testBit k = (T ^^^ 2 ^ i).testBit k := fun k hk => by rw [hS]; simp [hk]
      have hlt : T ^^^ 2 ^ i < T := by
        have h3 : (T ^^^ 2 ^ i) &&& T = T ^^^ 2 ^ i := by
          apply Nat.eq_of_testBit_eq
          intro k
          rw [Nat.testBit_and, hS]
          by_cases hk : k = i
          · simp [hk]
          · simp [hk]
        refine Nat.lt_of_le_of_ne ?_ (fun z => ?_)
        · rw [← h3]; exact Nat.and_le_right
        · rw [z, hb] at hSi; cases hSi
      have hor : (T ^^^ 2 ^ i) ||| 2 ^ i = T := by
        apply Nat.eq_of_testBit_eq
        intro k
        rw [Nat.testBit_or, hS, Nat.testBit_two_pow]
        by_cases hk : i = k
        · subst hk; simp [hb]
        · simp [hk, Ne.symm hk]
      have hq : f i ≤ r := f1 i hi hb
      have hadd : ∀ j, lod a f j c T = lod a f j c (T ^^^ 2 ^ i) + (if f i = j then a i else 0) := fun j => lod_add hi hSi hb hSk (fun _ _ => rfl) rfl
      have hfq : lod a f (f i) c T ≤ len (f i) ∧ (f i : Int) * 256 + lod a f (f i) c T ≤ (r : Int) * 256 + u := by
        by_cases hqr : f i = r
        · rw [hqr]; omega
        · have := f2 (f i) (by omega)
          have h3 := hlen (f i) (by omega)
          have := hnn r
          omega
      have hAch : Ach a c (T ^^^ 2 ^ i) len n (f i) (lod a f (f i) c T - a i) := by
        have := ha i hi
        refine ⟨by omega, by omega, f, fun k hk hbk => ?_, fun j hj => ?_, ?_⟩
        · have hki : k ≠ i := fun z => by subst z; rw [hSi] at hbk; cases hbk
          exact hmax k hk (by rw [hSk k hki]; exact hbk)
        · have e := hadd j
          rw [if_neg (by omega)] at e
          have := f2 j (by omega)
          omega
        · have e := hadd (f i)
          rw [if_pos rfl] at e
          omega
      have hih := ih (T ^^^ 2 ^ i) hlt (Nat.lt_trans hlt hT) (f i) _ hAch
      have hrel := hr (T ^^^ 2 ^ i) i (Nat.lt_trans hlt hT) hi hSi
      rw [hor] at hrel
      have hUb := Ub (T ^^^ 2 ^ i) (Nat.lt_trans hlt hT)
      have hpos : 0 ≤ lod a f (f i) c T - a i := by
        have e := hadd (f i)
        rw [if_pos rfl] at e
        have := lod_nonneg (f := f) (j := f i) (S := T ^^^ 2 ^ i) (fun k hk => by have := ha k hk; omega : ∀ k, k < c → 0 ≤ a k)
        omega
      have hl2 := hlen (f i) (by omega)
      have hai := ha i hi
      have hv : U (T ^^^ 2 ^ i) < 65536 := by omega
      unfold uwx at hrel
      rw [if_pos hv] at hrel
      have := uwN_mono (q := f i) hlen (show 0 < a i by have := ha i hi; omega) hUb.1 (hUb.2 hv) (by omega) hpos (by omega) hih
      omega
theorem ach_packs {a : Nat → Int} {c T n r : Nat} {len : Nat → Int} {u : Int} (hlen : ∀ j, j < n → 0 ≤ len j) (h : Ach a c T len n r u) : Packs a c T len n := by
  obtain ⟨h1, h2, f, f1, f2, f3⟩ := h
  refine ⟨f, fun i hi hb => by have := f1 i hi hb; omega, fun j hj => ?_⟩
  by_cases hjr : j < r
  · exact f2 j hjr
  · by_cases hjr2 : j = r
    · subst hjr2; omega
    · have : lod a f j c T = lod a f j c 0 := lod_cong (fun k hk => ⟨fun z => by have := f1 k hk z.1; omega, fun z => by simp at z⟩)
      rw [this]
      have z0 : ∀ c, lod a f j c 0 = 0 := by
        intro c
        induction c with
        | zero => rfl
        | succ c ih => unfold lod; rw [ih]; simp
      rw [z0]
      exact hlen j hj
theorem packs_ach {a : Nat → Int} {c T n : Nat} {len : Nat → Int} (hn : 0 < n) (h : Packs a c T len n) : ∃ u, u ≤ len (n - 1) ∧ Ach a c T len n (n - 1) u := by
  obtain ⟨f, f1, f2⟩ := h
  exact ⟨lod a f (n - 1) c T, f2 (n - 1) (by omega), by omega, f2 (n - 1) (by omega), f, fun i hi hb => by have := f1 i hi hb; omega, fun j hj => f2 j (by omega), Int.le_refl _⟩
/-- the sum of the first c -/
def sm (a : Nat → Int) : Nat → Int
  | 0 => 0
  | c + 1 => sm a c + a c
theorem sm_lod (a : Nat → Int) (f : Nat → Nat) (S : Nat) : ∀ (n c : Nat), (∀ i, i < c → S.testBit i = true ∧ f i < n) → sm (fun j => lod a f j c S) n = sm a c := by
  intro n c
  induction c with
  | zero =>
    intro _
    show sm (fun j => 0) n = 0
    induction n with
    | zero => rfl
    | succ n ih => unfold sm; rw [ih (fun i hi => by omega)]; rfl
  | succ c ih =>
    intro h
    have h1 := ih (fun i hi => h i (by omega))
    have h2 := h c (by omega)
    have key : ∀ m, sm (fun j => lod a f j (c + 1) S) m = sm (fun j => lod a f j c S) m + (if f c < m then a c else 0) := by
      intro m
      induction m with
      | zero => simp [sm]
      | succ m ihm =>
        show sm (fun j => lod a f j (c + 1) S) m + lod a f m (c + 1) S = sm (fun j => lod a f j c S) m + lod a f m c S + _
        rw [ihm]
        show _ + (lod a f m c S + (if S.testBit c = true ∧ f c = m then a c else 0)) = _
        by_cases hm : f c < m
        · rw [if_pos hm, if_neg (fun z => by omega), if_pos (show f c < m + 1 by omega)]; omega
        · by_cases hm2 : f c = m
          · rw [if_neg hm, if_pos ⟨h2.1, hm2⟩, if_pos (show f c < m + 1 by omega)]; omega
          · rw [if_neg hm, if_neg (fun z => hm2 z.2), if_neg (show ¬ f c < m + 1 by omega)]; omega
    rw [key n, h1, if_pos h2.2]
    rfl
theorem sm_le {a b : Nat → Int} : ∀ {n : Nat}, (∀ j, j < n → a j ≤ b j) → sm a n ≤ sm b n
  | 0, _ => Int.le_refl _
  | n + 1, h => by
    have := sm_le (fun j hj => h j (by omega) : ∀ j, j < n → a j ≤ b j)
    have := h n (by omega)
    show sm a n + a n ≤ sm b n + b n
    omega
theorem full_bit {c i : Nat} (hi : i < c) : (2 ^ c - 1).testBit i = true := by rw [Nat.testBit_two_pow_sub_one]; simp [hi]
theorem packs_sum {a : Nat → Int} {c n : Nat} {len : Nat → Int} (h : Packs a c (2 ^ c - 1) len n) : sm a c ≤ sm len n := by
  obtain ⟨f, f1, f2⟩ := h
  rw [← sm_lod a f (2 ^ c - 1) n c (fun i hi => ⟨full_bit hi, f1 i hi (full_bit hi)⟩)]
  exact sm_le f2
theorem lod_ge {a : Nat → Int} {f : Nat → Nat} {S : Nat} {i : Nat} : ∀ {c : Nat}, (∀ k, k < c → 0 ≤ a k) → i < c → S.testBit i = true → a i ≤ lod a f (f i) c S
  | 0, _, h, _ => by omega
  | c + 1, ha, hi, hb => by
    unfold lod
    by_cases hic : i = c
    · subst hic
      have := lod_nonneg (f := f) (j := f i) (S := S) (fun k hk => ha k (by omega) : ∀ k, k < i → 0 ≤ a k)
      rw [if_pos ⟨hb, rfl⟩]; omega
    · have := lod_ge (f := f) (S := S) (fun k hk => ha k (by omega) : ∀ k, k < c → 0 ≤ a k) (by omega) hb
      have := ha c (by omega)
      split <;> omega
theorem packs_max {a : Nat → Int} {c n i : Nat} {len : Nat → Int} (ha : ∀ k, k < c → 0 ≤ a k) (h : Packs a c (2 ^ c - 1) len n) (hi : i < c) : ∃ j, j < n ∧ a i ≤ len j := by
  obtain ⟨f, f1, f2⟩ := h
  have := f1 i hi (full_bit hi)
  exact ⟨f i, this, Int.le_trans (lod_ge ha hi (full_bit hi)) (f2 _ this)⟩

