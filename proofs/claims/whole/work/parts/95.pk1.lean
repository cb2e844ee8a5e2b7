theorem lod_cong2 {a : Nat → Int} {f g : Nat → Nat} {j k S T : Nat} : ∀ {c : Nat}, (∀ i, i < c → (S.testBit i = true ∧ f i = j ↔ T.testBit i = true ∧ g i = k)) → lod a f j c S = lod a g k c T
  | 0, _ => rfl
  | c + 1, h => by
    unfold lod
    rw [lod_cong2 (fun i hi => h i (by omega))]
    congr 1
    have := h c (by omega)
    by_cases hc : S.testBit c = true ∧ f c = j
    · rw [if_pos hc, if_pos (this.mp hc)]
    · rw [if_neg hc, if_neg (fun z => hc (this.mpr z))]
/-- things of a set into the rooms that ok names -/
def PkS (a : Nat → Int) (c S : Nat) (len : Nat → Int) (ok : Nat → Prop) : Prop := ∃ f : Nat → Nat, (∀ i, i < c → S.testBit i = true → ok (f i)) ∧ ∀ j, ok j → lod a f j c S ≤ len j
theorem packs_pks (a : Nat → Int) (c S : Nat) (len : Nat → Int) (n : Nat) : Packs a c S len n ↔ PkS a c S len (fun j => j < n) := Iff.rfl
/-- the sum of a set -/
def ssu (a : Nat → Int) (c S : Nat) : Int := lod a (fun _ => 0) 0 c S
theorem bits_ex (P : Nat → Bool) : ∀ c : Nat, ∃ T, T < 2 ^ c ∧ ∀ i, i < c → T.testBit i = P i
  | 0 => ⟨0, by decide, fun i hi => absurd hi (Nat.not_lt_zero _)⟩
  | c + 1 => by
    obtain ⟨T, h1, h2⟩ := bits_ex P c
    have hp : 2 ^ (c + 1) = 2 * 2 ^ c := by rw [Nat.pow_succ]; omega
    cases hP : P c
    · refine ⟨T, by omega, fun i hi => ?_⟩
      by_cases hic : i = c
      · rw [hic, hP]; exact Nat.testBit_lt_two_pow h1
      · exact h2 i (by omega)
    · refine ⟨2 ^ c + T, by omega, fun i hi => ?_⟩
      by_cases hic : i = c
      · rw [hic, hP, Nat.testBit_two_pow_add_eq, Nat.testBit_lt_two_pow h1]; rfl
      · rw [Nat.testBit_two_pow_add_gt (by omega)]
        exact h2 i (by omega)
theorem sub_xor : ∀ (S T : Nat), T &&& S = T → T ≤ S ∧ S - T = S ^^^ T := by
  intro S
  induction S using Nat.strongRecOn with
  | ind S ih =>
    intro T h
    by_cases hS : S = 0
    · subst hS
      rw [Nat.and_zero] at h
      subst h
      decide
    · have hd : (T / 2) &&& (S / 2) = T / 2 := by rw [← Nat.and_div_two, h]
      obtain ⟨i1, i2⟩ := ih (S / 2) (by omega) (T / 2) hd
      have hm : T % 2 &&& S % 2 = T % 2 := by
        have h2 : (T &&& S) % 2 ^ 1 = T % 2 := by rw [h]
        rw [Nat.and_mod_two_pow] at h2
        exact h2
      have hle : T % 2 ≤ S % 2 := by
        rw [← hm]; exact Nat.and_le_right
      have hx1 : (S ^^^ T) / 2 = S / 2 ^^^ T / 2 := Nat.xor_div_two
      have hx2 : (S ^^^ T) % 2 = S % 2 ^^^ T % 2 := Nat.xor_mod_two_pow (n := 1)
      have hx3 : S % 2 ^^^ T % 2 = S % 2 - T % 2 := by
        have h1 : S % 2 = 0 ∨ S % 2 = 1 := by omega
        have h2 : T % 2 = 0 ∨ T % 2 = 1 := by omega
        rcases h1 with h1 | h1 <;> rcases h2 with h2 | h2 <;> rw [h1, h2] at hle ⊢ <;> first | rfl | omega
      omega
theorem sub_bit {S T : Nat} (h : T &&& S = T) (i : Nat) : (S - T).testBit i = (S.testBit i && !T.testBit i) := by
  rw [(sub_xor S T h).2, Nat.testBit_xor]
  have : (T &&& S).testBit i = T.testBit i := by rw [h]
  rw [Nat.testBit_and] at this
  cases h1 : S.testBit i <;> cases h2 : T.testBit i <;> simp [h1, h2] at this ⊢
theorem sub_of {S T c : Nat} (hS : S < 2 ^ c) (hT : T < 2 ^ c) (h : ∀ i, i < c → T.testBit i = true → S.testBit i = true) : T &&& S = T := by
  apply Nat.eq_of_testBit_eq
  intro i
  rw [Nat.testBit_and]
  by_cases hi : i < c
  · cases ht : T.testBit i
    · rfl
    · rw [h i hi ht]; rfl
  · rw [Nat.testBit_lt_two_pow (Nat.lt_of_lt_of_le hT (Nat.pow_le_pow_right (by decide) (by omega)))]
    rfl
/-- one room, whichever: what goes into it is a set -/
theorem pks_split {a : Nat → Int} {c S : Nat} {len : Nat → Int} {ok ok' : Nat → Prop} {g : Nat} (hS : S < 2 ^ c) (hg : ¬ ok g) (hok : ∀ j, ok' j ↔ ok j ∨ j = g) : PkS a c S len ok' ↔ ∃ T, T &&& S = T ∧ ssu a c T ≤ len g ∧ PkS a c (S - T) len ok := by
  constructor
  · rintro ⟨f, f1, f2⟩
    obtain ⟨T, t1, t2⟩ := bits_ex (fun i => S.testBit i && decide (f i = g)) c
    have hTS : T &&& S = T := sub_of hS t1 (fun i hi hb => by
      rw [t2 i hi] at hb
      simp only [Bool.and_eq_true] at hb
      exact hb.1)
    refine ⟨T, hTS, ?_, f, fun i hi hb => ?_, fun j hj => ?_⟩
    · have := f2 g ((hok g).mpr (Or.inr rfl))
      rw [lod_cong2 (T := T) (g := fun _ => 0) (k := 0) (fun i hi => by rw [t2 i hi]; simp)] at this
      exact this
    · rw [sub_bit hTS, t2 i hi] at hb
      have hs : S.testBit i = true := by cases h : S.testBit i <;> simp [h] at hb ⊢
      rcases (hok _).mp (f1 i hi hs) with h | h
      · exact h
      · simp [hs, h] at hb
    · have := f2 j ((hok j).mpr (Or.inl hj))
      rw [← lod_cong (S := S) (T := S - T) (f := f) (g := f) (j := j)]
      · exact this
      · intro i hi
        rw [sub_bit hTS, t2 i hi]
        by_cases hfj : f i = j
        · have : ¬ f i = g := fun z => hg (by rw [← z, hfj]; exact hj)
          simp [this]
        · simp [hfj]
  · rintro ⟨T, hTS, hsum, f, f1, f2⟩
    refine ⟨fun i => if T.testBit i then g else f i, fun i hi hb => ?_, fun j hj => ?_⟩
    · by_cases ht : T.testBit i = true
      · simp only [ht, if_true]
        exact (hok g).mpr (Or.inr rfl)
      · simp only [ht, if_false]
        exact (hok _).mpr (Or.inl (f1 i hi (by rw [sub_bit hTS, hb]; simp [ht])))
    · rcases (hok j).mp hj with h | h
      · rw [lod_cong2 (T := S - T) (g := f) (k := j) (fun i hi => by
          rw [sub_bit hTS]
          cases ht : T.testBit i
          · simp
          · have : ¬ g = j := fun z => hg (by rw [z]; exact h)
            simp [this])]
        exact f2 j h
      · subst h
        rw [lod_cong2 (T := T) (g := fun _ => 0) (k := 0) (fun i hi => by
          cases ht : T.testBit i
          · cases hs : S.testBit i
            · simp
            · have hb : (S - T).testBit i = true := by rw [sub_bit hTS, hs, ht]; rfl
              have : ¬ f i = j := fun z => hg (by rw [← z]; exact f1 i hi hb)
              simp [this]
          · have hh : (T &&& S).testBit i = true := by rw [hTS]; exact ht
            rw [Nat.testBit_and] at hh
            have hs : S.testBit i = true := by cases h : S.testBit i <;> simp [h] at hh ⊢
            simp [hs])]
        exact hsum

/-- the things of a set, as a list -/
def sel (a : Nat → Int) : Nat → Nat → List Int
  | 0, _ => []
  | c + 1, S => if S.testBit c then a c :: sel a c S else sel a c S
def pup (len : Nat → Int) (j : Nat) (x : Int) : Nat → Int := fun k => if k = j then len k - x else len k
def PkI : List Int → (Nat → Int) → (Nat → Prop) → Prop
  | [], len, ok => ∀ j, ok j → 0 ≤ len j
  | x :: I, len, ok => ∃ j, ok j ∧ PkI I (pup len j x) ok
theorem pup_comm (len : Nat → Int) (j k : Nat) (x y : Int) : pup (pup len j x) k y = pup (pup len k y) j x := by
  funext i
  unfold pup
  by_cases h1 : i = j <;> by_cases h2 : i = k <;> simp [h1, h2] <;> omega
theorem PkI_perm {I J : List Int} (h : I.Perm J) : ∀ {len : Nat → Int} {ok : Nat → Prop}, PkI I len ok → PkI J len ok := by
  induction h with
  | nil => intro len ok h; exact h
  | cons x _ ih => rintro len ok ⟨j, h1, h2⟩; exact ⟨j, h1, ih h2⟩
  | swap x y l =>
    rintro len ok ⟨j, h1, k, h2, h3⟩
    exact ⟨k, h2, j, h1, by rw [pup_comm]; exact h3⟩
  | trans _ _ i1 i2 => intro len ok h; exact i2 (i1 h)
theorem PkI_mono {I : List Int} : ∀ {len len' : Nat → Int} {ok : Nat → Prop}, (∀ j, ok j → len j ≤ len' j) → PkI I len ok → PkI I len' ok := by
  induction I with
  | nil => intro len len' ok hl h j hj; exact Int.le_trans (h j hj) (hl j hj)
  | cons x I ih =>
    rintro len len' ok hl ⟨j, h1, h2⟩
    refine ⟨j, h1, ih (fun k hk => ?_) h2⟩
    have := hl k hk
    unfold pup
    split <;> omega
theorem PkI_tail {x : Int} {I : List Int} {len : Nat → Int} {ok : Nat → Prop} (hx : 0 ≤ x) (h : PkI (x :: I) len ok) : PkI I len ok := by
  obtain ⟨j, h1, h2⟩ := h
  refine PkI_mono (fun k hk => ?_) h2
  unfold pup
  split <;> omega
theorem PkI_head {x y : Int} {I : List Int} {len : Nat → Int} {ok : Nat → Prop} (hx : y ≤ x) (h : PkI (x :: I) len ok) : PkI (y :: I) len ok := by
  obtain ⟨j, h1, h2⟩ := h
  refine ⟨j, h1, PkI_mono (fun k hk => ?_) h2⟩
  unfold pup
  split <;> omega
theorem pks_pki {a : Nat → Int} {S : Nat} {ok : Nat → Prop} : ∀ {c : Nat} {len : Nat → Int}, PkS a c S len ok ↔ PkI (sel a c S) len ok
  | 0, len => ⟨fun ⟨f, _, h⟩ j hj => h j hj, fun h => ⟨fun _ => 0, fun i hi => absurd hi (Nat.not_lt_zero _), fun j hj => h j hj⟩⟩
  | c + 1, len => by
    unfold sel
    by_cases hb : S.testBit c = true
    · rw [if_pos hb]
      constructor
      · rintro ⟨f, f1, f2⟩
        refine ⟨f c, f1 c (by omega) hb, pks_pki.mp ⟨f, fun i hi => f1 i (by omega), fun j hj => ?_⟩⟩
        have := f2 j hj
        unfold lod at this
        unfold pup
        by_cases hj : j = f c
        · subst hj
          rw [if_pos ⟨hb, rfl⟩] at this
          rw [if_pos rfl]
          omega
        · rw [if_neg (fun z => hj z.2.symm)] at this
          rw [if_neg hj]
          omega
      · rintro ⟨j, h1, h2⟩
        obtain ⟨f, f1, f2⟩ := pks_pki.mpr h2
        refine ⟨fun i => if i = c then j else f i, fun i hi hs => ?_, fun k hk => ?_⟩
        · by_cases hic : i = c
          · simp only [hic, if_true]; exact h1
          · simp only [hic, if_false]; exact f1 i (by omega) hs
        · unfold lod
          rw [lod_cong2 (T := S) (g := f) (k := k) (fun i hi => by simp [show ¬ i = c by omega])]
          have := f2 k hk
          unfold pup at this
          by_cases hkj : k = j
          · rw [if_pos hkj] at this
            simp only [hb, hkj, if_true, and_self]
            subst hkj
            omega
          · rw [if_neg hkj] at this
            simp only [if_true, show ¬ j = k from fun z => hkj z.symm, and_false, if_false]
            omega
    · rw [if_neg hb]
      refine Iff.trans ?_ pks_pki
      constructor
      · rintro ⟨f, f1, f2⟩
        refine ⟨f, fun i hi => f1 i (by omega), fun j hj => ?_⟩
        have := f2 j hj
        unfold lod at this
        rw [if_neg (fun z => hb z.1)] at this
        omega
      · rintro ⟨f, f1, f2⟩
        refine ⟨f, fun i hi hs => f1 i (by
          by_cases hic : i = c
          · rw [hic] at hs; exact absurd hs hb
          · omega) hs, fun j hj => ?_⟩
        have := f2 j hj
        unfold lod
        rw [if_neg (fun z => hb z.1)]
        omega
theorem PkI_cong {I : List Int} : ∀ {len len' : Nat → Int} {ok ok' : Nat → Prop}, (∀ j, ok j ↔ ok' j) → (∀ j, ok j → len j = len' j) → PkI I len ok → PkI I len' ok' := by
  intro len len' ok ok' h1 h2 h
  have : ok = ok' := funext fun j => propext (h1 j)
  subst this
  exact PkI_mono (fun j hj => Int.le_of_eq (h2 j hj)) h
theorem sel_list (l : List Int) (a : Nat → Int) : ∀ (c : Nat), c ≤ l.length → (∀ i, i < c → l[i]? = some (a i)) → (sel a c (2 ^ l.length - 1)).Perm (l.take c) := by
  intro c
  induction c with
  | zero => intro _ _; exact List.Perm.nil
  | succ c ih =>
    intro hc ha
    unfold sel
    rw [Nat.testBit_two_pow_sub_one, if_pos (by simp; omega)]
    have h1 := ha c (by omega)
    obtain ⟨h2, h3⟩ := List.getElem?_eq_some_iff.mp h1
    rw [List.take_succ_eq_append_getElem h2, h3]
    exact ((ih (by omega) (fun i hi => ha i (by omega))).cons _).trans (List.perm_append_singleton _ _).symm
/-- the next subset -/
theorem sub_next : ∀ (S s T : Nat), s &&& S = s → T &&& S = T → T < s → T ≤ (s - 1) &&& S := by
  intro S
  induction S using Nat.strongRecOn with
  | ind S ih =>
    intro s T hs hT hlt
    by_cases hS : S = 0
    · subst hS
      rw [Nat.and_zero] at hs
      omega
    · have ds : (s / 2) &&& (S / 2) = s / 2 := by rw [← Nat.and_div_two, hs]
      have dT : (T / 2) &&& (S / 2) = T / 2 := by rw [← Nat.and_div_two, hT]
      have hx : ((s - 1) &&& S) / 2 = (s - 1) / 2 &&& S / 2 := Nat.and_div_two
      have hy : ((s - 1) &&& S) % 2 = (s - 1) % 2 &&& S % 2 := Nat.and_mod_two_pow (n := 1)
      have hTm : T % 2 ≤ S % 2 := by
        have h2 : (T &&& S) % 2 ^ 1 = T % 2 := by rw [hT]
        rw [Nat.and_mod_two_pow] at h2
        rw [← show T % 2 &&& S % 2 = T % 2 from h2]; exact Nat.and_le_right
      have hsm : s % 2 ≤ S % 2 := by
        have h2 : (s &&& S) % 2 ^ 1 = s % 2 := by rw [hs]
        rw [Nat.and_mod_two_pow] at h2
        rw [← show s % 2 &&& S % 2 = s % 2 from h2]; exact Nat.and_le_right
      by_cases hp : s % 2 = 1
      · rw [show (s - 1) / 2 = s / 2 by omega, ds] at hx
        omega
      · have := ih (S / 2) (by omega) (s / 2) (T / 2)
        rw [show (s - 1) / 2 = s / 2 - 1 by omega] at hx
        rw [show (s - 1) % 2 = 1 by omega] at hy
        have hz : 1 &&& S % 2 = S % 2 := by
          have h1 : S % 2 = 0 ∨ S % 2 = 1 := by omega
          rcases h1 with h1 | h1 <;> rw [h1] <;> rfl
        rw [hz] at hy
        by_cases hq : T / 2 < s / 2
        · have := this ds dT hq
          omega
        · omega
theorem and_sub {S s : Nat} : ((s - 1) &&& S) &&& S = (s - 1) &&& S := by rw [Nat.and_assoc, Nat.and_self]
/-- the lowest bit off -/
theorem low_off : ∀ (S l : Nat), S.testBit l = true → (∀ i, i < l → S.testBit i = false) → ∀ i, (S &&& (S - 1)).testBit i = (S.testBit i && !decide (i = l)) := by
  intro S
  induction S using Nat.strongRecOn with
  | ind S ih =>
    intro l hl hlow i
    have hS : S ≠ 0 := fun z => by rw [z, Nat.zero_testBit] at hl; cases hl
    by_cases hp : S % 2 = 1
    · have l0 : l = 0 := by
        by_cases h : l = 0
        · exact h
        · have := hlow 0 (by omega)
          rw [Nat.testBit_zero] at this
          simp at this
          omega
      subst l0
      rw [Nat.testBit_and]
      cases i with
      | zero => rw [Nat.testBit_zero, Nat.testBit_zero, show (S - 1) % 2 = 0 by omega]; simp
      | succ i => rw [Nat.testBit_succ, Nat.testBit_succ, show (S - 1) / 2 = S / 2 by omega]; simp
    · have l0 : l ≠ 0 := fun z => by
        subst z
        rw [Nat.testBit_zero] at hl
        simp at hl
        omega
      obtain ⟨l, rfl⟩ : ∃ k, l = k + 1 := ⟨l - 1, by omega⟩
      rw [Nat.testBit_succ] at hl
      cases i with
      | zero =>
        rw [Nat.testBit_and, Nat.testBit_zero]
        simp
        omega
      | succ i =>
        have := ih (S / 2) (by omega) l hl (fun k hk => by have := hlow (k + 1) (by omega); rwa [Nat.testBit_succ] at this) i
        rw [Nat.testBit_and, Nat.testBit_succ, Nat.testBit_succ, show (S - 1) / 2 = S / 2 - 1 by omega]
        rw [Nat.testBit_and] at this
        rw [this]
        simp
theorem ssu_low {a : Nat → Int} {S l : Nat} : ∀ {c : Nat}, S.testBit l = true → (∀ i, i < l → S.testBit i = false) → l < c → ssu a c S = ssu a c (S &&& (S - 1)) + a l := by
  intro c
  induction c with
  | zero => intro _ _ h; omega
  | succ c ih =>
    intro h1 h2 h3
    have hb := low_off S l h1 h2
    unfold ssu at ih ⊢
    unfold lod
    rw [hb c]
    by_cases hc : l = c
    · subst hc
      rw [lod_cong2 (S := S) (T := S &&& (S - 1)) (g := fun _ => 0) (k := 0) (fun i hi => by rw [hb i]; simp [show ¬ i = l by omega])]
      simp [h1]
    · rw [ih h1 h2 (by omega)]
      simp only [show ¬ c = l from fun z => hc z.symm, decide_false, Bool.not_false, Bool.and_true]
      omega
