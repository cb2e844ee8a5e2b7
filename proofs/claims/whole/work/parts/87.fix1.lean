/-- what covers a stretch begins in it and can be moved -/
def Stc (h : Ob) (a n : Int) : Prop := ∀ i, i < 11 → ∀ c, a ≤ c → c < a + n → cvd h i c → i < 8 ∧ a ≤ h 1 i
theorem cl_free {T : Int} {a n : Int} (ha : 0 ≤ a) (hn : 1 ≤ n) : ∀ (k : Nat) (r h : Ob), HI T h → a + n ≤ h 0 9 → Stc h a n → (clI a n k r h).1 = true → Fre (clI a n k r h).2.2 a n := by
  have fin : ∀ h : Ob, LW h → a + n ≤ h 0 9 → Stc h a n → fwF h a n = -1 → Fre h a n := by
    intro h hL han hS hf
    refine Fre_of hL ha hn han (fun c c1 c2 i hi hcv => ?_)
    obtain ⟨s1, s2⟩ := hS i hi c c1 c2 hcv
    have hnone : ¬ (h 1 i ≠ -1 ∧ a ≤ h 1 i ∧ h 1 i < a + n) := by
      intro z
      have key := fwF_e h a n
      have : ∀ W, Way h a (a + n) W → False := by
        intro W hW
        have hfw := fwF_way hL (n := n) ha hW
        cases W with
        | nil => exact absurd ((hW.1 i).mpr ⟨s1, z⟩) List.not_mem_nil
        | cons w W =>
          rw [hf] at hfw
          have : (-1 : Int) = (w : Int) := hfw
          omega
      -- the list is there
      have hex : ∃ W, Way h a (a + n) W := by
        refine ⟨((wls h (h 0 9)).filter (fun k => decide (0 ≤ hol h k) && decide (hol h k < 8) && decide (a ≤ k) && decide (k < a + n))).map (fun k => (hol h k).toNat), fun j => ?_, ?_⟩
        · have hsz := hL.2.2.1
          have hsz2 := hL.2.1
          rw [List.mem_map]
          constructor
          · rintro ⟨k, hk, rfl⟩
            rw [List.mem_filter] at hk
            simp only [Bool.and_eq_true, decide_eq_true_eq] at hk
            obtain ⟨hk1, ⟨⟨h0, h8⟩, ha1⟩, ha2⟩ := hk
            have hkw := (hL.wls_mem (Int.le_refl _) (by omega) k).mp hk1
            rcases hL.holc (k := k) hkw.1 (by omega) with ⟨l, l1, l2, l3⟩ | ⟨l1, l3⟩
            · rw [l3, toNat_nat]
              refine ⟨by omega, by omega, by omega, by omega⟩
            · omega
          · rintro ⟨j1, j2, j3, j4⟩
            refine ⟨h 1 j, ?_, by rw [hL.hol_at (by omega) j2, toNat_nat]⟩
            rw [List.mem_filter]
            refine ⟨(hL.wlsc (Int.le_refl _) (by omega)).2.1 j (by omega) j2, ?_⟩
            rw [hL.hol_at (by omega) j2]
            simp
            omega
        · have hsz := hL.2.2.1
          have hsz2 := hL.2.1
          rw [List.pairwise_map]
          refine List.Pairwise.imp_of_mem ?_ (List.Pairwise.filter _ (hL.wlsc (Int.le_refl (h 0 9)) (by omega)).2.2)
          intro x y hx hy hxy
          have gx : ∀ z, z ∈ (wls h (h 0 9)).filter (fun k => decide (0 ≤ hol h k) && decide (hol h k < 8) && decide (a ≤ k) && decide (k < a + n)) → h 1 (hol h z).toNat = z := by
            intro z hz
            rw [List.mem_filter] at hz
            simp only [Bool.and_eq_true, decide_eq_true_eq] at hz
            obtain ⟨hk1, ⟨⟨h0, h8⟩, ha1⟩, ha2⟩ := hz
            have hkw := (hL.wls_mem (Int.le_refl _) (by omega) z).mp hk1
            rcases hL.holc (k := z) hkw.1 (by omega) with ⟨l, l1, l2, l3⟩ | ⟨l1, l3⟩
            · rw [l3, toNat_nat]; exact l2
            · omega
          rw [gx x hx, gx y hy]
          exact hxy
      obtain ⟨W, hW⟩ := hex
      exact this W hW
    exact hnone ⟨hcv.1, s2, by have := hcv.2.1; omega⟩
  intro k
  induction k with
  | zero =>
    intro r h hH han hS ht
    unfold clI at ht ⊢
    exact fin h hH.1 han hS (by simpa using ht)
  | succ k ih =>
    intro r h hH han hS ht
    unfold clI at ht ⊢
    have hL := hH.1
    rcases fw_cases h a n with e | ⟨b, b1, b2, b3, b4, b5⟩
    · rw [if_pos e]
      exact fin h hL han hS e
    · rw [b2, if_neg (show ¬ (b : Int) = -1 by omega), toNat_nat] at ht ⊢
      rcases hi_cases hL b1 a n with he | ⟨e1, e2, e3⟩
      · rw [if_pos he] at ht
        cases ht
      · have hy0 : 0 ≤ hiF h (b : Int) a n := e2.1
        rw [if_neg (show ¬ hiF h (b : Int) a n = -1 by omega)] at ht ⊢
        have hLy := hL.hi b1 e1 e2
        have hfb := (hL.fu b1).mp e1
        have hz := hL.2.2.2.1 b (by omega)
        have hH' : HI T (xset h 1 b (hiF h (b : Int) a n)) := by
          obtain ⟨a1, a2, a3, a4, a5, a6, a7⟩ := hH
          refine ⟨hLy, fun i hi => ⟨(a2 i hi).1, fun z => ?_⟩, a3, a4, a5, a6, a7⟩
          by_cases hib : i = b
          · subst hib; rw [xeq] at z; omega
          · rw [xne hib] at z; exact (a2 i hi).2 z
        refine ih _ _ hH' han (fun i hi c c1 c2 hcv => ?_) ht
        by_cases hib : i = b
        · exfalso
          subst hib
          obtain ⟨d1, d2, d3⟩ := hcv
          rw [xeq] at d2 d3
          have d3' : c ≤ hiF h (i : Int) a n + h 2 i := d3
          unfold hiP at e2
          rw [toNat_nat] at e2
          exact (e2.2.2 c d2 (by omega)).2 ⟨c1, c2⟩
        · have hcv' : cvd h i c := by
            obtain ⟨d1, d2, d3⟩ := hcv
            rw [xne hib] at d1 d2 d3
            exact ⟨d1, d2, d3⟩
          rw [xne hib]
          exact hS i hi c c1 c2 hcv'
theorem cf_free {T : Int} {h : Ob} (hH : HI T h) {n : Int} (hn : 1 ≤ n) (hn2 : n ≤ 200) (r : Ob) (hne : (cfF r h n).1 ≠ -1) : Fre (cfF r h n).2.2 (cfF r h n).1 n := by
  have hL := hH.1
  have hs := hL.2.1
  have hs2 := hL.2.2.1
  rw [cfF_e] at hne ⊢
  have key : ∀ (l : List Int) (r : Ob), (∀ k ∈ l, k ∈ wls h (h 0 9)) → (cfI h n l r).1 ≠ -1 → Fre (cfI h n l r).2.2 (cfI h n l r).1 n := by
    intro l
    induction l with
    | nil => intro r _ hne; exact absurd rfl hne
    | cons k l ih =>
      intro r hk hne
      unfold cfI at hne ⊢
      split at hne
      · exact absurd rfl hne
      · rename_i hend
        rw [if_neg hend]
        split at hne
        · rename_i hi
          rw [if_pos hi]
          split at hne
          · rename_i hc
            rw [if_pos hc]
            have hkw := (hL.wls_mem (Int.le_refl _) (by omega) k).mp (hk k List.mem_cons_self)
            rw [clF_e] at hc ⊢
            refine cl_free (T := T) hkw.1 hn 8 r h hH (by omega) (fun i hi' c c1 c2 hcv => ?_) hc
            have hmv : mov h (i : Int) = true := by
              cases hq : mov h (i : Int) with
              | true => rfl
              | false => exact absurd ⟨i, hi', hcv, hq⟩ (pd_of hi c c1 c2)
            refine ⟨?_, ?_⟩
            · by_cases h8 : i < 8
              · exact h8
              · rw [mov_hi (by omega) hi'] at hmv; cases hmv
            · by_cases hq : h 1 i < k
              · have := hkw.2.2.1 i hi' hcv.1 hq
                have := hcv.2.2
                omega
              · omega
          · rename_i hc
            rw [if_neg hc]
            exact ih _ (fun x hx => hk x (List.mem_cons_of_mem _ hx)) hne
        · rename_i hi
          rw [if_neg hi]
          exact ih _ (fun x hx => hk x (List.mem_cons_of_mem _ hx)) hne
  exact key _ r (fun k hk => hk) hne
theorem cf_none {h : Ob} (hL : LW h) {n : Int} (hn : 1 ≤ n) (r : Ob) (he : (cfF r h n).1 = -1) : h 0 9 < bgn h + n := by
  have hs := hL.2.1
  have hs2 := hL.2.2.1
  obtain ⟨b1, b2, b3⟩ := hL.bgnc
  by_cases hq : h 0 9 < bgn h + n
  · exact hq
  · exfalso
    have hfr : ∀ c, bgn h ≤ c → ∀ i, i < 11 → ¬ cvd h i c := fun c c1 i hi hcv => by
      have := b3 i hi hcv.1
      have := hcv.2.2
      omega
    have hmem : bgn h ∈ wls h (h 0 9) := (hL.wls_mem (Int.le_refl _) (by omega) _).mpr ⟨b1, by omega, nb_of (hfr _ (Int.le_refl _)), by
      rcases bgn_att hL with z | ⟨i, hi, hp, hz⟩
      · exact Or.inl z
      · exact Or.inr ⟨i, hi, hp, Or.inr hz⟩⟩
    have hio : iop h (bgn h) n = true := pd_t (fun c c1 c2 hf => by
      obtain ⟨i, hi, hcv, -⟩ := hf
      exact hfr c c1 i hi hcv)
    have hcl : ∀ r, (clF r h (bgn h) n).1 = true := by
      intro r
      rw [clF_e]
      have hfw : fwF h (bgn h) n = -1 := by
        rcases fw_cases h (bgn h) n with e | ⟨b, c1, c2, c3, c4, c5⟩
        · exact e
        · have hp := (hL.fu c1).mp c3
          have := b3 b (by omega) hp
          have := hL.2.2.2.1 b (by omega)
          omega
      unfold clI
      rw [if_pos hfw]
    rw [cfF_e] at he
    have key : ∀ (l : List Int) (r : Ob), l.Pairwise (· < ·) → (∀ k ∈ l, 0 ≤ k) → bgn h ∈ l → (cfI h n l r).1 ≠ -1 := by
      intro l
      induction l with
      | nil => intro r _ _ hm; exact absurd hm List.not_mem_nil
      | cons k l ih =>
        intro r hsd hk hm
        obtain ⟨p1, p2⟩ := List.pairwise_cons.mp hsd
        have hk0 := hk k List.mem_cons_self
        have hkb : k ≤ bgn h := by
          rcases List.mem_cons.mp hm with z | z
          · omega
          · have := p1 _ z; omega
        unfold cfI
        rw [if_neg (by omega)]
        by_cases hkeq : k = bgn h
        · rw [hkeq, hio, if_pos rfl, if_pos (hcl r)]
          show bgn h ≠ -1
          omega
        · have hm' : bgn h ∈ l := by
            rcases List.mem_cons.mp hm with z | z
            · exact absurd z.symm hkeq
            · exact z
          split
          · split
            · show k ≠ -1
              omega
            · exact ih _ p2 (fun x hx => hk x (List.mem_cons_of_mem _ hx)) hm'
          · exact ih _ p2 (fun x hx => hk x (List.mem_cons_of_mem _ hx)) hm'
    exact key _ r (hL.wlsc (Int.le_refl _) (by omega)).2.2 (fun k hk => ((hL.wls_mem (Int.le_refl _) (by omega) k).mp hk).1) hmem he
