/-- the handles whose blocks begin in a stretch, as they lie -/
def Way (h : Ob) (a e : Int) (W : List Nat) : Prop := (∀ i, i ∈ W ↔ (i < 8 ∧ h 1 i ≠ -1 ∧ a ≤ h 1 i ∧ h 1 i < e)) ∧ W.Pairwise (fun i j => h 1 i < h 1 j)
theorem nodup_lt : ∀ (n : Nat) (l : List Nat), l.Nodup → (∀ x ∈ l, x < n) → l.length ≤ n
  | 0, l, _, h => by
    cases l with
    | nil => simp
    | cons a l => exact absurd (h a List.mem_cons_self) (by omega)
  | n + 1, l, hn, h => by
    by_cases hm : n ∈ l
    · have h1 := nodup_lt n (l.erase n) (hn.erase n) (fun x hx => by
        have hx' := (hn.mem_erase_iff).mp hx
        have := h x hx'.2
        have := hx'.1
        omega)
      have := List.length_erase_of_mem hm
      omega
    · have := nodup_lt n l hn (fun x hx => by
        have h1 := h x hx
        have : x ≠ n := fun e => hm (e ▸ hx)
        omega)
      omega
theorem Way.len {h : Ob} {a e : Int} {W : List Nat} (hW : Way h a e W) : W.length ≤ 8 := by
  have hnd : W.Nodup := by
    refine List.Pairwise.imp ?_ hW.2
    intro i j hij e
    rw [e] at hij
    omega
  exact nodup_lt 8 W hnd (fun x hx => ((hW.1 x).mp hx).1)
theorem fwF_way {h : Ob} (hL : LW h) {a n : Int} (ha : 0 ≤ a) : ∀ {W : List Nat}, Way h a (a + n) W → fwF h a n = match W with | [] => -1 | w :: _ => (w : Int) := by
  intro W hW
  have key : ∀ m : Nat, m ≤ 8 → ((List.range m).foldl (fun (fd : Int) (i : Nat) => if ful h (i : Int) && (decide (a ≤ h 1 i) && (decide (h 1 i < a + n) && (decide (fd = -1) || decide (h 1 i < h 1 fd.toNat)))) then (i : Int) else fd) (-1) = -1 ∧ ∀ o, o < m → ¬ (h 1 o ≠ -1 ∧ a ≤ h 1 o ∧ h 1 o < a + n)) ∨ ∃ b : Nat, b < m ∧ (List.range m).foldl (fun (fd : Int) (i : Nat) => if ful h (i : Int) && (decide (a ≤ h 1 i) && (decide (h 1 i < a + n) && (decide (fd = -1) || decide (h 1 i < h 1 fd.toNat)))) then (i : Int) else fd) (-1) = (b : Int) ∧ (h 1 b ≠ -1 ∧ a ≤ h 1 b ∧ h 1 b < a + n) ∧ ∀ o, o < m → (h 1 o ≠ -1 ∧ a ≤ h 1 o ∧ h 1 o < a + n) → h 1 b ≤ h 1 o := by
    intro m
    induction m with
    | zero => intro _; exact Or.inl ⟨rfl, fun o ho => by omega⟩
    | succ m ih =>
      intro hm
      rw [List.range_succ, List.foldl_append, List.foldl_cons, List.foldl_nil]
      have hfu : ful h (m : Int) = decide (h 1 m ≠ -1) := by
        cases hq : ful h (m : Int) with
        | true => simp [(hL.fu (show m < 8 by omega)).mp hq]
        | false =>
          by_cases hz : h 1 m = -1
          · simp [hz]
          · rw [(hL.fu (show m < 8 by omega)).mpr hz] at hq; cases hq
      rw [hfu]
      rcases ih (by omega) with ⟨a1, a2⟩ | ⟨b, b1, b2, b3, b4⟩
      · rw [a1]
        by_cases hc : h 1 m ≠ -1 ∧ a ≤ h 1 m ∧ h 1 m < a + n
        · right
          refine ⟨m, by omega, by simp [hc.1, hc.2.1, hc.2.2], hc, fun o ho hco => ?_⟩
          by_cases hom : o = m
          · rw [hom]; exact Int.le_refl _
          · exact absurd hco (a2 o (by omega))
        · left
          refine ⟨?_, fun o ho => ?_⟩
          · rw [if_neg]
            simp only [Bool.and_eq_true, decide_eq_true_eq]
            intro z
            exact hc ⟨z.1, z.2.1, z.2.2.1⟩
          · by_cases hom : o = m
            · rw [hom]; exact hc
            · exact a2 o (by omega)
      · rw [b2]
        right
        by_cases hc : (h 1 m ≠ -1 ∧ a ≤ h 1 m ∧ h 1 m < a + n) ∧ h 1 m < h 1 b
        · refine ⟨m, by omega, ?_, hc.1, fun o ho hco => ?_⟩
          · rw [if_pos]
            simp only [Bool.and_eq_true, Bool.or_eq_true, decide_eq_true_eq, toNat_nat]
            exact ⟨hc.1.1, hc.1.2.1, hc.1.2.2, Or.inr hc.2⟩
          · by_cases hom : o = m
            · rw [hom]; exact Int.le_refl _
            · have := b4 o (by omega) hco
              omega
        · refine ⟨b, by omega, ?_, b3, fun o ho hco => ?_⟩
          · rw [if_neg]
            simp only [Bool.and_eq_true, Bool.or_eq_true, decide_eq_true_eq, toNat_nat]
            intro z
            refine hc ⟨⟨z.1, z.2.1, z.2.2.1⟩, ?_⟩
            rcases z.2.2.2 with w | w
            · omega
            · exact w
          · by_cases hom : o = m
            · rw [hom] at hco ⊢
              by_cases hlt : h 1 m < h 1 b
              · exact absurd ⟨hco, hlt⟩ hc
              · omega
            · exact b4 o (by omega) hco
  rw [fwF_e]
  unfold fwFI
  rcases key 8 (by omega) with ⟨k1, k2⟩ | ⟨b, k1, k2, k3, k4⟩
  · rw [k1]
    cases W with
    | nil => rfl
    | cons w W =>
      have := (hW.1 w).mp List.mem_cons_self
      exact absurd this.2 (k2 w this.1)
  · rw [k2]
    cases W with
    | nil => exact absurd ((hW.1 b).mpr ⟨k1, k3⟩) List.not_mem_nil
    | cons w W =>
      have hw := (hW.1 w).mp List.mem_cons_self
      have hb := (hW.1 b).mpr ⟨k1, k3⟩
      rcases List.mem_cons.mp hb with rfl | hb
      · rfl
      · have h1 := (List.pairwise_cons.mp hW.2).1 b hb
        have h2 := k4 w hw.1 hw.2
        omega
theorem Way.tail {h : Ob} {a e y : Int} {w : Nat} {W : List Nat} (hW : Way h a e (w :: W)) (hy : ¬ (a ≤ y ∧ y < e)) : Way (xset h 1 w y) a e W := by
  obtain ⟨w1, w2⟩ := hW
  have hnd := (List.pairwise_cons.mp w2).1
  have hne : ∀ i ∈ W, i ≠ w := fun i hi e => by
    have := hnd i hi
    rw [e] at this
    omega
  refine ⟨fun i => ?_, ?_⟩
  · by_cases hiw : i = w
    · subst hiw
      rw [xeq]
      constructor
      · intro hi; exact absurd rfl (hne i hi)
      · intro z; exact absurd ⟨z.2.2.1, z.2.2.2⟩ hy
    · rw [xne hiw, ← w1 i]
      constructor
      · exact List.mem_cons_of_mem _
      · intro z
        rcases List.mem_cons.mp z with z | z
        · exact absurd z hiw
        · exact z
  · refine List.Pairwise.imp_of_mem ?_ (List.pairwise_cons.mp w2).2
    intro i j hi hj hij
    rw [xne (hne i hi), xne (hne j hj)]
    exact hij
theorem r_fillsWay {T : Int} {h m : Ob} (hH : HI T h) (hR : Rel h (m 1)) (hO : Own h (m 4)) {a n : Int} (ha : 0 ≤ a) (hn : 1 ≤ n) (han : a + n ≤ h 0 9) (hNb : Nb h a) (hop : ∀ c, a ≤ c → c < a + n → ¬ fxd h c) : ∃ m' W, ov_X8_fillsWay a n m = RV [m'] ∧ Way h a (a + n) W ∧ m' 0 23 = (W.length : Int) ∧ (∀ t (ht : t < W.length), m' 16 t = ((W[t] : Nat) : Int)) ∧ (∀ j, j ≠ 0 → j ≠ 16 → m' j = m j) ∧ ∀ k, k ≠ 23 → m' 0 k = m 0 k := by
  have hL := hH.1
  obtain ⟨z1, z2, z3, z4, z5, -⟩ := id hL
  rw [ov_X8_fillsWay_e]
  have e1 : md_X8_fillsWay_0 a n xfu m = tlp (lb_X8_fillsWay_7 a n xfu) xfu (a, xset m 0 23 0) := rfl
  rw [e1]
  have hxan : xw (a + n) = a + n := xw_id (by omega) (by omega)
  have loop : ∀ (d : Nat) (f : Nat) (k : Int) (s : Ob) (W : List Nat), (a + n - k).toNat = d → d < f → a ≤ k → k ≤ a + n → Way h a k W → s 0 23 = (W.length : Int) → (∀ t (ht : t < W.length), s 16 t = ((W[t] : Nat) : Int)) → (∀ j, j ≠ 0 → j ≠ 16 → s j = m j) → (∀ k, k ≠ 23 → s 0 k = m 0 k) → ∃ m' W, tlp (lb_X8_fillsWay_7 a n xfu) f (k, s) = RV [m'] ∧ Way h a (a + n) W ∧ m' 0 23 = (W.length : Int) ∧ (∀ t (ht : t < W.length), m' 16 t = ((W[t] : Nat) : Int)) ∧ (∀ j, j ≠ 0 → j ≠ 16 → m' j = m j) ∧ ∀ k, k ≠ 23 → m' 0 k = m 0 k := by
    intro d
    induction d with
    | zero =>
      intro f k s W q1 q2 q3 q4 q5 q6 q7 q8 q9
      have hk : k = a + n := by omega
      subst hk
      obtain ⟨f', rfl⟩ : ∃ f', f = f' + 1 := ⟨f - 1, by omega⟩
      refine ⟨s, W, ?_, q5, q6, q7, q8, q9⟩
      rw [tlp_succ]
      simp only [lb_X8_fillsWay_7, mg_X8_fillsWay_7]
      rw [if_pos (by omega)]
    | succ d ih =>
      intro f k s W q1 q2 q3 q4 q5 q6 q7 q8 q9
      obtain ⟨f', rfl⟩ : ∃ f', f = f' + 1 := ⟨f - 1, by omega⟩
      have hk : xw k = k := xw_id (by omega) (by omega)
      have hs4 : s 4 = m 4 := q8 4 (by decide) (by decide)
      have hlen := q5.len
      have hx := hO.xwq (k := k.toNat) (by omega)
      have ho := hO k.toNat (by omega)
      rw [show ((k.toNat : Nat) : Int) = k by omega] at ho
      rw [tlp_succ]
      simp only [lb_X8_fillsWay_7, mg_X8_fillsWay_7, md_X8_fillsWay_82, mg_X8_fillsWay_82, md_X8_fillsWay_55, mg_X8_fillsWay_55, hk, hxan, xin_of (i := k) (n := 200) (by omega) (by omega), if_true, hs4, hx, q6]
      rw [if_neg (show ¬ k ≥ a + n by omega)]
      have same : (∀ i, i < 8 → h 1 i ≠ k) → Way h a (k + 1) W := by
        intro hno
        refine ⟨fun i => ?_, q5.2⟩
        rw [q5.1 i]
        constructor
        · rintro ⟨b1, b2, b3, b4⟩; exact ⟨b1, b2, b3, by omega⟩
        · rintro ⟨b1, b2, b3, b4⟩; have := hno i b1; exact ⟨b1, b2, b3, by omega⟩
      by_cases hc : ∃ i, i < 11 ∧ cvd h i k
      · obtain ⟨i, hi, hcv⟩ := hc
        have hmv : mov h (i : Int) = true := by
          cases hq : mov h (i : Int) with
          | true => rfl
          | false => exact absurd ⟨i, hi, hcv, hq⟩ (hop k q3 (by omega))
        have hi8 : i < 8 := by
          by_cases h8 : i < 8
          · exact h8
          · rw [mov_hi (by omega) hi] at hmv; cases hmv
        obtain ⟨c1, c2, c3⟩ := id hcv
        have hoc := ho.1 i hi hcv
        have eo : oc i = 1 + (i : Int) := by unfold oc; rw [if_pos hi8]
        have hai : a ≤ h 1 i := by
          by_cases hq : h 1 i < a
          · have := hNb i hi c1 hq; omega
          · omega
        rw [hoc, eo, if_neg (show ¬ 1 + (i : Int) = 0 by omega), show 1 + (i : Int) - 1 = (i : Int) by omega]
        by_cases hbk : h 1 i = k
        · -- a new one
          have hnew : Way h a (k + 1) (W ++ [i]) := by
            refine ⟨fun j => ?_, ?_⟩
            · rw [List.mem_append, q5.1 j, List.mem_singleton]
              constructor
              · rintro (⟨b1, b2, b3, b4⟩ | rfl)
                · exact ⟨b1, b2, b3, by omega⟩
                · exact ⟨hi8, c1, hai, by omega⟩
              · rintro ⟨b1, b2, b3, b4⟩
                by_cases hjk : h 1 j = k
                · exact Or.inr (hL.inj (by omega) hi (by omega) b2)
                · exact Or.inl ⟨b1, b2, b3, by omega⟩
            · rw [List.pairwise_append]
              refine ⟨q5.2, List.pairwise_singleton _ _, fun x hx y hy => ?_⟩
              rw [List.mem_singleton] at hy
              subst hy
              have := ((q5.1 x).mp hx).2.2.2
              omega
          have hl8 : W.length < 8 := by
            have := hnew.len
            rw [List.length_append] at this
            simp at this
            omega
          have hxl : xw (W.length : Int) = (W.length : Int) := xw_nat (by omega)
          have hfin : ∃ m' V, tlp (lb_X8_fillsWay_7 a n xfu) f' (k + 1, xset (xset s 16 W.length (i : Int)) 0 23 ((W.length : Int) + 1)) = RV [m'] ∧ Way h a (a + n) V ∧ m' 0 23 = (V.length : Int) ∧ (∀ t (ht : t < V.length), m' 16 t = ((V[t] : Nat) : Int)) ∧ (∀ j, j ≠ 0 → j ≠ 16 → m' j = m j) ∧ ∀ k, k ≠ 23 → m' 0 k = m 0 k := by
            refine ih f' (k + 1) _ (W ++ [i]) (by omega) (by omega) (by omega) (by omega) hnew ?_ (fun t ht => ?_) (fun j j0 j16 => ?_) (fun q hq => ?_)
            · rw [xeq, List.length_append]
              simp
            · show (if 16 = 0 ∧ t = 23 then _ else (if 16 = 16 ∧ t = W.length then (i : Int) else s 16 t)) = _
              rw [if_neg (by omega)]
              by_cases htl : t = W.length
              · rw [if_pos ⟨rfl, htl⟩]
                subst htl
                simp
              · rw [if_neg (fun z => htl z.2)]
                rw [List.length_append] at ht
                simp at ht
                rw [q7 t (by omega), List.getElem_append_left (by omega)]
            · funext q
              show (if j = 0 ∧ q = 23 then _ else (if j = 16 ∧ q = W.length then (i : Int) else s j q)) = _
              rw [if_neg (fun z => j0 z.1), if_neg (fun z => j16 z.1), q8 j j0 j16]
            · rw [xne hq]
              exact q9 q hq
          have hrd : (xset s 16 W.length (i : Int)) 0 23 = (W.length : Int) := q6
          by_cases hl0 : (W.length : Int) ≤ 0
          · rw [hxl, if_pos hl0, xin_of (i := (W.length : Int)) (n := 8) (by rw [hxl]; omega) (by rw [hxl]; omega), if_pos rfl, toNat_nat, hrd]
            exact hfin
          · have hxl1 : xw ((W.length : Int) - 1) = ((W.length - 1 : Nat) : Int) := by rw [xw_id (by omega) (by omega)]; omega
            rw [hxl, if_neg hl0, xin_of (i := (W.length : Int) - 1) (n := 8) (by rw [hxl1]; omega) (by rw [hxl1]; omega), if_pos rfl, hxl1, toNat_nat, q7 (W.length - 1) (by omega)]
            have hlast := (q5.1 (W[W.length - 1]'(by omega))).mp (List.getElem_mem (by omega))
            rw [xw_nat (show W[W.length - 1]'(by omega) < 2147483648 by omega), xw_nat (show i < 2147483648 by omega), if_neg (by
              intro e
              have e' : W[W.length - 1]'(by omega) = i := by omega
              rw [e'] at hlast
              omega), xin_of (i := (W.length : Int)) (n := 8) (by rw [hxl]; omega) (by rw [hxl]; omega), if_pos rfl, toNat_nat, hrd]
            exact hfin
        · -- the last one goes on
          have hno : ∀ j, j < 8 → h 1 j ≠ k := by
            intro j hj e
            have hzj := z4 j (by omega)
            have : j = i := hL.cv1 (by omega) hi ⟨by omega, by omega, by omega⟩ hcv
            subst this
            exact hbk e
          have hmem : i ∈ W := (q5.1 i).mpr ⟨hi8, c1, hai, by omega⟩
          have hl1 : 1 ≤ W.length := List.length_pos_of_mem hmem
          have hxl : xw (W.length : Int) = (W.length : Int) := xw_nat (by omega)
          have hxl1 : xw ((W.length : Int) - 1) = ((W.length - 1 : Nat) : Int) := by rw [xw_id (by omega) (by omega)]; omega
          have hlst : W[W.length - 1]'(by omega) = i := by
            obtain ⟨t, ht, hti⟩ := List.getElem_of_mem hmem
            by_cases htl : t = W.length - 1
            · subst htl; exact hti
            · exfalso
              have hlt := List.pairwise_iff_getElem.mp q5.2 t (W.length - 1) ht (by omega) (by omega)
              rw [hti] at hlt
              have hlast := (q5.1 (W[W.length - 1]'(by omega))).mp (List.getElem_mem (by omega))
              rcases z5 i (W[W.length - 1]'(by omega)) hi (by omega) (fun e => by rw [← e] at hlt; omega) c1 hlast.2.1 with w | w
              · omega
              · have hzj := z4 (W[W.length - 1]'(by omega)) (by omega)
                omega
          rw [hxl, if_neg (by omega), xin_of (i := (W.length : Int) - 1) (n := 8) (by rw [hxl1]; omega) (by rw [hxl1]; omega), if_pos rfl, hxl1, toNat_nat, q7 (W.length - 1) (by omega), hlst, if_pos rfl]
          exact ih f' (k + 1) s W (by omega) (by omega) (by omega) (by omega) (same hno) q6 q7 q8 q9
      · have h0' := ho.2 (fun i hi hcv => hc ⟨i, hi, hcv⟩)
        rw [h0', if_pos rfl]
        refine ih f' (k + 1) s W (by omega) (by omega) (by omega) (by omega) (same (fun i hi e => hc ⟨i, by omega, ?_⟩)) q6 q7 q8 q9
        have hzi := z4 i (by omega)
        exact ⟨by omega, by omega, by omega⟩
  refine loop n.toNat xfu a (xset m 0 23 0) [] (by omega) (by have := xfu_ge (n := 1000) (by decide); omega) (by omega) (by omega) ⟨fun i => ?_, List.Pairwise.nil⟩ xeq (fun t ht => absurd ht (by simp)) (fun j j0 _ => ?_) (fun q hq => xne hq)
  · constructor
    · intro z; exact absurd z List.not_mem_nil
    · rintro ⟨b1, b2, b3, b4⟩; omega
  · funext q
    show (if j = 0 ∧ q = 23 then _ else m j q) = _
    rw [if_neg (fun z => j0 z.1)]
