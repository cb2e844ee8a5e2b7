def ksO (m : Ob) : Ob := fun j k => if j = 2 ∧ k < 735 then m 1 k else m j k
def lbO (m : Ob) : Ob := fun j k => if j = 1 ∧ k < 735 then m 2 k else m j k
theorem r_keepsAside (f : Nat) (hf : 1000 ≤ f) (m : Ob) : md_X8_keepsAside_0 f m = RV [ksO m] := by
  have L := loop_fold (B := lb_X8_keepsAside_2 f) 735 (fun (s : Ob) (i : Nat) => xset s 2 i (s 1 i)) (fun s => RV [s]) (fun i s => ((i : Int), s)) (fun i s => s = fun j k => if j = 2 ∧ k < i then m 1 k else m j k) (fun k i s hi hI => by
    refine ⟨?_, ?_⟩
    · simp only [lb_X8_keepsAside_2, mg_X8_keepsAside_2, xw_nat (show i < 2147483648 by omega), xin_nat hi (show 735 ≤ 2147483648 by omega), toNat_nat, if_true]
      rw [if_neg (by omega)]
      rfl
    · subst hI
      funext j q
      unfold xset
      by_cases h1 : j = 2
      · by_cases h2 : q = i
        · subst h1 h2; simp
        · by_cases h3 : q < i
          · simp [h1, h2, h3, show q < i + 1 by omega]
          · simp [h1, h2, h3, show ¬ q < i + 1 by omega]
      · simp [h1]) (fun k s _ => rfl) f m (by omega) (by funext j k; simp)
  refine Eq.trans (b := _) L.1 ?_
  rw [L.2]
  rfl
theorem r_laysBack (f : Nat) (hf : 1000 ≤ f) (m : Ob) : md_X8_laysBack_0 f m = RV [lbO m] := by
  have L := loop_fold (B := lb_X8_laysBack_2 f) 735 (fun (s : Ob) (i : Nat) => xset s 1 i (s 2 i)) (fun s => RV [s]) (fun i s => ((i : Int), s)) (fun i s => s = fun j k => if j = 1 ∧ k < i then m 2 k else m j k) (fun k i s hi hI => by
    refine ⟨?_, ?_⟩
    · simp only [lb_X8_laysBack_2, mg_X8_laysBack_2, xw_nat (show i < 2147483648 by omega), xin_nat hi (show 735 ≤ 2147483648 by omega), toNat_nat, if_true]
      rw [if_neg (by omega)]
      rfl
    · subst hI
      funext j q
      unfold xset
      by_cases h1 : j = 1
      · by_cases h2 : q = i
        · subst h1 h2; simp
        · by_cases h3 : q < i
          · simp [h1, h2, h3, show q < i + 1 by omega]
          · simp [h1, h2, h3, show ¬ q < i + 1 by omega]
      · simp [h1]) (fun k s _ => rfl) f m (by omega) (by funext j k; simp)
  refine Eq.trans (b := _) L.1 ?_
  rw [L.2]
  rfl
/-- the rows kept, one further on -/
def shO (m : Ob) : Ob := fun j k => if j = 3 ∧ k < 8085 then m 3 (k + 735) else m j k
def k1O (m : Ob) (u : Nat) : Ob := fun j k => if j = 3 ∧ 735 * u ≤ k ∧ k < 735 * u + 735 then m 2 (k - 735 * u) else m j k
def k2O (m : Ob) (u : Nat) : Ob := fun j k => if j = 0 ∧ k = 3 then ((u + 1 : Nat) : Int) else if j = 0 ∧ k = 4 then 1 else if j = 1 ∧ k = 3 then m 1 3 + 1 else k1O m u j k
theorem r_keeps1 (f : Nat) (hf : 1000 ≤ f) (m : Ob) (u : Nat) (hu : u < 12) (e : m 0 3 = (u : Int)) : md_X8_keepsAct_54 f (0, m) = RV [k2O m u] := by
  have L := loop_fold (B := lb_X8_keepsAct_54 f) 735 (fun (s : Ob) (i : Nat) => xset s 3 (735 * u + i) (m 2 i)) (fun s => RV [xset (xset (xset s 0 3 ((s 0 3) + 1)) 1 3 (((xset s 0 3 ((s 0 3) + 1)) 1 3) + 1)) 0 4 1]) (fun i s => ((i : Int), s)) (fun i s => s = fun j k => if j = 3 ∧ 735 * u ≤ k ∧ k < 735 * u + i then m 2 (k - 735 * u) else m j k) (fun k i s hi hI => by
    refine ⟨?_, ?_⟩
    · have e3 : s 0 3 = (u : Int) := by rw [hI]; exact e
      have e2 : s 2 i = m 2 i := by rw [hI]; rfl
      have e4 : xw (735 * (u : Int) + (i : Int)) = ((735 * u + i : Nat) : Int) := by rw [xw_id (by omega) (by omega)]; omega
      simp only [lb_X8_keepsAct_54, mg_X8_keepsAct_54, xw_nat (show i < 2147483648 by omega), xin_nat hi (show 735 ≤ 2147483648 by omega), toNat_nat, if_true, e3, e4, e2]
      rw [if_neg (by omega), xin_of (n := 8820) (by rw [e4]; omega) (by rw [e4]; omega)]
      rfl
    · subst hI
      funext j q
      unfold xset
      dsimp only
      by_cases h1 : j = 3
      · by_cases h2 : q = 735 * u + i
        · rw [if_pos ⟨h1, h2⟩, if_pos ⟨h1, by omega, by omega⟩, h2, show 735 * u + i - 735 * u = i by omega]
        · rw [if_neg (fun z => h2 z.2)]
          by_cases h3 : 735 * u ≤ q ∧ q < 735 * u + i
          · rw [if_pos ⟨h1, h3⟩, if_pos ⟨h1, h3.1, by omega⟩]
          · rw [if_neg (fun z => h3 z.2), if_neg (fun z => h3 (by omega))]
      · rw [if_neg (fun z => h1 z.1), if_neg (fun z => h1 z.1), if_neg (fun z => h1 z.1)]) (fun k s _ => rfl) f m (by omega) (by funext j k; rw [if_neg (by omega)])
  refine Eq.trans (b := _) L.1 ?_
  rw [L.2]
  have e5 : ∀ s : Ob, (s = fun j k => if j = 3 ∧ 735 * u ≤ k ∧ k < 735 * u + 735 then m 2 (k - 735 * u) else m j k) → (xset (xset (xset s 0 3 ((s 0 3) + 1)) 1 3 (((xset s 0 3 ((s 0 3) + 1)) 1 3) + 1)) 0 4 1) = k2O m u := by
    intro s hs
    have a1 : s 0 3 = (u : Int) := by rw [hs]; exact e
    have a2 : s 1 3 = m 1 3 := by rw [hs]; rfl
    have a3 : ∀ j q, s j q = k1O m u j q := by intro j q; rw [hs]; rfl
    funext j q
    unfold xset k2O
    by_cases h4 : j = 0 ∧ q = 4
    · rw [if_pos h4, if_neg (by omega), if_pos h4]
    · rw [if_neg h4]
      by_cases h3 : j = 1 ∧ q = 3
      · rw [if_pos h3, if_neg (by omega), if_neg h4, if_pos h3, if_neg (by omega), a2]
      · rw [if_neg h3]
        by_cases h5 : j = 0 ∧ q = 3
        · rw [if_pos h5, if_pos h5, a1]
          push_cast
          rfl
        · rw [if_neg h5, if_neg h5, if_neg h4, if_neg h3, a3]
  rw [e5 _ rfl]
theorem r_keepsAct (f : Nat) (hf : 10000 ≤ f) (m : Ob) (u : Nat) (hu : u ≤ 12) (e : m 0 3 = (u : Int)) : md_X8_keepsAct_0 f m = RV [if u = 12 then k2O (xset (shO m) 0 3 11) 11 else k2O m u] := by
  unfold md_X8_keepsAct_0 mg_X8_keepsAct_0
  rw [e, xw_nat (by omega)]
  by_cases h12 : u = 12
  · rw [if_pos (by omega), if_pos h12]
    have L := loop_fold (B := lb_X8_keepsAct_13 f) 8085 (fun (s : Ob) (i : Nat) => xset s 3 i (m 3 (i + 735))) (fun s => md_X8_keepsAct_52 f (xset s 0 3 ((s 0 3) - 1))) (fun i s => (735 + (i : Int), s)) (fun i s => s = fun j k => if j = 3 ∧ k < i then m 3 (k + 735) else m j k) (fun k i s hi hI => by
      refine ⟨?_, ?_⟩
      · have e1 : xw (735 + (i : Int)) = ((i + 735 : Nat) : Int) := by rw [xw_id (by omega) (by omega)]; omega
        have e2 : xw (735 + (i : Int) - 735) = (i : Int) := by rw [xw_id (by omega) (by omega)]; omega
        have e3 : s 3 (i + 735) = m 3 (i + 735) := by rw [hI]; show (if _ then _ else _) = _; rw [if_neg (by omega)]
        simp only [lb_X8_keepsAct_13, mg_X8_keepsAct_13, e1, e2, toNat_nat, e3]
        rw [if_neg (by omega), xin_of (n := 8820) (by rw [e1]; omega) (by rw [e1]; omega), if_pos rfl, xin_of (n := 8820) (by rw [e2]; omega) (by rw [e2]; omega), if_pos rfl, show 735 + (i : Int) + 1 = 735 + ((i + 1 : Nat) : Int) by omega]
      · subst hI
        funext j q
        unfold xset
        by_cases h1 : j = 3
        · by_cases h2 : q = i
          · subst h1 h2; simp
          · by_cases h3 : q < i
            · simp [h1, h2, h3, show q < i + 1 by omega]
            · simp [h1, h2, h3, show ¬ q < i + 1 by omega]
        · simp [h1]) (fun k s _ => by
      simp only [lb_X8_keepsAct_13, mg_X8_keepsAct_13]
      rw [if_pos (by rw [xw_id (by omega) (by omega)]; omega)]) f m (by omega) (by funext j k; simp)
    have e9 : ((735 : Int), m) = (735 + ((0 : Nat) : Int), m) := by simp
    rw [e9]
    refine Eq.trans (b := _) L.1 ?_
    rw [L.2]
    have e10 : (fun j k => if j = 3 ∧ k < 8085 then m 3 (k + 735) else m j k) = shO m := rfl
    rw [e10]
    have e11 : shO m 0 3 = 12 := by show m 0 3 = 12; rw [e, h12]; rfl
    rw [e11]
    exact r_keeps1 f (by omega) _ 11 (by omega) rfl
  · rw [if_neg (by omega), if_neg h12]
    exact r_keeps1 f (by omega) m u (by omega) e
theorem r_touches {i : Nat} (hi : i < 8) (m : Ob) : md_X8_touches_0 (i : Int) m = RV [xset m 1 (61 + i) (m 1 3)] := by
  obtain ⟨x1, x2⟩ := ixm (a := (i : Int)) (c := 61) 61 rfl (by decide) (hdl_nat hi)
  rw [xw_nat (by omega), toNat_nat] at x2
  simp only [md_X8_touches_0, mg_X8_touches_0, x1, x2, if_true]
theorem r_ahead {c : Nat} (hc : c < 735) {m : Ob} {u : Nat} (hu : u < 12) (e : m 0 3 = ((u + 1 : Nat) : Int)) {p : Int} (hp : p = (c : Int)) : md_X8_ahead_0 p m () = RI (m 3 (735 * u + c)) [m] := by
  have e4 : xw (735 * (m 0 3 - 1) + p) = ((735 * u + c : Nat) : Int) := by rw [e, hp, xw_id (by omega) (by omega)]; omega
  simp only [md_X8_ahead_0, mg_X8_ahead_0, e4, toNat_nat]
  rw [xin_of (n := 8820) (by rw [e4]; omega) (by rw [e4]; omega)]
  rfl
