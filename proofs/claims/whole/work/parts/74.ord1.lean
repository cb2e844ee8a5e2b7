/-- what a handle is worth, as it is compared -/
noncomputable def wv (h : Ob) (o : Nat) : Int := xw (wrt h (o : Int))
def lxl (w : Nat → Int) (o b : Nat) : Prop := w o < w b ∨ (w o = w b ∧ o < b)
theorem lxl_tot (w : Nat → Int) {a b : Nat} (h : a ≠ b) : lxl w a b ∨ lxl w b a := by
  unfold lxl
  omega
theorem lxl_asym {w : Nat → Int} {a b : Nat} (h1 : lxl w a b) (h2 : lxl w b a) : False := by
  unfold lxl at h1 h2
  omega
theorem lxl_trans {w : Nat → Int} {a b c : Nat} (h1 : lxl w a b) (h2 : lxl w b c) : lxl w a c := by
  unfold lxl at *
  omega
/-- the least of a set -/
def LMin (w : Nat → Int) (p : Nat → Bool) (r : Int) : Prop := (r = -1 ∧ ∀ o, o < 8 → p o = false) ∨ ∃ b : Nat, b < 8 ∧ r = (b : Int) ∧ p b = true ∧ ∀ o, o < 8 → p o = true → o ≠ b → lxl w b o
theorem LMin_uniq {w : Nat → Int} {p : Nat → Bool} {r r' : Int} (h1 : LMin w p r) (h2 : LMin w p r') : r = r' := by
  rcases h1 with ⟨a1, a2⟩ | ⟨b, b1, b2, b3, b4⟩
  · rcases h2 with ⟨c1, c2⟩ | ⟨c, c1, c2, c3, c4⟩
    · rw [a1, c1]
    · rw [a2 c c1] at c3; cases c3
  · rcases h2 with ⟨c1, c2⟩ | ⟨c, c1, c2, c3, c4⟩
    · rw [c2 b b1] at b3; cases b3
    · by_cases hbc : b = c
      · rw [b2, c2, hbc]
      · exact (lxl_asym (b4 c c1 c3 (Ne.symm hbc)) (c4 b b1 b3 hbc)).elim
theorem LMin_cong {w : Nat → Int} {p q : Nat → Bool} {r : Int} (e : ∀ o, o < 8 → p o = q o) (h : LMin w p r) : LMin w q r := by
  rcases h with ⟨a1, a2⟩ | ⟨b, b1, b2, b3, b4⟩
  · exact Or.inl ⟨a1, fun o ho => by rw [← e o ho]; exact a2 o ho⟩
  · exact Or.inr ⟨b, b1, b2, by rw [← e b b1]; exact b3, fun o ho hp hne => b4 o ho (by rw [e o ho]; exact hp) hne⟩
theorem lwo_min (h : Ob) (s : Int) : LMin (wv h) (fun o => inS s (o : Int)) (lwo h s) := by
  have key : ∀ n : Nat, n ≤ 8 → ((List.range n).foldl (fun (fd : Int) (i : Nat) => if inS s (i : Int) && (decide (xw fd = -1) || decide (xw (wrt h (i : Int)) < xw (wrt h fd))) then (i : Int) else fd) (-1) = -1 ∧ ∀ o, o < n → inS s (o : Int) = false) ∨ ∃ b : Nat, b < n ∧ (List.range n).foldl (fun (fd : Int) (i : Nat) => if inS s (i : Int) && (decide (xw fd = -1) || decide (xw (wrt h (i : Int)) < xw (wrt h fd))) then (i : Int) else fd) (-1) = (b : Int) ∧ inS s (b : Int) = true ∧ ∀ o, o < n → inS s (o : Int) = true → o ≠ b → lxl (wv h) b o := by
    intro n
    induction n with
    | zero => intro _; exact Or.inl ⟨rfl, fun o ho => by omega⟩
    | succ n ih =>
      intro hn
      rw [List.range_succ, List.foldl_append, List.foldl_cons, List.foldl_nil]
      rcases ih (by omega) with ⟨a1, a2⟩ | ⟨b, b1, b2, b3, b4⟩
      · rw [a1]
        cases hs : inS s (n : Int)
        · left
          refine ⟨by simp, fun o ho => ?_⟩
          by_cases hon : o = n
          · rw [hon]; exact hs
          · exact a2 o (by omega)
        · right
          refine ⟨n, by omega, by simp [xwm1], hs, fun o ho hso hne => ?_⟩
          rw [a2 o (by omega)] at hso
          cases hso
      · rw [b2]
        have hx : xw (b : Int) = b := xw_nat (by omega)
        have hd : decide ((b : Int) = -1) = false := by simp
        rw [hx, hd, Bool.false_or]
        right
        cases hs : inS s (n : Int)
        · refine ⟨b, by omega, by simp, b3, fun o ho hso hne => ?_⟩
          by_cases hon : o = n
          · rw [hon, hs] at hso; cases hso
          · exact b4 o (by omega) hso hne
        · by_cases hlt : xw (wrt h (n : Int)) < xw (wrt h (b : Int))
          · refine ⟨n, by omega, by simp [hlt], hs, fun o ho hso hne => ?_⟩
            by_cases hob : o = b
            · rw [hob]
              exact Or.inl hlt
            · exact lxl_trans (Or.inl hlt : lxl (wv h) n b) (b4 o (by omega) hso hob)
          · refine ⟨b, by omega, by simp [hlt], b3, fun o ho hso hne => ?_⟩
            by_cases hon : o = n
            · rw [hon]
              unfold lxl wv
              omega
            · exact b4 o (by omega) hso hne
  unfold lwo
  rw [xop_eq]
  unfold lwoI
  exact key 8 (by omega)
theorem r_leastOne {T : Int} {h m : Ob} (hH : HI T h) (hR : Rel h (m 1)) (p : Nat → Bool) (hp : ∀ o, o < 8 → p o = true → inS (h 0 7) (o : Int) = true) (a b : Int) (hb : xw b = b) (hc : ∀ (o : Nat), o < 8 → (if xw a = 0 then cgoM m (o : Int) else cblM m (o : Int)) = p o) (f : Nat) (hf : 1000 ≤ f) : ∃ r, md_X8_leastOne_0 a b m f () = RI r [m] ∧ LMin (wv h) (fun o => p o && !decide ((o : Int) = b)) r := by
  generalize hf0 : f = f0
  have hf1 : 1000 ≤ f0 := by omega
  have key : ∀ (n : Nat) (f : Nat) (best : Int), n ≤ 8 → n < f → ((best = -1 ∧ ∀ o, n ≤ o → o < 8 → (p o && !decide ((o : Int) = b)) = false) ∨ ∃ c : Nat, n ≤ c ∧ c < 8 ∧ best = (c : Int) ∧ (p c && !decide ((c : Int) = b)) = true ∧ ∀ o, n ≤ o → o < 8 → (p o && !decide ((o : Int) = b)) = true → o ≠ c → lxl (wv h) c o) → ∃ r, tlp (lb_X8_leastOne_6 a b m f0) f (best, (n : Int) - 1) = RI r [m] ∧ LMin (wv h) (fun o => p o && !decide ((o : Int) = b)) r := by
    intro n
    induction n with
    | zero =>
      intro f best _ hf hI
      cases f with
      | zero => omega
      | succ f =>
        refine ⟨best, ?_, ?_⟩
        · rw [tlp_succ]
          simp only [lb_X8_leastOne_6, mg_X8_leastOne_6]
          rw [if_pos (by decide)]
        · rcases hI with ⟨a1, a2⟩ | ⟨c, c1, c2, c3, c4, c5⟩
          · exact Or.inl ⟨a1, fun o ho => a2 o (by omega) ho⟩
          · exact Or.inr ⟨c, c2, c3, c4, fun o ho hpo hne => c5 o (by omega) ho hpo hne⟩
    | succ n ih =>
      intro f best hn hf hI
      cases f with
      | zero => omega
      | succ f =>
        have en : (((n + 1 : Nat) : Int) - 1) = (n : Int) := by omega
        have en2 : (n : Int) + -1 = (n : Int) - 1 := by omega
        have hx : xw (n : Int) = n := xw_nat (by omega)
        rw [en, tlp_succ]
        have skip : (p n && !decide ((n : Int) = b)) = false → ∃ r, tlp (lb_X8_leastOne_6 a b m f0) f (best, (n : Int) - 1) = RI r [m] ∧ LMin (wv h) (fun o => p o && !decide ((o : Int) = b)) r := by
          intro hno
          refine ih f best (by omega) (by omega) ?_
          rcases hI with ⟨a1, a2⟩ | ⟨c, c1, c2, c3, c4, c5⟩
          · refine Or.inl ⟨a1, fun o ho1 ho2 => ?_⟩
            by_cases hon : o = n
            · rw [hon]; exact hno
            · exact a2 o (by omega) ho2
          · refine Or.inr ⟨c, by omega, c2, c3, c4, fun o ho1 ho2 hpo hne => ?_⟩
            by_cases hon : o = n
            · rw [hon, hno] at hpo; cases hpo
            · exact c5 o (by omega) ho2 hpo hne
        have take : (p n && !decide ((n : Int) = b)) = true → ∃ r, md_X8_leastOne_45 a b m f0 (tlp (lb_X8_leastOne_6 a b m f0) f) (best, (n : Int)) = RI r [m] ∧ LMin (wv h) (fun o => p o && !decide ((o : Int) = b)) r := by
          intro hyes
          have hpn : p n = true := by rw [Bool.and_eq_true] at hyes; exact hyes.1
          obtain ⟨w1, w2⟩ := wr_eq hH hR (show n < 8 by omega) (hp n (by omega) hpn)
          simp only [md_X8_leastOne_45, mg_X8_leastOne_45, md_X8_leastOne_63, mg_X8_leastOne_63, md_X8_leastOne_66, mg_X8_leastOne_66, en2]
          rcases hI with ⟨a1, a2⟩ | ⟨c, c1, c2, c3, c4, c5⟩
          · rw [if_pos (by rw [a1]; decide)]
            refine ih f _ (by omega) (by omega) (Or.inr ⟨n, Nat.le_refl _, by omega, rfl, hyes, fun o ho1 ho2 hpo hne => ?_⟩)
            rw [a2 o (by omega) ho2] at hpo
            cases hpo
          · have hpc : p c = true := by rw [Bool.and_eq_true] at c4; exact c4.1
            obtain ⟨v1, v2⟩ := wr_eq hH hR c2 (hp c c2 hpc)
            subst c3
            rw [if_neg (by rw [xw_nat (by omega)]; omega), if_pos (pd_t w2), if_pos (pd_t v2), w1, v1]
            by_cases hgt : xw (wrt h (n : Int)) > xw (wrt h (c : Int))
            · rw [if_pos hgt]
              refine ih f _ (by omega) (by omega) (Or.inr ⟨c, by omega, c2, rfl, c4, fun o ho1 ho2 hpo hne => ?_⟩)
              by_cases hon : o = n
              · rw [hon]
                exact Or.inl hgt
              · exact c5 o (by omega) ho2 hpo hne
            · rw [if_neg hgt]
              have hnc : lxl (wv h) n c := by
                unfold lxl wv
                omega
              refine ih f _ (by omega) (by omega) (Or.inr ⟨n, Nat.le_refl _, by omega, rfl, hyes, fun o ho1 ho2 hpo hne => ?_⟩)
              by_cases hoc : o = c
              · rw [hoc]; exact hnc
              · exact lxl_trans hnc (c5 o (by omega) ho2 hpo hoc)
        simp only [lb_X8_leastOne_6, mg_X8_leastOne_6, hx, hb, bz_0]
        rw [if_neg (by omega)]
        have hcn := hc n (by omega)
        by_cases hnb : (n : Int) = b
        · rw [if_pos hnb]
          simp only [md_X8_leastOne_66, mg_X8_leastOne_66, en2]
          exact skip (by simp [hnb])
        · rw [if_neg hnb]
          have hd : decide ((n : Int) = b) = false := by simp [hnb]
          by_cases ha : xw a = 0
          · rw [if_pos ha] at hcn ⊢
            rw [hcn]
            cases hpn : p n
            · simp only [if_true, md_X8_leastOne_66, mg_X8_leastOne_66, en2]
              exact skip (by rw [hpn]; rfl)
            · simp only [Bool.true_eq_false, if_false]
              exact take (by rw [hpn, hd]; rfl)
          · rw [if_neg ha] at hcn ⊢
            rw [hcn]
            cases hpn : p n
            · simp only [if_true, md_X8_leastOne_66, mg_X8_leastOne_66, en2]
              exact skip (by rw [hpn]; rfl)
            · simp only [Bool.true_eq_false, if_false]
              exact take (by rw [hpn, hd]; rfl)
  exact key 8 f0 (-1) (by omega) (by omega) (Or.inl ⟨rfl, fun o h1 h2 => by omega⟩)
