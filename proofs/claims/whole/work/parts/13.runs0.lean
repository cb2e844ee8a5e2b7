def rk (r : Ob) : Bool := decide (0 ≤ r 0 2) && decide (r 0 2 ≤ 12)
theorem rk_iff {r : Ob} : rk r = true ↔ 0 ≤ r 0 2 ∧ r 0 2 ≤ 12 := by unfold rk; simp
def addO (r : Ob) (b l : Int) : Ob := if xw (r 0 2) < 12 then xset (xset (xset r 1 (xw (r 0 2)).toNat b) 2 (xw (r 0 2)).toNat l) 0 2 (r 0 2 + 1) else r
def lenO (r : Ob) (m : Int) : Ob := if 0 < xw (r 0 2) then xset r 2 (xw (r 0 2 - 1)).toNat (r 2 (xw (r 0 2 - 1)).toNat + m) else r
def RdG (h : Ob) (e : Int) : Prop := LW h ∧ h 0 9 ≤ e ∧ e ≤ 200
/-- a run begins, goes on, or ends at the block that begins at k; the last run first -/
noncomputable def rst (h : Ob) (s e : Int) (q : Bool × List (Int × Int)) (k : Int) : Bool × List (Int × Int) :=
  if (decide (hol h k = -1) || inS s (hol h k)) then (true, if q.1 then (match q.2 with
    | (b, l) :: t => (b, l + (nxt h k e - k)) :: t
    | [] => []) else (k, nxt h k e - k) :: q.2) else (false, q.2)
noncomputable def rnlI (h : Ob) (s e : Int) : List (Int × Int) := ((wls h e).foldl (rst h s e) (false, [])).2.reverse
noncomputable def rnl : Ob → Int → Int → List (Int × Int) := xop rnlI
theorem rnl_e (h : Ob) (s e : Int) : rnl h s e = rnlI h s e := congrFun (congrFun (congrFun (xop_eq rnlI) h) s) e
def rdO (r : Ob) (L : List (Int × Int)) : Ob := fun j k => if j = 0 ∧ k = 2 then (L.length : Int) else if j = 1 ∧ k < L.length then (L[k]?.getD (0, 0)).1 else if j = 2 ∧ k < L.length then (L[k]?.getD (0, 0)).2 else r j k
theorem rdO_cnt (r : Ob) (L : List (Int × Int)) : rdO r L 0 2 = (L.length : Int) := by simp [rdO]
theorem addO_rdO (r : Ob) (L : List (Int × Int)) (b l : Int) (hl : L.length < 12) : addO (rdO r L) b l = rdO r (L ++ [(b, l)]) := by
  unfold addO
  have hx : xw (rdO r L 0 2) = (L.length : Int) := by rw [rdO_cnt]; exact xw_nat (by omega)
  rw [hx, if_pos (by omega), toNat_nat, rdO_cnt]
  funext j k
  simp only [xset, rdO, List.length_append, List.length_cons, List.length_nil]
  by_cases h0 : j = 0 ∧ k = 2
  · rw [if_pos h0, if_pos h0]; omega
  · rw [if_neg h0, if_neg h0]
    by_cases h2 : j = 2 ∧ k = L.length
    · rw [if_pos h2]
      obtain ⟨rfl, rfl⟩ := h2
      simp
    · rw [if_neg h2]
      by_cases h1 : j = 1 ∧ k = L.length
      · rw [if_pos h1]
        obtain ⟨rfl, rfl⟩ := h1
        simp
      · rw [if_neg h1]
        have hk : k < L.length ∨ L.length < k ∨ (j ≠ 1 ∧ j ≠ 2) := by omega
        rcases hk with hk | hk | hk
        · have e : (L ++ [(b, l)])[k]? = L[k]? := List.getElem?_append_left hk
          simp only [e, h0, if_false, hk, and_true, show k < L.length + (0 + 1) by omega]
        · simp only [h0, if_false, show ¬ k < L.length by omega, show ¬ k < L.length + (0 + 1) by omega, and_false]
        · simp only [h0, if_false, hk.1, hk.2, false_and]
theorem lenO_rdO (r : Ob) (L : List (Int × Int)) (b l m : Int) (hl : L.length < 12) : lenO (rdO r (L ++ [(b, l)])) m = rdO r (L ++ [(b, l + m)]) := by
  unfold lenO
  have hc : rdO r (L ++ [(b, l)]) 0 2 = (L.length : Int) + 1 := by rw [rdO_cnt]; simp
  rw [hc, xw_id (x := (L.length : Int) + 1) (by omega) (by omega), if_pos (by omega), show (L.length : Int) + 1 - 1 = (L.length : Int) by omega, xw_nat (by omega), toNat_nat]
  have hv : rdO r (L ++ [(b, l)]) 2 L.length = l := by simp [rdO]
  rw [hv]
  funext j k
  simp only [xset, rdO, List.length_append, List.length_cons, List.length_nil]
  by_cases h2 : j = 2 ∧ k = L.length
  · rw [if_pos h2]
    obtain ⟨rfl, rfl⟩ := h2
    simp
  · rw [if_neg h2]
    by_cases hk : k = L.length
    · subst hk
      have hj : j ≠ 2 := fun z => h2 ⟨z, rfl⟩
      simp [hj]
    · have hk : k < L.length ∨ L.length < k := by omega
      rcases hk with hk | hk
      · have e1 : (L ++ [(b, l)])[k]? = L[k]? := List.getElem?_append_left hk
        have e2 : (L ++ [(b, l + m)])[k]? = L[k]? := List.getElem?_append_left hk
        rw [e1, e2]
      · simp only [show ¬ k < L.length + (0 + 1) by omega, and_false, if_false]
theorem rdO_nil (r : Ob) : xset r 0 2 0 = rdO r [] := by
  funext j k
  simp [xset, rdO]
theorem countP_lt {α : Type} (p q : α → Bool) (hpq : ∀ x, p x = true → q x = true) : ∀ (l : List α) (a : α), a ∈ l → q a = true → p a = false → l.countP p + 1 ≤ l.countP q
  | [], a, h, _, _ => absurd h List.not_mem_nil
  | b :: l, a, h, hq, hp => by
    have hm : l.countP p ≤ l.countP q := List.countP_mono_left (fun x _ h => hpq x h)
    rcases List.mem_cons.mp h with rfl | h
    · simp only [List.countP_cons, hq, hp, if_true]
      simp
      exact hm
    · have := countP_lt p q hpq l a h hq hp
      simp only [List.countP_cons]
      by_cases hpb : p b = true
      · rw [hpb, hpq b hpb]; simp; omega
      · rw [Bool.not_eq_true] at hpb
        rw [hpb]
        simp
        split <;> omega
theorem wrun_fold {S : Type} (g : S → Int → S) (R : S → Option Rt) : ∀ (l : List Int) (s : S), wrun (fun s k => .inl (g s k)) R l s = R (l.foldl g s)
  | [], _ => rfl
  | k :: l, s => wrun_fold g R l (g s k)
theorem xdiv_pos {u : Int} {c : Int} (hu : 0 ≤ xw u) (hc : 0 < c) (hc2 : c < 2147483648) : xdiv u c = xw u / c := by
  unfold xdiv
  rw [Int32.toInt_div, xI_toInt, xI_toInt, xw_id (x := c) (by omega) hc2]
  have h1 : (xw u).tdiv c = xw u / c := Int.tdiv_eq_ediv_of_nonneg hu
  rw [h1]
  have h2 : 0 ≤ xw u / c := Int.ediv_nonneg hu (by omega)
  have h3 : xw u / c ≤ xw u := Int.ediv_le_self _ hu
  have h4 : xw u < 2147483648 := by rw [xw_def]; omega
  simp only [Int.bmod]
  omega
theorem xrem_pos {u : Int} {c : Int} (hu : 0 ≤ xw u) (hc : 0 < c) (hc2 : c < 2147483648) : xrem u c = xw u % c := by
  unfold xrem
  rw [rem_toInt, xI_toInt, xI_toInt, xw_id (x := c) (by omega) hc2]
  exact Int.tmod_eq_emod_of_nonneg hu
def celR (r : Ob) : Int := (List.range (r 0 2).toNat).foldl (fun (c : Int) (i : Nat) => c + r 2 i) 0
def lonR (r : Ob) : Int := (List.range (r 0 2).toNat).foldl (fun (c : Int) (i : Nat) => xmax c (r 2 i)) 0
def rwF (r : Ob) (k : Int) : Int := lfind (fun i => decide (xw (r 1 i) ≤ xw k) && decide (xw k < xw (r 1 i + r 2 i))) (r 0 2).toNat
def uwF (r : Ob) (u a : Int) : Int := if xw u < 0 then 65536 else if xw u / 256 < r 0 2 ∧ xw (xw u % 256 + a) ≤ xw (r 2 (xw u / 256).toNat) then u + a
  else match (List.range (r 0 2).toNat).find? (fun i : Nat => decide (xw u / 256 < (i : Int)) && decide (xw a ≤ xw (r 2 i))) with
    | some i => (i : Int) * 256 + a
    | none => 65536
def pkA (p : Ob) (a : Int) : Ob := if xw (p 0 2) < 11 then xset (xset (xset (xset p 1 (xw (p 0 2)).toNat a) 0 2 (p 0 2 + 1)) 0 3 (p 0 3 + a)) 0 4 (if xw (p 0 4) < xw a then a else p 0 4) else p
def pkFI (p h : Ob) (s : Int) : Ob := (List.range 8).foldl (fun (g : Ob) (i : Nat) => if inS s (i : Int) then pkA g (h 2 i + 1) else g) (xset (xset (xset p 0 2 0) 0 3 0) 0 4 0)
noncomputable def pkF : Ob → Ob → Int → Ob := xop pkFI
theorem pkF_e (p h : Ob) (s : Int) : pkF p h s = pkFI p h s := congrFun (congrFun (congrFun (xop_eq pkFI) p) h) s
