theorem inS_0 (x : Int) : inS 0 x = false := by
  unfold inS
  cases hh : hdl x with
  | false => rfl
  | true =>
    obtain ⟨h1, h2⟩ := hdl_iff.mp hh
    obtain ⟨n, hn⟩ : ∃ n : Nat, xw x = (n : Int) := ⟨(xw x).toNat, by omega⟩
    have : xshr 0 x = 0 := by
      unfold xshr
      rw [xI_0]
      simp
    rw [this]
    decide
theorem rnl0_fold {h : Ob} (hL : LW h) {e : Int} (he1 : h 0 9 ≤ e) (he : e ≤ 200) : ∀ (t : Nat) (k : Int) (q : Bool × List (Int × Int)), 0 ≤ k → k ≤ e → Nb h k → (q.1 = true → k = e ∨ hol h k ≠ -1) → ((wlk h e t k).foldl (rst h 0 e) q).2 = (((wlk h e t k).filter (fun k => decide (hol h k = -1))).map (fun k => (k, nxt h k e - k))).reverse ++ q.2 := by
  intro t
  induction t with
  | zero => intro k q _ _ _ _; rfl
  | succ t ih =>
    intro k q hk hke hN hq
    unfold wlk
    by_cases hc : k < e
    · rw [if_pos hc, List.foldl_cons, List.filter_cons]
      obtain ⟨n1, n2, n3⟩ := hL.nxc hk hc he1 he
      have hN' := hL.nb_nxt hk hc he hN
      rw [n3]
      by_cases hh : hol h k = -1
      · have hq1 : q.1 = false := by
          cases hb : q.1 with
          | false => rfl
          | true =>
            rcases hq hb with z | z
            · omega
            · exact absurd hh z
        have hr : rst h 0 e q k = (true, (k, nxt h k e - k) :: q.2) := by
          unfold rst
          rw [hh, hq1]
          simp
        have hno : ∀ i, i < 11 → h 1 i ≠ k := by
          rcases hL.holc (k := k) hk (by omega) with ⟨i, i1, i2, i3⟩ | ⟨i1, i3⟩
          · rw [i3] at hh; omega
          · exact i1
        obtain ⟨c1, c2, c3, c4⟩ := hL.nxt_free hk hc he hno
        rw [hr, ih _ _ (by omega) (by omega) hN' (fun _ => by
          rcases c4 with c4 | ⟨j, hj, c4⟩
          · exact Or.inl c4
          · right
            have hzj := hL.2.2.2.1 j hj
            rw [c4, hL.hol_at hj (by omega)]
            omega), hh]
        simp
      · have hr : rst h 0 e q k = (false, q.2) := by
          unfold rst
          rw [inS_0]
          simp [hh]
        rw [hr, ih _ _ (by omega) (by omega) hN' (fun z => by cases z)]
        simp [hh]
    · rw [if_neg hc]
      rfl
/-- the runs of free cells are the free blocks -/
theorem rnl0 {h : Ob} (hL : LW h) {e : Int} (he1 : h 0 9 ≤ e) (he : e ≤ 200) : rnl h 0 e = ((wls h e).filter (fun k => decide (hol h k = -1))).map (fun k => (k, nxt h k e - k)) := by
  have h8 := hL.1
  unfold rnl
  rw [xop_eq]
  unfold rnlI
  rw [wls_e]
  unfold wlsI
  rw [rnl0_fold hL he1 he wfu 0 (false, []) (by omega) (by omega) hL.nb0 (fun z => by cases z)]
  simp
