section XOps3
variable {X : XDyn} {M : XM} {r0 : Rt} {pc : Nat} {k k1 k2 : XK}
theorem XS.of {k' : XK} (h : XS X M r0 pc k) (hk : ∀ q, k' q = some r0 → k q = some r0) : XS X M r0 pc k' := by
  obtain ⟨p, l, e, s, m, args, below, meth, c, D, g, ad, A⟩ := X
  obtain ⟨cc, nL, own, ret, sh, d⟩ := M
  intro ls st μ hμ h' H locs lsl hl hP hS
  exact h ls st μ hμ (hk _ h') H locs lsl hl hP hS
-- a value out of a list by its number: one branch for each
def o_pick (i : Int) (f : Nat × Nat → XK → Option Rt) : Int → List (Nat × Nat) → List XK → Option Rt
  | n, r :: rs, k :: ks => if xw i = n then f r k else o_pick i f (n + 1) rs ks
  | _, _, _ => none
theorem o_pick_spec {i : Int} {f : Nat × Nat → XK → Option Rt} : ∀ (rs : List (Nat × Nat)) (ks : List XK) (n : Int), o_pick i f n rs ks = some r0 → ∃ (j : Nat) (r : Nat × Nat) (k : XK), rs[j]? = some r ∧ k ∈ ks ∧ xw i = n + j ∧ f r k = some r0
  | [], ks, n, h => by cases ks <;> cases h
  | r :: rs, [], n, h => by cases h
  | r :: rs, k :: ks, n, h => by
    unfold o_pick at h
    split at h
    · rename_i e
      exact ⟨0, r, k, rfl, List.mem_cons_self, by simpa using e, h⟩
    · obtain ⟨j, q, k', h1, h2, h3, h4⟩ := o_pick_spec rs ks (n + 1) h
      exact ⟨j + 1, q, k', by simpa using h1, List.mem_cons_of_mem _ h2, by rw [h3]; push_cast; omega, h4⟩
def o_aald (sh : List (List PS)) (ks : List XK) : XK := fun (ls, st, μ) => match st with
  | .inl i :: .inr (.inl q) :: st => match part sh q.1 q.2 with
    | some (.inr (.inr rs)) => o_pick i (fun r k => k (ls, .inr (.inl r) :: st, μ)) 0 rs ks
    | _ => none
  | _ => none
theorem s_aald {ks : List XK} (C : XO X M) (hd : decode M.1 pc = .ok (.aaload, 1)) (hk : ∀ k ∈ ks, XS X M r0 (pc + 1) k) : XS X M r0 pc (o_aald M.2.2.2.2.1 ks) := by
  obtain ⟨p, l, e, s, m, args, below, meth, c, D, g, ad, A⟩ := X
  obtain ⟨cc, nL, own, ret, sh, d⟩ := M
  intro ls st μ hμ h H locs lsl hl hP hS
  unfold o_aald at h
  dsimp only at h
  split at h
  · rename_i i q st
    split at h
    · rename_i rs hps
      obtain ⟨j, r, k, h1, hkm, h2, h3⟩ := o_pick_spec rs ks 0 h
      have hj : j < rs.length := (List.getElem?_eq_some_iff.mp h1).1
      refine va_aldq C.1 C.2.1 C.2.2.2.2.2.1.1 (hP.one hps) 0 2 (cA := g.2.2) (C := RX3) (n := rs.length) (f := fun k => (nth rs k).map (fun q => ad q.1 q.2)) rfl rfl (xin_in (i := i) (by simp only [xin, Bool.and_eq_true, decide_eq_true_eq]; omega)) hd ?_
      rw [xI_clamp, h2]
      have e1 : ((0 : Int) + (j : Int)).toNat = j := by omega
      rw [e1, nth_eq, h1]
      exact hk k hkm ls _ μ hμ h3 H locs lsl hl hP hS
    · cases h
  · cases h
-- a call that gives a reference, one branch for each
def o_callVr (n : Nat) (mp : List Nat) (G : List AV → List Ob → Bool) (J : List AV → List Ob → Int) (rs : List (Nat × Nat)) (ks : List XK) : XK := fun (ls, st, μ) =>
  match xrens mp (st.take n).reverse with
  | some (.inr (.inl (0, 0)) :: as) => if decide (n ≤ st.length) && decide (xcat (st.drop n) ≤ 8) then (if G (.inr (.inl (0, 0)) :: as) (xsub mp μ) then o_pick (J (.inr (.inl (0, 0)) :: as) (xsub mp μ)) (fun r k => k (ls, .inr (.inl r) :: st.drop n, μ)) 0 rs ks else none) else none
  | _ => none
def xrr (rc : List (Nat × Nat)) (J : Int) (μ : List Ob) : Option Rt := if 0 ≤ xw J then (match nth rc (xw J).toNat with
  | some r => some (some (.inr (.inl r)), μ)
  | none => none) else none
def xgr (G : List AV → List Ob → Bool) (J : List AV → List Ob → Int) (rc : List (Nat × Nat)) : List AV → List Ob → Option Rt := fun as μ => if G as μ then xrr rc (J as μ) μ else none
theorem xmrg_self (mp : List Nat) (μ0 : List Ob) : ∀ (l : List Ob) (i : Nat), (∀ j, getO μ0 (i + j) = getO l j) → xmrg mp (xsub mp μ0) i l = l
  | [], i, _ => rfl
  | h :: l, i, e => by
    unfold xmrg
    rw [xmrg_self mp μ0 l (i + 1) (fun j => by rw [show i + 1 + j = i + (j + 1) by omega, e (j + 1)]; rfl)]
    congr 1
    cases hx : idx i mp with
    | none => rfl
    | some j =>
      have h1 := idx_some mp i j hx
      show getO (mp.map (getO μ0)) j = h
      have : ∀ (m : List Nat) (j : Nat), m[j]? = some i → getO (m.map (getO μ0)) j = getO μ0 i := by
        intro m
        induction m with
        | nil => intro j h; simp at h
        | cons a m ih =>
          intro j h
          cases j with
          | zero => simp at h; subst h; rfl
          | succ j => exact ih j (by simpa using h)
      rw [this mp j h1, show i = i + 0 by omega, e 0]
      rfl
theorem s_callVr {y : MethodName} {Mc : XM} {G : List AV → List Ob → Bool} {J : List AV → List Ob → Int} {rs rc : List (Nat × Nat)} {ks : List XK} {n index ci N : Nat} {mp : List Nat} {Cn : String} {T : u_T} {fs : List (Option (Nat × Nat))} (C : XO X M) (hF : XCt y Mc (xgr G J rc)) (hrs : rs = rc.map (fun q => ((nth mp q.1).getD 0, q.2))) (hfit : xfit mp M.2.2.2.2.1 Mc.2.2.2.2.1) (hc : classes[ci]? = some (Cn, T, N)) (h00 : part Mc.2.2.2.2.1 0 0 = some (.inr (.inl (ci, fs)))) (hdep : Mc.2.2.2.2.2 + 1 ≤ M.2.2.2.2.2) (hml : Mc.2.1 ≤ 45)
    (hy : y.cls = Cn ∧ y.cls ≠ "java/lang/invoke/MethodHandle" ∧ y.cls ≠ "java/lang/invoke/VarHandle" ∧ (parseMethodDescriptor y.desc).map (fun d => d.parameters.length) = some (n - 1)) (hn : 1 ≤ n)
    (h1 : Cond.methodLink M.2.2.1 index y ∈ BIG) (h2 : Cond.instanceMethod y ∈ BIG) (h3 : Cond.selects Cn y y ∈ BIG) (h4 : Cond.initialized Cn ∈ BIG) (h5 : Cond.code y Mc.1 Mc.2.1 Mc.2.2.2.1 ∈ BIG) (hd : decode M.1 pc = .ok (.invokevirtual index, 3)) (hk : ∀ k ∈ ks, XS X M r0 (pc + 3) k) : XS X M r0 pc (o_callVr n mp G J rs ks) := by
  have key : ∀ q, o_callVr n mp G J rs ks q = some r0 → ∃ k ∈ ks, o_callV n 2 mp (xgr G J rc) k q = some r0 := by
    rintro ⟨ls, st, μ⟩ h
    unfold o_callVr at h
    unfold o_callV
    dsimp only at h ⊢
    split at h
    · rename_i as hr
      simp only [hr]
      split at h
      · rename_i hcd
        simp only [hcd, if_true]
        split at h
        · rename_i hg
          obtain ⟨j, r, k, g1, hkm, g2, g3⟩ := o_pick_spec rs ks 0 h
          refine ⟨k, hkm, ?_⟩
          subst hrs
          rw [List.getElem?_map] at g1
          cases hq : rc[j]? with
          | none => rw [hq] at g1; cases g1
          | some q =>
            rw [hq] at g1
            simp only [Option.map_some, Option.some.injEq] at g1
            unfold xgr xrr
            have e1 : ((0 : Int) + (j : Int)).toNat = j := by omega
            rw [if_pos hg, if_pos (by rw [g2]; omega), g2, e1, nth_eq, hq]
            show k (ls, .inr (.inl ((nth mp q.1).getD 0, q.2)) :: st.drop n, xmrg mp (xsub mp μ) 0 μ) = some r0
            rw [xmrg_self mp μ μ 0 (fun j => by rw [Nat.zero_add]), g1]
            exact g3
        · cases h
      · cases h
    · cases h
  obtain ⟨p, l, e, s, m, args, below, meth, c, D, g, ad, A⟩ := X
  obtain ⟨cc, nL, own, ret, sh, d⟩ := M
  intro ls st μ hμ h H locs lsl hl hP hS
  obtain ⟨k, hkm, h'⟩ := key _ h
  exact s_callV (rk := 2) C hF hfit hc h00 hdep hml hy hn h1 h2 h3 h4 h5 hd (hk k hkm) ls st μ hμ h' H locs lsl hl hP hS
-- a static method of another class
theorem s_callJ {y : MethodName} {Mc : XM} {F : List AV → List Ob → Option Rt} {n rk index : Nat} {mp : List Nat} (C : XO X M) (hF : XCt y Mc F) (hfit : xfit mp M.2.2.2.2.1 Mc.2.2.2.2.1) (hdep : Mc.2.2.2.2.2 + 1 ≤ M.2.2.2.2.2) (hml : Mc.2.1 ≤ 45)
    (hy : y.cls ≠ "java/lang/invoke/MethodHandle" ∧ y.cls ≠ "java/lang/invoke/VarHandle" ∧ (parseMethodDescriptor y.desc).map (fun d => d.parameters.length) = some n)
    (h1 : Cond.methodLink M.2.2.1 index y ∈ BIG) (h2 : Cond.static y ∈ BIG) (h4 : Cond.initialized y.cls ∈ BIG) (h5 : Cond.code y Mc.1 Mc.2.1 Mc.2.2.2.1 ∈ BIG) (hd : decode M.1 pc = .ok (.invokestatic index, 3)) (hk : XS X M r0 (pc + 3) k) : XS X M r0 pc (o_callS n rk mp F k) := by
  obtain ⟨p, l, e, s, m, args, below, meth, c, D, g, ad, A⟩ := X
  obtain ⟨cc, nL, own, ret, sh, d⟩ := M
  obtain ⟨cc', nL', own', ret', shc, d'⟩ := Mc
  intro ls st μ hμ h H locs lsl hl hP hS
  unfold o_callS at h
  dsimp only at h hfit hdep hml h1 h4 h5 hd hF hy
  split at h
  · rename_i as hr
    split at h
    · rename_i hcd
      simp only [Bool.and_eq_true, decide_eq_true_eq] at hcd
      cases hFr : F as (xsub mp μ) with
      | none => rw [hFr] at h; cases h
      | some r =>
        rw [hFr] at h
        replace h : o_ans rk mp ls (st.drop n) μ k r = some r0 := h
        obtain ⟨st', hst', hk'⟩ := o_ans_spec (ad := ad) h
        have hM := hF _ _ _ hFr l D g (xadc ad mp) H.size
        obtain ⟨q1, q2⟩ := xrens_cv (ad := ad) _ _ hr
        have hlen : as.length = n := by
          simp only [List.length_reverse, List.length_take] at q2
          omega
        have hst : st.map (cv ad) = (as.map (cv (xadc ad mp))).reverse ++ (st.drop n).map (cv ad) := by
          conv => lhs; rw [st_split st n]
          rw [List.map_append, List.map_reverse, ← q1]
        have hAA := xA_sub (sz := H.size) hfit C.2.2.2.2.2.2.2.1 (fun q hq => C.2.2.2.2.2.2.2.2.1 q (Nat.le_trans hS.1 hq))
        have hPc := XP.sub hfit hP
        refine xgo (va_runS (As := as.map (cv (xadc ad mp))) (rest := (st.drop n).map (cv ad)) (bytes := cc') (maxL := nL') (ret := ret') (own := own) (n := n) ⟨C.1, C.2.1, C.2.2.1, C.2.2.2.1, C.2.2.2.2.1⟩ hM
          (va_cwS n C.2.2.2.2.1 (goodBIG (fun w hw => ?_)) rfl rfl rfl hy ⟨hdep, by show 8 + (nL' + 11) + 64 * d' ≤ 64 * d; omega⟩)
          ⟨xPc_blind, fun U hU hW => ⟨rfl, by rw [hU], KS.warm hW C.2.2.2.2.2.1, by rw [hU]; exact hPc, C.2.2.2.2.2.2.1.sub hfit, ?_⟩⟩
          rfl (by rw [List.length_map, hlen]) hl.1 hst (lv_room (by rw [xcat_eq]; exact hcd.2)) hd ⟨Nat.zero_le _, Nat.zero_le _⟩) hS hAA (fun H1 locs1 hP1 hz hkp hS1 => ?_)
        · simp only [va_wsS, List.mem_append, List.mem_cons, List.not_mem_nil, or_false] at hw
          rcases hw with (rfl | rfl | rfl) | rfl | hw
          · exact h1
          · exact h2
          · exact h4
          · exact h5
          · exact hw
        · show (xsub mp μ).length = shc.length
          rw [← hfit.1]; simp [xsub]
        · rw [hst']
          exact hk ls st' _ (by rw [xmrg_len]; exact hμ) hk' H1 locs1 lsl hl (XP.merge hfit C.2.2.2.2.2.2.1 hμ hP hP1 hkp) hS1
    · cases h
  · cases h
theorem s_callJg {y : MethodName} {Mc : XM} {G : List AV → List Ob → Bool} {V : List AV → List Ob → Rt} {n rk index : Nat} {mp : List Nat} (C : XO X M) (hF : XCt y Mc (xgv G V)) (hfit : xfit mp M.2.2.2.2.1 Mc.2.2.2.2.1) (hdep : Mc.2.2.2.2.2 + 1 ≤ M.2.2.2.2.2) (hml : Mc.2.1 ≤ 45)
    (hy : y.cls ≠ "java/lang/invoke/MethodHandle" ∧ y.cls ≠ "java/lang/invoke/VarHandle" ∧ (parseMethodDescriptor y.desc).map (fun d => d.parameters.length) = some n)
    (h1 : Cond.methodLink M.2.2.1 index y ∈ BIG) (h2 : Cond.static y ∈ BIG) (h4 : Cond.initialized y.cls ∈ BIG) (h5 : Cond.code y Mc.1 Mc.2.1 Mc.2.2.2.1 ∈ BIG) (hd : decode M.1 pc = .ok (.invokestatic index, 3)) (hk : XS X M r0 (pc + 3) k) : XS X M r0 pc (o_callSg n rk mp G V k) := by
  rw [o_callSg_eq]
  exact s_callJ C hF hfit hdep hml hy h1 h2 h4 h5 hd hk
-- shifts without a sign, constants far off
def xushr (x y : Int) : Int := ((xI x).toUInt32 >>> ((xI y).toUInt32 &&& Int32.toUInt32 31)).toInt32.toInt
def o_iushr (k : XK) : XK := fun (ls, st, μ) => match st with
  | .inl y :: .inl x :: st => k (ls, .inl (xushr x y) :: st, μ)
  | _ => none
theorem s_iushr (C : XO X M) (hd : decode M.1 pc = .ok (.iushr, 1)) (hk : XS X M r0 (pc + 1) k) : XS X M r0 pc (o_iushr k) := by
  obtain ⟨p, l, e, s, m, args, below, meth, c, D, g, ad, A⟩ := X
  obtain ⟨cc, nL, own, ret, sh, d⟩ := M
  intro ls st μ hμ h H locs lsl hl hP hS
  unfold o_iushr at h
  dsimp only at h
  split at h
  · rename_i y x st
    refine lv_iushr C.1 C.2.1 hd (v := xI (xushr x y)) (xI_of _).symm ?_
    exact hk ls _ μ hμ h H locs lsl hl hP hS
  · cases h
theorem s_ldcw {n : Int} {z : Int32} {index : Nat} (C : XO X M) (hd : decode M.1 pc = .ok (.ldc_w index, 3)) (hw : Cond.constant M.2.2.1 index z ∈ BIG) (hz : xI n = z) (hk : XS X M r0 (pc + 3) k) : XS X M r0 pc (o_iconst n k) := by
  obtain ⟨p, l, e, s, m, args, below, meth, c, D, g, ad, A⟩ := X
  obtain ⟨cc, nL, own, ret, sh, d⟩ := M
  intro ls st μ hμ h H locs lsl hl hP hS
  subst hz
  exact lv_ldcw C.1 C.2.1 C.2.2.2.1 (C.2.2.2.2.1 _ hw) hd (hk ls _ μ hμ h H locs lsl hl hP hS)
-- a switch by pairs
theorem s_lsw {dflt : Int} {ps : Array (Int × Int)} {len tgt0 : Nat} {kd : XK} (C : XO X M) (hd : decode M.1 pc = .ok (.lookupswitch dflt ps, len)) (cs : List (Int × Int × XK)) (hps : ps.toList = cs.map (fun q => (q.1, q.2.1))) (hso : (ps.toList.zip (ps.toList.drop 1)).all (fun (a, next) => a.1 < next.1) = true) (ht0 : (pc : Int) + dflt = (tgt0 : Int)) (h0 : XS X M r0 tgt0 kd)
    (hcs : ∀ q ∈ cs, ∃ tgt : Nat, (pc : Int) + q.2.1 = (tgt : Int) ∧ XS X M r0 tgt q.2.2) : XS X M r0 pc (o_sw (cs.map (fun q => (q.1, q.2.2))) kd) := by
  obtain ⟨p, l, e, s, m, args, below, meth, c, D, g, ad, A⟩ := X
  obtain ⟨cc, nL, own, ret, sh, d⟩ := M
  intro ls st μ hμ h H locs lsl hl hP hS
  match st, h with
  | [], h => cases cs with
    | nil => cases h
    | cons a cs => cases h
  | .inr v :: st, h => cases cs with
    | nil => cases h
    | cons a cs => cases h
  | .inl x :: st, h =>
    show W _ _ _ _ _ _ _ _ _ _ _ _ _ _ _ (F0 m pc lsl (.int (xI x) :: st.map (cv ad)))
    have key : ∀ cs' : List (Int × Int × XK), o_sw (cs'.map (fun q => (q.1, q.2.2))) kd (ls, .inl x :: st, μ) = some r0 → (∃ q ∈ cs', Op.lookupswitch.offset (cs'.map (fun q => (q.1, q.2.1))) dflt (xw x) = q.2.1 ∧ q.2.2 (ls, st, μ) = some r0) ∨ (Op.lookupswitch.offset (cs'.map (fun q => (q.1, q.2.1))) dflt (xw x) = dflt ∧ kd (ls, st, μ) = some r0) := by
      intro cs'
      induction cs' with
      | nil => intro h; exact Or.inr ⟨rfl, h⟩
      | cons a cs' ih =>
        intro h
        obtain ⟨v, o, k⟩ := a
        have h' : (if xw x = v then k (ls, st, μ) else o_sw (cs'.map (fun q => (q.1, q.2.2))) kd (ls, .inl x :: st, μ)) = some r0 := h
        show (∃ q ∈ (v, o, k) :: cs', (if v = xw x then o else _) = q.2.1 ∧ _) ∨ ((if v = xw x then o else _) = dflt ∧ _)
        by_cases hv : xw x = v
        · rw [if_pos hv] at h'
          exact Or.inl ⟨(v, o, k), List.mem_cons_self, by rw [if_pos hv.symm], h'⟩
        · rw [if_neg hv] at h'
          rw [if_neg (fun z => hv z.symm)]
          rcases ih h' with ⟨q, h1, h2, h3⟩ | ⟨h1, h2⟩
          · exact Or.inl ⟨q, List.mem_cons_of_mem _ h1, h2, h3⟩
          · exact Or.inr ⟨h1, h2⟩
    rcases key cs h with ⟨q, h1, h2, h3⟩ | ⟨h1, h2⟩
    · obtain ⟨tgt, g1, g2⟩ := hcs q h1
      exact lv_lookup C.1 C.2.1 hd hso (by rw [hps, xI_toInt]; exact h2) g1 (g2 ls st μ hμ h3 H locs lsl hl hP hS)
    · exact lv_lookup C.1 C.2.1 hd hso (by rw [hps, xI_toInt]; exact h1) ht0 (h0 ls st μ hμ h2 H locs lsl hl hP hS)
-- longs
def o_lload (i : Nat) (k : XK) : XK := fun (ls, st, μ) => match nth ls i with
  | some (some (.inr (.inr v))) => k (ls, .inr (.inr v) :: st, μ)
  | _ => none
theorem s_lload {i : Nat} (C : XO X M) (hd : decode M.1 pc = .ok (.lload i, 2)) (hk : XS X M r0 (pc + 2) k) : XS X M r0 pc (o_lload i k) := by
  obtain ⟨p, l, e, s, m, args, below, meth, c, D, g, ad, A⟩ := X
  obtain ⟨cc, nL, own, ret, sh, d⟩ := M
  intro ls st μ hμ h H locs lsl hl hP hS
  unfold o_lload at h
  dsimp only at h
  split at h
  · rename_i v hv
    exact lv_lload C.1 C.2.1 hd (hl.2.2.2 i _ hv) (hk ls _ μ hμ h H locs lsl hl hP hS)
  · cases h
theorem s_lload_n {i : Nat} {q : Fin 4} (C : XO X M) (hd : decode M.1 pc = .ok (.lload_n q, 1)) (hi : (q : Nat) = i) (hk : XS X M r0 (pc + 1) k) : XS X M r0 pc (o_lload i k) := by
  obtain ⟨p, l, e, s, m, args, below, meth, c, D, g, ad, A⟩ := X
  obtain ⟨cc, nL, own, ret, sh, d⟩ := M
  intro ls st μ hμ h H locs lsl hl hP hS
  unfold o_lload at h
  dsimp only at h
  split at h
  · rename_i v hv
    exact lv_lload_n C.1 C.2.1 hd hi (hl.2.2.2 i _ hv) (hk ls _ μ hμ h H locs lsl hl hP hS)
  · cases h
def xlr (x : Int) : Bool := decide (-4294967296 ≤ x) && decide (x ≤ 4294967296)
theorem xlr_id {x : Int} (h : xlr x = true) : (Int64.ofInt x).toInt = x := by
  simp only [xlr, Bool.and_eq_true, decide_eq_true_eq] at h
  rw [Int64.toInt_ofInt]
  simp only [Int.bmod, Int64.size]
  omega
def xlc (x y : Int) : Int := if x > y then 1 else if x = y then 0 else -1
def o_lcmp (k : XK) : XK := fun (ls, st, μ) => match st with
  | .inr (.inr y) :: .inr (.inr x) :: st => if xlr x && xlr y then k (ls, .inl (xlc x y) :: st, μ) else none
  | _ => none
end XOps3
section XLC
variable {p : Program} {l : Launch} {e : Env} {R : Room} {s : State} {m : MethodId} {args : Array Value} {below : List Frame} {meth : Method} {c : Code} {H : Heap} {locs : List Loc} {cells slots : Nat} {Q : State → Prop}
variable {cc : ByteArray} {pc : Nat} {ls : Array Slot} {rest : List Value}
theorem lx_lcmp (hexec : p.tables.exec = Jvm.exec) (hb : c.code = cc) {x y : Int64} (hdg : decode cc pc = .ok (.lcmp, 1))
    (k : W p l e R s m args below meth c H locs cells slots Q (F0 m (pc + 1) ls (.int (if x > y then 1 else if x == y then 0 else -1) :: rest))) : W p l e R s m args below meth c H locs cells slots Q (F0 m pc ls (.long y :: .long x :: rest)) := by
  intro T hT X
  obtain ⟨t, a, b⟩ := k T hT X
  refine ⟨t, ?_, b⟩
  jvm_step X.here [X.here.top, hexec, hb, hdg]
  by_cases c1 : x > y
  · rw [if_pos c1] at a
    simp only [c1, if_true]
    exact a
  · rw [if_neg c1] at a
    simp only [c1, if_false]
    by_cases c2 : x = y
    · rw [if_pos (by simpa using c2)] at a
      rw [if_pos c2]
      exact a
    · rw [if_neg (by simpa using c2)] at a
      rw [if_neg c2]
      exact a
end XLC
section XOps4
variable {X : XDyn} {M : XM} {r0 : Rt} {pc : Nat} {k k1 k2 : XK}
theorem s_lcmp (C : XO X M) (hd : decode M.1 pc = .ok (.lcmp, 1)) (hk : XS X M r0 (pc + 1) k) : XS X M r0 pc (o_lcmp k) := by
  obtain ⟨p, l, e, s, m, args, below, meth, c, D, g, ad, A⟩ := X
  obtain ⟨cc, nL, own, ret, sh, d⟩ := M
  intro ls st μ hμ h H locs lsl hl hP hS
  unfold o_lcmp at h
  dsimp only at h
  split at h
  · rename_i y x st
    split at h
    · rename_i hc
      simp only [Bool.and_eq_true] at hc
      have h1 := xlr_id hc.1
      have h2 := xlr_id hc.2
      refine lx_lcmp C.1 C.2.1 hd ?_
      have e1 : (if Int64.ofInt x > Int64.ofInt y then (1 : Int32) else if Int64.ofInt x == Int64.ofInt y then 0 else -1) = xI (xlc x y) := by
        unfold xlc
        by_cases c1 : x > y
        · rw [if_pos c1, if_pos (by show Int64.ofInt y < Int64.ofInt x; rw [Int64.lt_iff_toInt_lt, h1, h2]; exact c1)]
          rfl
        · rw [if_neg c1, if_neg (by show ¬ Int64.ofInt y < Int64.ofInt x; rw [Int64.lt_iff_toInt_lt, h1, h2]; exact c1)]
          by_cases c2 : x = y
          · rw [if_pos c2, if_pos (by rw [c2]; simp)]
            rfl
          · rw [if_neg c2, if_neg (by
              intro z
              have z := eq_of_beq z
              rw [← Int64.toInt_inj, h1, h2] at z
              exact c2 z)]
            rfl
      rw [e1]
      exact hk ls _ μ hμ h H locs lsl hl hP hS
    · cases h
  · cases h
end XOps4
