def inn (v l h : Int) : Bool := decide (l ≤ v) && decide (v ≤ h)
def isO (s k : Int) : Bool := decide (xw (xand (xshr s k) 1) = 1)
def fulM (m : Ob) (a : Int) : Bool := hdl a && decide (xw (m 1 (5 + (xw a).toNat)) = 1)
def thrM (m : Ob) (a : Int) : Bool := hdl a && !decide (xw (m 1 (5 + (xw a).toNat)) = 0)
def islM (m : Ob) (a : Int) : Bool := decide (0 ≤ xw a) && decide (xw a < 3) && decide (0 < xw (m 1 (69 + (xw a).toNat)))
def looM (m : Ob) (a : Int) : Bool := fulM m a && decide (xw (m 1 (29 + (xw a).toNat)) = 0)
def cgoM (m : Ob) (a : Int) : Bool := looM m a && decide (xw (m 1 (53 + (xw a).toNat)) = 1)
def cblM (m : Ob) (a : Int) : Bool := looM m a && decide (xw (m 1 (37 + (xw a).toNat)) < xw (m 1 (21 + (xw a).toNat)))
def lenM (m : Ob) (a : Int) : Int := m 1 (21 + (xw a).toNat) + 1
def wrM (m : Ob) (a : Int) : Int := if xw (m 1 2) = 0 then m 1 (61 + (xw a).toNat) else if xw (m 1 2) = 1 then m 1 (45 + (xw a).toNat) else if xw (m 1 2) = 2 then xdiv (100 * m 1 (45 + (xw a).toNat)) (m 1 (21 + (xw a).toNat)) else if xw (m 1 2) = 3 then 1000 - m 1 (21 + (xw a).toNat) else m 1 (61 + (xw a).toNat) + 4 * m 1 (45 + (xw a).toNat)
def laM (m : Ob) (a b c : Int) : Ob := fun j k => if j = 4 ∧ xw a ≤ (k : Int) ∧ (k : Int) < xw a + xw b then c else m j k
def bgM (m : Ob) (a b : Int) : Ob := fun j k => if j = 1 ∧ k < 735 then (if k = 0 then a else if k = 1 then b else 0) else if j = 0 ∧ (k = 3 ∨ k = 4) then 0 else m j k
theorem ixm {c a : Int} (n : Nat) (hc : c = n) (hn : n ≤ 700) (h : hdl a = true) : xin (c + a) 735 = true ∧ (xw (c + a)).toNat = n + (xw a).toNat := by
  obtain ⟨h1, h2⟩ := hdl_iff.mp h
  have e : xw (c + a) = c + xw a := by
    rw [xw_def] at h1 h2 ⊢
    rw [xw_def]
    omega
  refine ⟨xin_of (by rw [e]; omega) (by rw [e]; omega), by rw [e]; omega⟩
-- what a model that isn't looked into gives
def oqI : Option Rt → Bool
  | some (some (.inl _), [_]) => true
  | _ => false
def oqV : Option Rt → Bool
  | some (none, [_]) => true
  | _ => false
def oqR : Option Rt → Int
  | some (some (.inl r), _) => r
  | _ => 0
def oqO : Option Rt → Nat → Ob
  | some (_, μ), n => getO μ n
  | none, _ => ob0
theorem oqI_eq {p : Option Rt} (h : oqI p = true) : p = RI (oqR p) [oqO p 0] := by
  unfold oqI at h
  split at h
  · rfl
  · cases h
theorem oqV_eq {p : Option Rt} (h : oqV p = true) : p = RV [oqO p 0] := by
  unfold oqV at h
  split at h
  · rfl
  · cases h
-- a method of longs
def xpl : List AV → List (Option AV)
  | [] => []
  | .inr (.inr x) :: l => some (.inr (.inr x)) :: none :: xpl l
  | a :: l => some a :: xpl l
theorem xpl_args {ad : Nat → Nat → Nat} : ∀ (as : List AV) (k i : Nat) (v : AV), nth (xpl as) i = some (some v) → (k + i, cv ad v) ∈ lv_args k (as.map (cv ad))
  | [], k, i, v, h => by simp [xpl, nth] at h
  | .inr (.inr x) :: as, k, 0, v, h => by simp [xpl, nth] at h; subst h; simp [lv_args, cv]
  | .inr (.inr x) :: as, k, 1, v, h => by simp [xpl, nth] at h
  | .inr (.inr x) :: as, k, i + 2, v, h => by
    have := xpl_args (ad := ad) as (k + 2) i v (by simpa [xpl, nth] using h)
    rw [show k + 2 + i = k + (i + 2) by omega] at this
    simp only [List.map_cons, lv_args, cv, Value.category]
    exact List.mem_cons_of_mem _ this
  | .inl x :: as, k, 0, v, h => by simp [xpl, nth] at h; subst h; simp [lv_args, cv]
  | .inr (.inl x) :: as, k, 0, v, h => by simp [xpl, nth] at h; subst h; simp [lv_args, cv]
  | .inl x :: as, k, i + 1, v, h => by
    have := xpl_args (ad := ad) as (k + 1) i v (by simpa [xpl, nth] using h)
    rw [show k + 1 + i = k + (i + 1) by omega] at this
    simp only [List.map_cons, lv_args, cv, Value.category]
    exact List.mem_cons_of_mem _ this
  | .inr (.inl x) :: as, k, i + 1, v, h => by
    have := xpl_args (ad := ad) as (k + 1) i v (by simpa [xpl, nth] using h)
    rw [show k + 1 + i = k + (i + 1) by omega] at this
    simp only [List.map_cons, lv_args, cv, Value.category]
    exact List.mem_cons_of_mem _ this
theorem xpl_sl {ad : Nat → Nat → Nat} : ∀ (as : List AV), (lg_sl (as.map (cv ad))).length = (xpl as).length
  | [] => rfl
  | .inr (.inr x) :: as => by
    have := xpl_sl (ad := ad) as
    simp only [lg_sl, List.map_cons, List.flatMap_cons, cv, Value.category] at this ⊢
    simp [xpl, this]
  | .inl x :: as => by
    have := xpl_sl (ad := ad) as
    simp only [lg_sl, List.map_cons, List.flatMap_cons, cv, Value.category] at this ⊢
    simp [xpl, this]
  | .inr (.inl x) :: as => by
    have := xpl_sl (ad := ad) as
    simp only [lg_sl, List.map_cons, List.flatMap_cons, cv, Value.category] at this ⊢
    simp [xpl, this]
def xFL (M : XM) (raw : XK) : List AV → List Ob → Option Rt := fun as μ => if decide ((xpl as).length ≤ M.2.1) then raw (xpl as, [], μ) else none
theorem xMetL {y : MethodName} {M : XM} {raw : XK} (hy : plainName y.cls = true) (hc : y.cls = M.2.2.1) (hS : ∀ (X : XDyn) (r0 : Rt), XO X M → XS X M r0 0 raw) : XCt y M (xFL M raw) := by
  obtain ⟨cc, nL, own, ret, sh, d⟩ := M
  intro as μ r0 hF l D g ad sz
  dsimp only at hc ⊢
  refine Met.ofW (cc := cc) (maxL := nL) (ret := ret) hy rfl ?_
  intro p e s m args below meth c s₁ B hml hv
  obtain ⟨rfl, hsz, hKS, hP, hXI, hlen⟩ := hv
  have hx := B.exec
  have hb := B.bytes
  have hr := B.returns
  have hts := atoms_spec (ws := xws y cc nL ret) B.pre
  have hown : s.vm.findClass y.cls = some m.cls := findClass_of_methodNamed B.named
  have hlocks := B.notSynchronized
  subst hsz
  unfold xFL at hF
  dsimp only at hF
  split at hF
  · rename_i hn
    have hn := of_decide_eq_true hn
    have hl := lv_entry (as.map (cv ad)) (n := nL) (by rw [xpl_sl as]; exact hn)
    rw [lg_entry_eq]
    generalize (lg_sl (as.map (cv ad)) ++ List.replicate (nL - (lg_sl (as.map (cv ad))).length) Slot.unset).toArray = lsl at hl ⊢
    have hXL : XL lsl nL ad (xpl as) := by
      refine ⟨hl.1, hl.2.1, hn, fun i v hv => ?_⟩
      have := xpl_args (ad := ad) as 0 i v hv
      rw [Nat.zero_add] at this
      exact hl.2.2 _ this
    exact hS (p, l, e, s, m, (as.map (cv ad)).toArray, below, meth, c, D, g, ad, xA ad sh s.heap.size) r0 ⟨hx, hb, hml, by rw [← hc]; exact hown, fun w hw => hts w (List.mem_cons_of_mem _ hw), hKS, hXI, fun i j ps hp => Or.inl ⟨i, j, ps, hp, rfl⟩, fun q hq => Or.inr hq, hr, hlocks⟩ (xpl as) [] μ hlen hF s.heap [] lsl hXL hP va_S.rf
  · cases hF
theorem dX8_in_0 : decode cX8_in 0 = .ok (.lload_n 0, 1) := by decide +kernel
theorem dX8_in_1 : decode cX8_in 1 = .ok (.lload_n 2, 1) := by decide +kernel
theorem dX8_in_2 : decode cX8_in 2 = .ok (.lcmp, 1) := by decide +kernel
theorem dX8_in_3 : decode cX8_in 3 = .ok (.ifCond .lt 14, 3) := by decide +kernel
theorem dX8_in_6 : decode cX8_in 6 = .ok (.lload_n 0, 1) := by decide +kernel
theorem dX8_in_7 : decode cX8_in 7 = .ok (.lload 4, 2) := by decide +kernel
theorem dX8_in_9 : decode cX8_in 9 = .ok (.lcmp, 1) := by decide +kernel
theorem dX8_in_10 : decode cX8_in 10 = .ok (.ifCond .gt 7, 3) := by decide +kernel
theorem dX8_in_13 : decode cX8_in 13 = .ok (.iconst 1, 1) := by decide +kernel
theorem dX8_in_14 : decode cX8_in 14 = .ok (.goto 4, 3) := by decide +kernel
theorem dX8_in_17 : decode cX8_in 17 = .ok (.iconst 0, 1) := by decide +kernel
theorem dX8_in_18 : decode cX8_in 18 = .ok (.ireturn, 1) := by decide +kernel
abbrev mX8_in : XM := (cX8_in, 6, RX8, some .boolean, shw_, 0)
noncomputable def rw_X8_in : XK := o_lload 0 <| o_lload 2 <| o_lcmp <| o_if_lt (o_iconst 0 <| o_zreturn) (o_lload 0 <| o_lload 4 <| o_lcmp <| o_if_gt (o_iconst 0 <| o_zreturn) (o_iconst 1 <| o_zreturn))
theorem sd_X8_in {X : XDyn} {r0 : Rt} (C : XO X mX8_in) : XS X mX8_in r0 0 rw_X8_in := by
  unfold rw_X8_in
  exact s_lload_n (pc := 0) C dX8_in_0 rfl <| s_lload_n (pc := 1) C dX8_in_1 rfl <| s_lcmp (pc := 2) C dX8_in_2 <| s_if_lt (pc := 3) C dX8_in_3 (by decide) (s_iconst (pc := 17) C dX8_in_17 <| s_zreturn (pc := 18) C rfl dX8_in_18)
    (s_lload_n (pc := 6) C dX8_in_6 rfl <| s_lload (pc := 7) C dX8_in_7 <| s_lcmp (pc := 9) C dX8_in_9 <| s_if_gt (pc := 10) C dX8_in_10 (by decide) (s_iconst (pc := 17) C dX8_in_17 <| s_zreturn (pc := 18) C rfl dX8_in_18)
      (s_iconst (pc := 13) C dX8_in_13 <| s_goto (pc := 14) C dX8_in_14 (by decide) <| s_zreturn (pc := 18) C rfl dX8_in_18))
theorem ctr_X8_in : XCt yX8_in mX8_in (xFL mX8_in rw_X8_in) := xMetL (by decide +kernel) rfl (fun _ _ C => sd_X8_in C)
noncomputable def g_X8_in : List AV → List Ob → Bool
  | [.inr (.inr p0), .inr (.inr p2), .inr (.inr p4)], [] => xlr p0 && (xlr p2 && xlr p4)
  | _, _ => false
noncomputable def v_X8_in : List AV → List Ob → Rt
  | [.inr (.inr p0), .inr (.inr p2), .inr (.inr p4)], [] => (some (.inl (bz (inn p0 p2 p4))), [])
  | _, _ => (none, [])
theorem xlc_lt (x y : Int) : (xw (xlc x y) < 0) = (x < y) := by
  unfold xlc
  split
  · rw [xw1]; simp; omega
  · split
    · rw [xw0]; simp; omega
    · rw [xwm1]; simp; omega
theorem xlc_gt (x y : Int) : (xw (xlc x y) > 0) = (x > y) := by
  unfold xlc
  split
  · rw [xw1]; simp; omega
  · split
    · rw [xw0]; simp; omega
    · rw [xwm1]; simp; omega
theorem ct_X8_in : XCt yX8_in mX8_in (fun as μ => if g_X8_in as μ then some (v_X8_in as μ) else none) := ctr_X8_in.of (fun as μ r h => by
  split at h
  · rename_i hg
    unfold g_X8_in at hg
    split at hg
    · rename_i p0 p2 p4
      rw [← h]
      simp only [Bool.and_eq_true] at hg
      show (if xlr p0 && xlr p2 then (if xw (xlc p0 p2) < 0 then (if xb 0 then RI 0 [] else none) else (if xlr p0 && xlr p4 then (if xw (xlc p0 p4) > 0 then (if xb 0 then RI 0 [] else none) else (if xb 1 then RI 1 [] else none)) else none)) else none) = RI (bz (inn p0 p2 p4)) []
      rw [if_pos (show (xlr p0 && xlr p2) = true by rw [hg.1, hg.2.1]; rfl), if_pos (show (xlr p0 && xlr p4) = true by rw [hg.1, hg.2.2]; rfl)]
      simp only [xlc_lt, xlc_gt]
      unfold inn
      by_cases c1 : p0 < p2
      · rw [if_pos c1]
        have : ¬ p2 ≤ p0 := by omega
        simp [this, bz, xb]
      · rw [if_neg c1]
        have c3 : p2 ≤ p0 := by omega
        by_cases c2 : p0 > p4
        · rw [if_pos c2]
          have : ¬ p0 ≤ p4 := by omega
          simp [this, bz, xb]
        · rw [if_neg c2]
          have : p0 ≤ p4 := by omega
          simp [this, c3, bz, xb]
    · cases hg
  · cases h)
theorem yi_X8_in : yX8_in.cls ≠ "java/lang/invoke/MethodHandle" ∧ yX8_in.cls ≠ "java/lang/invoke/VarHandle" ∧ (parseMethodDescriptor yX8_in.desc).map (fun d => d.parameters.length) = some 3 := ⟨by decide +kernel, by decide +kernel, by decide +kernel⟩
theorem dX8_isOf_0 : decode cX8_isOf 0 = .ok (.iload_n 0, 1) := by decide +kernel
theorem dX8_isOf_1 : decode cX8_isOf 1 = .ok (.iload_n 1, 1) := by decide +kernel
theorem dX8_isOf_2 : decode cX8_isOf 2 = .ok (.ishr, 1) := by decide +kernel
theorem dX8_isOf_3 : decode cX8_isOf 3 = .ok (.iconst 1, 1) := by decide +kernel
theorem dX8_isOf_4 : decode cX8_isOf 4 = .ok (.iand, 1) := by decide +kernel
theorem dX8_isOf_5 : decode cX8_isOf 5 = .ok (.iconst 1, 1) := by decide +kernel
theorem dX8_isOf_6 : decode cX8_isOf 6 = .ok (.if_icmp .ne 7, 3) := by decide +kernel
theorem dX8_isOf_9 : decode cX8_isOf 9 = .ok (.iconst 1, 1) := by decide +kernel
theorem dX8_isOf_10 : decode cX8_isOf 10 = .ok (.goto 4, 3) := by decide +kernel
theorem dX8_isOf_13 : decode cX8_isOf 13 = .ok (.iconst 0, 1) := by decide +kernel
theorem dX8_isOf_14 : decode cX8_isOf 14 = .ok (.ireturn, 1) := by decide +kernel
abbrev mX8_isOf : XM := (cX8_isOf, 2, RX8, (some .boolean), shw_, 0)
noncomputable def rg_X8_isOf_0 : XK :=
 o_iload 0 <|
 o_iload 1 <|
 o_ishr <|
 o_iconst 1 <|
 o_iand <|
 o_iconst 1 <|
 o_icmp_ne (o_iconst 0 <|
 o_zreturn)
 (o_iconst 1 <|
 o_zreturn)
def en_X8_isOf_0 (p0 : Int) (p1 : Int) (a : Unit) : XSt := ([some (.inl p0), some (.inl p1)], [], [])
noncomputable def mg_X8_isOf_0 (p0 : Int) (p1 : Int) (a : Unit) : Option Rt :=
 if xw (xand (xshr p0 p1) 1) = 1 then (RI 1 [])
 else (RI 0 [])
set_option maxRecDepth 100000 in
set_option maxHeartbeats 4000000 in
theorem rq_X8_isOf_0 (p0 : Int) (p1 : Int) (a : Unit) : rg_X8_isOf_0 (en_X8_isOf_0 p0 p1 a) = mg_X8_isOf_0 p0 p1 a := rfl
set_option maxRecDepth 100000 in
set_option maxHeartbeats 4000000 in
theorem sg_X8_isOf_0 {X : XDyn} {r0 : Rt} (C : XO X mX8_isOf) : XS X mX8_isOf r0 0 (rg_X8_isOf_0) := by
 unfold rg_X8_isOf_0
 exact s_iload_n (pc := 0) C dX8_isOf_0 rfl <|
    s_iload_n (pc := 1) C dX8_isOf_1 rfl <|
    s_ishr (pc := 2) C dX8_isOf_2 <|
    s_iconst (pc := 3) C dX8_isOf_3 <|
    s_iand (pc := 4) C dX8_isOf_4 <|
    s_iconst (pc := 5) C dX8_isOf_5 <|
    s_icmp_ne (pc := 6) C dX8_isOf_6 (by decide) (s_iconst (pc := 13) C dX8_isOf_13 <|
    s_zreturn (pc := 14) C rfl dX8_isOf_14)
    (s_iconst (pc := 9) C dX8_isOf_9 <|
    s_goto (pc := 10) C dX8_isOf_10 (by decide) <|
    s_zreturn (pc := 14) C rfl dX8_isOf_14)
noncomputable def rw_X8_isOf_0 : XK := rg_X8_isOf_0
noncomputable def md_X8_isOf_0 (p0 : Int) (p1 : Int) : Unit → Option Rt := mg_X8_isOf_0 p0 p1
theorem eq_X8_isOf_0 (p0 : Int) (p1 : Int) (a : Unit) : rw_X8_isOf_0 (en_X8_isOf_0 p0 p1 a) = md_X8_isOf_0 p0 p1 a :=
 rq_X8_isOf_0 p0 p1 a
theorem sd_X8_isOf_0 {X : XDyn} {r0 : Rt} (C : XO X mX8_isOf) : XS X mX8_isOf r0 0 (rw_X8_isOf_0) := sg_X8_isOf_0 C
theorem ctr_X8_isOf : XCt yX8_isOf mX8_isOf (xF mX8_isOf (rw_X8_isOf_0)) := xMet (by decide +kernel) rfl (fun _ _ C => sd_X8_isOf_0 C)
theorem eqf_X8_isOf (p0 : Int) (p1 : Int) : xF mX8_isOf (rw_X8_isOf_0) [.inl p0, .inl p1] [] = md_X8_isOf_0 p0 p1 () := eq_X8_isOf_0 p0 p1 ()
theorem yi_X8_isOf : yX8_isOf.cls ≠ "java/lang/invoke/MethodHandle" ∧ yX8_isOf.cls ≠ "java/lang/invoke/VarHandle" ∧ (parseMethodDescriptor yX8_isOf.desc).map (fun d => d.parameters.length) = some 2 := ⟨by decide +kernel, by decide +kernel, by decide +kernel⟩
theorem sp_X8_isOf (p0 p1 : Int) : md_X8_isOf_0 p0 p1 () = RI (bz (isO p0 p1)) [] := by
  simp only [md_X8_isOf_0, mg_X8_isOf_0]
  unfold isO
  split <;> simp [*, bz]
noncomputable def f_X8_isOf : List AV → List Ob → Option Rt
  | [.inl p0, .inl p1], [] => some (some (.inl (bz (isO p0 p1))), [])
  | _, _ => none
theorem ct_X8_isOf : XCt yX8_isOf mX8_isOf f_X8_isOf := (ctr_X8_isOf ).of (fun as μ r h => by
  unfold f_X8_isOf at h
  split at h
  · rw [← h]
    exact (eqf_X8_isOf _ _).trans (sp_X8_isOf _ _)
  · cases h)
theorem dX8_bits_0 : decode cX8_bits 0 = .ok (.iconst 0, 1) := by decide +kernel
theorem dX8_bits_1 : decode cX8_bits 1 = .ok (.istore_n 1, 1) := by decide +kernel
theorem dX8_bits_2 : decode cX8_bits 2 = .ok (.iload_n 0, 1) := by decide +kernel
theorem dX8_bits_3 : decode cX8_bits 3 = .ok (.istore_n 2, 1) := by decide +kernel
theorem dX8_bits_4 : decode cX8_bits 4 = .ok (.iload_n 2, 1) := by decide +kernel
theorem dX8_bits_5 : decode cX8_bits 5 = .ok (.ifCond .eq 15, 3) := by decide +kernel
theorem dX8_bits_8 : decode cX8_bits 8 = .ok (.iinc 1 1, 3) := by decide +kernel
theorem dX8_bits_11 : decode cX8_bits 11 = .ok (.iload_n 2, 1) := by decide +kernel
theorem dX8_bits_12 : decode cX8_bits 12 = .ok (.iload_n 2, 1) := by decide +kernel
theorem dX8_bits_13 : decode cX8_bits 13 = .ok (.iconst 1, 1) := by decide +kernel
theorem dX8_bits_14 : decode cX8_bits 14 = .ok (.isub, 1) := by decide +kernel
theorem dX8_bits_15 : decode cX8_bits 15 = .ok (.iand, 1) := by decide +kernel
theorem dX8_bits_16 : decode cX8_bits 16 = .ok (.istore_n 2, 1) := by decide +kernel
theorem dX8_bits_17 : decode cX8_bits 17 = .ok (.goto (-13), 3) := by decide +kernel
theorem dX8_bits_20 : decode cX8_bits 20 = .ok (.iload_n 1, 1) := by decide +kernel
theorem dX8_bits_21 : decode cX8_bits 21 = .ok (.ireturn, 1) := by decide +kernel
abbrev mX8_bits : XM := (cX8_bits, 3, RX8, (some .int), shw_, 0)
noncomputable def rg_X8_bits_0 (k4 : XK) : XK :=
 o_iconst 0 <|
 o_istore 1 <|
 o_iload 0 <|
 o_istore 2 <|
 o_cut [] k4
def en_X8_bits_0 (p0 : Int) (a : Unit) : XSt := ([some (.inl p0), none, none], [], [])
noncomputable def rg_X8_bits_4 (k4 : XK) : XK :=
 o_iload 2 <|
 o_if_eq (o_iload 1 <|
 o_ireturn)
 (o_iinc 1 1 <|
 o_iload 2 <|
 o_iload 2 <|
 o_iconst 1 <|
 o_isub <|
 o_iand <|
 o_istore 2 <|
 o_cut [] k4)
def en_X8_bits_4 (p0 : Int) (a : Int × Int) : XSt := ([some (.inl p0), some (.inl a.1), some (.inl a.2)], [], [])
noncomputable def mg_X8_bits_0 (p0 : Int) (k4 : (Int × Int) → Option Rt) (a : Unit) : Option Rt :=
 k4 (0, p0)
set_option maxRecDepth 100000 in
set_option maxHeartbeats 4000000 in
theorem rq_X8_bits_0 (p0 : Int) (k4 : XK) (a : Unit) : rg_X8_bits_0 k4 (en_X8_bits_0 p0 a) = mg_X8_bits_0 p0 (fun b => k4 (en_X8_bits_4 p0 b)) a := rfl
set_option maxRecDepth 100000 in
set_option maxHeartbeats 4000000 in
theorem sg_X8_bits_0 {X : XDyn} {r0 : Rt} (C : XO X mX8_bits) {k4 : XK} (q4 : XS X mX8_bits r0 4 k4) : XS X mX8_bits r0 0 (rg_X8_bits_0 k4) := by
 unfold rg_X8_bits_0
 exact s_iconst (pc := 0) C dX8_bits_0 <|
    s_istore_n (pc := 1) C dX8_bits_1 rfl <|
    s_iload_n (pc := 2) C dX8_bits_2 rfl <|
    s_istore_n (pc := 3) C dX8_bits_3 rfl <|
    s_cut q4
noncomputable def mg_X8_bits_4 (p0 : Int) (k4 : (Int × Int) → Option Rt) (a : Int × Int) : Option Rt :=
 if xw a.2 = 0 then (RI a.1 [])
 else (k4 ((a.1 + 1), (xand a.2 (a.2 - 1))))
set_option maxRecDepth 100000 in
set_option maxHeartbeats 4000000 in
theorem rq_X8_bits_4 (p0 : Int) (k4 : XK) (a : Int × Int) : rg_X8_bits_4 k4 (en_X8_bits_4 p0 a) = mg_X8_bits_4 p0 (fun b => k4 (en_X8_bits_4 p0 b)) a := rfl
set_option maxRecDepth 100000 in
set_option maxHeartbeats 4000000 in
theorem sg_X8_bits_4 {X : XDyn} {r0 : Rt} (C : XO X mX8_bits) {k4 : XK} (q4 : XS X mX8_bits r0 4 k4) : XS X mX8_bits r0 4 (rg_X8_bits_4 k4) := by
 unfold rg_X8_bits_4
 exact s_iload_n (pc := 4) C dX8_bits_4 rfl <|
    s_if_eq (pc := 5) C dX8_bits_5 (by decide) (s_iload_n (pc := 20) C dX8_bits_20 rfl <|
    s_ireturn (pc := 21) C rfl dX8_bits_21)
    (s_iinc (pc := 8) C dX8_bits_8 <|
    s_iload_n (pc := 11) C dX8_bits_11 rfl <|
    s_iload_n (pc := 12) C dX8_bits_12 rfl <|
    s_iconst (pc := 13) C dX8_bits_13 <|
    s_isub (pc := 14) C dX8_bits_14 <|
    s_iand (pc := 15) C dX8_bits_15 <|
    s_istore_n (pc := 16) C dX8_bits_16 rfl <|
    s_goto (pc := 17) C dX8_bits_17 (by decide) <|
    s_cut q4)
noncomputable def rw_X8_bits_4 (f : Nat) : XK := tlp (fun k4 => rg_X8_bits_4 k4) f
noncomputable def lb_X8_bits_4 (p0 : Int) (f : Nat) : ((Int × Int) → Option Rt) → Int × Int → Option Rt := fun k4 => mg_X8_bits_4 p0 k4
noncomputable def md_X8_bits_4 (p0 : Int) (f : Nat) : Int × Int → Option Rt := tlp (lb_X8_bits_4 p0 f) f
theorem eq_X8_bits_4 (p0 : Int) (f : Nat) (a : Int × Int) : rw_X8_bits_4 f (en_X8_bits_4 p0 a) = md_X8_bits_4 p0 f a :=
 tlp_enc (en_X8_bits_4 p0) (fun k4 a => (rq_X8_bits_4 p0 k4 a).trans (congrFun (congr (rfl : mg_X8_bits_4 p0 = mg_X8_bits_4 p0) rfl) a)) f a
theorem sd_X8_bits_4 (f : Nat) {X : XDyn} {r0 : Rt} (C : XO X mX8_bits) : XS X mX8_bits r0 4 (rw_X8_bits_4 f) := s_lp (fun k4 q4 => sg_X8_bits_4 C q4) f
noncomputable def rw_X8_bits_0 (f : Nat) : XK := rg_X8_bits_0 (rw_X8_bits_4 f)
noncomputable def md_X8_bits_0 (p0 : Int) (f : Nat) : Unit → Option Rt := mg_X8_bits_0 p0 (md_X8_bits_4 p0 f)
theorem eq_X8_bits_0 (p0 : Int) (f : Nat) (a : Unit) : rw_X8_bits_0 f (en_X8_bits_0 p0 a) = md_X8_bits_0 p0 f a :=
 (rq_X8_bits_0 p0 (rw_X8_bits_4 f) a).trans (congrFun (congr (rfl : mg_X8_bits_0 p0 = mg_X8_bits_0 p0) (funext (eq_X8_bits_4 p0 f))) a)
theorem sd_X8_bits_0 (f : Nat) {X : XDyn} {r0 : Rt} (C : XO X mX8_bits) : XS X mX8_bits r0 0 (rw_X8_bits_0 f) := sg_X8_bits_0 C (sd_X8_bits_4 f C)
theorem ctr_X8_bits (f : Nat) : XCt yX8_bits mX8_bits (xF mX8_bits (rw_X8_bits_0 f)) := xMet (by decide +kernel) rfl (fun _ _ C => sd_X8_bits_0 f C)
theorem eqf_X8_bits (f : Nat) (p0 : Int) : xF mX8_bits (rw_X8_bits_0 f) [.inl p0] [] = md_X8_bits_0 p0 f () := eq_X8_bits_0 p0 f ()
theorem yi_X8_bits : yX8_bits.cls ≠ "java/lang/invoke/MethodHandle" ∧ yX8_bits.cls ≠ "java/lang/invoke/VarHandle" ∧ (parseMethodDescriptor yX8_bits.desc).map (fun d => d.parameters.length) = some 1 := ⟨by decide +kernel, by decide +kernel, by decide +kernel⟩
theorem bits_c : ∀ n : Fin 256, (n : Nat) ≠ 0 → 0 ≤ xand ((n : Nat) : Int) (((n : Nat) : Int) - 1) ∧ xand ((n : Nat) : Int) (((n : Nat) : Int) - 1) < ((n : Nat) : Int) ∧ (((List.range 8).filter (fun (i : Nat) => inS ((n : Nat) : Int) (i : Int))).length : Int) = (((List.range 8).filter (fun (i : Nat) => inS (xand ((n : Nat) : Int) (((n : Nat) : Int) - 1)) (i : Int))).length : Int) + 1 := by decide +kernel
theorem bits_s {s : Int} (h1 : 0 < s) (h2 : s < 256) : 0 ≤ xand s (s - 1) ∧ xand s (s - 1) < s ∧ bcn s = bcn (xand s (s - 1)) + 1 := by
  have := bits_c ⟨s.toNat, by omega⟩ (show s.toNat ≠ 0 by omega)
  simp only [show ((s.toNat : Nat) : Int) = s by omega] at this
  rw [bcn_e, bcn_e]
  exact this
theorem bcn_0 : bcn 0 = 0 := by rw [bcn_e]; decide
theorem sp_X8_bits (f : Nat) (hf : 1000 ≤ f) (p0 : Int) (hg : (decide (0 ≤ p0 ∧ p0 < 256)) = true) : md_X8_bits_0 p0 f () = RI (bcn p0) [] := by
  obtain ⟨g1, g2⟩ := of_decide_eq_true hg
  show md_X8_bits_4 p0 f (0, p0) = _
  refine (tlp_inv (B := lb_X8_bits_4 p0 f) (fun a => 0 ≤ a.2 ∧ a.2 < 256) (fun a => a.2.toNat) (fun a => RI (a.1 + bcn a.2) []) ?_ f (0, p0) ⟨g1, g2⟩ (by show p0.toNat < f; omega)).trans (by simp)
  rintro ⟨n, s⟩ ⟨q1, q2⟩
  dsimp only at q1 q2 ⊢
  by_cases hs : s = 0
  · right
    intro k
    subst hs
    simp only [lb_X8_bits_4, mg_X8_bits_4]
    rw [if_pos xw0, bcn_0]
    simp
  · left
    obtain ⟨r1, r2, r3⟩ := bits_s (s := s) (by omega) q2
    refine ⟨(n + 1, xand s (s - 1)), fun k => ?_, ⟨r1, by show xand s (s - 1) < 256; omega⟩, by show (xand s (s - 1)).toNat < s.toNat; omega, ?_⟩
    · show (if xw s = 0 then _ else k (n + 1, xand s (s - 1))) = _
      rw [if_neg (by rw [xw_id (by omega) (by omega)]; exact hs)]
    · show RI (n + bcn s) [] = RI (n + 1 + bcn (xand s (s - 1))) []
      rw [r3, show n + (bcn (xand s (s - 1)) + 1) = n + 1 + bcn (xand s (s - 1)) by omega]
noncomputable def g_X8_bits : List AV → List Ob → Bool
  | [.inl p0], [] => decide (0 ≤ p0 ∧ p0 < 256)
  | _, _ => false
noncomputable def v_X8_bits : List AV → List Ob → Rt
  | [.inl p0], [] => (some (.inl (bcn p0)), [])
  | _, _ => (none, [])
theorem ct_X8_bits : XCt yX8_bits mX8_bits (fun as μ => if g_X8_bits as μ then some (v_X8_bits as μ) else none) := (ctr_X8_bits xfu).of (fun as μ r h => by
  split at h
  · rename_i hg
    unfold g_X8_bits at hg
    split at hg
    · rw [← h]
      exact (eqf_X8_bits xfu _).trans (sp_X8_bits xfu (xfu_ge (by decide)) _ hg)
    · cases hg
  · cases h)
theorem dX8_begins_0 : decode cX8_begins 0 = .ok (.iconst 0, 1) := by decide +kernel
theorem dX8_begins_1 : decode cX8_begins 1 = .ok (.istore_n 3, 1) := by decide +kernel
theorem dX8_begins_2 : decode cX8_begins 2 = .ok (.iload_n 3, 1) := by decide +kernel
theorem dX8_begins_3 : decode cX8_begins 3 = .ok (.sipush 735, 3) := by decide +kernel
theorem dX8_begins_6 : decode cX8_begins 6 = .ok (.if_icmp .ge 16, 3) := by decide +kernel
theorem dX8_begins_9 : decode cX8_begins 9 = .ok (.aload_n 0, 1) := by decide +kernel
theorem dX8_begins_10 : decode cX8_begins 10 = .ok (.getfield 7, 3) := by decide +kernel
theorem dX8_begins_13 : decode cX8_begins 13 = .ok (.iload_n 3, 1) := by decide +kernel
theorem dX8_begins_14 : decode cX8_begins 14 = .ok (.iconst 0, 1) := by decide +kernel
theorem dX8_begins_15 : decode cX8_begins 15 = .ok (.iastore, 1) := by decide +kernel
theorem dX8_begins_16 : decode cX8_begins 16 = .ok (.iinc 3 1, 3) := by decide +kernel
theorem dX8_begins_19 : decode cX8_begins 19 = .ok (.goto (-17), 3) := by decide +kernel
theorem dX8_begins_22 : decode cX8_begins 22 = .ok (.aload_n 0, 1) := by decide +kernel
theorem dX8_begins_23 : decode cX8_begins 23 = .ok (.getfield 7, 3) := by decide +kernel
theorem dX8_begins_26 : decode cX8_begins 26 = .ok (.iconst 0, 1) := by decide +kernel
theorem dX8_begins_27 : decode cX8_begins 27 = .ok (.iload_n 1, 1) := by decide +kernel
theorem dX8_begins_28 : decode cX8_begins 28 = .ok (.iastore, 1) := by decide +kernel
theorem dX8_begins_29 : decode cX8_begins 29 = .ok (.aload_n 0, 1) := by decide +kernel
theorem dX8_begins_30 : decode cX8_begins 30 = .ok (.getfield 7, 3) := by decide +kernel
theorem dX8_begins_33 : decode cX8_begins 33 = .ok (.iconst 1, 1) := by decide +kernel
theorem dX8_begins_34 : decode cX8_begins 34 = .ok (.iload_n 2, 1) := by decide +kernel
theorem dX8_begins_35 : decode cX8_begins 35 = .ok (.iastore, 1) := by decide +kernel
theorem dX8_begins_36 : decode cX8_begins 36 = .ok (.aload_n 0, 1) := by decide +kernel
theorem dX8_begins_37 : decode cX8_begins 37 = .ok (.iconst 0, 1) := by decide +kernel
theorem dX8_begins_38 : decode cX8_begins 38 = .ok (.putfield 63, 3) := by decide +kernel
theorem dX8_begins_41 : decode cX8_begins 41 = .ok (.aload_n 0, 1) := by decide +kernel
theorem dX8_begins_42 : decode cX8_begins 42 = .ok (.iconst 0, 1) := by decide +kernel
theorem dX8_begins_43 : decode cX8_begins 43 = .ok (.putfield 67, 3) := by decide +kernel
theorem dX8_begins_46 : decode cX8_begins 46 = .ok (.return_, 1) := by decide +kernel
abbrev mX8_begins : XM := (cX8_begins, 4, RX8, none, shw_8, 0)
noncomputable def rg_X8_begins_0 (k2 : XK) : XK :=
 o_iconst 0 <|
 o_istore 3 <|
 o_cut [] k2
def en_X8_begins_0 (p1 : Int) (p2 : Int) (a : Ob) : XSt := ([some (.inr (.inl (0, 0))), some (.inl p1), some (.inl p2), none], [], [a])
noncomputable def rg_X8_begins_2 (k2 : XK) : XK :=
 o_iload 3 <|
 o_iconst 735 <|
 o_icmp_ge (o_aload 0 <|
 o_get shw_8 8 0 <|
 o_iconst 0 <|
 o_iload 1 <|
 o_iast shw_8 <|
 o_aload 0 <|
 o_get shw_8 8 0 <|
 o_iconst 1 <|
 o_iload 2 <|
 o_iast shw_8 <|
 o_aload 0 <|
 o_iconst 0 <|
 o_put shw_8 8 3 false <|
 o_aload 0 <|
 o_iconst 0 <|
 o_put shw_8 8 4 true <|
 o_return)
 (o_aload 0 <|
 o_get shw_8 8 0 <|
 o_iload 3 <|
 o_iconst 0 <|
 o_iast shw_8 <|
 o_iinc 3 1 <|
 o_cut [] k2)
def en_X8_begins_2 (p1 : Int) (p2 : Int) (a : Int × Ob) : XSt := ([some (.inr (.inl (0, 0))), some (.inl p1), some (.inl p2), some (.inl a.1)], [], [a.2])
noncomputable def mg_X8_begins_0 (p1 : Int) (p2 : Int) (k2 : (Int × Ob) → Option Rt) (a : Ob) : Option Rt :=
 k2 (0, a)
set_option maxRecDepth 100000 in
set_option maxHeartbeats 4000000 in
theorem rq_X8_begins_0 (p1 : Int) (p2 : Int) (k2 : XK) (a : Ob) : rg_X8_begins_0 k2 (en_X8_begins_0 p1 p2 a) = mg_X8_begins_0 p1 p2 (fun b => k2 (en_X8_begins_2 p1 p2 b)) a := rfl
set_option maxRecDepth 100000 in
set_option maxHeartbeats 4000000 in
theorem sg_X8_begins_0 {X : XDyn} {r0 : Rt} (C : XO X mX8_begins) {k2 : XK} (q2 : XS X mX8_begins r0 2 k2) : XS X mX8_begins r0 0 (rg_X8_begins_0 k2) := by
 unfold rg_X8_begins_0
 exact s_iconst (pc := 0) C dX8_begins_0 <|
    s_istore_n (pc := 1) C dX8_begins_1 rfl <|
    s_cut q2
noncomputable def mg_X8_begins_2 (p1 : Int) (p2 : Int) (k2 : (Int × Ob) → Option Rt) (a : Int × Ob) : Option Rt :=
 if xw a.1 ≥ 735 then (RV [(xset (xset (xset (xset a.2 1 0 p1) 1 1 p2) 0 3 0) 0 4 0)])
 else (if xin a.1 735 then (
 k2 ((a.1 + 1), (xset a.2 1 (xw a.1).toNat 0))) else none)
set_option maxRecDepth 100000 in
set_option maxHeartbeats 4000000 in
theorem rq_X8_begins_2 (p1 : Int) (p2 : Int) (k2 : XK) (a : Int × Ob) : rg_X8_begins_2 k2 (en_X8_begins_2 p1 p2 a) = mg_X8_begins_2 p1 p2 (fun b => k2 (en_X8_begins_2 p1 p2 b)) a := rfl
set_option maxRecDepth 100000 in
set_option maxHeartbeats 4000000 in
theorem sg_X8_begins_2 {X : XDyn} {r0 : Rt} (C : XO X mX8_begins) {k2 : XK} (q2 : XS X mX8_begins r0 2 k2) : XS X mX8_begins r0 2 (rg_X8_begins_2 k2) := by
 unfold rg_X8_begins_2
 exact s_iload_n (pc := 2) C dX8_begins_2 rfl <|
    s_sipush (pc := 3) C dX8_begins_3 (by decide) <|
    s_icmp_ge (pc := 6) C dX8_begins_6 (by decide) (s_aload_n (pc := 22) C dX8_begins_22 rfl <|
    s_get (pc := 23) C (ci := 8) (kf := 0) rfl inX8 (by decide) wd_871 dX8_begins_23 <|
    s_iconst (pc := 26) C dX8_begins_26 <|
    s_iload_n (pc := 27) C dX8_begins_27 rfl <|
    s_iast (pc := 28) C dX8_begins_28 <|
    s_aload_n (pc := 29) C dX8_begins_29 rfl <|
    s_get (pc := 30) C (ci := 8) (kf := 0) rfl inX8 (by decide) wd_871 dX8_begins_30 <|
    s_iconst (pc := 33) C dX8_begins_33 <|
    s_iload_n (pc := 34) C dX8_begins_34 rfl <|
    s_iast (pc := 35) C dX8_begins_35 <|
    s_aload_n (pc := 36) C dX8_begins_36 rfl <|
    s_iconst (pc := 37) C dX8_begins_37 <|
    s_put (pc := 38) (z := false) C (ci := 8) (kf := 3) rfl inX8 tyX8_ok nmX8 (by decide) wd_874 rfl rfl dX8_begins_38 <|
    s_aload_n (pc := 41) C dX8_begins_41 rfl <|
    s_iconst (pc := 42) C dX8_begins_42 <|
    s_put (pc := 43) (z := true) C (ci := 8) (kf := 4) rfl inX8 tyX8_ok nmX8 (by decide) wd_875 rfl rfl dX8_begins_43 <|
    s_return (pc := 46) C rfl dX8_begins_46)
    (s_aload_n (pc := 9) C dX8_begins_9 rfl <|
    s_get (pc := 10) C (ci := 8) (kf := 0) rfl inX8 (by decide) wd_871 dX8_begins_10 <|
    s_iload_n (pc := 13) C dX8_begins_13 rfl <|
    s_iconst (pc := 14) C dX8_begins_14 <|
    s_iast (pc := 15) C dX8_begins_15 <|
    s_iinc (pc := 16) C dX8_begins_16 <|
    s_goto (pc := 19) C dX8_begins_19 (by decide) <|
    s_cut q2)
noncomputable def rw_X8_begins_2 (f : Nat) : XK := tlp (fun k2 => rg_X8_begins_2 k2) f
noncomputable def lb_X8_begins_2 (p1 : Int) (p2 : Int) (f : Nat) : ((Int × Ob) → Option Rt) → Int × Ob → Option Rt := fun k2 => mg_X8_begins_2 p1 p2 k2
noncomputable def md_X8_begins_2 (p1 : Int) (p2 : Int) (f : Nat) : Int × Ob → Option Rt := tlp (lb_X8_begins_2 p1 p2 f) f
theorem eq_X8_begins_2 (p1 : Int) (p2 : Int) (f : Nat) (a : Int × Ob) : rw_X8_begins_2 f (en_X8_begins_2 p1 p2 a) = md_X8_begins_2 p1 p2 f a :=
 tlp_enc (en_X8_begins_2 p1 p2) (fun k2 a => (rq_X8_begins_2 p1 p2 k2 a).trans (congrFun (congr (rfl : mg_X8_begins_2 p1 p2 = mg_X8_begins_2 p1 p2) rfl) a)) f a
theorem sd_X8_begins_2 (f : Nat) {X : XDyn} {r0 : Rt} (C : XO X mX8_begins) : XS X mX8_begins r0 2 (rw_X8_begins_2 f) := s_lp (fun k2 q2 => sg_X8_begins_2 C q2) f
noncomputable def rw_X8_begins_0 (f : Nat) : XK := rg_X8_begins_0 (rw_X8_begins_2 f)
noncomputable def md_X8_begins_0 (p1 : Int) (p2 : Int) (f : Nat) : Ob → Option Rt := mg_X8_begins_0 p1 p2 (md_X8_begins_2 p1 p2 f)
theorem eq_X8_begins_0 (p1 : Int) (p2 : Int) (f : Nat) (a : Ob) : rw_X8_begins_0 f (en_X8_begins_0 p1 p2 a) = md_X8_begins_0 p1 p2 f a :=
 (rq_X8_begins_0 p1 p2 (rw_X8_begins_2 f) a).trans (congrFun (congr (rfl : mg_X8_begins_0 p1 p2 = mg_X8_begins_0 p1 p2) (funext (eq_X8_begins_2 p1 p2 f))) a)
theorem sd_X8_begins_0 (f : Nat) {X : XDyn} {r0 : Rt} (C : XO X mX8_begins) : XS X mX8_begins r0 0 (rw_X8_begins_0 f) := sg_X8_begins_0 C (sd_X8_begins_2 f C)
theorem ctr_X8_begins (f : Nat) : XCt yX8_begins mX8_begins (xF mX8_begins (rw_X8_begins_0 f)) := xMet (by decide +kernel) rfl (fun _ _ C => sd_X8_begins_0 f C)
theorem eqf_X8_begins (f : Nat) (p1 : Int) (p2 : Int) (h0 : Ob) : xF mX8_begins (rw_X8_begins_0 f) [.inr (.inl (0, 0)), .inl p1, .inl p2] [h0] = md_X8_begins_0 p1 p2 f h0 := eq_X8_begins_0 p1 p2 f h0
theorem yi_X8_begins : yX8_begins.cls = RX8 ∧ yX8_begins.cls ≠ "java/lang/invoke/MethodHandle" ∧ yX8_begins.cls ≠ "java/lang/invoke/VarHandle" ∧ (parseMethodDescriptor yX8_begins.desc).map (fun d => d.parameters.length) = some 2 := ⟨rfl, by decide +kernel, by decide +kernel, by decide +kernel⟩
theorem sp_X8_begins (f : Nat) (hf : 1000 ≤ f) (p1 p2 : Int) (h0 : Ob) : md_X8_begins_0 p1 p2 f h0 = RV [(bgM h0 p1 p2)] := by
  have L := loop_fold (B := lb_X8_begins_2 p1 p2 f) 735 (fun (m : Ob) (i : Nat) => xset m 1 i 0) (fun m => RV [xset (xset (xset (xset m 1 0 p1) 1 1 p2) 0 3 0) 0 4 0]) (fun i s => ((i : Int), s)) (fun i m => ∀ j k, m j k = if j = 1 ∧ k < i then 0 else h0 j k) (fun k i s hi hI => by
    refine ⟨?_, ?_⟩
    · simp only [md_X8_begins_0, mg_X8_begins_0, lb_X8_begins_2, mg_X8_begins_2, xw_nat (show i < 2147483648 by omega), xin_nat hi (show 735 ≤ 2147483648 by omega), toNat_nat, if_true]
      rw [if_neg (by omega)]
      rfl
    · intro j q
      unfold xset
      rw [hI j q]
      by_cases h1 : j = 1
      · by_cases h2 : q = i
        · simp [h1, h2]
        · by_cases h3 : q < i
          · simp [h1, h2, h3, show q < i + 1 by omega]
          · simp [h1, h2, h3, show ¬ q < i + 1 by omega]
      · simp [h1]) (fun k s _ => rfl) f h0 (by omega) (fun j k => by simp)
  refine Eq.trans (b := _) L.1 ?_
  have hI := L.2
  generalize (List.range 735).foldl (fun (m : Ob) (i : Nat) => xset m 1 i 0) h0 = m1 at hI
  congr 3
  funext j q
  unfold xset bgM
  rw [hI j q]
  by_cases h1 : j = 1
  · subst h1
    by_cases h3 : q < 735
    · by_cases h4 : q = 0
      · simp [h4]
      · by_cases h5 : q = 1
        · simp [h5]
        · simp [h3, h4, h5]
    · simp [h3, show ¬ q = 0 by omega, show ¬ q = 1 by omega]
  · by_cases h6 : j = 0
    · subst h6
      by_cases h4 : q = 3
      · simp [h4]
      · by_cases h5 : q = 4
        · simp [h5]
        · simp [h4, h5]
    · simp [h1, h6]
noncomputable def f_X8_begins : List AV → List Ob → Option Rt
  | [.inr (.inl (0, 0)), .inl p1, .inl p2], [h0] => some (none, [(bgM h0 p1 p2)])
  | _, _ => none
theorem ct_X8_begins : XCt yX8_begins mX8_begins f_X8_begins := (ctr_X8_begins xfu).of (fun as μ r h => by
  unfold f_X8_begins at h
  split at h
  · rw [← h]
    exact (eqf_X8_begins xfu _ _ _).trans (sp_X8_begins xfu (xfu_ge (by decide)) _ _ _)
  · cases h)
theorem dX8_isHandle_0 : decode cX8_isHandle 0 = .ok (.iload_n 0, 1) := by decide +kernel
theorem dX8_isHandle_1 : decode cX8_isHandle 1 = .ok (.ifCond .lt 13, 3) := by decide +kernel
theorem dX8_isHandle_4 : decode cX8_isHandle 4 = .ok (.iload_n 0, 1) := by decide +kernel
theorem dX8_isHandle_5 : decode cX8_isHandle 5 = .ok (.bipush 8, 2) := by decide +kernel
theorem dX8_isHandle_7 : decode cX8_isHandle 7 = .ok (.if_icmp .ge 7, 3) := by decide +kernel
theorem dX8_isHandle_10 : decode cX8_isHandle 10 = .ok (.iconst 1, 1) := by decide +kernel
theorem dX8_isHandle_11 : decode cX8_isHandle 11 = .ok (.goto 4, 3) := by decide +kernel
theorem dX8_isHandle_14 : decode cX8_isHandle 14 = .ok (.iconst 0, 1) := by decide +kernel
theorem dX8_isHandle_15 : decode cX8_isHandle 15 = .ok (.ireturn, 1) := by decide +kernel
abbrev mX8_isHandle : XM := (cX8_isHandle, 1, RX8, (some .boolean), shw_, 0)
noncomputable def rg_X8_isHandle_0 : XK :=
 o_iload 0 <|
 o_if_lt (o_iconst 0 <|
 o_zreturn)
 (o_iload 0 <|
 o_iconst 8 <|
 o_icmp_ge (o_iconst 0 <|
 o_zreturn)
 (o_iconst 1 <|
 o_zreturn))
def en_X8_isHandle_0 (p0 : Int) (a : Unit) : XSt := ([some (.inl p0)], [], [])
noncomputable def mg_X8_isHandle_0 (p0 : Int) (a : Unit) : Option Rt :=
 if xw p0 < 0 then (RI 0 [])
 else (if xw p0 ≥ 8 then (RI 0 [])
 else (RI 1 []))
set_option maxRecDepth 100000 in
set_option maxHeartbeats 4000000 in
theorem rq_X8_isHandle_0 (p0 : Int) (a : Unit) : rg_X8_isHandle_0 (en_X8_isHandle_0 p0 a) = mg_X8_isHandle_0 p0 a := rfl
set_option maxRecDepth 100000 in
set_option maxHeartbeats 4000000 in
theorem sg_X8_isHandle_0 {X : XDyn} {r0 : Rt} (C : XO X mX8_isHandle) : XS X mX8_isHandle r0 0 (rg_X8_isHandle_0) := by
 unfold rg_X8_isHandle_0
 exact s_iload_n (pc := 0) C dX8_isHandle_0 rfl <|
    s_if_lt (pc := 1) C dX8_isHandle_1 (by decide) (s_iconst (pc := 14) C dX8_isHandle_14 <|
    s_zreturn (pc := 15) C rfl dX8_isHandle_15)
    (s_iload_n (pc := 4) C dX8_isHandle_4 rfl <|
    s_bipush (pc := 5) C dX8_isHandle_5 (by decide) <|
    s_icmp_ge (pc := 7) C dX8_isHandle_7 (by decide) (s_iconst (pc := 14) C dX8_isHandle_14 <|
    s_zreturn (pc := 15) C rfl dX8_isHandle_15)
    (s_iconst (pc := 10) C dX8_isHandle_10 <|
    s_goto (pc := 11) C dX8_isHandle_11 (by decide) <|
    s_zreturn (pc := 15) C rfl dX8_isHandle_15))
noncomputable def rw_X8_isHandle_0 : XK := rg_X8_isHandle_0
noncomputable def md_X8_isHandle_0 (p0 : Int) : Unit → Option Rt := mg_X8_isHandle_0 p0
theorem eq_X8_isHandle_0 (p0 : Int) (a : Unit) : rw_X8_isHandle_0 (en_X8_isHandle_0 p0 a) = md_X8_isHandle_0 p0 a :=
 rq_X8_isHandle_0 p0 a
theorem sd_X8_isHandle_0 {X : XDyn} {r0 : Rt} (C : XO X mX8_isHandle) : XS X mX8_isHandle r0 0 (rw_X8_isHandle_0) := sg_X8_isHandle_0 C
theorem ctr_X8_isHandle : XCt yX8_isHandle mX8_isHandle (xF mX8_isHandle (rw_X8_isHandle_0)) := xMet (by decide +kernel) rfl (fun _ _ C => sd_X8_isHandle_0 C)
theorem eqf_X8_isHandle (p0 : Int) : xF mX8_isHandle (rw_X8_isHandle_0) [.inl p0] [] = md_X8_isHandle_0 p0 () := eq_X8_isHandle_0 p0 ()
theorem yi_X8_isHandle : yX8_isHandle.cls ≠ "java/lang/invoke/MethodHandle" ∧ yX8_isHandle.cls ≠ "java/lang/invoke/VarHandle" ∧ (parseMethodDescriptor yX8_isHandle.desc).map (fun d => d.parameters.length) = some 1 := ⟨by decide +kernel, by decide +kernel, by decide +kernel⟩
theorem sp_X8_isHandle (p0 : Int) : md_X8_isHandle_0 p0 () = RI (bz (hdl p0)) [] := by
  simp only [md_X8_isHandle_0, mg_X8_isHandle_0]
  unfold hdl
  by_cases c1 : xw p0 < 0
  · rw [if_pos c1]
    simp [bz, show ¬ 0 ≤ xw p0 by omega]
  · rw [if_neg c1]
    by_cases c2 : xw p0 ≥ 8
    · rw [if_pos c2]
      simp [bz, show ¬ xw p0 < 8 by omega]
    · rw [if_neg c2]
      simp [bz, show 0 ≤ xw p0 by omega, show xw p0 < 8 by omega]
noncomputable def f_X8_isHandle : List AV → List Ob → Option Rt
  | [.inl p0], [] => some (some (.inl (bz (hdl p0))), [])
  | _, _ => none
theorem ct_X8_isHandle : XCt yX8_isHandle mX8_isHandle f_X8_isHandle := (ctr_X8_isHandle ).of (fun as μ r h => by
  unfold f_X8_isHandle at h
  split at h
  · rw [← h]
    exact (eqf_X8_isHandle _).trans (sp_X8_isHandle _)
  · cases h)
theorem dX8_isFull_0 : decode cX8_isFull 0 = .ok (.iload_n 1, 1) := by decide +kernel
theorem dX8_isFull_1 : decode cX8_isFull 1 = .ok (.invokestatic 79, 3) := by decide +kernel
theorem dX8_isFull_4 : decode cX8_isFull 4 = .ok (.ifCond .eq 19, 3) := by decide +kernel
theorem dX8_isFull_7 : decode cX8_isFull 7 = .ok (.aload_n 0, 1) := by decide +kernel
theorem dX8_isFull_8 : decode cX8_isFull 8 = .ok (.getfield 7, 3) := by decide +kernel
theorem dX8_isFull_11 : decode cX8_isFull 11 = .ok (.iconst 5, 1) := by decide +kernel
theorem dX8_isFull_12 : decode cX8_isFull 12 = .ok (.iload_n 1, 1) := by decide +kernel
theorem dX8_isFull_13 : decode cX8_isFull 13 = .ok (.iadd, 1) := by decide +kernel
theorem dX8_isFull_14 : decode cX8_isFull 14 = .ok (.iaload, 1) := by decide +kernel
theorem dX8_isFull_15 : decode cX8_isFull 15 = .ok (.iconst 1, 1) := by decide +kernel
theorem dX8_isFull_16 : decode cX8_isFull 16 = .ok (.if_icmp .ne 7, 3) := by decide +kernel
theorem dX8_isFull_19 : decode cX8_isFull 19 = .ok (.iconst 1, 1) := by decide +kernel
theorem dX8_isFull_20 : decode cX8_isFull 20 = .ok (.goto 4, 3) := by decide +kernel
theorem dX8_isFull_23 : decode cX8_isFull 23 = .ok (.iconst 0, 1) := by decide +kernel
theorem dX8_isFull_24 : decode cX8_isFull 24 = .ok (.ireturn, 1) := by decide +kernel
abbrev mX8_isFull : XM := (cX8_isFull, 2, RX8, (some .boolean), shw_8, 1)
noncomputable def rg_X8_isFull_0 : XK :=
 o_iload 1 <|
 o_callS 1 1 [] f_X8_isHandle <|
 o_if_eq (o_iconst 0 <|
 o_zreturn)
 (o_aload 0 <|
 o_get shw_8 8 0 <|
 o_iconst 5 <|
 o_iload 1 <|
 o_iadd <|
 o_iald shw_8 <|
 o_iconst 1 <|
 o_icmp_ne (o_iconst 0 <|
 o_zreturn)
 (o_iconst 1 <|
 o_zreturn))
def en_X8_isFull_0 (p1 : Int) (h0 : Ob) (a : Unit) : XSt := ([some (.inr (.inl (0, 0))), some (.inl p1)], [], [h0])
noncomputable def mg_X8_isFull_0 (p1 : Int) (h0 : Ob) (a : Unit) : Option Rt :=
 if xw (bz (hdl p1)) = 0 then (RI 0 [h0])
 else (if xin (5 + p1) 735 then (
 if xw (h0 1 (xw (5 + p1)).toNat) = 1 then (RI 1 [h0])
 else (RI 0 [h0])) else none)
set_option maxRecDepth 100000 in
set_option maxHeartbeats 4000000 in
theorem rq_X8_isFull_0 (p1 : Int) (h0 : Ob) (a : Unit) : rg_X8_isFull_0 (en_X8_isFull_0 p1 h0 a) = mg_X8_isFull_0 p1 h0 a := rfl
set_option maxRecDepth 100000 in
set_option maxHeartbeats 4000000 in
theorem sg_X8_isFull_0 {X : XDyn} {r0 : Rt} (C : XO X mX8_isFull) : XS X mX8_isFull r0 0 (rg_X8_isFull_0) := by
 unfold rg_X8_isFull_0
 exact s_iload_n (pc := 0) C dX8_isFull_0 rfl <|
    s_callS (pc := 1) C ct_X8_isHandle (n := 1) (rk := 1) (mp := []) ⟨rfl, by decide, rfl⟩ (by decide) (by decide) ⟨rfl, yi_X8_isHandle⟩ wd_991 wd_992 wd_81 wd_993 dX8_isFull_1 <|
    s_if_eq (pc := 4) C dX8_isFull_4 (by decide) (s_iconst (pc := 23) C dX8_isFull_23 <|
    s_zreturn (pc := 24) C rfl dX8_isFull_24)
    (s_aload_n (pc := 7) C dX8_isFull_7 rfl <|
    s_get (pc := 8) C (ci := 8) (kf := 0) rfl inX8 (by decide) wd_871 dX8_isFull_8 <|
    s_iconst (pc := 11) C dX8_isFull_11 <|
    s_iload_n (pc := 12) C dX8_isFull_12 rfl <|
    s_iadd (pc := 13) C dX8_isFull_13 <|
    s_iald (pc := 14) C dX8_isFull_14 <|
    s_iconst (pc := 15) C dX8_isFull_15 <|
    s_icmp_ne (pc := 16) C dX8_isFull_16 (by decide) (s_iconst (pc := 23) C dX8_isFull_23 <|
    s_zreturn (pc := 24) C rfl dX8_isFull_24)
    (s_iconst (pc := 19) C dX8_isFull_19 <|
    s_goto (pc := 20) C dX8_isFull_20 (by decide) <|
    s_zreturn (pc := 24) C rfl dX8_isFull_24))
noncomputable def rw_X8_isFull_0 : XK := rg_X8_isFull_0
noncomputable def md_X8_isFull_0 (p1 : Int) (h0 : Ob) : Unit → Option Rt := mg_X8_isFull_0 p1 h0
theorem eq_X8_isFull_0 (p1 : Int) (h0 : Ob) (a : Unit) : rw_X8_isFull_0 (en_X8_isFull_0 p1 h0 a) = md_X8_isFull_0 p1 h0 a :=
 rq_X8_isFull_0 p1 h0 a
theorem sd_X8_isFull_0 {X : XDyn} {r0 : Rt} (C : XO X mX8_isFull) : XS X mX8_isFull r0 0 (rw_X8_isFull_0) := sg_X8_isFull_0 C
theorem ctr_X8_isFull : XCt yX8_isFull mX8_isFull (xF mX8_isFull (rw_X8_isFull_0)) := xMet (by decide +kernel) rfl (fun _ _ C => sd_X8_isFull_0 C)
theorem eqf_X8_isFull (p1 : Int) (h0 : Ob) : xF mX8_isFull (rw_X8_isFull_0) [.inr (.inl (0, 0)), .inl p1] [h0] = md_X8_isFull_0 p1 h0 () := eq_X8_isFull_0 p1 h0 ()
theorem yi_X8_isFull : yX8_isFull.cls = RX8 ∧ yX8_isFull.cls ≠ "java/lang/invoke/MethodHandle" ∧ yX8_isFull.cls ≠ "java/lang/invoke/VarHandle" ∧ (parseMethodDescriptor yX8_isFull.desc).map (fun d => d.parameters.length) = some 1 := ⟨rfl, by decide +kernel, by decide +kernel, by decide +kernel⟩
theorem sp_X8_isFull (p1 : Int) (h0 : Ob) : md_X8_isFull_0 p1 h0 () = RI (bz (fulM h0 p1)) [h0] := by
  simp only [md_X8_isFull_0, mg_X8_isFull_0, bz_0]
  unfold fulM
  cases hh : hdl p1
  · rfl
  · obtain ⟨e1, e2⟩ := ixm (c := 5) 5 rfl (by decide) hh
    rw [if_neg (by simp), if_pos e1, e2]
    split <;> simp [*, bz]
noncomputable def f_X8_isFull : List AV → List Ob → Option Rt
  | [.inr (.inl (0, 0)), .inl p1], [h0] => some (some (.inl (bz (fulM h0 p1))), [h0])
  | _, _ => none
theorem ct_X8_isFull : XCt yX8_isFull mX8_isFull f_X8_isFull := (ctr_X8_isFull ).of (fun as μ r h => by
  unfold f_X8_isFull at h
  split at h
  · rw [← h]
    exact (eqf_X8_isFull _ _).trans (sp_X8_isFull _ _)
  · cases h)
theorem dX8_isThere_0 : decode cX8_isThere 0 = .ok (.iload_n 1, 1) := by decide +kernel
theorem dX8_isThere_1 : decode cX8_isThere 1 = .ok (.invokestatic 79, 3) := by decide +kernel
theorem dX8_isThere_4 : decode cX8_isThere 4 = .ok (.ifCond .eq 18, 3) := by decide +kernel
theorem dX8_isThere_7 : decode cX8_isThere 7 = .ok (.aload_n 0, 1) := by decide +kernel
theorem dX8_isThere_8 : decode cX8_isThere 8 = .ok (.getfield 7, 3) := by decide +kernel
theorem dX8_isThere_11 : decode cX8_isThere 11 = .ok (.iconst 5, 1) := by decide +kernel
theorem dX8_isThere_12 : decode cX8_isThere 12 = .ok (.iload_n 1, 1) := by decide +kernel
theorem dX8_isThere_13 : decode cX8_isThere 13 = .ok (.iadd, 1) := by decide +kernel
theorem dX8_isThere_14 : decode cX8_isThere 14 = .ok (.iaload, 1) := by decide +kernel
theorem dX8_isThere_15 : decode cX8_isThere 15 = .ok (.ifCond .eq 7, 3) := by decide +kernel
theorem dX8_isThere_18 : decode cX8_isThere 18 = .ok (.iconst 1, 1) := by decide +kernel
theorem dX8_isThere_19 : decode cX8_isThere 19 = .ok (.goto 4, 3) := by decide +kernel
theorem dX8_isThere_22 : decode cX8_isThere 22 = .ok (.iconst 0, 1) := by decide +kernel
theorem dX8_isThere_23 : decode cX8_isThere 23 = .ok (.ireturn, 1) := by decide +kernel
abbrev mX8_isThere : XM := (cX8_isThere, 2, RX8, (some .boolean), shw_8, 1)
noncomputable def rg_X8_isThere_0 : XK :=
 o_iload 1 <|
 o_callS 1 1 [] f_X8_isHandle <|
 o_if_eq (o_iconst 0 <|
 o_zreturn)
 (o_aload 0 <|
 o_get shw_8 8 0 <|
 o_iconst 5 <|
 o_iload 1 <|
 o_iadd <|
 o_iald shw_8 <|
 o_if_eq (o_iconst 0 <|
 o_zreturn)
 (o_iconst 1 <|
 o_zreturn))
def en_X8_isThere_0 (p1 : Int) (h0 : Ob) (a : Unit) : XSt := ([some (.inr (.inl (0, 0))), some (.inl p1)], [], [h0])
noncomputable def mg_X8_isThere_0 (p1 : Int) (h0 : Ob) (a : Unit) : Option Rt :=
 if xw (bz (hdl p1)) = 0 then (RI 0 [h0])
 else (if xin (5 + p1) 735 then (
 if xw (h0 1 (xw (5 + p1)).toNat) = 0 then (RI 0 [h0])
 else (RI 1 [h0])) else none)
set_option maxRecDepth 100000 in
set_option maxHeartbeats 4000000 in
theorem rq_X8_isThere_0 (p1 : Int) (h0 : Ob) (a : Unit) : rg_X8_isThere_0 (en_X8_isThere_0 p1 h0 a) = mg_X8_isThere_0 p1 h0 a := rfl
set_option maxRecDepth 100000 in
set_option maxHeartbeats 4000000 in
theorem sg_X8_isThere_0 {X : XDyn} {r0 : Rt} (C : XO X mX8_isThere) : XS X mX8_isThere r0 0 (rg_X8_isThere_0) := by
 unfold rg_X8_isThere_0
 exact s_iload_n (pc := 0) C dX8_isThere_0 rfl <|
    s_callS (pc := 1) C ct_X8_isHandle (n := 1) (rk := 1) (mp := []) ⟨rfl, by decide, rfl⟩ (by decide) (by decide) ⟨rfl, yi_X8_isHandle⟩ wd_991 wd_992 wd_81 wd_993 dX8_isThere_1 <|
    s_if_eq (pc := 4) C dX8_isThere_4 (by decide) (s_iconst (pc := 22) C dX8_isThere_22 <|
    s_zreturn (pc := 23) C rfl dX8_isThere_23)
    (s_aload_n (pc := 7) C dX8_isThere_7 rfl <|
    s_get (pc := 8) C (ci := 8) (kf := 0) rfl inX8 (by decide) wd_871 dX8_isThere_8 <|
    s_iconst (pc := 11) C dX8_isThere_11 <|
    s_iload_n (pc := 12) C dX8_isThere_12 rfl <|
    s_iadd (pc := 13) C dX8_isThere_13 <|
    s_iald (pc := 14) C dX8_isThere_14 <|
    s_if_eq (pc := 15) C dX8_isThere_15 (by decide) (s_iconst (pc := 22) C dX8_isThere_22 <|
    s_zreturn (pc := 23) C rfl dX8_isThere_23)
    (s_iconst (pc := 18) C dX8_isThere_18 <|
    s_goto (pc := 19) C dX8_isThere_19 (by decide) <|
    s_zreturn (pc := 23) C rfl dX8_isThere_23))
noncomputable def rw_X8_isThere_0 : XK := rg_X8_isThere_0
noncomputable def md_X8_isThere_0 (p1 : Int) (h0 : Ob) : Unit → Option Rt := mg_X8_isThere_0 p1 h0
theorem eq_X8_isThere_0 (p1 : Int) (h0 : Ob) (a : Unit) : rw_X8_isThere_0 (en_X8_isThere_0 p1 h0 a) = md_X8_isThere_0 p1 h0 a :=
 rq_X8_isThere_0 p1 h0 a
theorem sd_X8_isThere_0 {X : XDyn} {r0 : Rt} (C : XO X mX8_isThere) : XS X mX8_isThere r0 0 (rw_X8_isThere_0) := sg_X8_isThere_0 C
theorem ctr_X8_isThere : XCt yX8_isThere mX8_isThere (xF mX8_isThere (rw_X8_isThere_0)) := xMet (by decide +kernel) rfl (fun _ _ C => sd_X8_isThere_0 C)
theorem eqf_X8_isThere (p1 : Int) (h0 : Ob) : xF mX8_isThere (rw_X8_isThere_0) [.inr (.inl (0, 0)), .inl p1] [h0] = md_X8_isThere_0 p1 h0 () := eq_X8_isThere_0 p1 h0 ()
theorem yi_X8_isThere : yX8_isThere.cls = RX8 ∧ yX8_isThere.cls ≠ "java/lang/invoke/MethodHandle" ∧ yX8_isThere.cls ≠ "java/lang/invoke/VarHandle" ∧ (parseMethodDescriptor yX8_isThere.desc).map (fun d => d.parameters.length) = some 1 := ⟨rfl, by decide +kernel, by decide +kernel, by decide +kernel⟩
theorem sp_X8_isThere (p1 : Int) (h0 : Ob) : md_X8_isThere_0 p1 h0 () = RI (bz (thrM h0 p1)) [h0] := by
  simp only [md_X8_isThere_0, mg_X8_isThere_0, bz_0]
  unfold thrM
  cases hh : hdl p1
  · rfl
  · obtain ⟨e1, e2⟩ := ixm (c := 5) 5 rfl (by decide) hh
    rw [if_neg (by simp), if_pos e1, e2]
    split <;> simp [*, bz]
noncomputable def f_X8_isThere : List AV → List Ob → Option Rt
  | [.inr (.inl (0, 0)), .inl p1], [h0] => some (some (.inl (bz (thrM h0 p1))), [h0])
  | _, _ => none
theorem ct_X8_isThere : XCt yX8_isThere mX8_isThere f_X8_isThere := (ctr_X8_isThere ).of (fun as μ r h => by
  unfold f_X8_isThere at h
  split at h
  · rw [← h]
    exact (eqf_X8_isThere _ _).trans (sp_X8_isThere _ _)
  · cases h)
theorem dX8_isIsland_0 : decode cX8_isIsland 0 = .ok (.iload_n 1, 1) := by decide +kernel
theorem dX8_isIsland_1 : decode cX8_isIsland 1 = .ok (.ifCond .lt 24, 3) := by decide +kernel
theorem dX8_isIsland_4 : decode cX8_isIsland 4 = .ok (.iload_n 1, 1) := by decide +kernel
theorem dX8_isIsland_5 : decode cX8_isIsland 5 = .ok (.iconst 3, 1) := by decide +kernel
theorem dX8_isIsland_6 : decode cX8_isIsland 6 = .ok (.if_icmp .ge 19, 3) := by decide +kernel
theorem dX8_isIsland_9 : decode cX8_isIsland 9 = .ok (.aload_n 0, 1) := by decide +kernel
theorem dX8_isIsland_10 : decode cX8_isIsland 10 = .ok (.getfield 7, 3) := by decide +kernel
theorem dX8_isIsland_13 : decode cX8_isIsland 13 = .ok (.bipush 69, 2) := by decide +kernel
theorem dX8_isIsland_15 : decode cX8_isIsland 15 = .ok (.iload_n 1, 1) := by decide +kernel
theorem dX8_isIsland_16 : decode cX8_isIsland 16 = .ok (.iadd, 1) := by decide +kernel
theorem dX8_isIsland_17 : decode cX8_isIsland 17 = .ok (.iaload, 1) := by decide +kernel
theorem dX8_isIsland_18 : decode cX8_isIsland 18 = .ok (.ifCond .le 7, 3) := by decide +kernel
theorem dX8_isIsland_21 : decode cX8_isIsland 21 = .ok (.iconst 1, 1) := by decide +kernel
theorem dX8_isIsland_22 : decode cX8_isIsland 22 = .ok (.goto 4, 3) := by decide +kernel
theorem dX8_isIsland_25 : decode cX8_isIsland 25 = .ok (.iconst 0, 1) := by decide +kernel
theorem dX8_isIsland_26 : decode cX8_isIsland 26 = .ok (.ireturn, 1) := by decide +kernel
abbrev mX8_isIsland : XM := (cX8_isIsland, 2, RX8, (some .boolean), shw_8, 0)
noncomputable def rg_X8_isIsland_0 : XK :=
 o_iload 1 <|
 o_if_lt (o_iconst 0 <|
 o_zreturn)
 (o_iload 1 <|
 o_iconst 3 <|
 o_icmp_ge (o_iconst 0 <|
 o_zreturn)
 (o_aload 0 <|
 o_get shw_8 8 0 <|
 o_iconst 69 <|
 o_iload 1 <|
 o_iadd <|
 o_iald shw_8 <|
 o_if_le (o_iconst 0 <|
 o_zreturn)
 (o_iconst 1 <|
 o_zreturn)))
def en_X8_isIsland_0 (p1 : Int) (h0 : Ob) (a : Unit) : XSt := ([some (.inr (.inl (0, 0))), some (.inl p1)], [], [h0])
noncomputable def mg_X8_isIsland_0 (p1 : Int) (h0 : Ob) (a : Unit) : Option Rt :=
 if xw p1 < 0 then (RI 0 [h0])
 else (if xw p1 ≥ 3 then (RI 0 [h0])
 else (if xin (69 + p1) 735 then (
 if xw (h0 1 (xw (69 + p1)).toNat) ≤ 0 then (RI 0 [h0])
 else (RI 1 [h0])) else none))
set_option maxRecDepth 100000 in
set_option maxHeartbeats 4000000 in
theorem rq_X8_isIsland_0 (p1 : Int) (h0 : Ob) (a : Unit) : rg_X8_isIsland_0 (en_X8_isIsland_0 p1 h0 a) = mg_X8_isIsland_0 p1 h0 a := rfl
set_option maxRecDepth 100000 in
set_option maxHeartbeats 4000000 in
theorem sg_X8_isIsland_0 {X : XDyn} {r0 : Rt} (C : XO X mX8_isIsland) : XS X mX8_isIsland r0 0 (rg_X8_isIsland_0) := by
 unfold rg_X8_isIsland_0
 exact s_iload_n (pc := 0) C dX8_isIsland_0 rfl <|
    s_if_lt (pc := 1) C dX8_isIsland_1 (by decide) (s_iconst (pc := 25) C dX8_isIsland_25 <|
    s_zreturn (pc := 26) C rfl dX8_isIsland_26)
    (s_iload_n (pc := 4) C dX8_isIsland_4 rfl <|
    s_iconst (pc := 5) C dX8_isIsland_5 <|
    s_icmp_ge (pc := 6) C dX8_isIsland_6 (by decide) (s_iconst (pc := 25) C dX8_isIsland_25 <|
    s_zreturn (pc := 26) C rfl dX8_isIsland_26)
    (s_aload_n (pc := 9) C dX8_isIsland_9 rfl <|
    s_get (pc := 10) C (ci := 8) (kf := 0) rfl inX8 (by decide) wd_871 dX8_isIsland_10 <|
    s_bipush (pc := 13) C dX8_isIsland_13 (by decide) <|
    s_iload_n (pc := 15) C dX8_isIsland_15 rfl <|
    s_iadd (pc := 16) C dX8_isIsland_16 <|
    s_iald (pc := 17) C dX8_isIsland_17 <|
    s_if_le (pc := 18) C dX8_isIsland_18 (by decide) (s_iconst (pc := 25) C dX8_isIsland_25 <|
    s_zreturn (pc := 26) C rfl dX8_isIsland_26)
    (s_iconst (pc := 21) C dX8_isIsland_21 <|
    s_goto (pc := 22) C dX8_isIsland_22 (by decide) <|
    s_zreturn (pc := 26) C rfl dX8_isIsland_26)))
noncomputable def rw_X8_isIsland_0 : XK := rg_X8_isIsland_0
noncomputable def md_X8_isIsland_0 (p1 : Int) (h0 : Ob) : Unit → Option Rt := mg_X8_isIsland_0 p1 h0
theorem eq_X8_isIsland_0 (p1 : Int) (h0 : Ob) (a : Unit) : rw_X8_isIsland_0 (en_X8_isIsland_0 p1 h0 a) = md_X8_isIsland_0 p1 h0 a :=
 rq_X8_isIsland_0 p1 h0 a
theorem sd_X8_isIsland_0 {X : XDyn} {r0 : Rt} (C : XO X mX8_isIsland) : XS X mX8_isIsland r0 0 (rw_X8_isIsland_0) := sg_X8_isIsland_0 C
theorem ctr_X8_isIsland : XCt yX8_isIsland mX8_isIsland (xF mX8_isIsland (rw_X8_isIsland_0)) := xMet (by decide +kernel) rfl (fun _ _ C => sd_X8_isIsland_0 C)
theorem eqf_X8_isIsland (p1 : Int) (h0 : Ob) : xF mX8_isIsland (rw_X8_isIsland_0) [.inr (.inl (0, 0)), .inl p1] [h0] = md_X8_isIsland_0 p1 h0 () := eq_X8_isIsland_0 p1 h0 ()
theorem yi_X8_isIsland : yX8_isIsland.cls = RX8 ∧ yX8_isIsland.cls ≠ "java/lang/invoke/MethodHandle" ∧ yX8_isIsland.cls ≠ "java/lang/invoke/VarHandle" ∧ (parseMethodDescriptor yX8_isIsland.desc).map (fun d => d.parameters.length) = some 1 := ⟨rfl, by decide +kernel, by decide +kernel, by decide +kernel⟩
theorem sp_X8_isIsland (p1 : Int) (h0 : Ob) : md_X8_isIsland_0 p1 h0 () = RI (bz (islM h0 p1)) [h0] := by
  simp only [md_X8_isIsland_0, mg_X8_isIsland_0]
  unfold islM
  by_cases c1 : xw p1 < 0
  · rw [if_pos c1]
    simp [bz, show ¬ 0 ≤ xw p1 by omega]
  · rw [if_neg c1]
    by_cases c2 : xw p1 ≥ 3
    · rw [if_pos c2]
      simp [bz, show ¬ xw p1 < 3 by omega]
    · rw [if_neg c2]
      obtain ⟨e1, e2⟩ := ixm (a := p1) (c := 69) 69 rfl (by decide) (hdl_iff.mpr ⟨by omega, by omega⟩)
      rw [if_pos e1, e2]
      have c3 : 0 ≤ xw p1 := by omega
      have c4 : xw p1 < 3 := by omega
      split
      · rename_i c5
        simp [bz, c3, c4, show ¬ 0 < xw (h0 1 (69 + (xw p1).toNat)) by omega]
      · rename_i c5
        simp [bz, c3, c4, show 0 < xw (h0 1 (69 + (xw p1).toNat)) by omega]
noncomputable def f_X8_isIsland : List AV → List Ob → Option Rt
  | [.inr (.inl (0, 0)), .inl p1], [h0] => some (some (.inl (bz (islM h0 p1))), [h0])
  | _, _ => none
theorem ct_X8_isIsland : XCt yX8_isIsland mX8_isIsland f_X8_isIsland := (ctr_X8_isIsland ).of (fun as μ r h => by
  unfold f_X8_isIsland at h
  split at h
  · rw [← h]
    exact (eqf_X8_isIsland _ _).trans (sp_X8_isIsland _ _)
  · cases h)
theorem dX8_isLoose_0 : decode cX8_isLoose 0 = .ok (.aload_n 0, 1) := by decide +kernel
theorem dX8_isLoose_1 : decode cX8_isLoose 1 = .ok (.iload_n 1, 1) := by decide +kernel
theorem dX8_isLoose_2 : decode cX8_isLoose 2 = .ok (.invokevirtual 83, 3) := by decide +kernel
theorem dX8_isLoose_5 : decode cX8_isLoose 5 = .ok (.ifCond .eq 19, 3) := by decide +kernel
theorem dX8_isLoose_8 : decode cX8_isLoose 8 = .ok (.aload_n 0, 1) := by decide +kernel
theorem dX8_isLoose_9 : decode cX8_isLoose 9 = .ok (.getfield 7, 3) := by decide +kernel
theorem dX8_isLoose_12 : decode cX8_isLoose 12 = .ok (.bipush 29, 2) := by decide +kernel
theorem dX8_isLoose_14 : decode cX8_isLoose 14 = .ok (.iload_n 1, 1) := by decide +kernel
theorem dX8_isLoose_15 : decode cX8_isLoose 15 = .ok (.iadd, 1) := by decide +kernel
theorem dX8_isLoose_16 : decode cX8_isLoose 16 = .ok (.iaload, 1) := by decide +kernel
theorem dX8_isLoose_17 : decode cX8_isLoose 17 = .ok (.ifCond .ne 7, 3) := by decide +kernel
theorem dX8_isLoose_20 : decode cX8_isLoose 20 = .ok (.iconst 1, 1) := by decide +kernel
theorem dX8_isLoose_21 : decode cX8_isLoose 21 = .ok (.goto 4, 3) := by decide +kernel
theorem dX8_isLoose_24 : decode cX8_isLoose 24 = .ok (.iconst 0, 1) := by decide +kernel
theorem dX8_isLoose_25 : decode cX8_isLoose 25 = .ok (.ireturn, 1) := by decide +kernel
abbrev mX8_isLoose : XM := (cX8_isLoose, 2, RX8, (some .boolean), shw_8, 2)
noncomputable def rg_X8_isLoose_0 : XK :=
 o_aload 0 <|
 o_iload 1 <|
 o_callV 2 1 [0] f_X8_isFull <|
 o_if_eq (o_iconst 0 <|
 o_zreturn)
 (o_aload 0 <|
 o_get shw_8 8 0 <|
 o_iconst 29 <|
 o_iload 1 <|
 o_iadd <|
 o_iald shw_8 <|
 o_if_ne (o_iconst 0 <|
 o_zreturn)
 (o_iconst 1 <|
 o_zreturn))
def en_X8_isLoose_0 (p1 : Int) (h0 : Ob) (a : Unit) : XSt := ([some (.inr (.inl (0, 0))), some (.inl p1)], [], [h0])
noncomputable def mg_X8_isLoose_0 (p1 : Int) (h0 : Ob) (a : Unit) : Option Rt :=
 if xw (bz (fulM h0 p1)) = 0 then (RI 0 [h0])
 else (if xin (29 + p1) 735 then (
 if xw (h0 1 (xw (29 + p1)).toNat) = 0 then (RI 1 [h0])
 else (RI 0 [h0])) else none)
set_option maxRecDepth 100000 in
set_option maxHeartbeats 4000000 in
theorem rq_X8_isLoose_0 (p1 : Int) (h0 : Ob) (a : Unit) : rg_X8_isLoose_0 (en_X8_isLoose_0 p1 h0 a) = mg_X8_isLoose_0 p1 h0 a := rfl
set_option maxRecDepth 100000 in
set_option maxHeartbeats 4000000 in
theorem sg_X8_isLoose_0 {X : XDyn} {r0 : Rt} (C : XO X mX8_isLoose) : XS X mX8_isLoose r0 0 (rg_X8_isLoose_0) := by
 unfold rg_X8_isLoose_0
 exact s_aload_n (pc := 0) C dX8_isLoose_0 rfl <|
    s_iload_n (pc := 1) C dX8_isLoose_1 rfl <|
    s_callV (pc := 2) C ct_X8_isFull (n := 2) (rk := 1) (mp := [0]) ⟨rfl, by decide, rfl⟩ (ci := 8) rfl rfl (by decide) (by decide) yi_X8_isFull (by decide) wd_987 wd_989 wd_24 wd_81 wd_990 dX8_isLoose_2 <|
    s_if_eq (pc := 5) C dX8_isLoose_5 (by decide) (s_iconst (pc := 24) C dX8_isLoose_24 <|
    s_zreturn (pc := 25) C rfl dX8_isLoose_25)
    (s_aload_n (pc := 8) C dX8_isLoose_8 rfl <|
    s_get (pc := 9) C (ci := 8) (kf := 0) rfl inX8 (by decide) wd_871 dX8_isLoose_9 <|
    s_bipush (pc := 12) C dX8_isLoose_12 (by decide) <|
    s_iload_n (pc := 14) C dX8_isLoose_14 rfl <|
    s_iadd (pc := 15) C dX8_isLoose_15 <|
    s_iald (pc := 16) C dX8_isLoose_16 <|
    s_if_ne (pc := 17) C dX8_isLoose_17 (by decide) (s_iconst (pc := 24) C dX8_isLoose_24 <|
    s_zreturn (pc := 25) C rfl dX8_isLoose_25)
    (s_iconst (pc := 20) C dX8_isLoose_20 <|
    s_goto (pc := 21) C dX8_isLoose_21 (by decide) <|
    s_zreturn (pc := 25) C rfl dX8_isLoose_25))
noncomputable def rw_X8_isLoose_0 : XK := rg_X8_isLoose_0
noncomputable def md_X8_isLoose_0 (p1 : Int) (h0 : Ob) : Unit → Option Rt := mg_X8_isLoose_0 p1 h0
theorem eq_X8_isLoose_0 (p1 : Int) (h0 : Ob) (a : Unit) : rw_X8_isLoose_0 (en_X8_isLoose_0 p1 h0 a) = md_X8_isLoose_0 p1 h0 a :=
 rq_X8_isLoose_0 p1 h0 a
theorem sd_X8_isLoose_0 {X : XDyn} {r0 : Rt} (C : XO X mX8_isLoose) : XS X mX8_isLoose r0 0 (rw_X8_isLoose_0) := sg_X8_isLoose_0 C
theorem ctr_X8_isLoose : XCt yX8_isLoose mX8_isLoose (xF mX8_isLoose (rw_X8_isLoose_0)) := xMet (by decide +kernel) rfl (fun _ _ C => sd_X8_isLoose_0 C)
theorem eqf_X8_isLoose (p1 : Int) (h0 : Ob) : xF mX8_isLoose (rw_X8_isLoose_0) [.inr (.inl (0, 0)), .inl p1] [h0] = md_X8_isLoose_0 p1 h0 () := eq_X8_isLoose_0 p1 h0 ()
theorem yi_X8_isLoose : yX8_isLoose.cls = RX8 ∧ yX8_isLoose.cls ≠ "java/lang/invoke/MethodHandle" ∧ yX8_isLoose.cls ≠ "java/lang/invoke/VarHandle" ∧ (parseMethodDescriptor yX8_isLoose.desc).map (fun d => d.parameters.length) = some 1 := ⟨rfl, by decide +kernel, by decide +kernel, by decide +kernel⟩
theorem fulM_h {m : Ob} {a : Int} (h : fulM m a = true) : hdl a = true := by unfold fulM at h; rw [Bool.and_eq_true] at h; exact h.1
theorem sp_X8_isLoose (p1 : Int) (h0 : Ob) : md_X8_isLoose_0 p1 h0 () = RI (bz (looM h0 p1)) [h0] := by
  simp only [md_X8_isLoose_0, mg_X8_isLoose_0, bz_0]
  unfold looM
  cases hh : fulM h0 p1
  · rfl
  · obtain ⟨e1, e2⟩ := ixm (c := 29) 29 rfl (by decide) (fulM_h hh)
    rw [if_neg (by simp), if_pos e1, e2]
    split <;> simp [*, bz]
noncomputable def f_X8_isLoose : List AV → List Ob → Option Rt
  | [.inr (.inl (0, 0)), .inl p1], [h0] => some (some (.inl (bz (looM h0 p1))), [h0])
  | _, _ => none
theorem ct_X8_isLoose : XCt yX8_isLoose mX8_isLoose f_X8_isLoose := (ctr_X8_isLoose ).of (fun as μ r h => by
  unfold f_X8_isLoose at h
  split at h
  · rw [← h]
    exact (eqf_X8_isLoose _ _).trans (sp_X8_isLoose _ _)
  · cases h)
theorem dX8_canGo_0 : decode cX8_canGo 0 = .ok (.aload_n 0, 1) := by decide +kernel
theorem dX8_canGo_1 : decode cX8_canGo 1 = .ok (.iload_n 1, 1) := by decide +kernel
theorem dX8_canGo_2 : decode cX8_canGo 2 = .ok (.invokevirtual 86, 3) := by decide +kernel
theorem dX8_canGo_5 : decode cX8_canGo 5 = .ok (.ifCond .eq 20, 3) := by decide +kernel
theorem dX8_canGo_8 : decode cX8_canGo 8 = .ok (.aload_n 0, 1) := by decide +kernel
theorem dX8_canGo_9 : decode cX8_canGo 9 = .ok (.getfield 7, 3) := by decide +kernel
theorem dX8_canGo_12 : decode cX8_canGo 12 = .ok (.bipush 53, 2) := by decide +kernel
theorem dX8_canGo_14 : decode cX8_canGo 14 = .ok (.iload_n 1, 1) := by decide +kernel
theorem dX8_canGo_15 : decode cX8_canGo 15 = .ok (.iadd, 1) := by decide +kernel
theorem dX8_canGo_16 : decode cX8_canGo 16 = .ok (.iaload, 1) := by decide +kernel
theorem dX8_canGo_17 : decode cX8_canGo 17 = .ok (.iconst 1, 1) := by decide +kernel
theorem dX8_canGo_18 : decode cX8_canGo 18 = .ok (.if_icmp .ne 7, 3) := by decide +kernel
theorem dX8_canGo_21 : decode cX8_canGo 21 = .ok (.iconst 1, 1) := by decide +kernel
theorem dX8_canGo_22 : decode cX8_canGo 22 = .ok (.goto 4, 3) := by decide +kernel
theorem dX8_canGo_25 : decode cX8_canGo 25 = .ok (.iconst 0, 1) := by decide +kernel
theorem dX8_canGo_26 : decode cX8_canGo 26 = .ok (.ireturn, 1) := by decide +kernel
abbrev mX8_canGo : XM := (cX8_canGo, 2, RX8, (some .boolean), shw_8, 3)
noncomputable def rg_X8_canGo_0 : XK :=
 o_aload 0 <|
 o_iload 1 <|
 o_callV 2 1 [0] f_X8_isLoose <|
 o_if_eq (o_iconst 0 <|
 o_zreturn)
 (o_aload 0 <|
 o_get shw_8 8 0 <|
 o_iconst 53 <|
 o_iload 1 <|
 o_iadd <|
 o_iald shw_8 <|
 o_iconst 1 <|
 o_icmp_ne (o_iconst 0 <|
 o_zreturn)
 (o_iconst 1 <|
 o_zreturn))
def en_X8_canGo_0 (p1 : Int) (h0 : Ob) (a : Unit) : XSt := ([some (.inr (.inl (0, 0))), some (.inl p1)], [], [h0])
noncomputable def mg_X8_canGo_0 (p1 : Int) (h0 : Ob) (a : Unit) : Option Rt :=
 if xw (bz (looM h0 p1)) = 0 then (RI 0 [h0])
 else (if xin (53 + p1) 735 then (
 if xw (h0 1 (xw (53 + p1)).toNat) = 1 then (RI 1 [h0])
 else (RI 0 [h0])) else none)
set_option maxRecDepth 100000 in
set_option maxHeartbeats 4000000 in
theorem rq_X8_canGo_0 (p1 : Int) (h0 : Ob) (a : Unit) : rg_X8_canGo_0 (en_X8_canGo_0 p1 h0 a) = mg_X8_canGo_0 p1 h0 a := rfl
set_option maxRecDepth 100000 in
set_option maxHeartbeats 4000000 in
theorem sg_X8_canGo_0 {X : XDyn} {r0 : Rt} (C : XO X mX8_canGo) : XS X mX8_canGo r0 0 (rg_X8_canGo_0) := by
 unfold rg_X8_canGo_0
 exact s_aload_n (pc := 0) C dX8_canGo_0 rfl <|
    s_iload_n (pc := 1) C dX8_canGo_1 rfl <|
    s_callV (pc := 2) C ct_X8_isLoose (n := 2) (rk := 1) (mp := [0]) ⟨rfl, by decide, rfl⟩ (ci := 8) rfl rfl (by decide) (by decide) yi_X8_isLoose (by decide) wd_1081 wd_1083 wd_46 wd_81 wd_1084 dX8_canGo_2 <|
    s_if_eq (pc := 5) C dX8_canGo_5 (by decide) (s_iconst (pc := 25) C dX8_canGo_25 <|
    s_zreturn (pc := 26) C rfl dX8_canGo_26)
    (s_aload_n (pc := 8) C dX8_canGo_8 rfl <|
    s_get (pc := 9) C (ci := 8) (kf := 0) rfl inX8 (by decide) wd_871 dX8_canGo_9 <|
    s_bipush (pc := 12) C dX8_canGo_12 (by decide) <|
    s_iload_n (pc := 14) C dX8_canGo_14 rfl <|
    s_iadd (pc := 15) C dX8_canGo_15 <|
    s_iald (pc := 16) C dX8_canGo_16 <|
    s_iconst (pc := 17) C dX8_canGo_17 <|
    s_icmp_ne (pc := 18) C dX8_canGo_18 (by decide) (s_iconst (pc := 25) C dX8_canGo_25 <|
    s_zreturn (pc := 26) C rfl dX8_canGo_26)
    (s_iconst (pc := 21) C dX8_canGo_21 <|
    s_goto (pc := 22) C dX8_canGo_22 (by decide) <|
    s_zreturn (pc := 26) C rfl dX8_canGo_26))
noncomputable def rw_X8_canGo_0 : XK := rg_X8_canGo_0
noncomputable def md_X8_canGo_0 (p1 : Int) (h0 : Ob) : Unit → Option Rt := mg_X8_canGo_0 p1 h0
theorem eq_X8_canGo_0 (p1 : Int) (h0 : Ob) (a : Unit) : rw_X8_canGo_0 (en_X8_canGo_0 p1 h0 a) = md_X8_canGo_0 p1 h0 a :=
 rq_X8_canGo_0 p1 h0 a
theorem sd_X8_canGo_0 {X : XDyn} {r0 : Rt} (C : XO X mX8_canGo) : XS X mX8_canGo r0 0 (rw_X8_canGo_0) := sg_X8_canGo_0 C
theorem ctr_X8_canGo : XCt yX8_canGo mX8_canGo (xF mX8_canGo (rw_X8_canGo_0)) := xMet (by decide +kernel) rfl (fun _ _ C => sd_X8_canGo_0 C)
theorem eqf_X8_canGo (p1 : Int) (h0 : Ob) : xF mX8_canGo (rw_X8_canGo_0) [.inr (.inl (0, 0)), .inl p1] [h0] = md_X8_canGo_0 p1 h0 () := eq_X8_canGo_0 p1 h0 ()
theorem yi_X8_canGo : yX8_canGo.cls = RX8 ∧ yX8_canGo.cls ≠ "java/lang/invoke/MethodHandle" ∧ yX8_canGo.cls ≠ "java/lang/invoke/VarHandle" ∧ (parseMethodDescriptor yX8_canGo.desc).map (fun d => d.parameters.length) = some 1 := ⟨rfl, by decide +kernel, by decide +kernel, by decide +kernel⟩
theorem looM_h {m : Ob} {a : Int} (h : looM m a = true) : hdl a = true := by unfold looM at h; rw [Bool.and_eq_true] at h; exact fulM_h h.1
theorem sp_X8_canGo (p1 : Int) (h0 : Ob) : md_X8_canGo_0 p1 h0 () = RI (bz (cgoM h0 p1)) [h0] := by
  simp only [md_X8_canGo_0, mg_X8_canGo_0, bz_0]
  unfold cgoM
  cases hh : looM h0 p1
  · rfl
  · obtain ⟨e1, e2⟩ := ixm (c := 53) 53 rfl (by decide) (looM_h hh)
    rw [if_neg (by simp), if_pos e1, e2]
    split <;> simp [*, bz]
noncomputable def f_X8_canGo : List AV → List Ob → Option Rt
  | [.inr (.inl (0, 0)), .inl p1], [h0] => some (some (.inl (bz (cgoM h0 p1))), [h0])
  | _, _ => none
theorem ct_X8_canGo : XCt yX8_canGo mX8_canGo f_X8_canGo := (ctr_X8_canGo ).of (fun as μ r h => by
  unfold f_X8_canGo at h
  split at h
  · rw [← h]
    exact (eqf_X8_canGo _ _).trans (sp_X8_canGo _ _)
  · cases h)
theorem dX8_canBeLess_0 : decode cX8_canBeLess 0 = .ok (.aload_n 0, 1) := by decide +kernel
theorem dX8_canBeLess_1 : decode cX8_canBeLess 1 = .ok (.iload_n 1, 1) := by decide +kernel
theorem dX8_canBeLess_2 : decode cX8_canBeLess 2 = .ok (.invokevirtual 86, 3) := by decide +kernel
theorem dX8_canBeLess_5 : decode cX8_canBeLess 5 = .ok (.ifCond .eq 28, 3) := by decide +kernel
theorem dX8_canBeLess_8 : decode cX8_canBeLess 8 = .ok (.aload_n 0, 1) := by decide +kernel
theorem dX8_canBeLess_9 : decode cX8_canBeLess 9 = .ok (.getfield 7, 3) := by decide +kernel
theorem dX8_canBeLess_12 : decode cX8_canBeLess 12 = .ok (.bipush 37, 2) := by decide +kernel
theorem dX8_canBeLess_14 : decode cX8_canBeLess 14 = .ok (.iload_n 1, 1) := by decide +kernel
theorem dX8_canBeLess_15 : decode cX8_canBeLess 15 = .ok (.iadd, 1) := by decide +kernel
theorem dX8_canBeLess_16 : decode cX8_canBeLess 16 = .ok (.iaload, 1) := by decide +kernel
theorem dX8_canBeLess_17 : decode cX8_canBeLess 17 = .ok (.aload_n 0, 1) := by decide +kernel
theorem dX8_canBeLess_18 : decode cX8_canBeLess 18 = .ok (.getfield 7, 3) := by decide +kernel
theorem dX8_canBeLess_21 : decode cX8_canBeLess 21 = .ok (.bipush 21, 2) := by decide +kernel
theorem dX8_canBeLess_23 : decode cX8_canBeLess 23 = .ok (.iload_n 1, 1) := by decide +kernel
theorem dX8_canBeLess_24 : decode cX8_canBeLess 24 = .ok (.iadd, 1) := by decide +kernel
theorem dX8_canBeLess_25 : decode cX8_canBeLess 25 = .ok (.iaload, 1) := by decide +kernel
theorem dX8_canBeLess_26 : decode cX8_canBeLess 26 = .ok (.if_icmp .ge 7, 3) := by decide +kernel
theorem dX8_canBeLess_29 : decode cX8_canBeLess 29 = .ok (.iconst 1, 1) := by decide +kernel
theorem dX8_canBeLess_30 : decode cX8_canBeLess 30 = .ok (.goto 4, 3) := by decide +kernel
theorem dX8_canBeLess_33 : decode cX8_canBeLess 33 = .ok (.iconst 0, 1) := by decide +kernel
theorem dX8_canBeLess_34 : decode cX8_canBeLess 34 = .ok (.ireturn, 1) := by decide +kernel
abbrev mX8_canBeLess : XM := (cX8_canBeLess, 2, RX8, (some .boolean), shw_8, 3)
noncomputable def rg_X8_canBeLess_0 : XK :=
 o_aload 0 <|
 o_iload 1 <|
 o_callV 2 1 [0] f_X8_isLoose <|
 o_if_eq (o_iconst 0 <|
 o_zreturn)
 (o_aload 0 <|
 o_get shw_8 8 0 <|
 o_iconst 37 <|
 o_iload 1 <|
 o_iadd <|
 o_iald shw_8 <|
 o_aload 0 <|
 o_get shw_8 8 0 <|
 o_iconst 21 <|
 o_iload 1 <|
 o_iadd <|
 o_iald shw_8 <|
 o_icmp_ge (o_iconst 0 <|
 o_zreturn)
 (o_iconst 1 <|
 o_zreturn))
def en_X8_canBeLess_0 (p1 : Int) (h0 : Ob) (a : Unit) : XSt := ([some (.inr (.inl (0, 0))), some (.inl p1)], [], [h0])
noncomputable def mg_X8_canBeLess_0 (p1 : Int) (h0 : Ob) (a : Unit) : Option Rt :=
 if xw (bz (looM h0 p1)) = 0 then (RI 0 [h0])
 else (if xin (37 + p1) 735 then (
 if xin (21 + p1) 735 then (
 if xw (h0 1 (xw (37 + p1)).toNat) ≥ xw (h0 1 (xw (21 + p1)).toNat) then (RI 0 [h0])
 else (RI 1 [h0])) else none) else none)
set_option maxRecDepth 100000 in
set_option maxHeartbeats 4000000 in
theorem rq_X8_canBeLess_0 (p1 : Int) (h0 : Ob) (a : Unit) : rg_X8_canBeLess_0 (en_X8_canBeLess_0 p1 h0 a) = mg_X8_canBeLess_0 p1 h0 a := rfl
set_option maxRecDepth 100000 in
set_option maxHeartbeats 4000000 in
theorem sg_X8_canBeLess_0 {X : XDyn} {r0 : Rt} (C : XO X mX8_canBeLess) : XS X mX8_canBeLess r0 0 (rg_X8_canBeLess_0) := by
 unfold rg_X8_canBeLess_0
 exact s_aload_n (pc := 0) C dX8_canBeLess_0 rfl <|
    s_iload_n (pc := 1) C dX8_canBeLess_1 rfl <|
    s_callV (pc := 2) C ct_X8_isLoose (n := 2) (rk := 1) (mp := [0]) ⟨rfl, by decide, rfl⟩ (ci := 8) rfl rfl (by decide) (by decide) yi_X8_isLoose (by decide) wd_1081 wd_1083 wd_46 wd_81 wd_1084 dX8_canBeLess_2 <|
    s_if_eq (pc := 5) C dX8_canBeLess_5 (by decide) (s_iconst (pc := 33) C dX8_canBeLess_33 <|
    s_zreturn (pc := 34) C rfl dX8_canBeLess_34)
    (s_aload_n (pc := 8) C dX8_canBeLess_8 rfl <|
    s_get (pc := 9) C (ci := 8) (kf := 0) rfl inX8 (by decide) wd_871 dX8_canBeLess_9 <|
    s_bipush (pc := 12) C dX8_canBeLess_12 (by decide) <|
    s_iload_n (pc := 14) C dX8_canBeLess_14 rfl <|
    s_iadd (pc := 15) C dX8_canBeLess_15 <|
    s_iald (pc := 16) C dX8_canBeLess_16 <|
    s_aload_n (pc := 17) C dX8_canBeLess_17 rfl <|
    s_get (pc := 18) C (ci := 8) (kf := 0) rfl inX8 (by decide) wd_871 dX8_canBeLess_18 <|
    s_bipush (pc := 21) C dX8_canBeLess_21 (by decide) <|
    s_iload_n (pc := 23) C dX8_canBeLess_23 rfl <|
    s_iadd (pc := 24) C dX8_canBeLess_24 <|
    s_iald (pc := 25) C dX8_canBeLess_25 <|
    s_icmp_ge (pc := 26) C dX8_canBeLess_26 (by decide) (s_iconst (pc := 33) C dX8_canBeLess_33 <|
    s_zreturn (pc := 34) C rfl dX8_canBeLess_34)
    (s_iconst (pc := 29) C dX8_canBeLess_29 <|
    s_goto (pc := 30) C dX8_canBeLess_30 (by decide) <|
    s_zreturn (pc := 34) C rfl dX8_canBeLess_34))
noncomputable def rw_X8_canBeLess_0 : XK := rg_X8_canBeLess_0
noncomputable def md_X8_canBeLess_0 (p1 : Int) (h0 : Ob) : Unit → Option Rt := mg_X8_canBeLess_0 p1 h0
theorem eq_X8_canBeLess_0 (p1 : Int) (h0 : Ob) (a : Unit) : rw_X8_canBeLess_0 (en_X8_canBeLess_0 p1 h0 a) = md_X8_canBeLess_0 p1 h0 a :=
 rq_X8_canBeLess_0 p1 h0 a
theorem sd_X8_canBeLess_0 {X : XDyn} {r0 : Rt} (C : XO X mX8_canBeLess) : XS X mX8_canBeLess r0 0 (rw_X8_canBeLess_0) := sg_X8_canBeLess_0 C
theorem ctr_X8_canBeLess : XCt yX8_canBeLess mX8_canBeLess (xF mX8_canBeLess (rw_X8_canBeLess_0)) := xMet (by decide +kernel) rfl (fun _ _ C => sd_X8_canBeLess_0 C)
theorem eqf_X8_canBeLess (p1 : Int) (h0 : Ob) : xF mX8_canBeLess (rw_X8_canBeLess_0) [.inr (.inl (0, 0)), .inl p1] [h0] = md_X8_canBeLess_0 p1 h0 () := eq_X8_canBeLess_0 p1 h0 ()
theorem yi_X8_canBeLess : yX8_canBeLess.cls = RX8 ∧ yX8_canBeLess.cls ≠ "java/lang/invoke/MethodHandle" ∧ yX8_canBeLess.cls ≠ "java/lang/invoke/VarHandle" ∧ (parseMethodDescriptor yX8_canBeLess.desc).map (fun d => d.parameters.length) = some 1 := ⟨rfl, by decide +kernel, by decide +kernel, by decide +kernel⟩
theorem sp_X8_canBeLess (p1 : Int) (h0 : Ob) : md_X8_canBeLess_0 p1 h0 () = RI (bz (cblM h0 p1)) [h0] := by
  simp only [md_X8_canBeLess_0, mg_X8_canBeLess_0, bz_0]
  unfold cblM
  cases hh : looM h0 p1
  · rfl
  · obtain ⟨e1, e2⟩ := ixm (c := 37) 37 rfl (by decide) (looM_h hh)
    obtain ⟨e3, e4⟩ := ixm (c := 21) 21 rfl (by decide) (looM_h hh)
    rw [if_neg (by simp), if_pos e1, e2, if_pos e3, e4]
    split
    · rename_i c5
      simp [bz, show ¬ xw (h0 1 (37 + (xw p1).toNat)) < xw (h0 1 (21 + (xw p1).toNat)) by omega]
    · rename_i c5
      simp [bz, show xw (h0 1 (37 + (xw p1).toNat)) < xw (h0 1 (21 + (xw p1).toNat)) by omega]
noncomputable def f_X8_canBeLess : List AV → List Ob → Option Rt
  | [.inr (.inl (0, 0)), .inl p1], [h0] => some (some (.inl (bz (cblM h0 p1))), [h0])
  | _, _ => none
theorem ct_X8_canBeLess : XCt yX8_canBeLess mX8_canBeLess f_X8_canBeLess := (ctr_X8_canBeLess ).of (fun as μ r h => by
  unfold f_X8_canBeLess at h
  split at h
  · rw [← h]
    exact (eqf_X8_canBeLess _ _).trans (sp_X8_canBeLess _ _)
  · cases h)
theorem dX8_lengthOf_0 : decode cX8_lengthOf 0 = .ok (.aload_n 0, 1) := by decide +kernel
theorem dX8_lengthOf_1 : decode cX8_lengthOf 1 = .ok (.getfield 7, 3) := by decide +kernel
theorem dX8_lengthOf_4 : decode cX8_lengthOf 4 = .ok (.bipush 21, 2) := by decide +kernel
theorem dX8_lengthOf_6 : decode cX8_lengthOf 6 = .ok (.iload_n 1, 1) := by decide +kernel
theorem dX8_lengthOf_7 : decode cX8_lengthOf 7 = .ok (.iadd, 1) := by decide +kernel
theorem dX8_lengthOf_8 : decode cX8_lengthOf 8 = .ok (.iaload, 1) := by decide +kernel
theorem dX8_lengthOf_9 : decode cX8_lengthOf 9 = .ok (.iconst 1, 1) := by decide +kernel
theorem dX8_lengthOf_10 : decode cX8_lengthOf 10 = .ok (.iadd, 1) := by decide +kernel
theorem dX8_lengthOf_11 : decode cX8_lengthOf 11 = .ok (.ireturn, 1) := by decide +kernel
abbrev mX8_lengthOf : XM := (cX8_lengthOf, 2, RX8, (some .int), shw_8, 0)
noncomputable def rg_X8_lengthOf_0 : XK :=
 o_aload 0 <|
 o_get shw_8 8 0 <|
 o_iconst 21 <|
 o_iload 1 <|
 o_iadd <|
 o_iald shw_8 <|
 o_iconst 1 <|
 o_iadd <|
 o_ireturn
def en_X8_lengthOf_0 (p1 : Int) (h0 : Ob) (a : Unit) : XSt := ([some (.inr (.inl (0, 0))), some (.inl p1)], [], [h0])
noncomputable def mg_X8_lengthOf_0 (p1 : Int) (h0 : Ob) (a : Unit) : Option Rt :=
 if xin (21 + p1) 735 then (
 RI ((h0 1 (xw (21 + p1)).toNat) + 1) [h0]) else none
set_option maxRecDepth 100000 in
set_option maxHeartbeats 4000000 in
theorem rq_X8_lengthOf_0 (p1 : Int) (h0 : Ob) (a : Unit) : rg_X8_lengthOf_0 (en_X8_lengthOf_0 p1 h0 a) = mg_X8_lengthOf_0 p1 h0 a := rfl
set_option maxRecDepth 100000 in
set_option maxHeartbeats 4000000 in
theorem sg_X8_lengthOf_0 {X : XDyn} {r0 : Rt} (C : XO X mX8_lengthOf) : XS X mX8_lengthOf r0 0 (rg_X8_lengthOf_0) := by
 unfold rg_X8_lengthOf_0
 exact s_aload_n (pc := 0) C dX8_lengthOf_0 rfl <|
    s_get (pc := 1) C (ci := 8) (kf := 0) rfl inX8 (by decide) wd_871 dX8_lengthOf_1 <|
    s_bipush (pc := 4) C dX8_lengthOf_4 (by decide) <|
    s_iload_n (pc := 6) C dX8_lengthOf_6 rfl <|
    s_iadd (pc := 7) C dX8_lengthOf_7 <|
    s_iald (pc := 8) C dX8_lengthOf_8 <|
    s_iconst (pc := 9) C dX8_lengthOf_9 <|
    s_iadd (pc := 10) C dX8_lengthOf_10 <|
    s_ireturn (pc := 11) C rfl dX8_lengthOf_11
noncomputable def rw_X8_lengthOf_0 : XK := rg_X8_lengthOf_0
noncomputable def md_X8_lengthOf_0 (p1 : Int) (h0 : Ob) : Unit → Option Rt := mg_X8_lengthOf_0 p1 h0
theorem eq_X8_lengthOf_0 (p1 : Int) (h0 : Ob) (a : Unit) : rw_X8_lengthOf_0 (en_X8_lengthOf_0 p1 h0 a) = md_X8_lengthOf_0 p1 h0 a :=
 rq_X8_lengthOf_0 p1 h0 a
theorem sd_X8_lengthOf_0 {X : XDyn} {r0 : Rt} (C : XO X mX8_lengthOf) : XS X mX8_lengthOf r0 0 (rw_X8_lengthOf_0) := sg_X8_lengthOf_0 C
theorem ctr_X8_lengthOf : XCt yX8_lengthOf mX8_lengthOf (xF mX8_lengthOf (rw_X8_lengthOf_0)) := xMet (by decide +kernel) rfl (fun _ _ C => sd_X8_lengthOf_0 C)
theorem eqf_X8_lengthOf (p1 : Int) (h0 : Ob) : xF mX8_lengthOf (rw_X8_lengthOf_0) [.inr (.inl (0, 0)), .inl p1] [h0] = md_X8_lengthOf_0 p1 h0 () := eq_X8_lengthOf_0 p1 h0 ()
theorem yi_X8_lengthOf : yX8_lengthOf.cls = RX8 ∧ yX8_lengthOf.cls ≠ "java/lang/invoke/MethodHandle" ∧ yX8_lengthOf.cls ≠ "java/lang/invoke/VarHandle" ∧ (parseMethodDescriptor yX8_lengthOf.desc).map (fun d => d.parameters.length) = some 1 := ⟨rfl, by decide +kernel, by decide +kernel, by decide +kernel⟩
theorem sp_X8_lengthOf (p1 : Int) (h0 : Ob) (hg : (hdl p1) = true) : md_X8_lengthOf_0 p1 h0 () = RI (lenM h0 p1) [h0] := by
  obtain ⟨e3, e4⟩ := ixm (c := 21) 21 rfl (by decide) hg
  simp only [md_X8_lengthOf_0, mg_X8_lengthOf_0]
  rw [if_pos e3, e4]
  rfl
noncomputable def g_X8_lengthOf : List AV → List Ob → Bool
  | [.inr (.inl (0, 0)), .inl p1], [h0] => hdl p1
  | _, _ => false
noncomputable def v_X8_lengthOf : List AV → List Ob → Rt
  | [.inr (.inl (0, 0)), .inl p1], [h0] => (some (.inl (lenM h0 p1)), [h0])
  | _, _ => (none, [])
theorem ct_X8_lengthOf : XCt yX8_lengthOf mX8_lengthOf (fun as μ => if g_X8_lengthOf as μ then some (v_X8_lengthOf as μ) else none) := (ctr_X8_lengthOf ).of (fun as μ r h => by
  split at h
  · rename_i hg
    unfold g_X8_lengthOf at hg
    split at hg
    · rw [← h]
      exact (eqf_X8_lengthOf _ _).trans (sp_X8_lengthOf _ _ hg)
    · cases hg
  · cases h)
theorem dX8_worthOf_0 : decode cX8_worthOf 0 = .ok (.aload_n 0, 1) := by decide +kernel
theorem dX8_worthOf_1 : decode cX8_worthOf 1 = .ok (.getfield 7, 3) := by decide +kernel
theorem dX8_worthOf_4 : decode cX8_worthOf 4 = .ok (.iconst 2, 1) := by decide +kernel
theorem dX8_worthOf_5 : decode cX8_worthOf 5 = .ok (.iaload, 1) := by decide +kernel
theorem dX8_worthOf_6 : decode cX8_worthOf 6 = .ok (.tableswitch 87 0 3 #[30, 40, 50, 73], 30) := by decide +kernel
theorem dX8_worthOf_36 : decode cX8_worthOf 36 = .ok (.aload_n 0, 1) := by decide +kernel
theorem dX8_worthOf_37 : decode cX8_worthOf 37 = .ok (.getfield 7, 3) := by decide +kernel
theorem dX8_worthOf_40 : decode cX8_worthOf 40 = .ok (.bipush 61, 2) := by decide +kernel
theorem dX8_worthOf_42 : decode cX8_worthOf 42 = .ok (.iload_n 1, 1) := by decide +kernel
theorem dX8_worthOf_43 : decode cX8_worthOf 43 = .ok (.iadd, 1) := by decide +kernel
theorem dX8_worthOf_44 : decode cX8_worthOf 44 = .ok (.iaload, 1) := by decide +kernel
theorem dX8_worthOf_45 : decode cX8_worthOf 45 = .ok (.ireturn, 1) := by decide +kernel
theorem dX8_worthOf_46 : decode cX8_worthOf 46 = .ok (.aload_n 0, 1) := by decide +kernel
theorem dX8_worthOf_47 : decode cX8_worthOf 47 = .ok (.getfield 7, 3) := by decide +kernel
theorem dX8_worthOf_50 : decode cX8_worthOf 50 = .ok (.bipush 45, 2) := by decide +kernel
theorem dX8_worthOf_52 : decode cX8_worthOf 52 = .ok (.iload_n 1, 1) := by decide +kernel
theorem dX8_worthOf_53 : decode cX8_worthOf 53 = .ok (.iadd, 1) := by decide +kernel
theorem dX8_worthOf_54 : decode cX8_worthOf 54 = .ok (.iaload, 1) := by decide +kernel
theorem dX8_worthOf_55 : decode cX8_worthOf 55 = .ok (.ireturn, 1) := by decide +kernel
theorem dX8_worthOf_56 : decode cX8_worthOf 56 = .ok (.bipush 100, 2) := by decide +kernel
theorem dX8_worthOf_58 : decode cX8_worthOf 58 = .ok (.aload_n 0, 1) := by decide +kernel
theorem dX8_worthOf_59 : decode cX8_worthOf 59 = .ok (.getfield 7, 3) := by decide +kernel
theorem dX8_worthOf_62 : decode cX8_worthOf 62 = .ok (.bipush 45, 2) := by decide +kernel
theorem dX8_worthOf_64 : decode cX8_worthOf 64 = .ok (.iload_n 1, 1) := by decide +kernel
theorem dX8_worthOf_65 : decode cX8_worthOf 65 = .ok (.iadd, 1) := by decide +kernel
theorem dX8_worthOf_66 : decode cX8_worthOf 66 = .ok (.iaload, 1) := by decide +kernel
theorem dX8_worthOf_67 : decode cX8_worthOf 67 = .ok (.imul, 1) := by decide +kernel
theorem dX8_worthOf_68 : decode cX8_worthOf 68 = .ok (.aload_n 0, 1) := by decide +kernel
theorem dX8_worthOf_69 : decode cX8_worthOf 69 = .ok (.getfield 7, 3) := by decide +kernel
theorem dX8_worthOf_72 : decode cX8_worthOf 72 = .ok (.bipush 21, 2) := by decide +kernel
theorem dX8_worthOf_74 : decode cX8_worthOf 74 = .ok (.iload_n 1, 1) := by decide +kernel
theorem dX8_worthOf_75 : decode cX8_worthOf 75 = .ok (.iadd, 1) := by decide +kernel
theorem dX8_worthOf_76 : decode cX8_worthOf 76 = .ok (.iaload, 1) := by decide +kernel
theorem dX8_worthOf_77 : decode cX8_worthOf 77 = .ok (.idiv, 1) := by decide +kernel
theorem dX8_worthOf_78 : decode cX8_worthOf 78 = .ok (.ireturn, 1) := by decide +kernel
theorem dX8_worthOf_79 : decode cX8_worthOf 79 = .ok (.sipush 1000, 3) := by decide +kernel
theorem dX8_worthOf_82 : decode cX8_worthOf 82 = .ok (.aload_n 0, 1) := by decide +kernel
theorem dX8_worthOf_83 : decode cX8_worthOf 83 = .ok (.getfield 7, 3) := by decide +kernel
theorem dX8_worthOf_86 : decode cX8_worthOf 86 = .ok (.bipush 21, 2) := by decide +kernel
theorem dX8_worthOf_88 : decode cX8_worthOf 88 = .ok (.iload_n 1, 1) := by decide +kernel
theorem dX8_worthOf_89 : decode cX8_worthOf 89 = .ok (.iadd, 1) := by decide +kernel
theorem dX8_worthOf_90 : decode cX8_worthOf 90 = .ok (.iaload, 1) := by decide +kernel
theorem dX8_worthOf_91 : decode cX8_worthOf 91 = .ok (.isub, 1) := by decide +kernel
theorem dX8_worthOf_92 : decode cX8_worthOf 92 = .ok (.ireturn, 1) := by decide +kernel
theorem dX8_worthOf_93 : decode cX8_worthOf 93 = .ok (.aload_n 0, 1) := by decide +kernel
theorem dX8_worthOf_94 : decode cX8_worthOf 94 = .ok (.getfield 7, 3) := by decide +kernel
theorem dX8_worthOf_97 : decode cX8_worthOf 97 = .ok (.bipush 61, 2) := by decide +kernel
theorem dX8_worthOf_99 : decode cX8_worthOf 99 = .ok (.iload_n 1, 1) := by decide +kernel
theorem dX8_worthOf_100 : decode cX8_worthOf 100 = .ok (.iadd, 1) := by decide +kernel
theorem dX8_worthOf_101 : decode cX8_worthOf 101 = .ok (.iaload, 1) := by decide +kernel
theorem dX8_worthOf_102 : decode cX8_worthOf 102 = .ok (.iconst 4, 1) := by decide +kernel
theorem dX8_worthOf_103 : decode cX8_worthOf 103 = .ok (.aload_n 0, 1) := by decide +kernel
theorem dX8_worthOf_104 : decode cX8_worthOf 104 = .ok (.getfield 7, 3) := by decide +kernel
theorem dX8_worthOf_107 : decode cX8_worthOf 107 = .ok (.bipush 45, 2) := by decide +kernel
theorem dX8_worthOf_109 : decode cX8_worthOf 109 = .ok (.iload_n 1, 1) := by decide +kernel
theorem dX8_worthOf_110 : decode cX8_worthOf 110 = .ok (.iadd, 1) := by decide +kernel
theorem dX8_worthOf_111 : decode cX8_worthOf 111 = .ok (.iaload, 1) := by decide +kernel
theorem dX8_worthOf_112 : decode cX8_worthOf 112 = .ok (.imul, 1) := by decide +kernel
theorem dX8_worthOf_113 : decode cX8_worthOf 113 = .ok (.iadd, 1) := by decide +kernel
theorem dX8_worthOf_114 : decode cX8_worthOf 114 = .ok (.ireturn, 1) := by decide +kernel
abbrev mX8_worthOf : XM := (cX8_worthOf, 2, RX8, (some .int), shw_8, 0)
noncomputable def rg_X8_worthOf_0 : XK :=
 o_aload 0 <|
 o_get shw_8 8 0 <|
 o_iconst 2 <|
 o_iald shw_8 <|
 o_sw [(0, o_aload 0 <|
 o_get shw_8 8 0 <|
 o_iconst 61 <|
 o_iload 1 <|
 o_iadd <|
 o_iald shw_8 <|
 o_ireturn),
 (1, o_aload 0 <|
 o_get shw_8 8 0 <|
 o_iconst 45 <|
 o_iload 1 <|
 o_iadd <|
 o_iald shw_8 <|
 o_ireturn),
 (2, o_iconst 100 <|
 o_aload 0 <|
 o_get shw_8 8 0 <|
 o_iconst 45 <|
 o_iload 1 <|
 o_iadd <|
 o_iald shw_8 <|
 o_imul <|
 o_aload 0 <|
 o_get shw_8 8 0 <|
 o_iconst 21 <|
 o_iload 1 <|
 o_iadd <|
 o_iald shw_8 <|
 o_idiv <|
 o_ireturn),
 (3, o_iconst 1000 <|
 o_aload 0 <|
 o_get shw_8 8 0 <|
 o_iconst 21 <|
 o_iload 1 <|
 o_iadd <|
 o_iald shw_8 <|
 o_isub <|
 o_ireturn)]
 (o_aload 0 <|
 o_get shw_8 8 0 <|
 o_iconst 61 <|
 o_iload 1 <|
 o_iadd <|
 o_iald shw_8 <|
 o_iconst 4 <|
 o_aload 0 <|
 o_get shw_8 8 0 <|
 o_iconst 45 <|
 o_iload 1 <|
 o_iadd <|
 o_iald shw_8 <|
 o_imul <|
 o_iadd <|
 o_ireturn)
def en_X8_worthOf_0 (p1 : Int) (h0 : Ob) (a : Unit) : XSt := ([some (.inr (.inl (0, 0))), some (.inl p1)], [], [h0])
noncomputable def mg_X8_worthOf_0 (p1 : Int) (h0 : Ob) (a : Unit) : Option Rt :=
 if xw (h0 1 2) = 0 then (if xin (61 + p1) 735 then (
 RI (h0 1 (xw (61 + p1)).toNat) [h0]) else none)
 else if xw (h0 1 2) = 1 then (if xin (45 + p1) 735 then (
 RI (h0 1 (xw (45 + p1)).toNat) [h0]) else none)
 else if xw (h0 1 2) = 2 then (if xin (45 + p1) 735 then (
 if xin (21 + p1) 735 then (
 if xw (h0 1 (xw (21 + p1)).toNat) = 0 then none else
 RI (xdiv (100 * (h0 1 (xw (45 + p1)).toNat)) (h0 1 (xw (21 + p1)).toNat)) [h0]) else none) else none)
 else if xw (h0 1 2) = 3 then (if xin (21 + p1) 735 then (
 RI (1000 - (h0 1 (xw (21 + p1)).toNat)) [h0]) else none)
 else (if xin (61 + p1) 735 then (
 if xin (45 + p1) 735 then (
 RI ((h0 1 (xw (61 + p1)).toNat) + (4 * (h0 1 (xw (45 + p1)).toNat))) [h0]) else none) else none)
set_option maxRecDepth 100000 in
set_option maxHeartbeats 4000000 in
theorem rq_X8_worthOf_0 (p1 : Int) (h0 : Ob) (a : Unit) : rg_X8_worthOf_0 (en_X8_worthOf_0 p1 h0 a) = mg_X8_worthOf_0 p1 h0 a := rfl
set_option maxRecDepth 100000 in
set_option maxHeartbeats 4000000 in
theorem sg_X8_worthOf_0 {X : XDyn} {r0 : Rt} (C : XO X mX8_worthOf) : XS X mX8_worthOf r0 0 (rg_X8_worthOf_0) := by
 unfold rg_X8_worthOf_0
 exact s_aload_n (pc := 0) C dX8_worthOf_0 rfl <|
    s_get (pc := 1) C (ci := 8) (kf := 0) rfl inX8 (by decide) wd_871 dX8_worthOf_1 <|
    s_iconst (pc := 4) C dX8_worthOf_4 <|
    s_iald (pc := 5) C dX8_worthOf_5 <|
    s_tsw (pc := 6) C dX8_worthOf_6 _ (by decide) (s_aload_n (pc := 93) C dX8_worthOf_93 rfl <|
    s_get (pc := 94) C (ci := 8) (kf := 0) rfl inX8 (by decide) wd_871 dX8_worthOf_94 <|
    s_bipush (pc := 97) C dX8_worthOf_97 (by decide) <|
    s_iload_n (pc := 99) C dX8_worthOf_99 rfl <|
    s_iadd (pc := 100) C dX8_worthOf_100 <|
    s_iald (pc := 101) C dX8_worthOf_101 <|
    s_iconst (pc := 102) C dX8_worthOf_102 <|
    s_aload_n (pc := 103) C dX8_worthOf_103 rfl <|
    s_get (pc := 104) C (ci := 8) (kf := 0) rfl inX8 (by decide) wd_871 dX8_worthOf_104 <|
    s_bipush (pc := 107) C dX8_worthOf_107 (by decide) <|
    s_iload_n (pc := 109) C dX8_worthOf_109 rfl <|
    s_iadd (pc := 110) C dX8_worthOf_110 <|
    s_iald (pc := 111) C dX8_worthOf_111 <|
    s_imul (pc := 112) C dX8_worthOf_112 <|
    s_iadd (pc := 113) C dX8_worthOf_113 <|
    s_ireturn (pc := 114) C rfl dX8_worthOf_114) (List.forall_mem_cons.mpr ⟨⟨by decide, by decide, 30, 36, rfl, by decide, s_aload_n (pc := 36) C dX8_worthOf_36 rfl <|
    s_get (pc := 37) C (ci := 8) (kf := 0) rfl inX8 (by decide) wd_871 dX8_worthOf_37 <|
    s_bipush (pc := 40) C dX8_worthOf_40 (by decide) <|
    s_iload_n (pc := 42) C dX8_worthOf_42 rfl <|
    s_iadd (pc := 43) C dX8_worthOf_43 <|
    s_iald (pc := 44) C dX8_worthOf_44 <|
    s_ireturn (pc := 45) C rfl dX8_worthOf_45⟩, (List.forall_mem_cons.mpr ⟨⟨by decide, by decide, 40, 46, rfl, by decide, s_aload_n (pc := 46) C dX8_worthOf_46 rfl <|
    s_get (pc := 47) C (ci := 8) (kf := 0) rfl inX8 (by decide) wd_871 dX8_worthOf_47 <|
    s_bipush (pc := 50) C dX8_worthOf_50 (by decide) <|
    s_iload_n (pc := 52) C dX8_worthOf_52 rfl <|
    s_iadd (pc := 53) C dX8_worthOf_53 <|
    s_iald (pc := 54) C dX8_worthOf_54 <|
    s_ireturn (pc := 55) C rfl dX8_worthOf_55⟩, (List.forall_mem_cons.mpr ⟨⟨by decide, by decide, 50, 56, rfl, by decide, s_bipush (pc := 56) C dX8_worthOf_56 (by decide) <|
    s_aload_n (pc := 58) C dX8_worthOf_58 rfl <|
    s_get (pc := 59) C (ci := 8) (kf := 0) rfl inX8 (by decide) wd_871 dX8_worthOf_59 <|
    s_bipush (pc := 62) C dX8_worthOf_62 (by decide) <|
    s_iload_n (pc := 64) C dX8_worthOf_64 rfl <|
    s_iadd (pc := 65) C dX8_worthOf_65 <|
    s_iald (pc := 66) C dX8_worthOf_66 <|
    s_imul (pc := 67) C dX8_worthOf_67 <|
    s_aload_n (pc := 68) C dX8_worthOf_68 rfl <|
    s_get (pc := 69) C (ci := 8) (kf := 0) rfl inX8 (by decide) wd_871 dX8_worthOf_69 <|
    s_bipush (pc := 72) C dX8_worthOf_72 (by decide) <|
    s_iload_n (pc := 74) C dX8_worthOf_74 rfl <|
    s_iadd (pc := 75) C dX8_worthOf_75 <|
    s_iald (pc := 76) C dX8_worthOf_76 <|
    s_idiv (pc := 77) C dX8_worthOf_77 <|
    s_ireturn (pc := 78) C rfl dX8_worthOf_78⟩, (List.forall_mem_cons.mpr ⟨⟨by decide, by decide, 73, 79, rfl, by decide, s_sipush (pc := 79) C dX8_worthOf_79 (by decide) <|
    s_aload_n (pc := 82) C dX8_worthOf_82 rfl <|
    s_get (pc := 83) C (ci := 8) (kf := 0) rfl inX8 (by decide) wd_871 dX8_worthOf_83 <|
    s_bipush (pc := 86) C dX8_worthOf_86 (by decide) <|
    s_iload_n (pc := 88) C dX8_worthOf_88 rfl <|
    s_iadd (pc := 89) C dX8_worthOf_89 <|
    s_iald (pc := 90) C dX8_worthOf_90 <|
    s_isub (pc := 91) C dX8_worthOf_91 <|
    s_ireturn (pc := 92) C rfl dX8_worthOf_92⟩, (fun _ z => absurd z List.not_mem_nil)⟩)⟩)⟩)⟩) (fun v h1 h2 => by
     have hv : v = 0 ∨ v = 1 ∨ v = 2 ∨ v = 3 := by omega
     rcases hv with rfl | rfl | rfl | rfl <;> simp)
noncomputable def rw_X8_worthOf_0 : XK := rg_X8_worthOf_0
noncomputable def md_X8_worthOf_0 (p1 : Int) (h0 : Ob) : Unit → Option Rt := mg_X8_worthOf_0 p1 h0
theorem eq_X8_worthOf_0 (p1 : Int) (h0 : Ob) (a : Unit) : rw_X8_worthOf_0 (en_X8_worthOf_0 p1 h0 a) = md_X8_worthOf_0 p1 h0 a :=
 rq_X8_worthOf_0 p1 h0 a
theorem sd_X8_worthOf_0 {X : XDyn} {r0 : Rt} (C : XO X mX8_worthOf) : XS X mX8_worthOf r0 0 (rw_X8_worthOf_0) := sg_X8_worthOf_0 C
theorem ctr_X8_worthOf : XCt yX8_worthOf mX8_worthOf (xF mX8_worthOf (rw_X8_worthOf_0)) := xMet (by decide +kernel) rfl (fun _ _ C => sd_X8_worthOf_0 C)
theorem eqf_X8_worthOf (p1 : Int) (h0 : Ob) : xF mX8_worthOf (rw_X8_worthOf_0) [.inr (.inl (0, 0)), .inl p1] [h0] = md_X8_worthOf_0 p1 h0 () := eq_X8_worthOf_0 p1 h0 ()
theorem yi_X8_worthOf : yX8_worthOf.cls = RX8 ∧ yX8_worthOf.cls ≠ "java/lang/invoke/MethodHandle" ∧ yX8_worthOf.cls ≠ "java/lang/invoke/VarHandle" ∧ (parseMethodDescriptor yX8_worthOf.desc).map (fun d => d.parameters.length) = some 1 := ⟨rfl, by decide +kernel, by decide +kernel, by decide +kernel⟩
theorem sp_X8_worthOf (p1 : Int) (h0 : Ob) (hg : (pd (hdl p1 = true ∧ (xw (h0 1 2) = 2 → xw (h0 1 (21 + (xw p1).toNat)) ≠ 0))) = true) : md_X8_worthOf_0 p1 h0 () = RI (wrM h0 p1) [h0] := by
  obtain ⟨hh, hz⟩ := pd_of hg
  obtain ⟨e1, e2⟩ := ixm (c := 61) 61 rfl (by decide) hh
  obtain ⟨e3, e4⟩ := ixm (c := 45) 45 rfl (by decide) hh
  obtain ⟨e5, e6⟩ := ixm (c := 21) 21 rfl (by decide) hh
  simp only [md_X8_worthOf_0, mg_X8_worthOf_0]
  unfold wrM
  rw [if_pos e1, if_pos e3, if_pos e3, if_pos e5, e2, e4, e6, if_pos e5, if_pos e1, if_pos e3]
  by_cases c0 : xw (h0 1 2) = 0
  · rw [if_pos c0, if_pos c0]
  · rw [if_neg c0, if_neg c0]
    by_cases c1 : xw (h0 1 2) = 1
    · rw [if_pos c1, if_pos c1]
    · rw [if_neg c1, if_neg c1]
      by_cases c2 : xw (h0 1 2) = 2
      · rw [if_pos c2, if_pos c2, if_neg (hz c2)]
      · rw [if_neg c2, if_neg c2]
        by_cases c3 : xw (h0 1 2) = 3
        · rw [if_pos c3, if_pos c3]
        · rw [if_neg c3, if_neg c3]
noncomputable def g_X8_worthOf : List AV → List Ob → Bool
  | [.inr (.inl (0, 0)), .inl p1], [h0] => pd (hdl p1 = true ∧ (xw (h0 1 2) = 2 → xw (h0 1 (21 + (xw p1).toNat)) ≠ 0))
  | _, _ => false
noncomputable def v_X8_worthOf : List AV → List Ob → Rt
  | [.inr (.inl (0, 0)), .inl p1], [h0] => (some (.inl (wrM h0 p1)), [h0])
  | _, _ => (none, [])
theorem ct_X8_worthOf : XCt yX8_worthOf mX8_worthOf (fun as μ => if g_X8_worthOf as μ then some (v_X8_worthOf as μ) else none) := (ctr_X8_worthOf ).of (fun as μ r h => by
  split at h
  · rename_i hg
    unfold g_X8_worthOf at hg
    split at hg
    · rw [← h]
      exact (eqf_X8_worthOf _ _).trans (sp_X8_worthOf _ _ hg)
    · cases hg
  · cases h)
theorem dX8_lays_0 : decode cX8_lays 0 = .ok (.iload_n 1, 1) := by decide +kernel
theorem dX8_lays_1 : decode cX8_lays 1 = .ok (.istore 4, 2) := by decide +kernel
theorem dX8_lays_3 : decode cX8_lays 3 = .ok (.iload 4, 2) := by decide +kernel
theorem dX8_lays_5 : decode cX8_lays 5 = .ok (.iload_n 1, 1) := by decide +kernel
theorem dX8_lays_6 : decode cX8_lays 6 = .ok (.iload_n 2, 1) := by decide +kernel
theorem dX8_lays_7 : decode cX8_lays 7 = .ok (.iadd, 1) := by decide +kernel
theorem dX8_lays_8 : decode cX8_lays 8 = .ok (.if_icmp .ge 17, 3) := by decide +kernel
theorem dX8_lays_11 : decode cX8_lays 11 = .ok (.aload_n 0, 1) := by decide +kernel
theorem dX8_lays_12 : decode cX8_lays 12 = .ok (.getfield 19, 3) := by decide +kernel
theorem dX8_lays_15 : decode cX8_lays 15 = .ok (.iload 4, 2) := by decide +kernel
theorem dX8_lays_17 : decode cX8_lays 17 = .ok (.iload_n 3, 1) := by decide +kernel
theorem dX8_lays_18 : decode cX8_lays 18 = .ok (.iastore, 1) := by decide +kernel
theorem dX8_lays_19 : decode cX8_lays 19 = .ok (.iinc 4 1, 3) := by decide +kernel
theorem dX8_lays_22 : decode cX8_lays 22 = .ok (.goto (-19), 3) := by decide +kernel
theorem dX8_lays_25 : decode cX8_lays 25 = .ok (.return_, 1) := by decide +kernel
abbrev mX8_lays : XM := (cX8_lays, 5, RX8, none, shw_8, 0)
noncomputable def rg_X8_lays_0 (k3 : XK) : XK :=
 o_iload 1 <|
 o_istore 4 <|
 o_cut [] k3
def en_X8_lays_0 (p1 : Int) (p2 : Int) (p3 : Int) (a : Ob) : XSt := ([some (.inr (.inl (0, 0))), some (.inl p1), some (.inl p2), some (.inl p3), none], [], [a])
noncomputable def rg_X8_lays_3 (k3 : XK) : XK :=
 o_iload 4 <|
 o_iload 1 <|
 o_iload 2 <|
 o_iadd <|
 o_icmp_ge (o_return)
 (o_aload 0 <|
 o_get shw_8 8 5 <|
 o_iload 4 <|
 o_iload 3 <|
 o_iast shw_8 <|
 o_iinc 4 1 <|
 o_cut [] k3)
def en_X8_lays_3 (p1 : Int) (p2 : Int) (p3 : Int) (a : Int × Ob) : XSt := ([some (.inr (.inl (0, 0))), some (.inl p1), some (.inl p2), some (.inl p3), some (.inl a.1)], [], [a.2])
noncomputable def mg_X8_lays_0 (p1 : Int) (p2 : Int) (p3 : Int) (k3 : (Int × Ob) → Option Rt) (a : Ob) : Option Rt :=
 k3 (p1, a)
set_option maxRecDepth 100000 in
set_option maxHeartbeats 4000000 in
theorem rq_X8_lays_0 (p1 : Int) (p2 : Int) (p3 : Int) (k3 : XK) (a : Ob) : rg_X8_lays_0 k3 (en_X8_lays_0 p1 p2 p3 a) = mg_X8_lays_0 p1 p2 p3 (fun b => k3 (en_X8_lays_3 p1 p2 p3 b)) a := rfl
set_option maxRecDepth 100000 in
set_option maxHeartbeats 4000000 in
theorem sg_X8_lays_0 {X : XDyn} {r0 : Rt} (C : XO X mX8_lays) {k3 : XK} (q3 : XS X mX8_lays r0 3 k3) : XS X mX8_lays r0 0 (rg_X8_lays_0 k3) := by
 unfold rg_X8_lays_0
 exact s_iload_n (pc := 0) C dX8_lays_0 rfl <|
    s_istore (pc := 1) C dX8_lays_1 <|
    s_cut q3
noncomputable def mg_X8_lays_3 (p1 : Int) (p2 : Int) (p3 : Int) (k3 : (Int × Ob) → Option Rt) (a : Int × Ob) : Option Rt :=
 if xw a.1 ≥ xw (p1 + p2) then (RV [a.2])
 else (if xin a.1 200 then (
 k3 ((a.1 + 1), (xset a.2 4 (xw a.1).toNat p3))) else none)
set_option maxRecDepth 100000 in
set_option maxHeartbeats 4000000 in
theorem rq_X8_lays_3 (p1 : Int) (p2 : Int) (p3 : Int) (k3 : XK) (a : Int × Ob) : rg_X8_lays_3 k3 (en_X8_lays_3 p1 p2 p3 a) = mg_X8_lays_3 p1 p2 p3 (fun b => k3 (en_X8_lays_3 p1 p2 p3 b)) a := rfl
set_option maxRecDepth 100000 in
set_option maxHeartbeats 4000000 in
theorem sg_X8_lays_3 {X : XDyn} {r0 : Rt} (C : XO X mX8_lays) {k3 : XK} (q3 : XS X mX8_lays r0 3 k3) : XS X mX8_lays r0 3 (rg_X8_lays_3 k3) := by
 unfold rg_X8_lays_3
 exact s_iload (pc := 3) C dX8_lays_3 <|
    s_iload_n (pc := 5) C dX8_lays_5 rfl <|
    s_iload_n (pc := 6) C dX8_lays_6 rfl <|
    s_iadd (pc := 7) C dX8_lays_7 <|
    s_icmp_ge (pc := 8) C dX8_lays_8 (by decide) (s_return (pc := 25) C rfl dX8_lays_25)
    (s_aload_n (pc := 11) C dX8_lays_11 rfl <|
    s_get (pc := 12) C (ci := 8) (kf := 5) rfl inX8 (by decide) wd_876 dX8_lays_12 <|
    s_iload (pc := 15) C dX8_lays_15 <|
    s_iload_n (pc := 17) C dX8_lays_17 rfl <|
    s_iast (pc := 18) C dX8_lays_18 <|
    s_iinc (pc := 19) C dX8_lays_19 <|
    s_goto (pc := 22) C dX8_lays_22 (by decide) <|
    s_cut q3)
noncomputable def rw_X8_lays_3 (f : Nat) : XK := tlp (fun k3 => rg_X8_lays_3 k3) f
noncomputable def lb_X8_lays_3 (p1 : Int) (p2 : Int) (p3 : Int) (f : Nat) : ((Int × Ob) → Option Rt) → Int × Ob → Option Rt := fun k3 => mg_X8_lays_3 p1 p2 p3 k3
noncomputable def md_X8_lays_3 (p1 : Int) (p2 : Int) (p3 : Int) (f : Nat) : Int × Ob → Option Rt := tlp (lb_X8_lays_3 p1 p2 p3 f) f
theorem eq_X8_lays_3 (p1 : Int) (p2 : Int) (p3 : Int) (f : Nat) (a : Int × Ob) : rw_X8_lays_3 f (en_X8_lays_3 p1 p2 p3 a) = md_X8_lays_3 p1 p2 p3 f a :=
 tlp_enc (en_X8_lays_3 p1 p2 p3) (fun k3 a => (rq_X8_lays_3 p1 p2 p3 k3 a).trans (congrFun (congr (rfl : mg_X8_lays_3 p1 p2 p3 = mg_X8_lays_3 p1 p2 p3) rfl) a)) f a
theorem sd_X8_lays_3 (f : Nat) {X : XDyn} {r0 : Rt} (C : XO X mX8_lays) : XS X mX8_lays r0 3 (rw_X8_lays_3 f) := s_lp (fun k3 q3 => sg_X8_lays_3 C q3) f
noncomputable def rw_X8_lays_0 (f : Nat) : XK := rg_X8_lays_0 (rw_X8_lays_3 f)
noncomputable def md_X8_lays_0 (p1 : Int) (p2 : Int) (p3 : Int) (f : Nat) : Ob → Option Rt := mg_X8_lays_0 p1 p2 p3 (md_X8_lays_3 p1 p2 p3 f)
theorem eq_X8_lays_0 (p1 : Int) (p2 : Int) (p3 : Int) (f : Nat) (a : Ob) : rw_X8_lays_0 f (en_X8_lays_0 p1 p2 p3 a) = md_X8_lays_0 p1 p2 p3 f a :=
 (rq_X8_lays_0 p1 p2 p3 (rw_X8_lays_3 f) a).trans (congrFun (congr (rfl : mg_X8_lays_0 p1 p2 p3 = mg_X8_lays_0 p1 p2 p3) (funext (eq_X8_lays_3 p1 p2 p3 f))) a)
theorem sd_X8_lays_0 (f : Nat) {X : XDyn} {r0 : Rt} (C : XO X mX8_lays) : XS X mX8_lays r0 0 (rw_X8_lays_0 f) := sg_X8_lays_0 C (sd_X8_lays_3 f C)
theorem ctr_X8_lays (f : Nat) : XCt yX8_lays mX8_lays (xF mX8_lays (rw_X8_lays_0 f)) := xMet (by decide +kernel) rfl (fun _ _ C => sd_X8_lays_0 f C)
theorem eqf_X8_lays (f : Nat) (p1 : Int) (p2 : Int) (p3 : Int) (h0 : Ob) : xF mX8_lays (rw_X8_lays_0 f) [.inr (.inl (0, 0)), .inl p1, .inl p2, .inl p3] [h0] = md_X8_lays_0 p1 p2 p3 f h0 := eq_X8_lays_0 p1 p2 p3 f h0
theorem yi_X8_lays : yX8_lays.cls = RX8 ∧ yX8_lays.cls ≠ "java/lang/invoke/MethodHandle" ∧ yX8_lays.cls ≠ "java/lang/invoke/VarHandle" ∧ (parseMethodDescriptor yX8_lays.desc).map (fun d => d.parameters.length) = some 3 := ⟨rfl, by decide +kernel, by decide +kernel, by decide +kernel⟩
theorem sp_X8_lays (f : Nat) (hf : 1000 ≤ f) (p1 p2 p3 : Int) (h0 : Ob) (hg : (decide (0 ≤ xw p1 ∧ 0 ≤ xw p2 ∧ xw p1 + xw p2 ≤ 200)) = true) : md_X8_lays_0 p1 p2 p3 f h0 = RV [(laM h0 p1 p2 p3)] := by
  obtain ⟨g1, g2, g3⟩ := of_decide_eq_true hg
  show md_X8_lays_3 p1 p2 p3 f (p1, h0) = _
  have e0 : xw (p1 + p2) = xw p1 + xw p2 := by
    rw [xw_def] at g1 g2 g3 ⊢
    rw [xw_def] at g3 ⊢
    rw [xw_def]
    omega
  have ei : ∀ n : Nat, (n : Int) ≤ 200 → xw (p1 + (n : Int)) = xw p1 + n := by
    intro n hn
    rw [xw_def] at g1 g3 ⊢
    rw [xw_def]
    rw [xw_def] at g2 g3
    omega
  have e9 : (p1, h0) = (p1 + ((0 : Nat) : Int), h0) := by simp
  rw [e9]
  have L := loop_fold (B := lb_X8_lays_3 p1 p2 p3 f) (xw p2).toNat (fun (m : Ob) (i : Nat) => xset m 4 ((xw p1).toNat + i) p3) (fun m => RV [m]) (fun i s => (p1 + (i : Int), s)) (fun i m => m = laM h0 p1 (i : Int) p3) (fun k i s hi hI => by
    refine ⟨?_, ?_⟩
    · simp only [md_X8_lays_0, mg_X8_lays_0, lb_X8_lays_3, mg_X8_lays_3]
      rw [if_neg (by rw [e0, ei i (by omega)]; omega), xin_of (by rw [ei i (by omega)]; omega) (by rw [ei i (by omega)]; omega), if_pos rfl, ei i (by omega), show (xw p1 + (i : Int)).toNat = (xw p1).toNat + i by omega, show p1 + (i : Int) + 1 = p1 + ((i + 1 : Nat) : Int) by push_cast; omega]
    · subst hI
      funext j q
      unfold xset laM
      rw [xw_nat (by omega), xw_nat (by omega)]
      by_cases h1 : j = 4
      · by_cases h2 : q = (xw p1).toNat + i
        · have h4 : xw p1 ≤ (q : Int) ∧ (q : Int) < xw p1 + ((i + 1 : Nat) : Int) := by push_cast; omega
          rw [if_pos ⟨h1, h2⟩, if_pos ⟨h1, h4⟩]
        · by_cases h3 : xw p1 ≤ (q : Int) ∧ (q : Int) < xw p1 + (i : Int)
          · have h4 : xw p1 ≤ (q : Int) ∧ (q : Int) < xw p1 + ((i + 1 : Nat) : Int) := by push_cast; omega
            rw [if_neg (fun z => h2 z.2), if_pos ⟨h1, h3⟩, if_pos ⟨h1, h4⟩]
          · have h4 : ¬ (xw p1 ≤ (q : Int) ∧ (q : Int) < xw p1 + ((i + 1 : Nat) : Int)) := by push_cast; omega
            rw [if_neg (fun z => h2 z.2), if_neg (fun z => h3 z.2), if_neg (fun z => h4 z.2)]
      · rw [if_neg (fun z => h1 z.1), if_neg (fun z => h1 z.1), if_neg (fun z => h1 z.1)]) (fun k s _ => by
    simp only [md_X8_lays_0, mg_X8_lays_0, lb_X8_lays_3, mg_X8_lays_3]
    rw [if_pos (by rw [e0, ei _ (by omega)]; omega)]) f h0 (by omega) (by
    funext j q
    unfold laM
    rw [xw_nat (by omega)]
    have : ¬ (xw p1 ≤ (q : Int) ∧ (q : Int) < xw p1 + ((0 : Nat) : Int)) := by omega
    rw [if_neg (fun z => this z.2)])
  refine Eq.trans (b := _) L.1 ?_
  rw [L.2]
  have e8 : laM h0 p1 (((xw p2).toNat : Nat) : Int) p3 = laM h0 p1 p2 p3 := by
    funext j q
    unfold laM
    rw [xw_nat (by omega), show (((xw p2).toNat : Nat) : Int) = xw p2 by omega]
  rw [e8]
noncomputable def g_X8_lays : List AV → List Ob → Bool
  | [.inr (.inl (0, 0)), .inl p1, .inl p2, .inl p3], [h0] => decide (0 ≤ xw p1 ∧ 0 ≤ xw p2 ∧ xw p1 + xw p2 ≤ 200)
  | _, _ => false
noncomputable def v_X8_lays : List AV → List Ob → Rt
  | [.inr (.inl (0, 0)), .inl p1, .inl p2, .inl p3], [h0] => (none, [(laM h0 p1 p2 p3)])
  | _, _ => (none, [])
theorem ct_X8_lays : XCt yX8_lays mX8_lays (fun as μ => if g_X8_lays as μ then some (v_X8_lays as μ) else none) := (ctr_X8_lays xfu).of (fun as μ r h => by
  split at h
  · rename_i hg
    unfold g_X8_lays at hg
    split at hg
    · rw [← h]
      exact (eqf_X8_lays xfu _ _ _ _).trans (sp_X8_lays xfu (xfu_ge (by decide)) _ _ _ _ hg)
    · cases hg
  · cases h)
