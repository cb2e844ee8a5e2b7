def hgF (A r : Ob) (n : Int) : Bool := decide (lfind (fun g => decide (xw n ≤ xw (A 5 g))) (r 0 2).toNat ≠ -1)
/-- the begins of the movable blocks, as they lie -/
noncomputable def mvl (h : Ob) : List Int := xop ((wls h (h 0 9)).filter (fun k => mov h (hol h k)))
theorem mvl_e (h : Ob) : mvl h = (wls h (h 0 9)).filter (fun k => mov h (hol h k)) := xop_eq _
noncomputable def lsOb (A G h : Ob) (s : List Int) : Ob := fun j i =>
  if j = 0 then (if i = 7 then (s.length : Int) else A 0 i)
  else if j = 1 then (match s[i]? with | some k => hol h k | none => A 1 i)
  else if j = 2 then (match s[i]? with | some k => h 2 (hol h k).toNat + 1 | none => A 2 i)
  else if j = 3 then (match s[i]? with | some k => rwF G k | none => A 3 i)
  else A j i
noncomputable def lsO (A G h : Ob) : Ob := lsOb A G h (mvl h)
theorem lsOb_nil (A G h : Ob) : xset A 0 7 0 = lsOb A G h [] := by
  funext j i
  unfold xset lsOb
  by_cases h0 : j = 0
  · subst h0
    by_cases h7 : i = 7
    · simp [h7]
    · simp [h7]
  · simp only [h0, false_and, if_false, List.getElem?_nil]
    split
    · rename_i h1; rw [h1]
    · split
      · rename_i h1; rw [h1]
      · split
        · rename_i h1; rw [h1]
        · rfl
theorem lsOb_add (A G h : Ob) (s : List Int) (k : Int) : xset (xset (xset (xset (lsOb A G h s) 1 s.length (hol h k)) 2 s.length (h 2 (hol h k).toNat + 1)) 3 s.length (rwF G k)) 0 7 ((s.length : Int) + 1) = lsOb A G h (s ++ [k]) := by
  funext j i
  have hl : (s ++ [k])[i]? = if i = s.length then some k else s[i]? := by
    by_cases hi : i = s.length
    · rw [if_pos hi, hi, List.getElem?_append_right (Nat.le_refl _), Nat.sub_self]; rfl
    · rw [if_neg hi]
      by_cases hi2 : i < s.length
      · rw [List.getElem?_append_left hi2]
      · rw [List.getElem?_eq_none (by simp; omega), List.getElem?_eq_none (by omega)]
  unfold lsOb
  simp only [hl, List.length_append, List.length_singleton]
  unfold xset
  by_cases h0 : j = 0
  · subst h0
    by_cases h7 : i = 7
    · simp [h7]
    · simp [h7]
  · by_cases h1 : j = 1
    · subst h1
      by_cases hi : i = s.length <;> simp [hi]
    · by_cases h2 : j = 2
      · subst h2
        by_cases hi : i = s.length <;> simp [hi]
      · by_cases h3 : j = 3
        · subst h3
          by_cases hi : i = s.length <;> simp [hi]
        · simp [h0, h1, h2, h3]
theorem lsOb_cnt (A G h : Ob) (s : List Int) : lsOb A G h s 0 7 = (s.length : Int) := rfl
theorem foldl_filter_app {α : Type} (p : α → Bool) : ∀ (l s : List α), l.foldl (fun s k => if p k then s ++ [k] else s) s = s ++ l.filter p
  | [], s => by simp
  | a :: l, s => by
    rw [List.foldl_cons, foldl_filter_app p l, List.filter_cons]
    split <;> simp
theorem wrun_inl {S : Type} (g : S → Int → S) (R : S → Option Rt) : ∀ (l : List Int) (s : S), wrun (fun s k => .inl (g s k)) R l s = R (l.foldl g s)
  | [], s => rfl
  | a :: l, s => by
    show wrun _ R l (g s a) = _
    rw [wrun_inl g R l]
    rfl
/-- movable blocks below k: no more than the handles that begin below k -/
def mvc (h : Ob) (k : Int) : Nat := (List.range 8).countP (fun i => !decide (h 1 i = -1) && decide (h 1 i < k))
theorem mvc_le (h : Ob) (k : Int) : mvc h k ≤ 8 := by
  have := List.countP_le_length (p := fun i => !decide (h 1 i = -1) && decide (h 1 i < k)) (l := List.range 8)
  simpa [mvc] using this
theorem mvc_mono (h : Ob) {k k' : Int} (hk : k ≤ k') : mvc h k ≤ mvc h k' := List.countP_mono_left (fun i _ hi => by
  simp only [Bool.and_eq_true, decide_eq_true_eq] at hi ⊢
  exact ⟨hi.1, by omega⟩)
theorem LW.movat {h : Ob} (hL : LW h) {k : Int} (hk : 0 ≤ k) (hk2 : k < 200) (hm : mov h (hol h k) = true) : ∃ i : Nat, i < 8 ∧ h 1 i = k ∧ hol h k = (i : Int) := by
  rcases hL.holc (k := k) hk (by omega) with ⟨i, g1, g2, g3⟩ | ⟨g1, g3⟩
  · refine ⟨i, ?_, g2, g3⟩
    rw [g3] at hm
    have := mov_lt hm
    rw [xw_nat (by omega)] at this
    omega
  · rw [g3] at hm
    have := (mov_lt hm).1
    rw [xwm1] at this
    omega
theorem LW.mvc_lt {h : Ob} (hL : LW h) {k k' : Int} (hk : 0 ≤ k) (hk2 : k < 200) (hm : mov h (hol h k) = true) (hkk : k < k') : mvc h k + 1 ≤ mvc h k' := by
  obtain ⟨i, h1, h2, h3⟩ := hL.movat hk hk2 hm
  refine countP_lt _ _ (fun x hx => ?_) (List.range 8) i (List.mem_range.mpr h1) ?_ ?_
  · simp only [Bool.and_eq_true, decide_eq_true_eq] at hx ⊢
    exact ⟨hx.1, by omega⟩
  · simp only [Bool.and_eq_true, Bool.not_eq_true', decide_eq_false_iff_not, decide_eq_true_eq]; omega
  · simp only [Bool.and_eq_false_iff, decide_eq_false_iff_not]; omega
theorem dX0_hasGapWith_0 : decode cX0_hasGapWith 0 = .ok (.iconst 0, 1) := by decide +kernel
theorem dX0_hasGapWith_1 : decode cX0_hasGapWith 1 = .ok (.istore_n 2, 1) := by decide +kernel
theorem dX0_hasGapWith_2 : decode cX0_hasGapWith 2 = .ok (.iload_n 2, 1) := by decide +kernel
theorem dX0_hasGapWith_3 : decode cX0_hasGapWith 3 = .ok (.aload_n 0, 1) := by decide +kernel
theorem dX0_hasGapWith_4 : decode cX0_hasGapWith 4 = .ok (.getfield 12, 3) := by decide +kernel
theorem dX0_hasGapWith_7 : decode cX0_hasGapWith 7 = .ok (.getfield 115, 3) := by decide +kernel
theorem dX0_hasGapWith_10 : decode cX0_hasGapWith 10 = .ok (.if_icmp .ge 21, 3) := by decide +kernel
theorem dX0_hasGapWith_13 : decode cX0_hasGapWith 13 = .ok (.aload_n 0, 1) := by decide +kernel
theorem dX0_hasGapWith_14 : decode cX0_hasGapWith 14 = .ok (.getfield 38, 3) := by decide +kernel
theorem dX0_hasGapWith_17 : decode cX0_hasGapWith 17 = .ok (.iload_n 2, 1) := by decide +kernel
theorem dX0_hasGapWith_18 : decode cX0_hasGapWith 18 = .ok (.iaload, 1) := by decide +kernel
theorem dX0_hasGapWith_19 : decode cX0_hasGapWith 19 = .ok (.iload_n 1, 1) := by decide +kernel
theorem dX0_hasGapWith_20 : decode cX0_hasGapWith 20 = .ok (.if_icmp .lt 5, 3) := by decide +kernel
theorem dX0_hasGapWith_23 : decode cX0_hasGapWith 23 = .ok (.iconst 1, 1) := by decide +kernel
theorem dX0_hasGapWith_24 : decode cX0_hasGapWith 24 = .ok (.ireturn, 1) := by decide +kernel
theorem dX0_hasGapWith_25 : decode cX0_hasGapWith 25 = .ok (.iinc 2 1, 3) := by decide +kernel
theorem dX0_hasGapWith_28 : decode cX0_hasGapWith 28 = .ok (.goto (-26), 3) := by decide +kernel
theorem dX0_hasGapWith_31 : decode cX0_hasGapWith 31 = .ok (.iconst 0, 1) := by decide +kernel
theorem dX0_hasGapWith_32 : decode cX0_hasGapWith 32 = .ok (.ireturn, 1) := by decide +kernel
abbrev mX0_hasGapWith : XM := (cX0_hasGapWith, 3, RX0, (some .boolean), shw_0_6_4, 0)
noncomputable def rg_X0_hasGapWith_0 (k2 : XK) : XK :=
 o_iconst 0 <|
 o_istore 2 <|
 o_cut [] k2
def en_X0_hasGapWith_0 (p1 : Int) (h0 : Ob) (h1 : Ob) (h2 : Ob) (a : Unit) : XSt := ([some (.inr (.inl (0, 0))), some (.inl p1), none], [], [h0, h1, h2])
noncomputable def rg_X0_hasGapWith_2 (k2 : XK) : XK :=
 o_iload 2 <|
 o_aload 0 <|
 o_get shw_0_6_4 0 0 <|
 o_get shw_0_6_4 6 2 <|
 o_icmp_ge (o_iconst 0 <|
 o_zreturn)
 (o_aload 0 <|
 o_get shw_0_6_4 0 6 <|
 o_iload 2 <|
 o_iald shw_0_6_4 <|
 o_iload 1 <|
 o_icmp_lt (o_iinc 2 1 <|
 o_cut [] k2)
 (o_iconst 1 <|
 o_zreturn))
def en_X0_hasGapWith_2 (p1 : Int) (h0 : Ob) (h1 : Ob) (h2 : Ob) (a : Int) : XSt := ([some (.inr (.inl (0, 0))), some (.inl p1), some (.inl a)], [], [h0, h1, h2])
noncomputable def mg_X0_hasGapWith_0 (p1 : Int) (h0 : Ob) (h1 : Ob) (h2 : Ob) (k2 : Int → Option Rt) (a : Unit) : Option Rt :=
 k2 0
set_option maxRecDepth 100000 in
set_option maxHeartbeats 4000000 in
theorem rq_X0_hasGapWith_0 (p1 : Int) (h0 : Ob) (h1 : Ob) (h2 : Ob) (k2 : XK) (a : Unit) : rg_X0_hasGapWith_0 k2 (en_X0_hasGapWith_0 p1 h0 h1 h2 a) = mg_X0_hasGapWith_0 p1 h0 h1 h2 (fun b => k2 (en_X0_hasGapWith_2 p1 h0 h1 h2 b)) a := rfl
set_option maxRecDepth 100000 in
set_option maxHeartbeats 4000000 in
theorem sg_X0_hasGapWith_0 {X : XDyn} {r0 : Rt} (C : XO X mX0_hasGapWith) {k2 : XK} (q2 : XS X mX0_hasGapWith r0 2 k2) : XS X mX0_hasGapWith r0 0 (rg_X0_hasGapWith_0 k2) := by
 unfold rg_X0_hasGapWith_0
 exact s_iconst (pc := 0) C dX0_hasGapWith_0 <|
    s_istore_n (pc := 1) C dX0_hasGapWith_1 rfl <|
    s_cut q2
noncomputable def mg_X0_hasGapWith_2 (p1 : Int) (h0 : Ob) (h1 : Ob) (h2 : Ob) (k2 : Int → Option Rt) (a : Int) : Option Rt :=
 if xw a ≥ xw (h1 0 2) then (RI 0 [h0, h1, h2])
 else (if xin a 12 then (
 if xw (h0 5 (xw a).toNat) < xw p1 then (k2 (a + 1))
 else (RI 1 [h0, h1, h2])) else none)
set_option maxRecDepth 100000 in
set_option maxHeartbeats 4000000 in
theorem rq_X0_hasGapWith_2 (p1 : Int) (h0 : Ob) (h1 : Ob) (h2 : Ob) (k2 : XK) (a : Int) : rg_X0_hasGapWith_2 k2 (en_X0_hasGapWith_2 p1 h0 h1 h2 a) = mg_X0_hasGapWith_2 p1 h0 h1 h2 (fun b => k2 (en_X0_hasGapWith_2 p1 h0 h1 h2 b)) a := rfl
set_option maxRecDepth 100000 in
set_option maxHeartbeats 4000000 in
theorem sg_X0_hasGapWith_2 {X : XDyn} {r0 : Rt} (C : XO X mX0_hasGapWith) {k2 : XK} (q2 : XS X mX0_hasGapWith r0 2 k2) : XS X mX0_hasGapWith r0 2 (rg_X0_hasGapWith_2 k2) := by
 unfold rg_X0_hasGapWith_2
 exact s_iload_n (pc := 2) C dX0_hasGapWith_2 rfl <|
    s_aload_n (pc := 3) C dX0_hasGapWith_3 rfl <|
    s_get (pc := 4) C (ci := 0) (kf := 0) rfl inX0 (by decide) wd_252 dX0_hasGapWith_4 <|
    s_get (pc := 7) C (ci := 6) (kf := 2) rfl inX6 (by decide) wd_204 dX0_hasGapWith_7 <|
    s_icmp_ge (pc := 10) C dX0_hasGapWith_10 (by decide) (s_iconst (pc := 31) C dX0_hasGapWith_31 <|
    s_zreturn (pc := 32) C rfl dX0_hasGapWith_32)
    (s_aload_n (pc := 13) C dX0_hasGapWith_13 rfl <|
    s_get (pc := 14) C (ci := 0) (kf := 6) rfl inX0 (by decide) wd_258 dX0_hasGapWith_14 <|
    s_iload_n (pc := 17) C dX0_hasGapWith_17 rfl <|
    s_iald (pc := 18) C dX0_hasGapWith_18 <|
    s_iload_n (pc := 19) C dX0_hasGapWith_19 rfl <|
    s_icmp_lt (pc := 20) C dX0_hasGapWith_20 (by decide) (s_iinc (pc := 25) C dX0_hasGapWith_25 <|
    s_goto (pc := 28) C dX0_hasGapWith_28 (by decide) <|
    s_cut q2)
    (s_iconst (pc := 23) C dX0_hasGapWith_23 <|
    s_zreturn (pc := 24) C rfl dX0_hasGapWith_24))
noncomputable def rw_X0_hasGapWith_2 (f : Nat) : XK := tlp (fun k2 => rg_X0_hasGapWith_2 k2) f
noncomputable def lb_X0_hasGapWith_2 (p1 : Int) (h0 : Ob) (h1 : Ob) (h2 : Ob) (f : Nat) : ((Int) → Option Rt) → Int → Option Rt := fun k2 => mg_X0_hasGapWith_2 p1 h0 h1 h2 k2
noncomputable def md_X0_hasGapWith_2 (p1 : Int) (h0 : Ob) (h1 : Ob) (h2 : Ob) (f : Nat) : Int → Option Rt := tlp (lb_X0_hasGapWith_2 p1 h0 h1 h2 f) f
theorem eq_X0_hasGapWith_2 (p1 : Int) (h0 : Ob) (h1 : Ob) (h2 : Ob) (f : Nat) (a : Int) : rw_X0_hasGapWith_2 f (en_X0_hasGapWith_2 p1 h0 h1 h2 a) = md_X0_hasGapWith_2 p1 h0 h1 h2 f a :=
 tlp_enc (en_X0_hasGapWith_2 p1 h0 h1 h2) (fun k2 a => (rq_X0_hasGapWith_2 p1 h0 h1 h2 k2 a).trans (congrFun (congr (rfl : mg_X0_hasGapWith_2 p1 h0 h1 h2 = mg_X0_hasGapWith_2 p1 h0 h1 h2) rfl) a)) f a
theorem sd_X0_hasGapWith_2 (f : Nat) {X : XDyn} {r0 : Rt} (C : XO X mX0_hasGapWith) : XS X mX0_hasGapWith r0 2 (rw_X0_hasGapWith_2 f) := s_lp (fun k2 q2 => sg_X0_hasGapWith_2 C q2) f
noncomputable def rw_X0_hasGapWith_0 (f : Nat) : XK := rg_X0_hasGapWith_0 (rw_X0_hasGapWith_2 f)
noncomputable def md_X0_hasGapWith_0 (p1 : Int) (h0 : Ob) (h1 : Ob) (h2 : Ob) (f : Nat) : Unit → Option Rt := mg_X0_hasGapWith_0 p1 h0 h1 h2 (md_X0_hasGapWith_2 p1 h0 h1 h2 f)
theorem eq_X0_hasGapWith_0 (p1 : Int) (h0 : Ob) (h1 : Ob) (h2 : Ob) (f : Nat) (a : Unit) : rw_X0_hasGapWith_0 f (en_X0_hasGapWith_0 p1 h0 h1 h2 a) = md_X0_hasGapWith_0 p1 h0 h1 h2 f a :=
 (rq_X0_hasGapWith_0 p1 h0 h1 h2 (rw_X0_hasGapWith_2 f) a).trans (congrFun (congr (rfl : mg_X0_hasGapWith_0 p1 h0 h1 h2 = mg_X0_hasGapWith_0 p1 h0 h1 h2) (funext (eq_X0_hasGapWith_2 p1 h0 h1 h2 f))) a)
theorem sd_X0_hasGapWith_0 (f : Nat) {X : XDyn} {r0 : Rt} (C : XO X mX0_hasGapWith) : XS X mX0_hasGapWith r0 0 (rw_X0_hasGapWith_0 f) := sg_X0_hasGapWith_0 C (sd_X0_hasGapWith_2 f C)
theorem ctr_X0_hasGapWith (f : Nat) : XCt yX0_hasGapWith mX0_hasGapWith (xF mX0_hasGapWith (rw_X0_hasGapWith_0 f)) := xMet (by decide +kernel) rfl (fun _ _ C => sd_X0_hasGapWith_0 f C)
theorem eqf_X0_hasGapWith (f : Nat) (p1 : Int) (h0 : Ob) (h1 : Ob) (h2 : Ob) : xF mX0_hasGapWith (rw_X0_hasGapWith_0 f) [.inr (.inl (0, 0)), .inl p1] [h0, h1, h2] = md_X0_hasGapWith_0 p1 h0 h1 h2 f () := eq_X0_hasGapWith_0 p1 h0 h1 h2 f ()
theorem yi_X0_hasGapWith : yX0_hasGapWith.cls = RX0 ∧ yX0_hasGapWith.cls ≠ "java/lang/invoke/MethodHandle" ∧ yX0_hasGapWith.cls ≠ "java/lang/invoke/VarHandle" ∧ (parseMethodDescriptor yX0_hasGapWith.desc).map (fun d => d.parameters.length) = some 1 := ⟨rfl, by decide +kernel, by decide +kernel, by decide +kernel⟩
theorem sp_X0_hasGapWith (f : Nat) (hf : 1000 ≤ f) (p1 : Int) (h0 h1 h2 : Ob) (hg : rk h1 = true) : md_X0_hasGapWith_0 p1 h0 h1 h2 f () = RI (bz (hgF h0 h1 p1)) [h0, h1, h2] := by
  obtain ⟨g1, g2⟩ := rk_iff.mp hg
  have hx : xw (h1 0 2) = h1 0 2 := xw_id (by omega) (by omega)
  show md_X0_hasGapWith_2 p1 h0 h1 h2 f 0 = _
  have := loop_find (B := lb_X0_hasGapWith_2 p1 h0 h1 h2 f) (h1 0 2).toNat (fun g => decide (xw p1 ≤ xw (h0 5 g))) (fun i => RI (bz (decide (i ≠ -1))) [h0, h1, h2]) (fun i => (i : Int)) (fun k i hi => by
    simp only [lb_X0_hasGapWith_2, mg_X0_hasGapWith_2, hx, xw_nat (show i < 2147483648 by omega), xin_nat (show i < 12 by omega) (show 12 ≤ 2147483648 by omega), toNat_nat, if_true]
    rw [if_neg (by omega)]
    by_cases hc : xw (h0 5 i) < xw p1
    · rw [if_pos hc, if_neg (by simp; omega)]
      rfl
    · rw [if_neg hc, if_pos (by simp; omega), decide_eq_true (by omega)]
      rfl) (fun k => by
    simp only [lb_X0_hasGapWith_2, mg_X0_hasGapWith_2, hx, xw_nat (show (h1 0 2).toNat < 2147483648 by omega)]
    rw [if_pos (by omega)]
    rfl) f (by omega)
  exact this
noncomputable def g_X0_hasGapWith : List AV → List Ob → Bool
  | [.inr (.inl (0, 0)), .inl p1], [h0, h1, h2] => rk h1
  | _, _ => false
noncomputable def v_X0_hasGapWith : List AV → List Ob → Rt
  | [.inr (.inl (0, 0)), .inl p1], [h0, h1, h2] => (some (.inl (bz (hgF h0 h1 p1))), [h0, h1, h2])
  | _, _ => (none, [])
theorem ct_X0_hasGapWith : XCt yX0_hasGapWith mX0_hasGapWith (fun as μ => if g_X0_hasGapWith as μ then some (v_X0_hasGapWith as μ) else none) := (ctr_X0_hasGapWith xfu).of (fun as μ r h => by
  split at h
  · rename_i hg
    unfold g_X0_hasGapWith at hg
    split at hg
    · rw [← h]
      exact (eqf_X0_hasGapWith xfu _ _ _ _).trans (sp_X0_hasGapWith xfu (xfu_ge (by decide)) _ _ _ _ hg)
    · cases hg
  · cases h)
theorem dX0_list_0 : decode cX0_list 0 = .ok (.aload_n 0, 1) := by decide +kernel
theorem dX0_list_1 : decode cX0_list 1 = .ok (.iconst 0, 1) := by decide +kernel
theorem dX0_list_2 : decode cX0_list 2 = .ok (.putfield 71, 3) := by decide +kernel
theorem dX0_list_5 : decode cX0_list 5 = .ok (.iconst 0, 1) := by decide +kernel
theorem dX0_list_6 : decode cX0_list 6 = .ok (.istore_n 2, 1) := by decide +kernel
theorem dX0_list_7 : decode cX0_list 7 = .ok (.iload_n 2, 1) := by decide +kernel
theorem dX0_list_8 : decode cX0_list 8 = .ok (.aload_n 1, 1) := by decide +kernel
theorem dX0_list_9 : decode cX0_list 9 = .ok (.getfield 47, 3) := by decide +kernel
theorem dX0_list_12 : decode cX0_list 12 = .ok (.if_icmp .ge 99, 3) := by decide +kernel
theorem dX0_list_15 : decode cX0_list 15 = .ok (.aload_n 1, 1) := by decide +kernel
theorem dX0_list_16 : decode cX0_list 16 = .ok (.iload_n 2, 1) := by decide +kernel
theorem dX0_list_17 : decode cX0_list 17 = .ok (.invokevirtual 89, 3) := by decide +kernel
theorem dX0_list_20 : decode cX0_list 20 = .ok (.istore_n 3, 1) := by decide +kernel
theorem dX0_list_21 : decode cX0_list 21 = .ok (.aload_n 1, 1) := by decide +kernel
theorem dX0_list_22 : decode cX0_list 22 = .ok (.iload_n 3, 1) := by decide +kernel
theorem dX0_list_23 : decode cX0_list 23 = .ok (.invokevirtual 93, 3) := by decide +kernel
theorem dX0_list_26 : decode cX0_list 26 = .ok (.ifCond .eq 66, 3) := by decide +kernel
theorem dX0_list_29 : decode cX0_list 29 = .ok (.aload_n 0, 1) := by decide +kernel
theorem dX0_list_30 : decode cX0_list 30 = .ok (.getfield 71, 3) := by decide +kernel
theorem dX0_list_33 : decode cX0_list 33 = .ok (.bipush 8, 2) := by decide +kernel
theorem dX0_list_35 : decode cX0_list 35 = .ok (.if_icmp .ge 57, 3) := by decide +kernel
theorem dX0_list_38 : decode cX0_list 38 = .ok (.aload_n 0, 1) := by decide +kernel
theorem dX0_list_39 : decode cX0_list 39 = .ok (.getfield 25, 3) := by decide +kernel
theorem dX0_list_42 : decode cX0_list 42 = .ok (.aload_n 0, 1) := by decide +kernel
theorem dX0_list_43 : decode cX0_list 43 = .ok (.getfield 71, 3) := by decide +kernel
theorem dX0_list_46 : decode cX0_list 46 = .ok (.iload_n 3, 1) := by decide +kernel
theorem dX0_list_47 : decode cX0_list 47 = .ok (.iastore, 1) := by decide +kernel
theorem dX0_list_48 : decode cX0_list 48 = .ok (.aload_n 0, 1) := by decide +kernel
theorem dX0_list_49 : decode cX0_list 49 = .ok (.getfield 29, 3) := by decide +kernel
theorem dX0_list_52 : decode cX0_list 52 = .ok (.aload_n 0, 1) := by decide +kernel
theorem dX0_list_53 : decode cX0_list 53 = .ok (.getfield 71, 3) := by decide +kernel
theorem dX0_list_56 : decode cX0_list 56 = .ok (.aload_n 1, 1) := by decide +kernel
theorem dX0_list_57 : decode cX0_list 57 = .ok (.getfield 97, 3) := by decide +kernel
theorem dX0_list_60 : decode cX0_list 60 = .ok (.iload_n 3, 1) := by decide +kernel
theorem dX0_list_61 : decode cX0_list 61 = .ok (.iaload, 1) := by decide +kernel
theorem dX0_list_62 : decode cX0_list 62 = .ok (.iconst 1, 1) := by decide +kernel
theorem dX0_list_63 : decode cX0_list 63 = .ok (.iadd, 1) := by decide +kernel
theorem dX0_list_64 : decode cX0_list 64 = .ok (.iastore, 1) := by decide +kernel
theorem dX0_list_65 : decode cX0_list 65 = .ok (.aload_n 0, 1) := by decide +kernel
theorem dX0_list_66 : decode cX0_list 66 = .ok (.getfield 32, 3) := by decide +kernel
theorem dX0_list_69 : decode cX0_list 69 = .ok (.aload_n 0, 1) := by decide +kernel
theorem dX0_list_70 : decode cX0_list 70 = .ok (.getfield 71, 3) := by decide +kernel
theorem dX0_list_73 : decode cX0_list 73 = .ok (.aload_n 0, 1) := by decide +kernel
theorem dX0_list_74 : decode cX0_list 74 = .ok (.getfield 12, 3) := by decide +kernel
theorem dX0_list_77 : decode cX0_list 77 = .ok (.iload_n 2, 1) := by decide +kernel
theorem dX0_list_78 : decode cX0_list 78 = .ok (.invokevirtual 100, 3) := by decide +kernel
theorem dX0_list_81 : decode cX0_list 81 = .ok (.iastore, 1) := by decide +kernel
theorem dX0_list_82 : decode cX0_list 82 = .ok (.aload_n 0, 1) := by decide +kernel
theorem dX0_list_83 : decode cX0_list 83 = .ok (.dup, 1) := by decide +kernel
theorem dX0_list_84 : decode cX0_list 84 = .ok (.getfield 71, 3) := by decide +kernel
theorem dX0_list_87 : decode cX0_list 87 = .ok (.iconst 1, 1) := by decide +kernel
theorem dX0_list_88 : decode cX0_list 88 = .ok (.iadd, 1) := by decide +kernel
theorem dX0_list_89 : decode cX0_list 89 = .ok (.putfield 71, 3) := by decide +kernel
theorem dX0_list_92 : decode cX0_list 92 = .ok (.iload_n 2, 1) := by decide +kernel
theorem dX0_list_93 : decode cX0_list 93 = .ok (.iconst 1, 1) := by decide +kernel
theorem dX0_list_94 : decode cX0_list 94 = .ok (.iadd, 1) := by decide +kernel
theorem dX0_list_95 : decode cX0_list 95 = .ok (.aload_n 1, 1) := by decide +kernel
theorem dX0_list_96 : decode cX0_list 96 = .ok (.iload_n 2, 1) := by decide +kernel
theorem dX0_list_97 : decode cX0_list 97 = .ok (.aload_n 1, 1) := by decide +kernel
theorem dX0_list_98 : decode cX0_list 98 = .ok (.getfield 47, 3) := by decide +kernel
theorem dX0_list_101 : decode cX0_list 101 = .ok (.invokevirtual 103, 3) := by decide +kernel
theorem dX0_list_104 : decode cX0_list 104 = .ok (.invokestatic 107, 3) := by decide +kernel
theorem dX0_list_107 : decode cX0_list 107 = .ok (.istore_n 2, 1) := by decide +kernel
theorem dX0_list_108 : decode cX0_list 108 = .ok (.goto (-101), 3) := by decide +kernel
theorem dX0_list_111 : decode cX0_list 111 = .ok (.return_, 1) := by decide +kernel
abbrev mX0_list : XM := (cX0_list, 4, RX0, none, shw_0_6_4_3, 1)
noncomputable def rg_X0_list_0 (k7 : XK) : XK :=
 o_aload 0 <|
 o_iconst 0 <|
 o_put shw_0_6_4_3 0 7 false <|
 o_iconst 0 <|
 o_istore 2 <|
 o_cut [] k7
def en_X0_list_0 (h1 : Ob) (h2 : Ob) (h3 : Ob) (a : Ob) : XSt := ([some (.inr (.inl (0, 0))), some (.inr (.inl (3, 0))), none, none], [], [a, h1, h2, h3])
noncomputable def rg_X0_list_7 (k92 : XK) : XK :=
 o_iload 2 <|
 o_aload 1 <|
 o_get shw_0_6_4_3 3 9 <|
 o_icmp_ge (o_return)
 (o_aload 1 <|
 o_iload 2 <|
 o_callV 2 1 [3] f_X3_holderAt <|
 o_istore 3 <|
 o_aload 1 <|
 o_iload 3 <|
 o_callV 2 1 [3] f_X3_isMovable <|
 o_if_eq (o_cut [3] k92)
 (o_aload 0 <|
 o_get shw_0_6_4_3 0 7 <|
 o_iconst 8 <|
 o_icmp_ge (o_cut [3] k92)
 (o_aload 0 <|
 o_get shw_0_6_4_3 0 2 <|
 o_aload 0 <|
 o_get shw_0_6_4_3 0 7 <|
 o_iload 3 <|
 o_iast shw_0_6_4_3 <|
 o_aload 0 <|
 o_get shw_0_6_4_3 0 3 <|
 o_aload 0 <|
 o_get shw_0_6_4_3 0 7 <|
 o_aload 1 <|
 o_get shw_0_6_4_3 3 1 <|
 o_iload 3 <|
 o_iald shw_0_6_4_3 <|
 o_iconst 1 <|
 o_iadd <|
 o_iast shw_0_6_4_3 <|
 o_aload 0 <|
 o_get shw_0_6_4_3 0 4 <|
 o_aload 0 <|
 o_get shw_0_6_4_3 0 7 <|
 o_aload 0 <|
 o_get shw_0_6_4_3 0 0 <|
 o_iload 2 <|
 o_callVg 2 1 [1] g_X6_runWith v_X6_runWith <|
 o_iast shw_0_6_4_3 <|
 o_aload 0 <|
 o_dup <|
 o_get shw_0_6_4_3 0 7 <|
 o_iconst 1 <|
 o_iadd <|
 o_put shw_0_6_4_3 0 7 false <|
 o_cut [3] k92)))
def en_X0_list_7 (h1 : Ob) (h2 : Ob) (h3 : Ob) (a : Int × Ob) : XSt := ([some (.inr (.inl (0, 0))), some (.inr (.inl (3, 0))), some (.inl a.1), none], [], [a.2, h1, h2, h3])
noncomputable def rg_X0_list_92 (k7 : XK) : XK :=
 o_iload 2 <|
 o_iconst 1 <|
 o_iadd <|
 o_aload 1 <|
 o_iload 2 <|
 o_aload 1 <|
 o_get shw_0_6_4_3 3 9 <|
 o_callV 3 1 [3] f_X3_endAt <|
 o_max <|
 o_istore 2 <|
 o_cut [] k7
def en_X0_list_92 (h1 : Ob) (h2 : Ob) (h3 : Ob) (a : Int × Ob) : XSt := ([some (.inr (.inl (0, 0))), some (.inr (.inl (3, 0))), some (.inl a.1), none], [], [a.2, h1, h2, h3])
noncomputable def mg_X0_list_0 (h1 : Ob) (h2 : Ob) (h3 : Ob) (k7 : (Int × Ob) → Option Rt) (a : Ob) : Option Rt :=
 k7 (0, (xset a 0 7 0))
set_option maxRecDepth 100000 in
set_option maxHeartbeats 4000000 in
theorem rq_X0_list_0 (h1 : Ob) (h2 : Ob) (h3 : Ob) (k7 : XK) (a : Ob) : rg_X0_list_0 k7 (en_X0_list_0 h1 h2 h3 a) = mg_X0_list_0 h1 h2 h3 (fun b => k7 (en_X0_list_7 h1 h2 h3 b)) a := rfl
set_option maxRecDepth 100000 in
set_option maxHeartbeats 4000000 in
theorem sg_X0_list_0 {X : XDyn} {r0 : Rt} (C : XO X mX0_list) {k7 : XK} (q7 : XS X mX0_list r0 7 k7) : XS X mX0_list r0 0 (rg_X0_list_0 k7) := by
 unfold rg_X0_list_0
 exact s_aload_n (pc := 0) C dX0_list_0 rfl <|
    s_iconst (pc := 1) C dX0_list_1 <|
    s_put (pc := 2) (z := false) C (ci := 0) (kf := 7) rfl inX0 tyX0_ok nmX0 (by decide) wd_259 rfl rfl dX0_list_2 <|
    s_iconst (pc := 5) C dX0_list_5 <|
    s_istore_n (pc := 6) C dX0_list_6 rfl <|
    s_cut q7
noncomputable def mg_X0_list_7 (h1 : Ob) (h2 : Ob) (h3 : Ob) (k92 : (Int × Ob) → Option Rt) (a : Int × Ob) : Option Rt :=
 if xw a.1 ≥ xw (h3 0 9) then (RV [a.2, h1, h2, h3])
 else (if xw (bz (mov h3 (hol h3 a.1))) = 0 then (k92 (a.1, a.2))
 else (if xw (a.2 0 7) ≥ 8 then (k92 (a.1, a.2))
 else (if xin (a.2 0 7) 8 then (
 if xin (hol h3 a.1) 11 then (
 if xin ((xset a.2 1 (xw (a.2 0 7)).toNat (hol h3 a.1)) 0 7) 8 then (
 if rk h1 then (
 if xin ((xset (xset a.2 1 (xw (a.2 0 7)).toNat (hol h3 a.1)) 2 (xw ((xset a.2 1 (xw (a.2 0 7)).toNat (hol h3 a.1)) 0 7)).toNat ((h3 2 (xw (hol h3 a.1)).toNat) + 1)) 0 7) 8 then (
 k92 (a.1, (xset (xset (xset (xset a.2 1 (xw (a.2 0 7)).toNat (hol h3 a.1)) 2 (xw ((xset a.2 1 (xw (a.2 0 7)).toNat (hol h3 a.1)) 0 7)).toNat ((h3 2 (xw (hol h3 a.1)).toNat) + 1)) 3 (xw ((xset (xset a.2 1 (xw (a.2 0 7)).toNat (hol h3 a.1)) 2 (xw ((xset a.2 1 (xw (a.2 0 7)).toNat (hol h3 a.1)) 0 7)).toNat ((h3 2 (xw (hol h3 a.1)).toNat) + 1)) 0 7)).toNat (rwF h1 a.1)) 0 7 (((xset (xset (xset a.2 1 (xw (a.2 0 7)).toNat (hol h3 a.1)) 2 (xw ((xset a.2 1 (xw (a.2 0 7)).toNat (hol h3 a.1)) 0 7)).toNat ((h3 2 (xw (hol h3 a.1)).toNat) + 1)) 3 (xw ((xset (xset a.2 1 (xw (a.2 0 7)).toNat (hol h3 a.1)) 2 (xw ((xset a.2 1 (xw (a.2 0 7)).toNat (hol h3 a.1)) 0 7)).toNat ((h3 2 (xw (hol h3 a.1)).toNat) + 1)) 0 7)).toNat (rwF h1 a.1)) 0 7) + 1)))) else none) else none) else none) else none) else none)))
set_option maxRecDepth 100000 in
set_option maxHeartbeats 4000000 in
theorem rq_X0_list_7 (h1 : Ob) (h2 : Ob) (h3 : Ob) (k92 : XK) (a : Int × Ob) : rg_X0_list_7 k92 (en_X0_list_7 h1 h2 h3 a) = mg_X0_list_7 h1 h2 h3 (fun b => k92 (en_X0_list_92 h1 h2 h3 b)) a := rfl
set_option maxRecDepth 100000 in
set_option maxHeartbeats 4000000 in
theorem sg_X0_list_7 {X : XDyn} {r0 : Rt} (C : XO X mX0_list) {k92 : XK} (q92 : XS X mX0_list r0 92 k92) : XS X mX0_list r0 7 (rg_X0_list_7 k92) := by
 unfold rg_X0_list_7
 exact s_iload_n (pc := 7) C dX0_list_7 rfl <|
    s_aload_n (pc := 8) C dX0_list_8 rfl <|
    s_get (pc := 9) C (ci := 3) (kf := 9) rfl inX3 (by decide) wd_125 dX0_list_9 <|
    s_icmp_ge (pc := 12) C dX0_list_12 (by decide) (s_return (pc := 111) C rfl dX0_list_111)
    (s_aload_n (pc := 15) C dX0_list_15 rfl <|
    s_iload_n (pc := 16) C dX0_list_16 rfl <|
    s_callV (pc := 17) C ct_X3_holderAt (n := 2) (rk := 1) (mp := [3]) ⟨rfl, by decide, rfl⟩ (ci := 3) rfl rfl (by decide) (by decide) yi_X3_holderAt (by decide) wd_480 wd_394 wd_395 wd_74 wd_396 dX0_list_17 <|
    s_istore_n (pc := 20) C dX0_list_20 rfl <|
    s_aload_n (pc := 21) C dX0_list_21 rfl <|
    s_iload_n (pc := 22) C dX0_list_22 rfl <|
    s_callV (pc := 23) C ct_X3_isMovable (n := 2) (rk := 1) (mp := [3]) ⟨rfl, by decide, rfl⟩ (ci := 3) rfl rfl (by decide) (by decide) yi_X3_isMovable (by decide) wd_481 wd_413 wd_414 wd_74 wd_415 dX0_list_23 <|
    s_if_eq (pc := 26) C dX0_list_26 (by decide) (s_cut q92)
    (s_aload_n (pc := 29) C dX0_list_29 rfl <|
    s_get (pc := 30) C (ci := 0) (kf := 7) rfl inX0 (by decide) wd_259 dX0_list_30 <|
    s_bipush (pc := 33) C dX0_list_33 (by decide) <|
    s_icmp_ge (pc := 35) C dX0_list_35 (by decide) (s_cut q92)
    (s_aload_n (pc := 38) C dX0_list_38 rfl <|
    s_get (pc := 39) C (ci := 0) (kf := 2) rfl inX0 (by decide) wd_254 dX0_list_39 <|
    s_aload_n (pc := 42) C dX0_list_42 rfl <|
    s_get (pc := 43) C (ci := 0) (kf := 7) rfl inX0 (by decide) wd_259 dX0_list_43 <|
    s_iload_n (pc := 46) C dX0_list_46 rfl <|
    s_iast (pc := 47) C dX0_list_47 <|
    s_aload_n (pc := 48) C dX0_list_48 rfl <|
    s_get (pc := 49) C (ci := 0) (kf := 3) rfl inX0 (by decide) wd_255 dX0_list_49 <|
    s_aload_n (pc := 52) C dX0_list_52 rfl <|
    s_get (pc := 53) C (ci := 0) (kf := 7) rfl inX0 (by decide) wd_259 dX0_list_53 <|
    s_aload_n (pc := 56) C dX0_list_56 rfl <|
    s_get (pc := 57) C (ci := 3) (kf := 1) rfl inX3 (by decide) wd_107 dX0_list_57 <|
    s_iload_n (pc := 60) C dX0_list_60 rfl <|
    s_iald (pc := 61) C dX0_list_61 <|
    s_iconst (pc := 62) C dX0_list_62 <|
    s_iadd (pc := 63) C dX0_list_63 <|
    s_iast (pc := 64) C dX0_list_64 <|
    s_aload_n (pc := 65) C dX0_list_65 rfl <|
    s_get (pc := 66) C (ci := 0) (kf := 4) rfl inX0 (by decide) wd_256 dX0_list_66 <|
    s_aload_n (pc := 69) C dX0_list_69 rfl <|
    s_get (pc := 70) C (ci := 0) (kf := 7) rfl inX0 (by decide) wd_259 dX0_list_70 <|
    s_aload_n (pc := 73) C dX0_list_73 rfl <|
    s_get (pc := 74) C (ci := 0) (kf := 0) rfl inX0 (by decide) wd_252 dX0_list_74 <|
    s_iload_n (pc := 77) C dX0_list_77 rfl <|
    s_callVg (pc := 78) C ct_X6_runWith (n := 2) (rk := 1) (mp := [1]) ⟨rfl, by decide, rfl⟩ (ci := 6) rfl rfl (by decide) (by decide) yi_X6_runWith (by decide) wd_482 wd_483 wd_484 wd_76 wd_485 dX0_list_78 <|
    s_iast (pc := 81) C dX0_list_81 <|
    s_aload_n (pc := 82) C dX0_list_82 rfl <|
    s_dup (pc := 83) C dX0_list_83 <|
    s_get (pc := 84) C (ci := 0) (kf := 7) rfl inX0 (by decide) wd_259 dX0_list_84 <|
    s_iconst (pc := 87) C dX0_list_87 <|
    s_iadd (pc := 88) C dX0_list_88 <|
    s_put (pc := 89) (z := false) C (ci := 0) (kf := 7) rfl inX0 tyX0_ok nmX0 (by decide) wd_259 rfl rfl dX0_list_89 <|
    s_cut q92)))
noncomputable def mg_X0_list_92 (h1 : Ob) (h2 : Ob) (h3 : Ob) (k7 : (Int × Ob) → Option Rt) (a : Int × Ob) : Option Rt :=
 k7 ((xmax (a.1 + 1) (nxt h3 a.1 (h3 0 9))), a.2)
set_option maxRecDepth 100000 in
set_option maxHeartbeats 4000000 in
theorem rq_X0_list_92 (h1 : Ob) (h2 : Ob) (h3 : Ob) (k7 : XK) (a : Int × Ob) : rg_X0_list_92 k7 (en_X0_list_92 h1 h2 h3 a) = mg_X0_list_92 h1 h2 h3 (fun b => k7 (en_X0_list_7 h1 h2 h3 b)) a := rfl
set_option maxRecDepth 100000 in
set_option maxHeartbeats 4000000 in
theorem sg_X0_list_92 {X : XDyn} {r0 : Rt} (C : XO X mX0_list) {k7 : XK} (q7 : XS X mX0_list r0 7 k7) : XS X mX0_list r0 92 (rg_X0_list_92 k7) := by
 unfold rg_X0_list_92
 exact s_iload_n (pc := 92) C dX0_list_92 rfl <|
    s_iconst (pc := 93) C dX0_list_93 <|
    s_iadd (pc := 94) C dX0_list_94 <|
    s_aload_n (pc := 95) C dX0_list_95 rfl <|
    s_iload_n (pc := 96) C dX0_list_96 rfl <|
    s_aload_n (pc := 97) C dX0_list_97 rfl <|
    s_get (pc := 98) C (ci := 3) (kf := 9) rfl inX3 (by decide) wd_125 dX0_list_98 <|
    s_callV (pc := 101) C ct_X3_endAt (n := 3) (rk := 1) (mp := [3]) ⟨rfl, by decide, rfl⟩ (ci := 3) rfl rfl (by decide) (by decide) yi_X3_endAt (by decide) wd_486 wd_398 wd_399 wd_74 wd_400 dX0_list_101 <|
    s_max (pc := 104) C (by decide) wd_487 wd_402 wd_82 wd_403 dX0_list_104 <|
    s_istore_n (pc := 107) C dX0_list_107 rfl <|
    s_goto (pc := 108) C dX0_list_108 (by decide) <|
    s_cut q7
noncomputable def rw_X0_list_92 (f : Nat) (k7 : XK) : XK := rg_X0_list_92 k7
noncomputable def md_X0_list_92 (h1 : Ob) (h2 : Ob) (h3 : Ob) (f : Nat) (k7 : (Int × Ob) → Option Rt) : Int × Ob → Option Rt := mg_X0_list_92 h1 h2 h3 k7
theorem eq_X0_list_92 (h1 : Ob) (h2 : Ob) (h3 : Ob) (f : Nat) (k7 : XK) (a : Int × Ob) : rw_X0_list_92 f k7 (en_X0_list_92 h1 h2 h3 a) = md_X0_list_92 h1 h2 h3 f (fun b => k7 (en_X0_list_7 h1 h2 h3 b)) a :=
 (rq_X0_list_92 h1 h2 h3 k7 a).trans (congrFun (congr (rfl : mg_X0_list_92 h1 h2 h3 = mg_X0_list_92 h1 h2 h3) rfl) a)
theorem sd_X0_list_92 (f : Nat) {X : XDyn} {r0 : Rt} (C : XO X mX0_list) {k7 : XK} (q7 : XS X mX0_list r0 7 k7) : XS X mX0_list r0 92 (rw_X0_list_92 f k7) := sg_X0_list_92 C q7
noncomputable def rw_X0_list_7 (f : Nat) : XK := tlp (fun k7 => rg_X0_list_7 (rw_X0_list_92 f k7)) f
noncomputable def lb_X0_list_7 (h1 : Ob) (h2 : Ob) (h3 : Ob) (f : Nat) : ((Int × Ob) → Option Rt) → Int × Ob → Option Rt := fun k7 => mg_X0_list_7 h1 h2 h3 (md_X0_list_92 h1 h2 h3 f k7)
noncomputable def md_X0_list_7 (h1 : Ob) (h2 : Ob) (h3 : Ob) (f : Nat) : Int × Ob → Option Rt := tlp (lb_X0_list_7 h1 h2 h3 f) f
theorem eq_X0_list_7 (h1 : Ob) (h2 : Ob) (h3 : Ob) (f : Nat) (a : Int × Ob) : rw_X0_list_7 f (en_X0_list_7 h1 h2 h3 a) = md_X0_list_7 h1 h2 h3 f a :=
 tlp_enc (en_X0_list_7 h1 h2 h3) (fun k7 a => (rq_X0_list_7 h1 h2 h3 (rw_X0_list_92 f k7) a).trans (congrFun (congr (rfl : mg_X0_list_7 h1 h2 h3 = mg_X0_list_7 h1 h2 h3) (funext (eq_X0_list_92 h1 h2 h3 f k7))) a)) f a
theorem sd_X0_list_7 (f : Nat) {X : XDyn} {r0 : Rt} (C : XO X mX0_list) : XS X mX0_list r0 7 (rw_X0_list_7 f) := s_lp (fun k7 q7 => sg_X0_list_7 C (sd_X0_list_92 f C q7)) f
noncomputable def rw_X0_list_0 (f : Nat) : XK := rg_X0_list_0 (rw_X0_list_7 f)
noncomputable def md_X0_list_0 (h1 : Ob) (h2 : Ob) (h3 : Ob) (f : Nat) : Ob → Option Rt := mg_X0_list_0 h1 h2 h3 (md_X0_list_7 h1 h2 h3 f)
theorem eq_X0_list_0 (h1 : Ob) (h2 : Ob) (h3 : Ob) (f : Nat) (a : Ob) : rw_X0_list_0 f (en_X0_list_0 h1 h2 h3 a) = md_X0_list_0 h1 h2 h3 f a :=
 (rq_X0_list_0 h1 h2 h3 (rw_X0_list_7 f) a).trans (congrFun (congr (rfl : mg_X0_list_0 h1 h2 h3 = mg_X0_list_0 h1 h2 h3) (funext (eq_X0_list_7 h1 h2 h3 f))) a)
theorem sd_X0_list_0 (f : Nat) {X : XDyn} {r0 : Rt} (C : XO X mX0_list) : XS X mX0_list r0 0 (rw_X0_list_0 f) := sg_X0_list_0 C (sd_X0_list_7 f C)
theorem ctr_X0_list (f : Nat) : XCt yX0_list mX0_list (xF mX0_list (rw_X0_list_0 f)) := xMet (by decide +kernel) rfl (fun _ _ C => sd_X0_list_0 f C)
theorem eqf_X0_list (f : Nat) (h0 : Ob) (h1 : Ob) (h2 : Ob) (h3 : Ob) : xF mX0_list (rw_X0_list_0 f) [.inr (.inl (0, 0)), .inr (.inl (3, 0))] [h0, h1, h2, h3] = md_X0_list_0 h1 h2 h3 f h0 := eq_X0_list_0 h1 h2 h3 f h0
theorem yi_X0_list : yX0_list.cls = RX0 ∧ yX0_list.cls ≠ "java/lang/invoke/MethodHandle" ∧ yX0_list.cls ≠ "java/lang/invoke/VarHandle" ∧ (parseMethodDescriptor yX0_list.desc).map (fun d => d.parameters.length) = some 1 := ⟨rfl, by decide +kernel, by decide +kernel, by decide +kernel⟩
theorem sp_X0_list (f : Nat) (hf : 1000 ≤ f) (h0 h1 h2 h3 : Ob) (hg : pd (LW h3 ∧ rk h1 = true) = true) : md_X0_list_0 h1 h2 h3 f h0 = RV [lsO h0 h1 h3, h1, h2, h3] := by
  obtain ⟨hL, gr⟩ := pd_of hg
  obtain ⟨z1, z2, z3, -⟩ := id hL
  unfold lsO
  rw [mvl_e, wls_e]
  show md_X0_list_7 h1 h2 h3 f (0, xset h0 0 7 0) = _
  rw [lsOb_nil h0 h1 h3]
  have := loop_walk (B := lb_X0_list_7 h1 h2 h3 f) (h := h3) (e := h3 0 9) (fun k (s : List Int) => (k, lsOb h0 h1 h3 s)) (fun s k => .inl (if mov h3 (hol h3 k) then s ++ [k] else s)) (fun s => RV [lsOb h0 h1 h3 s, h1, h2, h3]) (fun k s => s.length ≤ mvc h3 k) (fun k a b => ⟨(hL.nxc a b (by omega) (by omega)).1, (hL.nxc a b (by omega) (by omega)).2.1⟩)
    (fun kk k s a b hI => ⟨by
      simp only [lb_X0_list_7, mg_X0_list_7, md_X0_list_92, mg_X0_list_92, xw_id (x := k) (by omega) (by omega), hL.xsz, bz_0]
      rw [if_neg (by omega)]
      cases hm : mov h3 (hol h3 k)
      · rfl
      · obtain ⟨i, i1, i2, i3⟩ := hL.movat a (by omega) hm
        have hc := hL.mvc_lt a (by omega) hm (show k < 200 by omega)
        have hc8 := mvc_le h3 200
        have xp1 : ∀ (h : Ob) (n : Nat) (x : Int) (k : Nat), xset h 1 n x 0 k = h 0 k := fun h n x k => xset_part _ _ _ _ (by omega) _
        have xp2 : ∀ (h : Ob) (n : Nat) (x : Int) (k : Nat), xset h 2 n x 0 k = h 0 k := fun h n x k => xset_part _ _ _ _ (by omega) _
        have xp3 : ∀ (h : Ob) (n : Nat) (x : Int) (k : Nat), xset h 3 n x 0 k = h 0 k := fun h n x k => xset_part _ _ _ _ (by omega) _
        have hn8 : ¬ ((s.length : Int) ≥ 8) := by omega
        simp only [Bool.true_eq_false, if_false, xp1, xp2, xp3, lsOb_cnt, xw_nat (show s.length < 2147483648 by omega), hn8, xin_nat (show s.length < 8 by omega) (show 8 ≤ 2147483648 by omega), i3, xw_nat (show i < 2147483648 by omega), xin_nat (show i < 11 by omega) (show 11 ≤ 2147483648 by omega), gr, if_true, toNat_nat]
        have := lsOb_add h0 h1 h3 s k
        rw [i3, toNat_nat] at this
        rw [this]
        rfl, fun s' hs => by
      have hn := hL.nxc a b (Int.le_refl _) (by omega)
      cases hs
      cases hm : mov h3 (hol h3 k)
      · exact Nat.le_trans hI (mvc_mono h3 (by omega))
      · have := hL.mvc_lt a (by omega) hm hn.1
        rw [if_pos rfl, List.length_append, List.length_singleton]
        omega⟩)
    (fun kk s _ => by
      simp only [lb_X0_list_7, mg_X0_list_7, hL.xsz]
      rw [if_pos (by omega)]) wfu f 0 [] (by omega) (by omega) (by rw [wfu_e]; omega) (by rw [wfu_e]; omega) (Nat.zero_le _)
  refine this.trans ?_
  rw [wrun_inl, foldl_filter_app]
  rfl
noncomputable def g_X0_list : List AV → List Ob → Bool
  | [.inr (.inl (0, 0)), .inr (.inl (3, 0))], [h0, h1, h2, h3] => pd (LW h3 ∧ rk h1 = true)
  | _, _ => false
noncomputable def v_X0_list : List AV → List Ob → Rt
  | [.inr (.inl (0, 0)), .inr (.inl (3, 0))], [h0, h1, h2, h3] => (none, [(lsO h0 h1 h3), h1, h2, h3])
  | _, _ => (none, [])
theorem ct_X0_list : XCt yX0_list mX0_list (fun as μ => if g_X0_list as μ then some (v_X0_list as μ) else none) := (ctr_X0_list xfu).of (fun as μ r h => by
  split at h
  · rename_i hg
    unfold g_X0_list at hg
    split at hg
    · rw [← h]
      exact (eqf_X0_list xfu _ _ _ _).trans (sp_X0_list xfu (xfu_ge (by decide)) _ _ _ _ hg)
    · cases hg
  · cases h)
