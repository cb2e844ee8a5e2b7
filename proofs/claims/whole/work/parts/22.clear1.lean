/-- the greatest below m with P; none: -1 -/
noncomputable def gmx (P : Int → Prop) : Nat → Int
  | 0 => -1
  | m + 1 => if pd (P (m : Int)) then (m : Int) else gmx P m
theorem gmx_some {P : Int → Prop} {x : Int} (hx : 0 ≤ x) (hP : P x) : ∀ {m : Nat}, x < m → (∀ y, x < y → y < m → ¬ P y) → gmx P m = x
  | 0, h, _ => by omega
  | m + 1, h, hy => by
    unfold gmx
    by_cases hxm : x = (m : Int)
    · rw [← hxm, pd_t hP, if_pos rfl]
    · rw [pd_f (hy (m : Int) (by omega) (by omega)), if_neg (by simp)]
      exact gmx_some hx hP (by omega) (fun y h1 h2 => hy y h1 (by omega))
theorem gmx_none {P : Int → Prop} : ∀ {m : Nat}, (∀ y : Int, 0 ≤ y → y < m → ¬ P y) → gmx P m = -1
  | 0, _ => rfl
  | m + 1, h => by
    unfold gmx
    rw [pd_f (h (m : Int) (by omega) (by omega)), if_neg (by simp)]
    exact gmx_none (fun y h1 h2 => h y h1 (by omega))
theorem gmx_cases (P : Int → Prop) : ∀ (m : Nat), (0 ≤ gmx P m ∧ gmx P m < m ∧ P (gmx P m) ∧ ∀ y : Int, gmx P m < y → y < m → ¬ P y) ∨ (gmx P m = -1 ∧ ∀ y : Int, 0 ≤ y → y < m → ¬ P y)
  | 0 => Or.inr ⟨rfl, fun y h1 h2 => by omega⟩
  | m + 1 => by
    by_cases hP : P (m : Int)
    · left
      have e : gmx P (m + 1) = (m : Int) := by unfold gmx; rw [pd_t hP, if_pos rfl]
      rw [e]
      exact ⟨by omega, by omega, hP, fun y h1 h2 => by omega⟩
    · have e : gmx P (m + 1) = gmx P m := by
        show (if pd (P (m : Int)) then (m : Int) else gmx P m) = _
        rw [pd_f hP, if_neg (by simp)]
      rw [e]
      rcases gmx_cases P m with ⟨h1, h2, h3, h4⟩ | ⟨h1, h2⟩
      · left
        refine ⟨h1, by omega, h3, fun y y1 y2 => ?_⟩
        by_cases hy : y = (m : Int)
        · rw [hy]; exact hP
        · exact h4 y y1 (by omega)
      · right
        refine ⟨h1, fun y y1 y2 => ?_⟩
        by_cases hy : y = (m : Int)
        · rw [hy]; exact hP
        · exact h2 y y1 (by omega)
def fwFI (h : Ob) (a n : Int) : Int := (List.range 8).foldl (fun (fd : Int) (i : Nat) => if ful h (i : Int) && (decide (a ≤ h 1 i) && (decide (h 1 i < a + n) && (decide (fd = -1) || decide (h 1 i < h 1 fd.toNat)))) then (i : Int) else fd) (-1)
noncomputable def fwF : Ob → Int → Int → Int := xop fwFI
theorem fwF_e (h : Ob) (a n : Int) : fwF h a n = fwFI h a n := congrFun (congrFun (congrFun (xop_eq fwFI) h) a) n
/-- the cell is of a block that is fixed -/
def fxd (h : Ob) (c : Int) : Prop := ∃ i, i < 11 ∧ cvd h i c ∧ mov h (i : Int) = false
noncomputable def iop (h : Ob) (a n : Int) : Bool := pd (∀ c, a ≤ c → c < a + n → ¬ fxd h c)
/-- it may lie at x: of no other block, and none of the n from a on -/
def hiP (h : Ob) (b a n x : Int) : Prop := 0 ≤ x ∧ x + (h 2 b.toNat + 1) ≤ h 0 9 ∧ ∀ c, x ≤ c → c < x + (h 2 b.toNat + 1) → opn h (xshl 1 b) c ∧ ¬ (a ≤ c ∧ c < a + n)
noncomputable def hiF (h : Ob) (b a n : Int) : Int := if ful h b then gmx (hiP h b a n) (xop 200) else -1
noncomputable def hiO (r h : Ob) (b : Int) : Ob := if ful h b then rdO r (rnl h (xshl 1 b) (h 0 9)) else r
theorem pkF_cnt (p h : Ob) (s : Int) : 0 ≤ pkF p h s 0 2 ∧ pkF p h s 0 2 ≤ 8 := by
  rw [pkF_e]
  unfold pkFI
  have key : ∀ n, n ≤ 8 → 0 ≤ (List.range n).foldl (fun (g : Ob) (i : Nat) => if inS s (i : Int) then pkA g (h 2 i + 1) else g) (xset (xset (xset p 0 2 0) 0 3 0) 0 4 0) 0 2 ∧ (List.range n).foldl (fun (g : Ob) (i : Nat) => if inS s (i : Int) then pkA g (h 2 i + 1) else g) (xset (xset (xset p 0 2 0) 0 3 0) 0 4 0) 0 2 ≤ (n : Int) := by
    intro n
    induction n with
    | zero =>
      intro _
      show 0 ≤ xset (xset (xset p 0 2 0) 0 3 0) 0 4 0 0 2 ∧ xset (xset (xset p 0 2 0) 0 3 0) 0 4 0 0 2 ≤ 0
      rw [xset_idx _ _ _ _ (by omega), xset_idx _ _ _ _ (by omega), xset_same]
      omega
    | succ n ih =>
      intro hn
      have := ih (by omega)
      rw [List.range_succ, List.foldl_append]
      generalize (List.range n).foldl (fun (g : Ob) (i : Nat) => if inS s (i : Int) then pkA g (h 2 i + 1) else g) (xset (xset (xset p 0 2 0) 0 3 0) 0 4 0) = z at this
      show 0 ≤ (if inS s (n : Int) then pkA z (h 2 n + 1) else z) 0 2 ∧ (if inS s (n : Int) then pkA z (h 2 n + 1) else z) 0 2 ≤ _
      split
      · rw [pkA_cnt, xw_id (x := z 0 2) (by omega) (by omega), if_pos (by omega)]
        omega
      · omega
  exact key 8 (by omega)
theorem dX4_holds_0 : decode cX4_holds 0 = .ok (.aload_n 0, 1) := by decide +kernel
theorem dX4_holds_1 : decode cX4_holds 1 = .ok (.aload_n 2, 1) := by decide +kernel
theorem dX4_holds_2 : decode cX4_holds 2 = .ok (.iload_n 3, 1) := by decide +kernel
theorem dX4_holds_3 : decode cX4_holds 3 = .ok (.invokevirtual 41, 3) := by decide +kernel
theorem dX4_holds_6 : decode cX4_holds 6 = .ok (.aload_n 0, 1) := by decide +kernel
theorem dX4_holds_7 : decode cX4_holds 7 = .ok (.iload 4, 2) := by decide +kernel
theorem dX4_holds_9 : decode cX4_holds 9 = .ok (.invokevirtual 37, 3) := by decide +kernel
theorem dX4_holds_12 : decode cX4_holds 12 = .ok (.aload_n 0, 1) := by decide +kernel
theorem dX4_holds_13 : decode cX4_holds 13 = .ok (.aload_n 1, 1) := by decide +kernel
theorem dX4_holds_14 : decode cX4_holds 14 = .ok (.invokevirtual 45, 3) := by decide +kernel
theorem dX4_holds_17 : decode cX4_holds 17 = .ok (.ireturn, 1) := by decide +kernel
abbrev mX4_holds : XM := (cX4_holds, 5, RX4, (some .boolean), shw_4_6_3, 3)
noncomputable def rg_X4_holds_0 : XK :=
 o_aload 0 <|
 o_aload 2 <|
 o_iload 3 <|
 o_callV 3 0 [0, 2] f_X4_fillWith <|
 o_aload 0 <|
 o_iload 4 <|
 o_callVg 2 0 [0] g_X4_add v_X4_add <|
 o_aload 0 <|
 o_aload 1 <|
 o_callVg 2 1 [0, 1] g_X4_goesInto v_X4_goesInto <|
 o_zreturn
def en_X4_holds_0 (p3 : Int) (p4 : Int) (h1 : Ob) (h2 : Ob) (a : Ob) : XSt := ([some (.inr (.inl (0, 0))), some (.inr (.inl (1, 0))), some (.inr (.inl (2, 0))), some (.inl p3), some (.inl p4)], [], [a, h1, h2])
noncomputable def mg_X4_holds_0 (p3 : Int) (p4 : Int) (h1 : Ob) (h2 : Ob) (a : Ob) : Option Rt :=
 if decide (0 ≤ xw ((pkF a h2 p3) 0 2)) then (
 if pd (GiG (pkA (pkF a h2 p3) p4) h1) then (
 if xb (bz (gi (pkA (pkF a h2 p3) p4) h1)) then RI (bz (gi (pkA (pkF a h2 p3) p4) h1)) [(giO xfu (pkA (pkF a h2 p3) p4) h1), h1, h2] else none) else none) else none
set_option maxRecDepth 100000 in
set_option maxHeartbeats 4000000 in
theorem rq_X4_holds_0 (p3 : Int) (p4 : Int) (h1 : Ob) (h2 : Ob) (a : Ob) : rg_X4_holds_0 (en_X4_holds_0 p3 p4 h1 h2 a) = mg_X4_holds_0 p3 p4 h1 h2 a := rfl
set_option maxRecDepth 100000 in
set_option maxHeartbeats 4000000 in
theorem sg_X4_holds_0 {X : XDyn} {r0 : Rt} (C : XO X mX4_holds) : XS X mX4_holds r0 0 (rg_X4_holds_0) := by
 unfold rg_X4_holds_0
 exact s_aload_n (pc := 0) C dX4_holds_0 rfl <|
    s_aload_n (pc := 1) C dX4_holds_1 rfl <|
    s_iload_n (pc := 2) C dX4_holds_2 rfl <|
    s_callV (pc := 3) C ct_X4_fillWith (n := 3) (rk := 0) (mp := [0, 2]) ⟨rfl, by decide, rfl⟩ (ci := 4) rfl rfl (by decide) (by decide) yi_X4_fillWith (by decide) wd_823 wd_448 wd_449 wd_77 wd_450 dX4_holds_3 <|
    s_aload_n (pc := 6) C dX4_holds_6 rfl <|
    s_iload (pc := 7) C dX4_holds_7 <|
    s_callVg (pc := 9) C ct_X4_add (n := 2) (rk := 0) (mp := [0]) ⟨rfl, by decide, rfl⟩ (ci := 4) rfl rfl (by decide) (by decide) yi_X4_add (by decide) wd_452 wd_453 wd_454 wd_77 wd_455 dX4_holds_9 <|
    s_aload_n (pc := 12) C dX4_holds_12 rfl <|
    s_aload_n (pc := 13) C dX4_holds_13 rfl <|
    s_callVg (pc := 14) C ct_X4_goesInto (n := 2) (rk := 1) (mp := [0, 1]) ⟨rfl, by decide, rfl⟩ (ci := 4) rfl rfl (by decide) (by decide) yi_X4_goesInto (by decide) wd_824 wd_458 wd_459 wd_77 wd_460 dX4_holds_14 <|
    s_zreturn (pc := 17) C rfl dX4_holds_17
noncomputable def rw_X4_holds_0 : XK := rg_X4_holds_0
noncomputable def md_X4_holds_0 (p3 : Int) (p4 : Int) (h1 : Ob) (h2 : Ob) : Ob → Option Rt := mg_X4_holds_0 p3 p4 h1 h2
theorem eq_X4_holds_0 (p3 : Int) (p4 : Int) (h1 : Ob) (h2 : Ob) (a : Ob) : rw_X4_holds_0 (en_X4_holds_0 p3 p4 h1 h2 a) = md_X4_holds_0 p3 p4 h1 h2 a :=
 rq_X4_holds_0 p3 p4 h1 h2 a
theorem sd_X4_holds_0 {X : XDyn} {r0 : Rt} (C : XO X mX4_holds) : XS X mX4_holds r0 0 (rw_X4_holds_0) := sg_X4_holds_0 C
theorem ctr_X4_holds : XCt yX4_holds mX4_holds (xF mX4_holds (rw_X4_holds_0)) := xMet (by decide +kernel) rfl (fun _ _ C => sd_X4_holds_0 C)
theorem eqf_X4_holds (p3 : Int) (p4 : Int) (h0 : Ob) (h1 : Ob) (h2 : Ob) : xF mX4_holds (rw_X4_holds_0) [.inr (.inl (0, 0)), .inr (.inl (1, 0)), .inr (.inl (2, 0)), .inl p3, .inl p4] [h0, h1, h2] = md_X4_holds_0 p3 p4 h1 h2 h0 := eq_X4_holds_0 p3 p4 h1 h2 h0
theorem yi_X4_holds : yX4_holds.cls = RX4 ∧ yX4_holds.cls ≠ "java/lang/invoke/MethodHandle" ∧ yX4_holds.cls ≠ "java/lang/invoke/VarHandle" ∧ (parseMethodDescriptor yX4_holds.desc).map (fun d => d.parameters.length) = some 4 := ⟨rfl, by decide +kernel, by decide +kernel, by decide +kernel⟩
theorem sp_X4_holds (p3 p4 : Int) (h0 h1 h2 : Ob) (hg : pd (GiG (pkA (pkF h0 h2 p3) p4) h1) = true) : md_X4_holds_0 p3 p4 h1 h2 h0 = RI (bz (gi (pkA (pkF h0 h2 p3) p4) h1)) [giO xfu (pkA (pkF h0 h2 p3) p4) h1, h1, h2] := by
  have hc := pkF_cnt h0 h2 p3
  simp only [md_X4_holds_0, mg_X4_holds_0, hg, xb_bz, if_true]
  rw [if_pos (decide_eq_true (by rw [xw_id (by omega) (by omega)]; omega))]
noncomputable def g_X4_holds : List AV → List Ob → Bool
  | [.inr (.inl (0, 0)), .inr (.inl (1, 0)), .inr (.inl (2, 0)), .inl p3, .inl p4], [h0, h1, h2] => pd (GiG (pkA (pkF h0 h2 p3) p4) h1)
  | _, _ => false
noncomputable def v_X4_holds : List AV → List Ob → Rt
  | [.inr (.inl (0, 0)), .inr (.inl (1, 0)), .inr (.inl (2, 0)), .inl p3, .inl p4], [h0, h1, h2] => (some (.inl (bz (gi (pkA (pkF h0 h2 p3) p4) h1))), [(giO xfu (pkA (pkF h0 h2 p3) p4) h1), h1, h2])
  | _, _ => (none, [])
theorem ct_X4_holds : XCt yX4_holds mX4_holds (fun as μ => if g_X4_holds as μ then some (v_X4_holds as μ) else none) := (ctr_X4_holds ).of (fun as μ r h => by
  split at h
  · rename_i hg
    unfold g_X4_holds at hg
    split at hg
    · rw [← h]
      exact (eqf_X4_holds _ _ _ _ _).trans (sp_X4_holds _ _ _ _ _ hg)
    · cases hg
  · cases h)
theorem dX1_firstWithin_0 : decode cX1_firstWithin 0 = .ok (.iconst (-1), 1) := by decide +kernel
theorem dX1_firstWithin_1 : decode cX1_firstWithin 1 = .ok (.istore 4, 2) := by decide +kernel
theorem dX1_firstWithin_3 : decode cX1_firstWithin 3 = .ok (.iconst 0, 1) := by decide +kernel
theorem dX1_firstWithin_4 : decode cX1_firstWithin 4 = .ok (.istore 5, 2) := by decide +kernel
theorem dX1_firstWithin_6 : decode cX1_firstWithin 6 = .ok (.iload 5, 2) := by decide +kernel
theorem dX1_firstWithin_8 : decode cX1_firstWithin 8 = .ok (.bipush 8, 2) := by decide +kernel
theorem dX1_firstWithin_10 : decode cX1_firstWithin 10 = .ok (.if_icmp .ge 69, 3) := by decide +kernel
theorem dX1_firstWithin_13 : decode cX1_firstWithin 13 = .ok (.aload_n 1, 1) := by decide +kernel
theorem dX1_firstWithin_14 : decode cX1_firstWithin 14 = .ok (.iload 5, 2) := by decide +kernel
theorem dX1_firstWithin_16 : decode cX1_firstWithin 16 = .ok (.invokevirtual 69, 3) := by decide +kernel
theorem dX1_firstWithin_19 : decode cX1_firstWithin 19 = .ok (.ifCond .eq 54, 3) := by decide +kernel
theorem dX1_firstWithin_22 : decode cX1_firstWithin 22 = .ok (.aload_n 1, 1) := by decide +kernel
theorem dX1_firstWithin_23 : decode cX1_firstWithin 23 = .ok (.getfield 22, 3) := by decide +kernel
theorem dX1_firstWithin_26 : decode cX1_firstWithin 26 = .ok (.iload 5, 2) := by decide +kernel
theorem dX1_firstWithin_28 : decode cX1_firstWithin 28 = .ok (.iaload, 1) := by decide +kernel
theorem dX1_firstWithin_29 : decode cX1_firstWithin 29 = .ok (.iload_n 2, 1) := by decide +kernel
theorem dX1_firstWithin_30 : decode cX1_firstWithin 30 = .ok (.if_icmp .lt 43, 3) := by decide +kernel
theorem dX1_firstWithin_33 : decode cX1_firstWithin 33 = .ok (.aload_n 1, 1) := by decide +kernel
theorem dX1_firstWithin_34 : decode cX1_firstWithin 34 = .ok (.getfield 22, 3) := by decide +kernel
theorem dX1_firstWithin_37 : decode cX1_firstWithin 37 = .ok (.iload 5, 2) := by decide +kernel
theorem dX1_firstWithin_39 : decode cX1_firstWithin 39 = .ok (.iaload, 1) := by decide +kernel
theorem dX1_firstWithin_40 : decode cX1_firstWithin 40 = .ok (.iload_n 2, 1) := by decide +kernel
theorem dX1_firstWithin_41 : decode cX1_firstWithin 41 = .ok (.iload_n 3, 1) := by decide +kernel
theorem dX1_firstWithin_42 : decode cX1_firstWithin 42 = .ok (.iadd, 1) := by decide +kernel
theorem dX1_firstWithin_43 : decode cX1_firstWithin 43 = .ok (.if_icmp .ge 30, 3) := by decide +kernel
theorem dX1_firstWithin_46 : decode cX1_firstWithin 46 = .ok (.iload 4, 2) := by decide +kernel
theorem dX1_firstWithin_48 : decode cX1_firstWithin 48 = .ok (.iconst (-1), 1) := by decide +kernel
theorem dX1_firstWithin_49 : decode cX1_firstWithin 49 = .ok (.if_icmp .eq 20, 3) := by decide +kernel
theorem dX1_firstWithin_52 : decode cX1_firstWithin 52 = .ok (.aload_n 1, 1) := by decide +kernel
theorem dX1_firstWithin_53 : decode cX1_firstWithin 53 = .ok (.getfield 22, 3) := by decide +kernel
theorem dX1_firstWithin_56 : decode cX1_firstWithin 56 = .ok (.iload 5, 2) := by decide +kernel
theorem dX1_firstWithin_58 : decode cX1_firstWithin 58 = .ok (.iaload, 1) := by decide +kernel
theorem dX1_firstWithin_59 : decode cX1_firstWithin 59 = .ok (.aload_n 1, 1) := by decide +kernel
theorem dX1_firstWithin_60 : decode cX1_firstWithin 60 = .ok (.getfield 22, 3) := by decide +kernel
theorem dX1_firstWithin_63 : decode cX1_firstWithin 63 = .ok (.iload 4, 2) := by decide +kernel
theorem dX1_firstWithin_65 : decode cX1_firstWithin 65 = .ok (.iaload, 1) := by decide +kernel
theorem dX1_firstWithin_66 : decode cX1_firstWithin 66 = .ok (.if_icmp .ge 7, 3) := by decide +kernel
theorem dX1_firstWithin_69 : decode cX1_firstWithin 69 = .ok (.iload 5, 2) := by decide +kernel
theorem dX1_firstWithin_71 : decode cX1_firstWithin 71 = .ok (.istore 4, 2) := by decide +kernel
theorem dX1_firstWithin_73 : decode cX1_firstWithin 73 = .ok (.iinc 5 1, 3) := by decide +kernel
theorem dX1_firstWithin_76 : decode cX1_firstWithin 76 = .ok (.goto (-70), 3) := by decide +kernel
theorem dX1_firstWithin_79 : decode cX1_firstWithin 79 = .ok (.iload 4, 2) := by decide +kernel
theorem dX1_firstWithin_81 : decode cX1_firstWithin 81 = .ok (.ireturn, 1) := by decide +kernel
abbrev mX1_firstWithin : XM := (cX1_firstWithin, 6, RX1, (some .int), shw_1_6_3, 1)
noncomputable def rg_X1_firstWithin_0 (k6 : XK) : XK :=
 o_iconst (-1) <|
 o_istore 4 <|
 o_iconst 0 <|
 o_istore 5 <|
 o_cut [0] k6
def en_X1_firstWithin_0 (p2 : Int) (p3 : Int) (h0 : Ob) (h1 : Ob) (h2 : Ob) (a : Unit) : XSt := ([some (.inr (.inl (0, 0))), some (.inr (.inl (2, 0))), some (.inl p2), some (.inl p3), none, none], [], [h0, h1, h2])
noncomputable def rg_X1_firstWithin_6 (k73 : XK) (k69 : XK) : XK :=
 o_iload 5 <|
 o_iconst 8 <|
 o_icmp_ge (o_iload 4 <|
 o_ireturn)
 (o_aload 1 <|
 o_iload 5 <|
 o_callV 2 1 [2] f_X3_isFull <|
 o_if_eq (o_cut [] k73)
 (o_aload 1 <|
 o_get shw_1_6_3 3 0 <|
 o_iload 5 <|
 o_iald shw_1_6_3 <|
 o_iload 2 <|
 o_icmp_lt (o_cut [] k73)
 (o_aload 1 <|
 o_get shw_1_6_3 3 0 <|
 o_iload 5 <|
 o_iald shw_1_6_3 <|
 o_iload 2 <|
 o_iload 3 <|
 o_iadd <|
 o_icmp_ge (o_cut [] k73)
 (o_iload 4 <|
 o_iconst (-1) <|
 o_icmp_eq (o_cut [4] k69)
 (o_aload 1 <|
 o_get shw_1_6_3 3 0 <|
 o_iload 5 <|
 o_iald shw_1_6_3 <|
 o_aload 1 <|
 o_get shw_1_6_3 3 0 <|
 o_iload 4 <|
 o_iald shw_1_6_3 <|
 o_icmp_ge (o_cut [] k73)
 (o_cut [4] k69))))))
def en_X1_firstWithin_6 (p2 : Int) (p3 : Int) (h0 : Ob) (h1 : Ob) (h2 : Ob) (a : Int × Int) : XSt := ([none, some (.inr (.inl (2, 0))), some (.inl p2), some (.inl p3), some (.inl a.1), some (.inl a.2)], [], [h0, h1, h2])
noncomputable def rg_X1_firstWithin_69 (k73 : XK) : XK :=
 o_iload 5 <|
 o_istore 4 <|
 o_cut [] k73
def en_X1_firstWithin_69 (p2 : Int) (p3 : Int) (h0 : Ob) (h1 : Ob) (h2 : Ob) (a : Int) : XSt := ([none, some (.inr (.inl (2, 0))), some (.inl p2), some (.inl p3), none, some (.inl a)], [], [h0, h1, h2])
noncomputable def rg_X1_firstWithin_73 (k6 : XK) : XK :=
 o_iinc 5 1 <|
 o_cut [] k6
def en_X1_firstWithin_73 (p2 : Int) (p3 : Int) (h0 : Ob) (h1 : Ob) (h2 : Ob) (a : Int × Int) : XSt := ([none, some (.inr (.inl (2, 0))), some (.inl p2), some (.inl p3), some (.inl a.1), some (.inl a.2)], [], [h0, h1, h2])
noncomputable def mg_X1_firstWithin_0 (p2 : Int) (p3 : Int) (h0 : Ob) (h1 : Ob) (h2 : Ob) (k6 : (Int × Int) → Option Rt) (a : Unit) : Option Rt :=
 k6 ((-1), 0)
set_option maxRecDepth 100000 in
set_option maxHeartbeats 4000000 in
theorem rq_X1_firstWithin_0 (p2 : Int) (p3 : Int) (h0 : Ob) (h1 : Ob) (h2 : Ob) (k6 : XK) (a : Unit) : rg_X1_firstWithin_0 k6 (en_X1_firstWithin_0 p2 p3 h0 h1 h2 a) = mg_X1_firstWithin_0 p2 p3 h0 h1 h2 (fun b => k6 (en_X1_firstWithin_6 p2 p3 h0 h1 h2 b)) a := rfl
set_option maxRecDepth 100000 in
set_option maxHeartbeats 4000000 in
theorem sg_X1_firstWithin_0 {X : XDyn} {r0 : Rt} (C : XO X mX1_firstWithin) {k6 : XK} (q6 : XS X mX1_firstWithin r0 6 k6) : XS X mX1_firstWithin r0 0 (rg_X1_firstWithin_0 k6) := by
 unfold rg_X1_firstWithin_0
 exact s_iconst (pc := 0) C dX1_firstWithin_0 <|
    s_istore (pc := 1) C dX1_firstWithin_1 <|
    s_iconst (pc := 3) C dX1_firstWithin_3 <|
    s_istore (pc := 4) C dX1_firstWithin_4 <|
    s_cut q6
noncomputable def mg_X1_firstWithin_6 (p2 : Int) (p3 : Int) (h0 : Ob) (h1 : Ob) (h2 : Ob) (k73 : (Int × Int) → Option Rt) (k69 : Int → Option Rt) (a : Int × Int) : Option Rt :=
 if xw a.2 ≥ 8 then (RI a.1 [h0, h1, h2])
 else (if xw (bz (ful h2 a.2)) = 0 then (k73 (a.1, a.2))
 else (if xin a.2 11 then (
 if xw (h2 1 (xw a.2).toNat) < xw p2 then (k73 (a.1, a.2))
 else (if xin a.2 11 then (
 if xw (h2 1 (xw a.2).toNat) ≥ xw (p2 + p3) then (k73 (a.1, a.2))
 else (if xw a.1 = (-1) then (k69 a.2)
 else (if xin a.2 11 then (
 if xin a.1 11 then (
 if xw (h2 1 (xw a.2).toNat) ≥ xw (h2 1 (xw a.1).toNat) then (k73 (a.1, a.2))
 else (k69 a.2)) else none) else none))) else none)) else none))
set_option maxRecDepth 100000 in
set_option maxHeartbeats 4000000 in
theorem rq_X1_firstWithin_6 (p2 : Int) (p3 : Int) (h0 : Ob) (h1 : Ob) (h2 : Ob) (k73 : XK) (k69 : XK) (a : Int × Int) : rg_X1_firstWithin_6 k73 k69 (en_X1_firstWithin_6 p2 p3 h0 h1 h2 a) = mg_X1_firstWithin_6 p2 p3 h0 h1 h2 (fun b => k73 (en_X1_firstWithin_73 p2 p3 h0 h1 h2 b)) (fun b => k69 (en_X1_firstWithin_69 p2 p3 h0 h1 h2 b)) a := rfl
set_option maxRecDepth 100000 in
set_option maxHeartbeats 4000000 in
theorem sg_X1_firstWithin_6 {X : XDyn} {r0 : Rt} (C : XO X mX1_firstWithin) {k73 : XK} (q73 : XS X mX1_firstWithin r0 73 k73) {k69 : XK} (q69 : XS X mX1_firstWithin r0 69 k69) : XS X mX1_firstWithin r0 6 (rg_X1_firstWithin_6 k73 k69) := by
 unfold rg_X1_firstWithin_6
 exact s_iload (pc := 6) C dX1_firstWithin_6 <|
    s_bipush (pc := 8) C dX1_firstWithin_8 (by decide) <|
    s_icmp_ge (pc := 10) C dX1_firstWithin_10 (by decide) (s_iload (pc := 79) C dX1_firstWithin_79 <|
    s_ireturn (pc := 81) C rfl dX1_firstWithin_81)
    (s_aload_n (pc := 13) C dX1_firstWithin_13 rfl <|
    s_iload (pc := 14) C dX1_firstWithin_14 <|
    s_callV (pc := 16) C ct_X3_isFull (n := 2) (rk := 1) (mp := [2]) ⟨rfl, by decide, rfl⟩ (ci := 3) rfl rfl (by decide) (by decide) yi_X3_isFull (by decide) wd_606 wd_556 wd_557 wd_74 wd_558 dX1_firstWithin_16 <|
    s_if_eq (pc := 19) C dX1_firstWithin_19 (by decide) (s_cut q73)
    (s_aload_n (pc := 22) C dX1_firstWithin_22 rfl <|
    s_get (pc := 23) C (ci := 3) (kf := 0) rfl inX3 (by decide) wd_100 dX1_firstWithin_23 <|
    s_iload (pc := 26) C dX1_firstWithin_26 <|
    s_iald (pc := 28) C dX1_firstWithin_28 <|
    s_iload_n (pc := 29) C dX1_firstWithin_29 rfl <|
    s_icmp_lt (pc := 30) C dX1_firstWithin_30 (by decide) (s_cut q73)
    (s_aload_n (pc := 33) C dX1_firstWithin_33 rfl <|
    s_get (pc := 34) C (ci := 3) (kf := 0) rfl inX3 (by decide) wd_100 dX1_firstWithin_34 <|
    s_iload (pc := 37) C dX1_firstWithin_37 <|
    s_iald (pc := 39) C dX1_firstWithin_39 <|
    s_iload_n (pc := 40) C dX1_firstWithin_40 rfl <|
    s_iload_n (pc := 41) C dX1_firstWithin_41 rfl <|
    s_iadd (pc := 42) C dX1_firstWithin_42 <|
    s_icmp_ge (pc := 43) C dX1_firstWithin_43 (by decide) (s_cut q73)
    (s_iload (pc := 46) C dX1_firstWithin_46 <|
    s_iconst (pc := 48) C dX1_firstWithin_48 <|
    s_icmp_eq (pc := 49) C dX1_firstWithin_49 (by decide) (s_cut q69)
    (s_aload_n (pc := 52) C dX1_firstWithin_52 rfl <|
    s_get (pc := 53) C (ci := 3) (kf := 0) rfl inX3 (by decide) wd_100 dX1_firstWithin_53 <|
    s_iload (pc := 56) C dX1_firstWithin_56 <|
    s_iald (pc := 58) C dX1_firstWithin_58 <|
    s_aload_n (pc := 59) C dX1_firstWithin_59 rfl <|
    s_get (pc := 60) C (ci := 3) (kf := 0) rfl inX3 (by decide) wd_100 dX1_firstWithin_60 <|
    s_iload (pc := 63) C dX1_firstWithin_63 <|
    s_iald (pc := 65) C dX1_firstWithin_65 <|
    s_icmp_ge (pc := 66) C dX1_firstWithin_66 (by decide) (s_cut q73)
    (s_cut q69))))))
noncomputable def mg_X1_firstWithin_69 (p2 : Int) (p3 : Int) (h0 : Ob) (h1 : Ob) (h2 : Ob) (k73 : (Int × Int) → Option Rt) (a : Int) : Option Rt :=
 k73 (a, a)
set_option maxRecDepth 100000 in
set_option maxHeartbeats 4000000 in
theorem rq_X1_firstWithin_69 (p2 : Int) (p3 : Int) (h0 : Ob) (h1 : Ob) (h2 : Ob) (k73 : XK) (a : Int) : rg_X1_firstWithin_69 k73 (en_X1_firstWithin_69 p2 p3 h0 h1 h2 a) = mg_X1_firstWithin_69 p2 p3 h0 h1 h2 (fun b => k73 (en_X1_firstWithin_73 p2 p3 h0 h1 h2 b)) a := rfl
set_option maxRecDepth 100000 in
set_option maxHeartbeats 4000000 in
theorem sg_X1_firstWithin_69 {X : XDyn} {r0 : Rt} (C : XO X mX1_firstWithin) {k73 : XK} (q73 : XS X mX1_firstWithin r0 73 k73) : XS X mX1_firstWithin r0 69 (rg_X1_firstWithin_69 k73) := by
 unfold rg_X1_firstWithin_69
 exact s_iload (pc := 69) C dX1_firstWithin_69 <|
    s_istore (pc := 71) C dX1_firstWithin_71 <|
    s_cut q73
noncomputable def mg_X1_firstWithin_73 (p2 : Int) (p3 : Int) (h0 : Ob) (h1 : Ob) (h2 : Ob) (k6 : (Int × Int) → Option Rt) (a : Int × Int) : Option Rt :=
 k6 (a.1, (a.2 + 1))
set_option maxRecDepth 100000 in
set_option maxHeartbeats 4000000 in
theorem rq_X1_firstWithin_73 (p2 : Int) (p3 : Int) (h0 : Ob) (h1 : Ob) (h2 : Ob) (k6 : XK) (a : Int × Int) : rg_X1_firstWithin_73 k6 (en_X1_firstWithin_73 p2 p3 h0 h1 h2 a) = mg_X1_firstWithin_73 p2 p3 h0 h1 h2 (fun b => k6 (en_X1_firstWithin_6 p2 p3 h0 h1 h2 b)) a := rfl
set_option maxRecDepth 100000 in
set_option maxHeartbeats 4000000 in
theorem sg_X1_firstWithin_73 {X : XDyn} {r0 : Rt} (C : XO X mX1_firstWithin) {k6 : XK} (q6 : XS X mX1_firstWithin r0 6 k6) : XS X mX1_firstWithin r0 73 (rg_X1_firstWithin_73 k6) := by
 unfold rg_X1_firstWithin_73
 exact s_iinc (pc := 73) C dX1_firstWithin_73 <|
    s_goto (pc := 76) C dX1_firstWithin_76 (by decide) <|
    s_cut q6
noncomputable def rw_X1_firstWithin_73 (f : Nat) (k6 : XK) : XK := rg_X1_firstWithin_73 k6
noncomputable def md_X1_firstWithin_73 (p2 : Int) (p3 : Int) (h0 : Ob) (h1 : Ob) (h2 : Ob) (f : Nat) (k6 : (Int × Int) → Option Rt) : Int × Int → Option Rt := mg_X1_firstWithin_73 p2 p3 h0 h1 h2 k6
theorem eq_X1_firstWithin_73 (p2 : Int) (p3 : Int) (h0 : Ob) (h1 : Ob) (h2 : Ob) (f : Nat) (k6 : XK) (a : Int × Int) : rw_X1_firstWithin_73 f k6 (en_X1_firstWithin_73 p2 p3 h0 h1 h2 a) = md_X1_firstWithin_73 p2 p3 h0 h1 h2 f (fun b => k6 (en_X1_firstWithin_6 p2 p3 h0 h1 h2 b)) a :=
 (rq_X1_firstWithin_73 p2 p3 h0 h1 h2 k6 a).trans (congrFun (congr (rfl : mg_X1_firstWithin_73 p2 p3 h0 h1 h2 = mg_X1_firstWithin_73 p2 p3 h0 h1 h2) rfl) a)
theorem sd_X1_firstWithin_73 (f : Nat) {X : XDyn} {r0 : Rt} (C : XO X mX1_firstWithin) {k6 : XK} (q6 : XS X mX1_firstWithin r0 6 k6) : XS X mX1_firstWithin r0 73 (rw_X1_firstWithin_73 f k6) := sg_X1_firstWithin_73 C q6
noncomputable def rw_X1_firstWithin_69 (f : Nat) (k6 : XK) : XK := rg_X1_firstWithin_69 (rw_X1_firstWithin_73 f k6)
noncomputable def md_X1_firstWithin_69 (p2 : Int) (p3 : Int) (h0 : Ob) (h1 : Ob) (h2 : Ob) (f : Nat) (k6 : (Int × Int) → Option Rt) : Int → Option Rt := mg_X1_firstWithin_69 p2 p3 h0 h1 h2 (md_X1_firstWithin_73 p2 p3 h0 h1 h2 f k6)
theorem eq_X1_firstWithin_69 (p2 : Int) (p3 : Int) (h0 : Ob) (h1 : Ob) (h2 : Ob) (f : Nat) (k6 : XK) (a : Int) : rw_X1_firstWithin_69 f k6 (en_X1_firstWithin_69 p2 p3 h0 h1 h2 a) = md_X1_firstWithin_69 p2 p3 h0 h1 h2 f (fun b => k6 (en_X1_firstWithin_6 p2 p3 h0 h1 h2 b)) a :=
 (rq_X1_firstWithin_69 p2 p3 h0 h1 h2 (rw_X1_firstWithin_73 f k6) a).trans (congrFun (congr (rfl : mg_X1_firstWithin_69 p2 p3 h0 h1 h2 = mg_X1_firstWithin_69 p2 p3 h0 h1 h2) (funext (eq_X1_firstWithin_73 p2 p3 h0 h1 h2 f k6))) a)
theorem sd_X1_firstWithin_69 (f : Nat) {X : XDyn} {r0 : Rt} (C : XO X mX1_firstWithin) {k6 : XK} (q6 : XS X mX1_firstWithin r0 6 k6) : XS X mX1_firstWithin r0 69 (rw_X1_firstWithin_69 f k6) := sg_X1_firstWithin_69 C (sd_X1_firstWithin_73 f C q6)
noncomputable def rw_X1_firstWithin_6 (f : Nat) : XK := tlp (fun k6 => rg_X1_firstWithin_6 (rw_X1_firstWithin_73 f k6) (rw_X1_firstWithin_69 f k6)) f
noncomputable def lb_X1_firstWithin_6 (p2 : Int) (p3 : Int) (h0 : Ob) (h1 : Ob) (h2 : Ob) (f : Nat) : ((Int × Int) → Option Rt) → Int × Int → Option Rt := fun k6 => mg_X1_firstWithin_6 p2 p3 h0 h1 h2 (md_X1_firstWithin_73 p2 p3 h0 h1 h2 f k6) (md_X1_firstWithin_69 p2 p3 h0 h1 h2 f k6)
noncomputable def md_X1_firstWithin_6 (p2 : Int) (p3 : Int) (h0 : Ob) (h1 : Ob) (h2 : Ob) (f : Nat) : Int × Int → Option Rt := tlp (lb_X1_firstWithin_6 p2 p3 h0 h1 h2 f) f
theorem eq_X1_firstWithin_6 (p2 : Int) (p3 : Int) (h0 : Ob) (h1 : Ob) (h2 : Ob) (f : Nat) (a : Int × Int) : rw_X1_firstWithin_6 f (en_X1_firstWithin_6 p2 p3 h0 h1 h2 a) = md_X1_firstWithin_6 p2 p3 h0 h1 h2 f a :=
 tlp_enc (en_X1_firstWithin_6 p2 p3 h0 h1 h2) (fun k6 a => (rq_X1_firstWithin_6 p2 p3 h0 h1 h2 (rw_X1_firstWithin_73 f k6) (rw_X1_firstWithin_69 f k6) a).trans (congrFun (congr (congr (rfl : mg_X1_firstWithin_6 p2 p3 h0 h1 h2 = mg_X1_firstWithin_6 p2 p3 h0 h1 h2) (funext (eq_X1_firstWithin_73 p2 p3 h0 h1 h2 f k6))) (funext (eq_X1_firstWithin_69 p2 p3 h0 h1 h2 f k6))) a)) f a
theorem sd_X1_firstWithin_6 (f : Nat) {X : XDyn} {r0 : Rt} (C : XO X mX1_firstWithin) : XS X mX1_firstWithin r0 6 (rw_X1_firstWithin_6 f) := s_lp (fun k6 q6 => sg_X1_firstWithin_6 C (sd_X1_firstWithin_73 f C q6) (sd_X1_firstWithin_69 f C q6)) f
noncomputable def rw_X1_firstWithin_0 (f : Nat) : XK := rg_X1_firstWithin_0 (rw_X1_firstWithin_6 f)
noncomputable def md_X1_firstWithin_0 (p2 : Int) (p3 : Int) (h0 : Ob) (h1 : Ob) (h2 : Ob) (f : Nat) : Unit → Option Rt := mg_X1_firstWithin_0 p2 p3 h0 h1 h2 (md_X1_firstWithin_6 p2 p3 h0 h1 h2 f)
theorem eq_X1_firstWithin_0 (p2 : Int) (p3 : Int) (h0 : Ob) (h1 : Ob) (h2 : Ob) (f : Nat) (a : Unit) : rw_X1_firstWithin_0 f (en_X1_firstWithin_0 p2 p3 h0 h1 h2 a) = md_X1_firstWithin_0 p2 p3 h0 h1 h2 f a :=
 (rq_X1_firstWithin_0 p2 p3 h0 h1 h2 (rw_X1_firstWithin_6 f) a).trans (congrFun (congr (rfl : mg_X1_firstWithin_0 p2 p3 h0 h1 h2 = mg_X1_firstWithin_0 p2 p3 h0 h1 h2) (funext (eq_X1_firstWithin_6 p2 p3 h0 h1 h2 f))) a)
theorem sd_X1_firstWithin_0 (f : Nat) {X : XDyn} {r0 : Rt} (C : XO X mX1_firstWithin) : XS X mX1_firstWithin r0 0 (rw_X1_firstWithin_0 f) := sg_X1_firstWithin_0 C (sd_X1_firstWithin_6 f C)
theorem ctr_X1_firstWithin (f : Nat) : XCt yX1_firstWithin mX1_firstWithin (xF mX1_firstWithin (rw_X1_firstWithin_0 f)) := xMet (by decide +kernel) rfl (fun _ _ C => sd_X1_firstWithin_0 f C)
theorem eqf_X1_firstWithin (f : Nat) (p2 : Int) (p3 : Int) (h0 : Ob) (h1 : Ob) (h2 : Ob) : xF mX1_firstWithin (rw_X1_firstWithin_0 f) [.inr (.inl (0, 0)), .inr (.inl (2, 0)), .inl p2, .inl p3] [h0, h1, h2] = md_X1_firstWithin_0 p2 p3 h0 h1 h2 f () := eq_X1_firstWithin_0 p2 p3 h0 h1 h2 f ()
theorem yi_X1_firstWithin : yX1_firstWithin.cls = RX1 ∧ yX1_firstWithin.cls ≠ "java/lang/invoke/MethodHandle" ∧ yX1_firstWithin.cls ≠ "java/lang/invoke/VarHandle" ∧ (parseMethodDescriptor yX1_firstWithin.desc).map (fun d => d.parameters.length) = some 3 := ⟨rfl, by decide +kernel, by decide +kernel, by decide +kernel⟩
theorem sp_X1_firstWithin (f : Nat) (hf : 1000 ≤ f) (p2 p3 : Int) (h0 h1 h2 : Ob) (hg : pd (LW h2 ∧ 0 ≤ p2 ∧ 0 ≤ p3 ∧ p2 + p3 ≤ 200) = true) : md_X1_firstWithin_0 p2 p3 h0 h1 h2 f () = RI (fwF h2 p2 p3) [h0, h1, h2] := by
  obtain ⟨hL, g1, g2, g3⟩ := pd_of hg
  rw [fwF_e]
  have x1 : xw p2 = p2 := xw_id (by omega) (by omega)
  have x2 : xw (p2 + p3) = p2 + p3 := xw_id (by omega) (by omega)
  show md_X1_firstWithin_6 p2 p3 h0 h1 h2 f ((-1), 0) = _
  refine (loop_fold 8 _ (fun s => RI s [h0, h1, h2]) (fun i s => (s, (i : Int))) (fun _ (s : Int) => -1 ≤ s ∧ s < 8) (fun k i s hi hI => ?_) (fun k s _ => rfl) f (-1) (by omega) (by omega)).1
  obtain ⟨i1, i2⟩ := hI
  have hs : xw s = s := xw_id (by omega) (by omega)
  refine ⟨?_, by split <;> omega⟩
  simp only [md_X1_firstWithin_0, mg_X1_firstWithin_0, lb_X1_firstWithin_6, mg_X1_firstWithin_6, md_X1_firstWithin_69, mg_X1_firstWithin_69, md_X1_firstWithin_73, mg_X1_firstWithin_73, xw_nat (show i < 2147483648 by omega), bz_0, xin_nat (show i < 11 by omega) (show 11 ≤ 2147483648 by omega), toNat_nat, if_true, hL.xpl (show i < 11 by omega), x1, x2, hs]
  rw [if_neg (by omega)]
  cases ful h2 (i : Int)
  · rfl
  · simp only [Bool.true_eq_false, if_false, Bool.true_and]
    by_cases c1 : h2 1 i < p2
    · rw [if_pos c1]
      have t : decide (p2 ≤ h2 1 i) = false := decide_eq_false (by omega)
      simp only [t, Bool.false_and]
      rfl
    · rw [if_neg c1]
      have t : decide (p2 ≤ h2 1 i) = true := decide_eq_true (by omega)
      by_cases c2 : h2 1 i ≥ p2 + p3
      · rw [if_pos c2]
        have t2 : decide (h2 1 i < p2 + p3) = false := decide_eq_false (by omega)
        simp only [t2, Bool.false_and, Bool.and_false]
        rfl
      · rw [if_neg c2]
        have t2 : decide (h2 1 i < p2 + p3) = true := decide_eq_true (by omega)
        by_cases c3 : s = -1
        · rw [if_pos c3]
          simp only [t, t2, c3, decide_true, Bool.true_or, Bool.true_and, if_true]
          rfl
        · rw [if_neg c3, xin_of (n := 11) (by omega) (by omega), if_pos rfl, hL.xpl (show s.toNat < 11 by omega)]
          by_cases c4 : h2 1 i < h2 1 s.toNat
          · rw [if_neg (by omega)]
            simp only [t, t2, c3, c4, decide_true, decide_false, Bool.false_or, Bool.true_and, if_true]
            rfl
          · rw [if_pos (by omega)]
            simp only [t, t2, c3, c4, decide_false, Bool.false_or, Bool.and_false]
            rfl
noncomputable def g_X1_firstWithin : List AV → List Ob → Bool
  | [.inr (.inl (0, 0)), .inr (.inl (2, 0)), .inl p2, .inl p3], [h0, h1, h2] => pd (LW h2 ∧ 0 ≤ p2 ∧ 0 ≤ p3 ∧ p2 + p3 ≤ 200)
  | _, _ => false
noncomputable def v_X1_firstWithin : List AV → List Ob → Rt
  | [.inr (.inl (0, 0)), .inr (.inl (2, 0)), .inl p2, .inl p3], [h0, h1, h2] => (some (.inl (fwF h2 p2 p3)), [h0, h1, h2])
  | _, _ => (none, [])
theorem ct_X1_firstWithin : XCt yX1_firstWithin mX1_firstWithin (fun as μ => if g_X1_firstWithin as μ then some (v_X1_firstWithin as μ) else none) := (ctr_X1_firstWithin xfu).of (fun as μ r h => by
  split at h
  · rename_i hg
    unfold g_X1_firstWithin at hg
    split at hg
    · rw [← h]
      exact (eqf_X1_firstWithin xfu _ _ _ _ _).trans (sp_X1_firstWithin xfu (xfu_ge (by decide)) _ _ _ _ _ hg)
    · cases hg
  · cases h)
theorem dX1_isOpen_0 : decode cX1_isOpen 0 = .ok (.iload_n 2, 1) := by decide +kernel
theorem dX1_isOpen_1 : decode cX1_isOpen 1 = .ok (.istore 4, 2) := by decide +kernel
theorem dX1_isOpen_3 : decode cX1_isOpen 3 = .ok (.iload 4, 2) := by decide +kernel
theorem dX1_isOpen_5 : decode cX1_isOpen 5 = .ok (.iload_n 2, 1) := by decide +kernel
theorem dX1_isOpen_6 : decode cX1_isOpen 6 = .ok (.iload_n 3, 1) := by decide +kernel
theorem dX1_isOpen_7 : decode cX1_isOpen 7 = .ok (.iadd, 1) := by decide +kernel
theorem dX1_isOpen_8 : decode cX1_isOpen 8 = .ok (.if_icmp .ge 50, 3) := by decide +kernel
theorem dX1_isOpen_11 : decode cX1_isOpen 11 = .ok (.aload_n 1, 1) := by decide +kernel
theorem dX1_isOpen_12 : decode cX1_isOpen 12 = .ok (.iload 4, 2) := by decide +kernel
theorem dX1_isOpen_14 : decode cX1_isOpen 14 = .ok (.invokevirtual 53, 3) := by decide +kernel
theorem dX1_isOpen_17 : decode cX1_isOpen 17 = .ok (.istore 5, 2) := by decide +kernel
theorem dX1_isOpen_19 : decode cX1_isOpen 19 = .ok (.iload 5, 2) := by decide +kernel
theorem dX1_isOpen_21 : decode cX1_isOpen 21 = .ok (.iconst (-1), 1) := by decide +kernel
theorem dX1_isOpen_22 : decode cX1_isOpen 22 = .ok (.if_icmp .eq 14, 3) := by decide +kernel
theorem dX1_isOpen_25 : decode cX1_isOpen 25 = .ok (.aload_n 1, 1) := by decide +kernel
theorem dX1_isOpen_26 : decode cX1_isOpen 26 = .ok (.iload 5, 2) := by decide +kernel
theorem dX1_isOpen_28 : decode cX1_isOpen 28 = .ok (.invokevirtual 57, 3) := by decide +kernel
theorem dX1_isOpen_31 : decode cX1_isOpen 31 = .ok (.ifCond .ne 5, 3) := by decide +kernel
theorem dX1_isOpen_34 : decode cX1_isOpen 34 = .ok (.iconst 0, 1) := by decide +kernel
theorem dX1_isOpen_35 : decode cX1_isOpen 35 = .ok (.ireturn, 1) := by decide +kernel
theorem dX1_isOpen_36 : decode cX1_isOpen 36 = .ok (.iload 4, 2) := by decide +kernel
theorem dX1_isOpen_38 : decode cX1_isOpen 38 = .ok (.iconst 1, 1) := by decide +kernel
theorem dX1_isOpen_39 : decode cX1_isOpen 39 = .ok (.iadd, 1) := by decide +kernel
theorem dX1_isOpen_40 : decode cX1_isOpen 40 = .ok (.aload_n 1, 1) := by decide +kernel
theorem dX1_isOpen_41 : decode cX1_isOpen 41 = .ok (.iload 4, 2) := by decide +kernel
theorem dX1_isOpen_43 : decode cX1_isOpen 43 = .ok (.aload_n 1, 1) := by decide +kernel
theorem dX1_isOpen_44 : decode cX1_isOpen 44 = .ok (.getfield 33, 3) := by decide +kernel
theorem dX1_isOpen_47 : decode cX1_isOpen 47 = .ok (.invokevirtual 44, 3) := by decide +kernel
theorem dX1_isOpen_50 : decode cX1_isOpen 50 = .ok (.invokestatic 48, 3) := by decide +kernel
theorem dX1_isOpen_53 : decode cX1_isOpen 53 = .ok (.istore 4, 2) := by decide +kernel
theorem dX1_isOpen_55 : decode cX1_isOpen 55 = .ok (.goto (-52), 3) := by decide +kernel
theorem dX1_isOpen_58 : decode cX1_isOpen 58 = .ok (.iconst 1, 1) := by decide +kernel
theorem dX1_isOpen_59 : decode cX1_isOpen 59 = .ok (.ireturn, 1) := by decide +kernel
abbrev mX1_isOpen : XM := (cX1_isOpen, 6, RX1, (some .boolean), shw_1_6_3, 1)
noncomputable def rg_X1_isOpen_0 (k3 : XK) : XK :=
 o_iload 2 <|
 o_istore 4 <|
 o_cut [0] k3
def en_X1_isOpen_0 (p2 : Int) (p3 : Int) (h0 : Ob) (h1 : Ob) (h2 : Ob) (a : Unit) : XSt := ([some (.inr (.inl (0, 0))), some (.inr (.inl (2, 0))), some (.inl p2), some (.inl p3), none, none], [], [h0, h1, h2])
noncomputable def rg_X1_isOpen_3 (k36 : XK) : XK :=
 o_iload 4 <|
 o_iload 2 <|
 o_iload 3 <|
 o_iadd <|
 o_icmp_ge (o_iconst 1 <|
 o_zreturn)
 (o_aload 1 <|
 o_iload 4 <|
 o_callV 2 1 [2] f_X3_holderAt <|
 o_istore 5 <|
 o_iload 5 <|
 o_iconst (-1) <|
 o_icmp_eq (o_cut [5] k36)
 (o_aload 1 <|
 o_iload 5 <|
 o_callV 2 1 [2] f_X3_isMovable <|
 o_if_ne (o_cut [5] k36)
 (o_iconst 0 <|
 o_zreturn)))
def en_X1_isOpen_3 (p2 : Int) (p3 : Int) (h0 : Ob) (h1 : Ob) (h2 : Ob) (a : Int) : XSt := ([none, some (.inr (.inl (2, 0))), some (.inl p2), some (.inl p3), some (.inl a), none], [], [h0, h1, h2])
noncomputable def rg_X1_isOpen_36 (k3 : XK) : XK :=
 o_iload 4 <|
 o_iconst 1 <|
 o_iadd <|
 o_aload 1 <|
 o_iload 4 <|
 o_aload 1 <|
 o_get shw_1_6_3 3 9 <|
 o_callV 3 1 [2] f_X3_endAt <|
 o_max <|
 o_istore 4 <|
 o_cut [] k3
def en_X1_isOpen_36 (p2 : Int) (p3 : Int) (h0 : Ob) (h1 : Ob) (h2 : Ob) (a : Int) : XSt := ([none, some (.inr (.inl (2, 0))), some (.inl p2), some (.inl p3), some (.inl a), none], [], [h0, h1, h2])
noncomputable def mg_X1_isOpen_0 (p2 : Int) (p3 : Int) (h0 : Ob) (h1 : Ob) (h2 : Ob) (k3 : Int → Option Rt) (a : Unit) : Option Rt :=
 k3 p2
set_option maxRecDepth 100000 in
set_option maxHeartbeats 4000000 in
theorem rq_X1_isOpen_0 (p2 : Int) (p3 : Int) (h0 : Ob) (h1 : Ob) (h2 : Ob) (k3 : XK) (a : Unit) : rg_X1_isOpen_0 k3 (en_X1_isOpen_0 p2 p3 h0 h1 h2 a) = mg_X1_isOpen_0 p2 p3 h0 h1 h2 (fun b => k3 (en_X1_isOpen_3 p2 p3 h0 h1 h2 b)) a := rfl
set_option maxRecDepth 100000 in
set_option maxHeartbeats 4000000 in
theorem sg_X1_isOpen_0 {X : XDyn} {r0 : Rt} (C : XO X mX1_isOpen) {k3 : XK} (q3 : XS X mX1_isOpen r0 3 k3) : XS X mX1_isOpen r0 0 (rg_X1_isOpen_0 k3) := by
 unfold rg_X1_isOpen_0
 exact s_iload_n (pc := 0) C dX1_isOpen_0 rfl <|
    s_istore (pc := 1) C dX1_isOpen_1 <|
    s_cut q3
noncomputable def mg_X1_isOpen_3 (p2 : Int) (p3 : Int) (h0 : Ob) (h1 : Ob) (h2 : Ob) (k36 : Int → Option Rt) (a : Int) : Option Rt :=
 if xw a ≥ xw (p2 + p3) then (RI 1 [h0, h1, h2])
 else (if xw (hol h2 a) = (-1) then (k36 a)
 else (if xw (bz (mov h2 (hol h2 a))) = 0 then (RI 0 [h0, h1, h2])
 else (k36 a)))
set_option maxRecDepth 100000 in
set_option maxHeartbeats 4000000 in
theorem rq_X1_isOpen_3 (p2 : Int) (p3 : Int) (h0 : Ob) (h1 : Ob) (h2 : Ob) (k36 : XK) (a : Int) : rg_X1_isOpen_3 k36 (en_X1_isOpen_3 p2 p3 h0 h1 h2 a) = mg_X1_isOpen_3 p2 p3 h0 h1 h2 (fun b => k36 (en_X1_isOpen_36 p2 p3 h0 h1 h2 b)) a := rfl
set_option maxRecDepth 100000 in
set_option maxHeartbeats 4000000 in
theorem sg_X1_isOpen_3 {X : XDyn} {r0 : Rt} (C : XO X mX1_isOpen) {k36 : XK} (q36 : XS X mX1_isOpen r0 36 k36) : XS X mX1_isOpen r0 3 (rg_X1_isOpen_3 k36) := by
 unfold rg_X1_isOpen_3
 exact s_iload (pc := 3) C dX1_isOpen_3 <|
    s_iload_n (pc := 5) C dX1_isOpen_5 rfl <|
    s_iload_n (pc := 6) C dX1_isOpen_6 rfl <|
    s_iadd (pc := 7) C dX1_isOpen_7 <|
    s_icmp_ge (pc := 8) C dX1_isOpen_8 (by decide) (s_iconst (pc := 58) C dX1_isOpen_58 <|
    s_zreturn (pc := 59) C rfl dX1_isOpen_59)
    (s_aload_n (pc := 11) C dX1_isOpen_11 rfl <|
    s_iload (pc := 12) C dX1_isOpen_12 <|
    s_callV (pc := 14) C ct_X3_holderAt (n := 2) (rk := 1) (mp := [2]) ⟨rfl, by decide, rfl⟩ (ci := 3) rfl rfl (by decide) (by decide) yi_X3_holderAt (by decide) wd_671 wd_394 wd_395 wd_74 wd_396 dX1_isOpen_14 <|
    s_istore (pc := 17) C dX1_isOpen_17 <|
    s_iload (pc := 19) C dX1_isOpen_19 <|
    s_iconst (pc := 21) C dX1_isOpen_21 <|
    s_icmp_eq (pc := 22) C dX1_isOpen_22 (by decide) (s_cut q36)
    (s_aload_n (pc := 25) C dX1_isOpen_25 rfl <|
    s_iload (pc := 26) C dX1_isOpen_26 <|
    s_callV (pc := 28) C ct_X3_isMovable (n := 2) (rk := 1) (mp := [2]) ⟨rfl, by decide, rfl⟩ (ci := 3) rfl rfl (by decide) (by decide) yi_X3_isMovable (by decide) wd_672 wd_413 wd_414 wd_74 wd_415 dX1_isOpen_28 <|
    s_if_ne (pc := 31) C dX1_isOpen_31 (by decide) (s_cut q36)
    (s_iconst (pc := 34) C dX1_isOpen_34 <|
    s_zreturn (pc := 35) C rfl dX1_isOpen_35)))
noncomputable def mg_X1_isOpen_36 (p2 : Int) (p3 : Int) (h0 : Ob) (h1 : Ob) (h2 : Ob) (k3 : Int → Option Rt) (a : Int) : Option Rt :=
 k3 (xmax (a + 1) (nxt h2 a (h2 0 9)))
set_option maxRecDepth 100000 in
set_option maxHeartbeats 4000000 in
theorem rq_X1_isOpen_36 (p2 : Int) (p3 : Int) (h0 : Ob) (h1 : Ob) (h2 : Ob) (k3 : XK) (a : Int) : rg_X1_isOpen_36 k3 (en_X1_isOpen_36 p2 p3 h0 h1 h2 a) = mg_X1_isOpen_36 p2 p3 h0 h1 h2 (fun b => k3 (en_X1_isOpen_3 p2 p3 h0 h1 h2 b)) a := rfl
set_option maxRecDepth 100000 in
set_option maxHeartbeats 4000000 in
theorem sg_X1_isOpen_36 {X : XDyn} {r0 : Rt} (C : XO X mX1_isOpen) {k3 : XK} (q3 : XS X mX1_isOpen r0 3 k3) : XS X mX1_isOpen r0 36 (rg_X1_isOpen_36 k3) := by
 unfold rg_X1_isOpen_36
 exact s_iload (pc := 36) C dX1_isOpen_36 <|
    s_iconst (pc := 38) C dX1_isOpen_38 <|
    s_iadd (pc := 39) C dX1_isOpen_39 <|
    s_aload_n (pc := 40) C dX1_isOpen_40 rfl <|
    s_iload (pc := 41) C dX1_isOpen_41 <|
    s_aload_n (pc := 43) C dX1_isOpen_43 rfl <|
    s_get (pc := 44) C (ci := 3) (kf := 9) rfl inX3 (by decide) wd_126 dX1_isOpen_44 <|
    s_callV (pc := 47) C ct_X3_endAt (n := 3) (rk := 1) (mp := [2]) ⟨rfl, by decide, rfl⟩ (ci := 3) rfl rfl (by decide) (by decide) yi_X3_endAt (by decide) wd_673 wd_398 wd_399 wd_74 wd_400 dX1_isOpen_47 <|
    s_max (pc := 50) C (by decide) wd_608 wd_402 wd_82 wd_403 dX1_isOpen_50 <|
    s_istore (pc := 53) C dX1_isOpen_53 <|
    s_goto (pc := 55) C dX1_isOpen_55 (by decide) <|
    s_cut q3
noncomputable def rw_X1_isOpen_36 (f : Nat) (k3 : XK) : XK := rg_X1_isOpen_36 k3
noncomputable def md_X1_isOpen_36 (p2 : Int) (p3 : Int) (h0 : Ob) (h1 : Ob) (h2 : Ob) (f : Nat) (k3 : Int → Option Rt) : Int → Option Rt := mg_X1_isOpen_36 p2 p3 h0 h1 h2 k3
theorem eq_X1_isOpen_36 (p2 : Int) (p3 : Int) (h0 : Ob) (h1 : Ob) (h2 : Ob) (f : Nat) (k3 : XK) (a : Int) : rw_X1_isOpen_36 f k3 (en_X1_isOpen_36 p2 p3 h0 h1 h2 a) = md_X1_isOpen_36 p2 p3 h0 h1 h2 f (fun b => k3 (en_X1_isOpen_3 p2 p3 h0 h1 h2 b)) a :=
 (rq_X1_isOpen_36 p2 p3 h0 h1 h2 k3 a).trans (congrFun (congr (rfl : mg_X1_isOpen_36 p2 p3 h0 h1 h2 = mg_X1_isOpen_36 p2 p3 h0 h1 h2) rfl) a)
theorem sd_X1_isOpen_36 (f : Nat) {X : XDyn} {r0 : Rt} (C : XO X mX1_isOpen) {k3 : XK} (q3 : XS X mX1_isOpen r0 3 k3) : XS X mX1_isOpen r0 36 (rw_X1_isOpen_36 f k3) := sg_X1_isOpen_36 C q3
noncomputable def rw_X1_isOpen_3 (f : Nat) : XK := tlp (fun k3 => rg_X1_isOpen_3 (rw_X1_isOpen_36 f k3)) f
noncomputable def lb_X1_isOpen_3 (p2 : Int) (p3 : Int) (h0 : Ob) (h1 : Ob) (h2 : Ob) (f : Nat) : ((Int) → Option Rt) → Int → Option Rt := fun k3 => mg_X1_isOpen_3 p2 p3 h0 h1 h2 (md_X1_isOpen_36 p2 p3 h0 h1 h2 f k3)
noncomputable def md_X1_isOpen_3 (p2 : Int) (p3 : Int) (h0 : Ob) (h1 : Ob) (h2 : Ob) (f : Nat) : Int → Option Rt := tlp (lb_X1_isOpen_3 p2 p3 h0 h1 h2 f) f
theorem eq_X1_isOpen_3 (p2 : Int) (p3 : Int) (h0 : Ob) (h1 : Ob) (h2 : Ob) (f : Nat) (a : Int) : rw_X1_isOpen_3 f (en_X1_isOpen_3 p2 p3 h0 h1 h2 a) = md_X1_isOpen_3 p2 p3 h0 h1 h2 f a :=
 tlp_enc (en_X1_isOpen_3 p2 p3 h0 h1 h2) (fun k3 a => (rq_X1_isOpen_3 p2 p3 h0 h1 h2 (rw_X1_isOpen_36 f k3) a).trans (congrFun (congr (rfl : mg_X1_isOpen_3 p2 p3 h0 h1 h2 = mg_X1_isOpen_3 p2 p3 h0 h1 h2) (funext (eq_X1_isOpen_36 p2 p3 h0 h1 h2 f k3))) a)) f a
theorem sd_X1_isOpen_3 (f : Nat) {X : XDyn} {r0 : Rt} (C : XO X mX1_isOpen) : XS X mX1_isOpen r0 3 (rw_X1_isOpen_3 f) := s_lp (fun k3 q3 => sg_X1_isOpen_3 C (sd_X1_isOpen_36 f C q3)) f
noncomputable def rw_X1_isOpen_0 (f : Nat) : XK := rg_X1_isOpen_0 (rw_X1_isOpen_3 f)
noncomputable def md_X1_isOpen_0 (p2 : Int) (p3 : Int) (h0 : Ob) (h1 : Ob) (h2 : Ob) (f : Nat) : Unit → Option Rt := mg_X1_isOpen_0 p2 p3 h0 h1 h2 (md_X1_isOpen_3 p2 p3 h0 h1 h2 f)
theorem eq_X1_isOpen_0 (p2 : Int) (p3 : Int) (h0 : Ob) (h1 : Ob) (h2 : Ob) (f : Nat) (a : Unit) : rw_X1_isOpen_0 f (en_X1_isOpen_0 p2 p3 h0 h1 h2 a) = md_X1_isOpen_0 p2 p3 h0 h1 h2 f a :=
 (rq_X1_isOpen_0 p2 p3 h0 h1 h2 (rw_X1_isOpen_3 f) a).trans (congrFun (congr (rfl : mg_X1_isOpen_0 p2 p3 h0 h1 h2 = mg_X1_isOpen_0 p2 p3 h0 h1 h2) (funext (eq_X1_isOpen_3 p2 p3 h0 h1 h2 f))) a)
theorem sd_X1_isOpen_0 (f : Nat) {X : XDyn} {r0 : Rt} (C : XO X mX1_isOpen) : XS X mX1_isOpen r0 0 (rw_X1_isOpen_0 f) := sg_X1_isOpen_0 C (sd_X1_isOpen_3 f C)
theorem ctr_X1_isOpen (f : Nat) : XCt yX1_isOpen mX1_isOpen (xF mX1_isOpen (rw_X1_isOpen_0 f)) := xMet (by decide +kernel) rfl (fun _ _ C => sd_X1_isOpen_0 f C)
theorem eqf_X1_isOpen (f : Nat) (p2 : Int) (p3 : Int) (h0 : Ob) (h1 : Ob) (h2 : Ob) : xF mX1_isOpen (rw_X1_isOpen_0 f) [.inr (.inl (0, 0)), .inr (.inl (2, 0)), .inl p2, .inl p3] [h0, h1, h2] = md_X1_isOpen_0 p2 p3 h0 h1 h2 f () := eq_X1_isOpen_0 p2 p3 h0 h1 h2 f ()
theorem yi_X1_isOpen : yX1_isOpen.cls = RX1 ∧ yX1_isOpen.cls ≠ "java/lang/invoke/MethodHandle" ∧ yX1_isOpen.cls ≠ "java/lang/invoke/VarHandle" ∧ (parseMethodDescriptor yX1_isOpen.desc).map (fun d => d.parameters.length) = some 3 := ⟨rfl, by decide +kernel, by decide +kernel, by decide +kernel⟩
theorem sp_X1_isOpen (f : Nat) (hf : 1000 ≤ f) (p2 p3 : Int) (h0 h1 h2 : Ob) (hg : pd (LW h2 ∧ Nb h2 p2 ∧ 0 ≤ p2 ∧ 0 ≤ p3 ∧ p2 + p3 ≤ h2 0 9) = true) : md_X1_isOpen_0 p2 p3 h0 h1 h2 f () = RI (bz (iop h2 p2 p3)) [h0, h1, h2] := by
  obtain ⟨hL, gN, g1, g2, g3⟩ := pd_of hg
  obtain ⟨z1, z2, z3, -⟩ := id hL
  have x2 : xw (p2 + p3) = p2 + p3 := xw_id (by omega) (by omega)
  show md_X1_isOpen_3 p2 p3 h0 h1 h2 f p2 = _
  have key := tlp_inv (B := lb_X1_isOpen_3 p2 p3 h0 h1 h2 f) (fun k => p2 ≤ k ∧ k ≤ h2 0 9 ∧ Nb h2 k ∧ ∀ c, p2 ≤ c → c < k → ¬ fxd h2 c) (fun k => (h2 0 9 - k).toNat) (fun _ => RI (bz (iop h2 p2 p3)) [h0, h1, h2]) ?_ f p2 ⟨Int.le_refl _, by omega, gN, fun c a b => by omega⟩ (by omega)
  · exact key
  · rintro k ⟨i1, i2, i3, i4⟩
    have xk : xw k = k := xw_id (by omega) (by omega)
    by_cases hk : k ≥ p2 + p3
    · right
      intro kk
      simp only [md_X1_isOpen_0, mg_X1_isOpen_0, lb_X1_isOpen_3, mg_X1_isOpen_3, md_X1_isOpen_36, mg_X1_isOpen_36, xk, x2]
      rw [if_pos hk]
      have : iop h2 p2 p3 = true := pd_t (fun c a b => i4 c a (by omega))
      rw [this]; rfl
    · have hr := hol_range hL (k := k) (by omega) (by omega)
      obtain ⟨n1, n2, n3⟩ := hL.nxc (k := k) (e := h2 0 9) (by omega) (by omega) (Int.le_refl _) (by omega)
      have hN' := hL.nb_nxt (k := k) (e := h2 0 9) (by omega) (by omega) (by omega) i3
      have goon : ∀ (hfree : ∀ c, k ≤ c → c < nxt h2 k (h2 0 9) → ¬ fxd h2 c), p2 ≤ nx h2 (h2 0 9) k ∧ nx h2 (h2 0 9) k ≤ h2 0 9 ∧ Nb h2 (nx h2 (h2 0 9) k) ∧ ∀ c, p2 ≤ c → c < nx h2 (h2 0 9) k → ¬ fxd h2 c := fun hfree => ⟨by omega, n2, by rw [n3]; exact hN', fun c a b => by
        by_cases z : c < k
        · exact i4 c a z
        · exact hfree c (by omega) (by omega)⟩
      rcases hL.blk (k := k) (e := h2 0 9) (by omega) (by omega) (by omega) i3 with ⟨i, j1, j2, j3, j4, j5, j6⟩ | ⟨j1, j2, j3⟩
      · cases hm : mov h2 (i : Int) with
        | true =>
          left
          refine ⟨nx h2 (h2 0 9) k, fun kk => ?_, goon (fun c a b ⟨i', a1, a2, a3⟩ => ?_), by omega, rfl⟩
          · simp only [md_X1_isOpen_0, mg_X1_isOpen_0, lb_X1_isOpen_3, mg_X1_isOpen_3, md_X1_isOpen_36, mg_X1_isOpen_36, xk, x2, hr.2.2, bz_0]
            rw [if_neg hk, j3, if_neg (by omega), hm, if_neg (by simp)]
            rfl
          · rw [hL.cv1 a1 j1 a2 (j6 c a b), hm] at a3
            cases a3
        | false =>
          right
          intro kk
          simp only [md_X1_isOpen_0, mg_X1_isOpen_0, lb_X1_isOpen_3, mg_X1_isOpen_3, md_X1_isOpen_36, mg_X1_isOpen_36, xk, x2, hr.2.2, bz_0]
          rw [if_neg hk, j3, if_neg (by omega), hm, if_pos rfl]
          have : iop h2 p2 p3 = false := pd_f (fun z => z k i1 (by omega) ⟨i, j1, j6 k (Int.le_refl _) (by omega), hm⟩)
          rw [this]; rfl
      · left
        refine ⟨nx h2 (h2 0 9) k, fun kk => ?_, goon (fun c a b ⟨i', a1, a2, a3⟩ => j3 c a b i' a1 a2), by omega, rfl⟩
        simp only [md_X1_isOpen_0, mg_X1_isOpen_0, lb_X1_isOpen_3, mg_X1_isOpen_3, md_X1_isOpen_36, mg_X1_isOpen_36, xk, x2, hr.2.2, bz_0]
        rw [if_neg hk, if_pos j2]
        rfl
noncomputable def g_X1_isOpen : List AV → List Ob → Bool
  | [.inr (.inl (0, 0)), .inr (.inl (2, 0)), .inl p2, .inl p3], [h0, h1, h2] => pd (LW h2 ∧ Nb h2 p2 ∧ 0 ≤ p2 ∧ 0 ≤ p3 ∧ p2 + p3 ≤ h2 0 9)
  | _, _ => false
noncomputable def v_X1_isOpen : List AV → List Ob → Rt
  | [.inr (.inl (0, 0)), .inr (.inl (2, 0)), .inl p2, .inl p3], [h0, h1, h2] => (some (.inl (bz (iop h2 p2 p3))), [h0, h1, h2])
  | _, _ => (none, [])
theorem ct_X1_isOpen : XCt yX1_isOpen mX1_isOpen (fun as μ => if g_X1_isOpen as μ then some (v_X1_isOpen as μ) else none) := (ctr_X1_isOpen xfu).of (fun as μ r h => by
  split at h
  · rename_i hg
    unfold g_X1_isOpen at hg
    split at hg
    · rw [← h]
      exact (eqf_X1_isOpen xfu _ _ _ _ _).trans (sp_X1_isOpen xfu (xfu_ge (by decide)) _ _ _ _ _ hg)
    · cases hg
  · cases h)
