/-- the blocks from k on are given to gaps, at most mv of them to another: tries the gaps of the list in turn -/
def gvL (k mv : Int) (R : Int → Ob → Bool × Ob) : List Nat → Ob → Bool × Ob
  | [], A => (false, A)
  | g :: t, A =>
    if xw (if (g : Int) = xw (A 3 k.toNat) then mv else mv - 1) < 0 then gvL k mv R t A
    else if xw (A 5 g) < xw (A 2 k.toNat) then gvL k mv R t A
    else if (R (if (g : Int) = xw (A 3 k.toNat) then mv else mv - 1) (xset (xset A 5 g (A 5 g - A 2 k.toNat)) 4 k.toNat (g : Int))).1 = false then gvL k mv R t (xset (R (if (g : Int) = xw (A 3 k.toNat) then mv else mv - 1) (xset (xset A 5 g (A 5 g - A 2 k.toNat)) 4 k.toNat (g : Int))).2 5 g ((R (if (g : Int) = xw (A 3 k.toNat) then mv else mv - 1) (xset (xset A 5 g (A 5 g - A 2 k.toNat)) 4 k.toNat (g : Int))).2 5 g + (R (if (g : Int) = xw (A 3 k.toNat) then mv else mv - 1) (xset (xset A 5 g (A 5 g - A 2 k.toNat)) 4 k.toNat (g : Int))).2 2 k.toNat))
    else R (if (g : Int) = xw (A 3 k.toNat) then mv else mv - 1) (xset (xset A 5 g (A 5 g - A 2 k.toNat)) 4 k.toNat (g : Int))
def gvI (G : Ob) (n : Int) : Nat → Int → Int → Ob → Bool × Ob
  | 0, _, _, A => (false, A)
  | l + 1, k, mv, A => if hgF A G n = false then (false, A) else if A 0 7 ≤ k then (true, A) else gvL k mv (gvI G n l (k + 1)) (List.range (G 0 2).toNat) A
noncomputable def gvF : Ob → Ob → Int → Int → Int → Bool × Ob := xop (fun A G k m n => gvI G n ((A 0 7 - k).toNat + 1) k m A)
theorem gvF_e (A G : Ob) (k m n : Int) : gvF A G k m n = gvI G n ((A 0 7 - k).toNat + 1) k m A := by
  unfold gvF
  rw [xop_eq]
def GvG (n : Nat) (A G : Ob) (k : Int) : Prop := rk G = true ∧ 0 ≤ A 0 7 ∧ A 0 7 ≤ 8 ∧ 0 ≤ k ∧ k ≤ A 0 7 ∧ A 0 7 < k + n
theorem gvL_off {k mv : Int} {R : Int → Ob → Bool × Ob} (hR : ∀ m A j i, j ≠ 4 → j ≠ 5 → (R m A).2 j i = A j i) : ∀ (t : List Nat) (A : Ob) (j i : Nat), j ≠ 4 → j ≠ 5 → (gvL k mv R t A).2 j i = A j i
  | [], A, j, i, _, _ => rfl
  | g :: t, A, j, i, h4, h5 => by
    unfold gvL
    generalize (if (g : Int) = xw (A 3 k.toNat) then mv else mv - 1) = mt
    split
    · exact gvL_off hR t A j i h4 h5
    · split
      · exact gvL_off hR t A j i h4 h5
      · split
        · rw [gvL_off hR t _ j i h4 h5, xset_part _ _ _ _ h5, hR _ _ _ _ h4 h5, xset_part _ _ _ _ h4, xset_part _ _ _ _ h5]
        · rw [hR _ _ _ _ h4 h5, xset_part _ _ _ _ h4, xset_part _ _ _ _ h5]
theorem gvI_off (G : Ob) (n : Int) : ∀ (l : Nat) (k mv : Int) (A : Ob) (j i : Nat), j ≠ 4 → j ≠ 5 → (gvI G n l k mv A).2 j i = A j i
  | 0, _, _, A, j, i, _, _ => rfl
  | l + 1, k, mv, A, j, i, h4, h5 => by
    unfold gvI
    split
    · rfl
    · split
      · rfl
      · exact gvL_off (fun m A j i => gvI_off G n l (k + 1) m A j i) _ A j i h4 h5
theorem gb_X0_give {k : Int} {A G : Ob} (h : pd (GvG 0 A G k) = true) : False := by
  obtain ⟨-, -, -, -, h1, h2⟩ := pd_of h
  omega
theorem dX0_give_0 : decode cX0_give 0 = .ok (.aload_n 0, 1) := by decide +kernel
theorem dX0_give_1 : decode cX0_give 1 = .ok (.iload_n 3, 1) := by decide +kernel
theorem dX0_give_2 : decode cX0_give 2 = .ok (.invokevirtual 112, 3) := by decide +kernel
theorem dX0_give_5 : decode cX0_give 5 = .ok (.ifCond .ne 5, 3) := by decide +kernel
theorem dX0_give_8 : decode cX0_give 8 = .ok (.iconst 0, 1) := by decide +kernel
theorem dX0_give_9 : decode cX0_give 9 = .ok (.ireturn, 1) := by decide +kernel
theorem dX0_give_10 : decode cX0_give 10 = .ok (.iload_n 1, 1) := by decide +kernel
theorem dX0_give_11 : decode cX0_give 11 = .ok (.ifCond .lt 11, 3) := by decide +kernel
theorem dX0_give_14 : decode cX0_give 14 = .ok (.iload_n 1, 1) := by decide +kernel
theorem dX0_give_15 : decode cX0_give 15 = .ok (.aload_n 0, 1) := by decide +kernel
theorem dX0_give_16 : decode cX0_give 16 = .ok (.getfield 71, 3) := by decide +kernel
theorem dX0_give_19 : decode cX0_give 19 = .ok (.if_icmp .lt 5, 3) := by decide +kernel
theorem dX0_give_22 : decode cX0_give 22 = .ok (.iconst 1, 1) := by decide +kernel
theorem dX0_give_23 : decode cX0_give 23 = .ok (.ireturn, 1) := by decide +kernel
theorem dX0_give_24 : decode cX0_give 24 = .ok (.iconst 0, 1) := by decide +kernel
theorem dX0_give_25 : decode cX0_give 25 = .ok (.istore 4, 2) := by decide +kernel
theorem dX0_give_27 : decode cX0_give 27 = .ok (.iload 4, 2) := by decide +kernel
theorem dX0_give_29 : decode cX0_give 29 = .ok (.aload_n 0, 1) := by decide +kernel
theorem dX0_give_30 : decode cX0_give 30 = .ok (.getfield 12, 3) := by decide +kernel
theorem dX0_give_33 : decode cX0_give 33 = .ok (.getfield 115, 3) := by decide +kernel
theorem dX0_give_36 : decode cX0_give 36 = .ok (.if_icmp .ge 105, 3) := by decide +kernel
theorem dX0_give_39 : decode cX0_give 39 = .ok (.iload 4, 2) := by decide +kernel
theorem dX0_give_41 : decode cX0_give 41 = .ok (.aload_n 0, 1) := by decide +kernel
theorem dX0_give_42 : decode cX0_give 42 = .ok (.getfield 32, 3) := by decide +kernel
theorem dX0_give_45 : decode cX0_give 45 = .ok (.iload_n 1, 1) := by decide +kernel
theorem dX0_give_46 : decode cX0_give 46 = .ok (.iaload, 1) := by decide +kernel
theorem dX0_give_47 : decode cX0_give 47 = .ok (.if_icmp .ne 7, 3) := by decide +kernel
theorem dX0_give_50 : decode cX0_give 50 = .ok (.iload_n 2, 1) := by decide +kernel
theorem dX0_give_51 : decode cX0_give 51 = .ok (.goto 6, 3) := by decide +kernel
theorem dX0_give_54 : decode cX0_give 54 = .ok (.iload_n 2, 1) := by decide +kernel
theorem dX0_give_55 : decode cX0_give 55 = .ok (.iconst 1, 1) := by decide +kernel
theorem dX0_give_56 : decode cX0_give 56 = .ok (.isub, 1) := by decide +kernel
theorem dX0_give_57 : decode cX0_give 57 = .ok (.istore 5, 2) := by decide +kernel
theorem dX0_give_59 : decode cX0_give 59 = .ok (.iload 5, 2) := by decide +kernel
theorem dX0_give_61 : decode cX0_give 61 = .ok (.ifCond .lt 74, 3) := by decide +kernel
theorem dX0_give_64 : decode cX0_give 64 = .ok (.aload_n 0, 1) := by decide +kernel
theorem dX0_give_65 : decode cX0_give 65 = .ok (.getfield 38, 3) := by decide +kernel
theorem dX0_give_68 : decode cX0_give 68 = .ok (.iload 4, 2) := by decide +kernel
theorem dX0_give_70 : decode cX0_give 70 = .ok (.iaload, 1) := by decide +kernel
theorem dX0_give_71 : decode cX0_give 71 = .ok (.aload_n 0, 1) := by decide +kernel
theorem dX0_give_72 : decode cX0_give 72 = .ok (.getfield 29, 3) := by decide +kernel
theorem dX0_give_75 : decode cX0_give 75 = .ok (.iload_n 1, 1) := by decide +kernel
theorem dX0_give_76 : decode cX0_give 76 = .ok (.iaload, 1) := by decide +kernel
theorem dX0_give_77 : decode cX0_give 77 = .ok (.if_icmp .lt 58, 3) := by decide +kernel
theorem dX0_give_80 : decode cX0_give 80 = .ok (.aload_n 0, 1) := by decide +kernel
theorem dX0_give_81 : decode cX0_give 81 = .ok (.getfield 38, 3) := by decide +kernel
theorem dX0_give_84 : decode cX0_give 84 = .ok (.iload 4, 2) := by decide +kernel
theorem dX0_give_86 : decode cX0_give 86 = .ok (.dup2, 1) := by decide +kernel
theorem dX0_give_87 : decode cX0_give 87 = .ok (.iaload, 1) := by decide +kernel
theorem dX0_give_88 : decode cX0_give 88 = .ok (.aload_n 0, 1) := by decide +kernel
theorem dX0_give_89 : decode cX0_give 89 = .ok (.getfield 29, 3) := by decide +kernel
theorem dX0_give_92 : decode cX0_give 92 = .ok (.iload_n 1, 1) := by decide +kernel
theorem dX0_give_93 : decode cX0_give 93 = .ok (.iaload, 1) := by decide +kernel
theorem dX0_give_94 : decode cX0_give 94 = .ok (.isub, 1) := by decide +kernel
theorem dX0_give_95 : decode cX0_give 95 = .ok (.iastore, 1) := by decide +kernel
theorem dX0_give_96 : decode cX0_give 96 = .ok (.aload_n 0, 1) := by decide +kernel
theorem dX0_give_97 : decode cX0_give 97 = .ok (.getfield 35, 3) := by decide +kernel
theorem dX0_give_100 : decode cX0_give 100 = .ok (.iload_n 1, 1) := by decide +kernel
theorem dX0_give_101 : decode cX0_give 101 = .ok (.iload 4, 2) := by decide +kernel
theorem dX0_give_103 : decode cX0_give 103 = .ok (.iastore, 1) := by decide +kernel
theorem dX0_give_104 : decode cX0_give 104 = .ok (.aload_n 0, 1) := by decide +kernel
theorem dX0_give_105 : decode cX0_give 105 = .ok (.iload_n 1, 1) := by decide +kernel
theorem dX0_give_106 : decode cX0_give 106 = .ok (.iconst 1, 1) := by decide +kernel
theorem dX0_give_107 : decode cX0_give 107 = .ok (.iadd, 1) := by decide +kernel
theorem dX0_give_108 : decode cX0_give 108 = .ok (.iload 5, 2) := by decide +kernel
theorem dX0_give_110 : decode cX0_give 110 = .ok (.iload_n 3, 1) := by decide +kernel
theorem dX0_give_111 : decode cX0_give 111 = .ok (.invokestatic 81, 3) := by decide +kernel
theorem dX0_give_114 : decode cX0_give 114 = .ok (.ifCond .eq 5, 3) := by decide +kernel
theorem dX0_give_117 : decode cX0_give 117 = .ok (.iconst 1, 1) := by decide +kernel
theorem dX0_give_118 : decode cX0_give 118 = .ok (.ireturn, 1) := by decide +kernel
theorem dX0_give_119 : decode cX0_give 119 = .ok (.aload_n 0, 1) := by decide +kernel
theorem dX0_give_120 : decode cX0_give 120 = .ok (.getfield 38, 3) := by decide +kernel
theorem dX0_give_123 : decode cX0_give 123 = .ok (.iload 4, 2) := by decide +kernel
theorem dX0_give_125 : decode cX0_give 125 = .ok (.dup2, 1) := by decide +kernel
theorem dX0_give_126 : decode cX0_give 126 = .ok (.iaload, 1) := by decide +kernel
theorem dX0_give_127 : decode cX0_give 127 = .ok (.aload_n 0, 1) := by decide +kernel
theorem dX0_give_128 : decode cX0_give 128 = .ok (.getfield 29, 3) := by decide +kernel
theorem dX0_give_131 : decode cX0_give 131 = .ok (.iload_n 1, 1) := by decide +kernel
theorem dX0_give_132 : decode cX0_give 132 = .ok (.iaload, 1) := by decide +kernel
theorem dX0_give_133 : decode cX0_give 133 = .ok (.iadd, 1) := by decide +kernel
theorem dX0_give_134 : decode cX0_give 134 = .ok (.iastore, 1) := by decide +kernel
theorem dX0_give_135 : decode cX0_give 135 = .ok (.iinc 4 1, 3) := by decide +kernel
theorem dX0_give_138 : decode cX0_give 138 = .ok (.goto (-111), 3) := by decide +kernel
theorem dX0_give_141 : decode cX0_give 141 = .ok (.iconst 0, 1) := by decide +kernel
theorem dX0_give_142 : decode cX0_give 142 = .ok (.ireturn, 1) := by decide +kernel
abbrev mX0_give (n : Nat) : XM := (cX0_give, 6, RX0, (some .boolean), shw_0_6_4, 1 + n)
noncomputable def g_X0_give (n : Nat) : List AV → List Ob → Bool
  | [.inr (.inl (0, 0)), .inl p1, .inl p2, .inl p3], [h0, h1, h2] => pd (GvG n h0 h1 p1)
  | _, _ => false
noncomputable def v_X0_give : List AV → List Ob → Rt
  | [.inr (.inl (0, 0)), .inl p1, .inl p2, .inl p3], [h0, h1, h2] => (some (.inl (bz (gvF h0 h1 p1 p2 p3).1)), [((gvF h0 h1 p1 p2 p3).2), h1, h2])
  | _, _ => (none, [])
theorem yi_X0_give : yX0_give.cls ≠ "java/lang/invoke/MethodHandle" ∧ yX0_give.cls ≠ "java/lang/invoke/VarHandle" ∧ (parseMethodDescriptor yX0_give.desc).map (fun d => d.parameters.length) = some 4 := ⟨by decide +kernel, by decide +kernel, by decide +kernel⟩
noncomputable def rg_X0_give_0 (n : Nat) (k27 : XK) : XK :=
 o_aload 0 <|
 o_iload 3 <|
 o_callVg 2 1 [0, 1, 2] g_X0_hasGapWith v_X0_hasGapWith <|
 o_if_ne (o_iload 1 <|
 o_if_lt (o_iconst 1 <|
 o_zreturn)
 (o_iload 1 <|
 o_aload 0 <|
 o_get shw_0_6_4 0 7 <|
 o_icmp_lt (o_iconst 0 <|
 o_istore 4 <|
 o_cut [] k27)
 (o_iconst 1 <|
 o_zreturn)))
 (o_iconst 0 <|
 o_zreturn)
def en_X0_give_0 (n : Nat) (p1 : Int) (p2 : Int) (p3 : Int) (h1 : Ob) (h2 : Ob) (a : Ob) : XSt := ([some (.inr (.inl (0, 0))), some (.inl p1), some (.inl p2), some (.inl p3), none, none], [], [a, h1, h2])
noncomputable def rg_X0_give_27 (n : Nat) (k57 : XK) : XK :=
 o_iload 4 <|
 o_aload 0 <|
 o_get shw_0_6_4 0 0 <|
 o_get shw_0_6_4 6 2 <|
 o_icmp_ge (o_iconst 0 <|
 o_zreturn)
 (o_iload 4 <|
 o_aload 0 <|
 o_get shw_0_6_4 0 4 <|
 o_iload 1 <|
 o_iald shw_0_6_4 <|
 o_icmp_ne (o_iload 2 <|
 o_iconst 1 <|
 o_isub <|
 o_cut [] k57)
 (o_iload 2 <|
 o_cut [] k57))
def en_X0_give_27 (n : Nat) (p1 : Int) (p2 : Int) (p3 : Int) (h1 : Ob) (h2 : Ob) (a : Int × Ob) : XSt := ([some (.inr (.inl (0, 0))), some (.inl p1), some (.inl p2), some (.inl p3), some (.inl a.1), none], [], [a.2, h1, h2])
noncomputable def rg_X0_give_57 (n : Nat) (k135 : XK) : XK :=
 o_istore 5 <|
 o_iload 5 <|
 o_if_lt (o_cut [5] k135)
 (o_aload 0 <|
 o_get shw_0_6_4 0 6 <|
 o_iload 4 <|
 o_iald shw_0_6_4 <|
 o_aload 0 <|
 o_get shw_0_6_4 0 3 <|
 o_iload 1 <|
 o_iald shw_0_6_4 <|
 o_icmp_lt (o_cut [5] k135)
 (o_aload 0 <|
 o_get shw_0_6_4 0 6 <|
 o_iload 4 <|
 o_dup2 <|
 o_iald shw_0_6_4 <|
 o_aload 0 <|
 o_get shw_0_6_4 0 3 <|
 o_iload 1 <|
 o_iald shw_0_6_4 <|
 o_isub <|
 o_iast shw_0_6_4 <|
 o_aload 0 <|
 o_get shw_0_6_4 0 5 <|
 o_iload 1 <|
 o_iload 4 <|
 o_iast shw_0_6_4 <|
 o_aload 0 <|
 o_iload 1 <|
 o_iconst 1 <|
 o_iadd <|
 o_iload 5 <|
 o_iload 3 <|
 o_callSg 4 1 [0, 1, 2] (g_X0_give n) v_X0_give <|
 o_if_eq (o_aload 0 <|
 o_get shw_0_6_4 0 6 <|
 o_iload 4 <|
 o_dup2 <|
 o_iald shw_0_6_4 <|
 o_aload 0 <|
 o_get shw_0_6_4 0 3 <|
 o_iload 1 <|
 o_iald shw_0_6_4 <|
 o_iadd <|
 o_iast shw_0_6_4 <|
 o_cut [5] k135)
 (o_iconst 1 <|
 o_zreturn)))
def en_X0_give_57 (n : Nat) (p1 : Int) (p2 : Int) (p3 : Int) (h1 : Ob) (h2 : Ob) (a : Int × Int × Ob) : XSt := ([some (.inr (.inl (0, 0))), some (.inl p1), some (.inl p2), some (.inl p3), some (.inl a.1), none], [.inl a.2.1], [a.2.2, h1, h2])
noncomputable def rg_X0_give_135 (n : Nat) (k27 : XK) : XK :=
 o_iinc 4 1 <|
 o_cut [] k27
def en_X0_give_135 (n : Nat) (p1 : Int) (p2 : Int) (p3 : Int) (h1 : Ob) (h2 : Ob) (a : Int × Ob) : XSt := ([some (.inr (.inl (0, 0))), some (.inl p1), some (.inl p2), some (.inl p3), some (.inl a.1), none], [], [a.2, h1, h2])
noncomputable def mg_X0_give_0 (n : Nat) (p1 : Int) (p2 : Int) (p3 : Int) (h1 : Ob) (h2 : Ob) (k27 : (Int × Ob) → Option Rt) (a : Ob) : Option Rt :=
 if rk h1 then (
 if xw (bz (hgF a h1 p3)) = 0 then (RI 0 [a, h1, h2])
 else (if xw p1 < 0 then (RI 1 [a, h1, h2])
 else (if xw p1 < xw (a 0 7) then (k27 (0, a))
 else (RI 1 [a, h1, h2])))) else none
set_option maxRecDepth 100000 in
set_option maxHeartbeats 4000000 in
theorem rq_X0_give_0 (n : Nat) (p1 : Int) (p2 : Int) (p3 : Int) (h1 : Ob) (h2 : Ob) (k27 : XK) (a : Ob) : rg_X0_give_0 n k27 (en_X0_give_0 n p1 p2 p3 h1 h2 a) = mg_X0_give_0 n p1 p2 p3 h1 h2 (fun b => k27 (en_X0_give_27 n p1 p2 p3 h1 h2 b)) a := rfl
set_option maxRecDepth 100000 in
set_option maxHeartbeats 4000000 in
theorem sg_X0_give_0 {X : XDyn} {r0 : Rt} (n : Nat) (hR : XCt yX0_give (mX0_give n) (xgv (g_X0_give n) v_X0_give)) (C : XO X (mX0_give (n + 1))) {k27 : XK} (q27 : XS X (mX0_give (n + 1)) r0 27 k27) : XS X (mX0_give (n + 1)) r0 0 (rg_X0_give_0 n k27) := by
 unfold rg_X0_give_0
 exact s_aload_n (pc := 0) C dX0_give_0 rfl <|
    s_iload_n (pc := 1) C dX0_give_1 rfl <|
    s_callVg (pc := 2) C ct_X0_hasGapWith (n := 2) (rk := 1) (mp := [0, 1, 2]) ⟨rfl, by first | decide | (dsimp only; decide), rfl⟩ (ci := 0) rfl rfl (show 0 + 1 ≤ 1 + (n + 1) by omega) (by first | decide | (dsimp only; decide)) yi_X0_hasGapWith (by first | decide | (dsimp only; decide)) wd_492 wd_494 wd_6 wd_79 wd_495 dX0_give_2 <|
    s_if_ne (pc := 5) C dX0_give_5 (by first | decide | (dsimp only; decide)) (s_iload_n (pc := 10) C dX0_give_10 rfl <|
    s_if_lt (pc := 11) C dX0_give_11 (by first | decide | (dsimp only; decide)) (s_iconst (pc := 22) C dX0_give_22 <|
    s_zreturn (pc := 23) C rfl dX0_give_23)
    (s_iload_n (pc := 14) C dX0_give_14 rfl <|
    s_aload_n (pc := 15) C dX0_give_15 rfl <|
    s_get (pc := 16) C (ci := 0) (kf := 7) rfl inX0 (by first | decide | (dsimp only; decide)) wd_259 dX0_give_16 <|
    s_icmp_lt (pc := 19) C dX0_give_19 (by first | decide | (dsimp only; decide)) (s_iconst (pc := 24) C dX0_give_24 <|
    s_istore (pc := 25) C dX0_give_25 <|
    s_cut q27)
    (s_iconst (pc := 22) C dX0_give_22 <|
    s_zreturn (pc := 23) C rfl dX0_give_23)))
    (s_iconst (pc := 8) C dX0_give_8 <|
    s_zreturn (pc := 9) C rfl dX0_give_9)
noncomputable def mg_X0_give_27 (n : Nat) (p1 : Int) (p2 : Int) (p3 : Int) (h1 : Ob) (h2 : Ob) (k57 : (Int × Int × Ob) → Option Rt) (a : Int × Ob) : Option Rt :=
 if xw a.1 ≥ xw (h1 0 2) then (RI 0 [a.2, h1, h2])
 else (if xin p1 8 then (
 if xw a.1 = xw (a.2 3 (xw p1).toNat) then (k57 (a.1, p2, a.2))
 else (k57 (a.1, (p2 - 1), a.2))) else none)
set_option maxRecDepth 100000 in
set_option maxHeartbeats 4000000 in
theorem rq_X0_give_27 (n : Nat) (p1 : Int) (p2 : Int) (p3 : Int) (h1 : Ob) (h2 : Ob) (k57 : XK) (a : Int × Ob) : rg_X0_give_27 n k57 (en_X0_give_27 n p1 p2 p3 h1 h2 a) = mg_X0_give_27 n p1 p2 p3 h1 h2 (fun b => k57 (en_X0_give_57 n p1 p2 p3 h1 h2 b)) a := rfl
set_option maxRecDepth 100000 in
set_option maxHeartbeats 4000000 in
theorem sg_X0_give_27 {X : XDyn} {r0 : Rt} (n : Nat) (hR : XCt yX0_give (mX0_give n) (xgv (g_X0_give n) v_X0_give)) (C : XO X (mX0_give (n + 1))) {k57 : XK} (q57 : XS X (mX0_give (n + 1)) r0 57 k57) : XS X (mX0_give (n + 1)) r0 27 (rg_X0_give_27 n k57) := by
 unfold rg_X0_give_27
 exact s_iload (pc := 27) C dX0_give_27 <|
    s_aload_n (pc := 29) C dX0_give_29 rfl <|
    s_get (pc := 30) C (ci := 0) (kf := 0) rfl inX0 (by first | decide | (dsimp only; decide)) wd_252 dX0_give_30 <|
    s_get (pc := 33) C (ci := 6) (kf := 2) rfl inX6 (by first | decide | (dsimp only; decide)) wd_204 dX0_give_33 <|
    s_icmp_ge (pc := 36) C dX0_give_36 (by first | decide | (dsimp only; decide)) (s_iconst (pc := 141) C dX0_give_141 <|
    s_zreturn (pc := 142) C rfl dX0_give_142)
    (s_iload (pc := 39) C dX0_give_39 <|
    s_aload_n (pc := 41) C dX0_give_41 rfl <|
    s_get (pc := 42) C (ci := 0) (kf := 4) rfl inX0 (by first | decide | (dsimp only; decide)) wd_256 dX0_give_42 <|
    s_iload_n (pc := 45) C dX0_give_45 rfl <|
    s_iald (pc := 46) C dX0_give_46 <|
    s_icmp_ne (pc := 47) C dX0_give_47 (by first | decide | (dsimp only; decide)) (s_iload_n (pc := 54) C dX0_give_54 rfl <|
    s_iconst (pc := 55) C dX0_give_55 <|
    s_isub (pc := 56) C dX0_give_56 <|
    s_cut q57)
    (s_iload_n (pc := 50) C dX0_give_50 rfl <|
    s_goto (pc := 51) C dX0_give_51 (by first | decide | (dsimp only; decide)) <|
    s_cut q57))
noncomputable def mg_X0_give_57 (n : Nat) (p1 : Int) (p2 : Int) (p3 : Int) (h1 : Ob) (h2 : Ob) (k135 : (Int × Ob) → Option Rt) (a : Int × Int × Ob) : Option Rt :=
 if xw a.2.1 < 0 then (k135 (a.1, a.2.2))
 else (if xin a.1 12 then (
 if xin p1 8 then (
 if xw (a.2.2 5 (xw a.1).toNat) < xw (a.2.2 2 (xw p1).toNat) then (k135 (a.1, a.2.2))
 else (if xin a.1 12 then (
 if xin p1 8 then (
 if xin a.1 12 then (
 if xin p1 8 then (
 if pd (GvG n (xset (xset a.2.2 5 (xw a.1).toNat ((a.2.2 5 (xw a.1).toNat) - (a.2.2 2 (xw p1).toNat))) 4 (xw p1).toNat a.1) h1 (p1 + 1)) then (
 if xw (bz (gvF (xset (xset a.2.2 5 (xw a.1).toNat ((a.2.2 5 (xw a.1).toNat) - (a.2.2 2 (xw p1).toNat))) 4 (xw p1).toNat a.1) h1 (p1 + 1) a.2.1 p3).1) = 0 then (if xin a.1 12 then (
 if xin p1 8 then (
 if xin a.1 12 then (
 k135 (a.1, (xset ((gvF (xset (xset a.2.2 5 (xw a.1).toNat ((a.2.2 5 (xw a.1).toNat) - (a.2.2 2 (xw p1).toNat))) 4 (xw p1).toNat a.1) h1 (p1 + 1) a.2.1 p3).2) 5 (xw a.1).toNat ((((gvF (xset (xset a.2.2 5 (xw a.1).toNat ((a.2.2 5 (xw a.1).toNat) - (a.2.2 2 (xw p1).toNat))) 4 (xw p1).toNat a.1) h1 (p1 + 1) a.2.1 p3).2) 5 (xw a.1).toNat) + (((gvF (xset (xset a.2.2 5 (xw a.1).toNat ((a.2.2 5 (xw a.1).toNat) - (a.2.2 2 (xw p1).toNat))) 4 (xw p1).toNat a.1) h1 (p1 + 1) a.2.1 p3).2) 2 (xw p1).toNat))))) else none) else none) else none)
 else (RI 1 [((gvF (xset (xset a.2.2 5 (xw a.1).toNat ((a.2.2 5 (xw a.1).toNat) - (a.2.2 2 (xw p1).toNat))) 4 (xw p1).toNat a.1) h1 (p1 + 1) a.2.1 p3).2), h1, h2])) else none) else none) else none) else none) else none)) else none) else none)
set_option maxRecDepth 100000 in
set_option maxHeartbeats 4000000 in
theorem rq_X0_give_57 (n : Nat) (p1 : Int) (p2 : Int) (p3 : Int) (h1 : Ob) (h2 : Ob) (k135 : XK) (a : Int × Int × Ob) : rg_X0_give_57 n k135 (en_X0_give_57 n p1 p2 p3 h1 h2 a) = mg_X0_give_57 n p1 p2 p3 h1 h2 (fun b => k135 (en_X0_give_135 n p1 p2 p3 h1 h2 b)) a := rfl
set_option maxRecDepth 100000 in
set_option maxHeartbeats 4000000 in
theorem sg_X0_give_57 {X : XDyn} {r0 : Rt} (n : Nat) (hR : XCt yX0_give (mX0_give n) (xgv (g_X0_give n) v_X0_give)) (C : XO X (mX0_give (n + 1))) {k135 : XK} (q135 : XS X (mX0_give (n + 1)) r0 135 k135) : XS X (mX0_give (n + 1)) r0 57 (rg_X0_give_57 n k135) := by
 unfold rg_X0_give_57
 exact s_istore (pc := 57) C dX0_give_57 <|
    s_iload (pc := 59) C dX0_give_59 <|
    s_if_lt (pc := 61) C dX0_give_61 (by first | decide | (dsimp only; decide)) (s_cut q135)
    (s_aload_n (pc := 64) C dX0_give_64 rfl <|
    s_get (pc := 65) C (ci := 0) (kf := 6) rfl inX0 (by first | decide | (dsimp only; decide)) wd_258 dX0_give_65 <|
    s_iload (pc := 68) C dX0_give_68 <|
    s_iald (pc := 70) C dX0_give_70 <|
    s_aload_n (pc := 71) C dX0_give_71 rfl <|
    s_get (pc := 72) C (ci := 0) (kf := 3) rfl inX0 (by first | decide | (dsimp only; decide)) wd_255 dX0_give_72 <|
    s_iload_n (pc := 75) C dX0_give_75 rfl <|
    s_iald (pc := 76) C dX0_give_76 <|
    s_icmp_lt (pc := 77) C dX0_give_77 (by first | decide | (dsimp only; decide)) (s_cut q135)
    (s_aload_n (pc := 80) C dX0_give_80 rfl <|
    s_get (pc := 81) C (ci := 0) (kf := 6) rfl inX0 (by first | decide | (dsimp only; decide)) wd_258 dX0_give_81 <|
    s_iload (pc := 84) C dX0_give_84 <|
    s_dup2 (pc := 86) C dX0_give_86 <|
    s_iald (pc := 87) C dX0_give_87 <|
    s_aload_n (pc := 88) C dX0_give_88 rfl <|
    s_get (pc := 89) C (ci := 0) (kf := 3) rfl inX0 (by first | decide | (dsimp only; decide)) wd_255 dX0_give_89 <|
    s_iload_n (pc := 92) C dX0_give_92 rfl <|
    s_iald (pc := 93) C dX0_give_93 <|
    s_isub (pc := 94) C dX0_give_94 <|
    s_iast (pc := 95) C dX0_give_95 <|
    s_aload_n (pc := 96) C dX0_give_96 rfl <|
    s_get (pc := 97) C (ci := 0) (kf := 5) rfl inX0 (by first | decide | (dsimp only; decide)) wd_257 dX0_give_97 <|
    s_iload_n (pc := 100) C dX0_give_100 rfl <|
    s_iload (pc := 101) C dX0_give_101 <|
    s_iast (pc := 103) C dX0_give_103 <|
    s_aload_n (pc := 104) C dX0_give_104 rfl <|
    s_iload_n (pc := 105) C dX0_give_105 rfl <|
    s_iconst (pc := 106) C dX0_give_106 <|
    s_iadd (pc := 107) C dX0_give_107 <|
    s_iload (pc := 108) C dX0_give_108 <|
    s_iload_n (pc := 110) C dX0_give_110 rfl <|
    s_callSg (pc := 111) C hR (n := 4) (rk := 1) (mp := [0, 1, 2]) ⟨rfl, by first | decide | (dsimp only; decide), rfl⟩ (Nat.le_refl _) (by first | decide | (dsimp only; decide)) ⟨rfl, yi_X0_give⟩ wd_489 wd_490 wd_79 wd_491 dX0_give_111 <|
    s_if_eq (pc := 114) C dX0_give_114 (by first | decide | (dsimp only; decide)) (s_aload_n (pc := 119) C dX0_give_119 rfl <|
    s_get (pc := 120) C (ci := 0) (kf := 6) rfl inX0 (by first | decide | (dsimp only; decide)) wd_258 dX0_give_120 <|
    s_iload (pc := 123) C dX0_give_123 <|
    s_dup2 (pc := 125) C dX0_give_125 <|
    s_iald (pc := 126) C dX0_give_126 <|
    s_aload_n (pc := 127) C dX0_give_127 rfl <|
    s_get (pc := 128) C (ci := 0) (kf := 3) rfl inX0 (by first | decide | (dsimp only; decide)) wd_255 dX0_give_128 <|
    s_iload_n (pc := 131) C dX0_give_131 rfl <|
    s_iald (pc := 132) C dX0_give_132 <|
    s_iadd (pc := 133) C dX0_give_133 <|
    s_iast (pc := 134) C dX0_give_134 <|
    s_cut q135)
    (s_iconst (pc := 117) C dX0_give_117 <|
    s_zreturn (pc := 118) C rfl dX0_give_118)))
noncomputable def mg_X0_give_135 (n : Nat) (p1 : Int) (p2 : Int) (p3 : Int) (h1 : Ob) (h2 : Ob) (k27 : (Int × Ob) → Option Rt) (a : Int × Ob) : Option Rt :=
 k27 ((a.1 + 1), a.2)
set_option maxRecDepth 100000 in
set_option maxHeartbeats 4000000 in
theorem rq_X0_give_135 (n : Nat) (p1 : Int) (p2 : Int) (p3 : Int) (h1 : Ob) (h2 : Ob) (k27 : XK) (a : Int × Ob) : rg_X0_give_135 n k27 (en_X0_give_135 n p1 p2 p3 h1 h2 a) = mg_X0_give_135 n p1 p2 p3 h1 h2 (fun b => k27 (en_X0_give_27 n p1 p2 p3 h1 h2 b)) a := rfl
set_option maxRecDepth 100000 in
set_option maxHeartbeats 4000000 in
theorem sg_X0_give_135 {X : XDyn} {r0 : Rt} (n : Nat) (hR : XCt yX0_give (mX0_give n) (xgv (g_X0_give n) v_X0_give)) (C : XO X (mX0_give (n + 1))) {k27 : XK} (q27 : XS X (mX0_give (n + 1)) r0 27 k27) : XS X (mX0_give (n + 1)) r0 135 (rg_X0_give_135 n k27) := by
 unfold rg_X0_give_135
 exact s_iinc (pc := 135) C dX0_give_135 <|
    s_goto (pc := 138) C dX0_give_138 (by first | decide | (dsimp only; decide)) <|
    s_cut q27
noncomputable def rw_X0_give_135 (n : Nat) (f : Nat) (k27 : XK) : XK := rg_X0_give_135 n k27
noncomputable def md_X0_give_135 (n : Nat) (p1 : Int) (p2 : Int) (p3 : Int) (h1 : Ob) (h2 : Ob) (f : Nat) (k27 : (Int × Ob) → Option Rt) : Int × Ob → Option Rt := mg_X0_give_135 n p1 p2 p3 h1 h2 k27
theorem eq_X0_give_135 (n : Nat) (p1 : Int) (p2 : Int) (p3 : Int) (h1 : Ob) (h2 : Ob) (f : Nat) (k27 : XK) (a : Int × Ob) : rw_X0_give_135 n f k27 (en_X0_give_135 n p1 p2 p3 h1 h2 a) = md_X0_give_135 n p1 p2 p3 h1 h2 f (fun b => k27 (en_X0_give_27 n p1 p2 p3 h1 h2 b)) a :=
 (rq_X0_give_135 n p1 p2 p3 h1 h2 k27 a).trans (congrFun (congr (rfl : mg_X0_give_135 n p1 p2 p3 h1 h2 = mg_X0_give_135 n p1 p2 p3 h1 h2) rfl) a)
theorem sd_X0_give_135 (f : Nat) (n : Nat) (hR : XCt yX0_give (mX0_give n) (xgv (g_X0_give n) v_X0_give)) {X : XDyn} {r0 : Rt} (C : XO X (mX0_give (n + 1))) {k27 : XK} (q27 : XS X (mX0_give (n + 1)) r0 27 k27) : XS X (mX0_give (n + 1)) r0 135 (rw_X0_give_135 n f k27) := sg_X0_give_135 n hR C q27
noncomputable def rw_X0_give_57 (n : Nat) (f : Nat) (k27 : XK) : XK := rg_X0_give_57 n (rw_X0_give_135 n f k27)
noncomputable def md_X0_give_57 (n : Nat) (p1 : Int) (p2 : Int) (p3 : Int) (h1 : Ob) (h2 : Ob) (f : Nat) (k27 : (Int × Ob) → Option Rt) : Int × Int × Ob → Option Rt := mg_X0_give_57 n p1 p2 p3 h1 h2 (md_X0_give_135 n p1 p2 p3 h1 h2 f k27)
theorem eq_X0_give_57 (n : Nat) (p1 : Int) (p2 : Int) (p3 : Int) (h1 : Ob) (h2 : Ob) (f : Nat) (k27 : XK) (a : Int × Int × Ob) : rw_X0_give_57 n f k27 (en_X0_give_57 n p1 p2 p3 h1 h2 a) = md_X0_give_57 n p1 p2 p3 h1 h2 f (fun b => k27 (en_X0_give_27 n p1 p2 p3 h1 h2 b)) a :=
 (rq_X0_give_57 n p1 p2 p3 h1 h2 (rw_X0_give_135 n f k27) a).trans (congrFun (congr (rfl : mg_X0_give_57 n p1 p2 p3 h1 h2 = mg_X0_give_57 n p1 p2 p3 h1 h2) (funext (eq_X0_give_135 n p1 p2 p3 h1 h2 f k27))) a)
theorem sd_X0_give_57 (f : Nat) (n : Nat) (hR : XCt yX0_give (mX0_give n) (xgv (g_X0_give n) v_X0_give)) {X : XDyn} {r0 : Rt} (C : XO X (mX0_give (n + 1))) {k27 : XK} (q27 : XS X (mX0_give (n + 1)) r0 27 k27) : XS X (mX0_give (n + 1)) r0 57 (rw_X0_give_57 n f k27) := sg_X0_give_57 n hR C (sd_X0_give_135 f n hR C q27)
noncomputable def rw_X0_give_27 (n : Nat) (f : Nat) : XK := tlp (fun k27 => rg_X0_give_27 n (rw_X0_give_57 n f k27)) f
noncomputable def lb_X0_give_27 (n : Nat) (p1 : Int) (p2 : Int) (p3 : Int) (h1 : Ob) (h2 : Ob) (f : Nat) : ((Int × Ob) → Option Rt) → Int × Ob → Option Rt := fun k27 => mg_X0_give_27 n p1 p2 p3 h1 h2 (md_X0_give_57 n p1 p2 p3 h1 h2 f k27)
noncomputable def md_X0_give_27 (n : Nat) (p1 : Int) (p2 : Int) (p3 : Int) (h1 : Ob) (h2 : Ob) (f : Nat) : Int × Ob → Option Rt := tlp (lb_X0_give_27 n p1 p2 p3 h1 h2 f) f
theorem eq_X0_give_27 (n : Nat) (p1 : Int) (p2 : Int) (p3 : Int) (h1 : Ob) (h2 : Ob) (f : Nat) (a : Int × Ob) : rw_X0_give_27 n f (en_X0_give_27 n p1 p2 p3 h1 h2 a) = md_X0_give_27 n p1 p2 p3 h1 h2 f a :=
 tlp_enc (en_X0_give_27 n p1 p2 p3 h1 h2) (fun k27 a => (rq_X0_give_27 n p1 p2 p3 h1 h2 (rw_X0_give_57 n f k27) a).trans (congrFun (congr (rfl : mg_X0_give_27 n p1 p2 p3 h1 h2 = mg_X0_give_27 n p1 p2 p3 h1 h2) (funext (eq_X0_give_57 n p1 p2 p3 h1 h2 f k27))) a)) f a
theorem sd_X0_give_27 (f : Nat) (n : Nat) (hR : XCt yX0_give (mX0_give n) (xgv (g_X0_give n) v_X0_give)) {X : XDyn} {r0 : Rt} (C : XO X (mX0_give (n + 1))) : XS X (mX0_give (n + 1)) r0 27 (rw_X0_give_27 n f) := s_lp (fun k27 q27 => sg_X0_give_27 n hR C (sd_X0_give_57 f n hR C q27)) f
noncomputable def rw_X0_give_0 (n : Nat) (f : Nat) : XK := rg_X0_give_0 n (rw_X0_give_27 n f)
noncomputable def md_X0_give_0 (n : Nat) (p1 : Int) (p2 : Int) (p3 : Int) (h1 : Ob) (h2 : Ob) (f : Nat) : Ob → Option Rt := mg_X0_give_0 n p1 p2 p3 h1 h2 (md_X0_give_27 n p1 p2 p3 h1 h2 f)
theorem eq_X0_give_0 (n : Nat) (p1 : Int) (p2 : Int) (p3 : Int) (h1 : Ob) (h2 : Ob) (f : Nat) (a : Ob) : rw_X0_give_0 n f (en_X0_give_0 n p1 p2 p3 h1 h2 a) = md_X0_give_0 n p1 p2 p3 h1 h2 f a :=
 (rq_X0_give_0 n p1 p2 p3 h1 h2 (rw_X0_give_27 n f) a).trans (congrFun (congr (rfl : mg_X0_give_0 n p1 p2 p3 h1 h2 = mg_X0_give_0 n p1 p2 p3 h1 h2) (funext (eq_X0_give_27 n p1 p2 p3 h1 h2 f))) a)
theorem sd_X0_give_0 (f : Nat) (n : Nat) (hR : XCt yX0_give (mX0_give n) (xgv (g_X0_give n) v_X0_give)) {X : XDyn} {r0 : Rt} (C : XO X (mX0_give (n + 1))) : XS X (mX0_give (n + 1)) r0 0 (rw_X0_give_0 n f) := sg_X0_give_0 n hR C (sd_X0_give_27 f n hR C)
theorem ctr_X0_give (f : Nat) (n : Nat) (hR : XCt yX0_give (mX0_give n) (xgv (g_X0_give n) v_X0_give)) : XCt yX0_give (mX0_give (n + 1)) (xF (mX0_give (n + 1)) (rw_X0_give_0 n f)) := xMet (by decide +kernel) rfl (fun _ _ C => sd_X0_give_0 f n hR C)
theorem eqf_X0_give (n : Nat) (f : Nat) (p1 : Int) (p2 : Int) (p3 : Int) (h0 : Ob) (h1 : Ob) (h2 : Ob) : xF (mX0_give (n + 1)) (rw_X0_give_0 n f) [.inr (.inl (0, 0)), .inl p1, .inl p2, .inl p3] [h0, h1, h2] = md_X0_give_0 n p1 p2 p3 h1 h2 f h0 := eq_X0_give_0 n p1 p2 p3 h1 h2 f h0
theorem sp_X0_give (n f : Nat) (hf : 1000 ≤ f) (p1 p2 p3 : Int) (h0 h1 h2 : Ob) (hg : pd (GvG (n + 1) h0 h1 p1) = true) : md_X0_give_0 n p1 p2 p3 h1 h2 f h0 = RI (bz (gvF h0 h1 p1 p2 p3).1) [(gvF h0 h1 p1 p2 p3).2, h1, h2] := by
  obtain ⟨hr, g1, g2, g3, g4, g5⟩ := pd_of hg
  obtain ⟨r1, r2⟩ := rk_iff.mp hr
  have x1 : xw p1 = p1 := xw_id (by omega) (by omega)
  have x7 : xw (h0 0 7) = h0 0 7 := xw_id (by omega) (by omega)
  have xc : xw (h1 0 2) = h1 0 2 := xw_id (by omega) (by omega)
  rw [gvF_e]
  unfold gvI
  simp only [md_X0_give_0, mg_X0_give_0, hr, if_true, bz_0, x1, x7]
  cases hgF h0 h1 p3
  · rfl
  · simp only [Bool.true_eq_false, if_false]
    rw [if_neg (show ¬ p1 < 0 by omega)]
    by_cases hk : h0 0 7 ≤ p1
    · rw [if_neg (show ¬ p1 < h0 0 7 by omega), if_pos hk]
      rfl
    · rw [if_pos (show p1 < h0 0 7 by omega), if_neg hk]
      have hin : xin p1 8 = true := xin_of (by omega) (by omega)
      have key : ∀ (d g f' : Nat) (A : Ob), g + d = (h1 0 2).toNat → d < f' → A 0 7 = h0 0 7 → tlp (lb_X0_give_27 n p1 p2 p3 h1 h2 f) f' ((g : Int), A) = RI (bz (gvL p1 p2 (gvI h1 p3 (h0 0 7 - p1).toNat (p1 + 1)) (List.range' g d) A).1) [(gvL p1 p2 (gvI h1 p3 (h0 0 7 - p1).toNat (p1 + 1)) (List.range' g d) A).2, h1, h2] := by
        intro d
        induction d with
        | zero =>
          intro g f' A hgd hf' hA
          cases f' with
          | zero => omega
          | succ f' =>
            rw [tlp_succ]
            simp only [lb_X0_give_27, mg_X0_give_27, xc, xw_nat (show g < 2147483648 by omega)]
            rw [if_pos (by omega)]
            rfl
        | succ d ih =>
          intro g f' A hgd hf' hA
          cases f' with
          | zero => omega
          | succ f' =>
            rw [tlp_succ, List.range'_succ]
            have hg12 : xin (g : Int) 12 = true := xin_nat (by omega) (by omega)
            have xg : xw (g : Int) = (g : Int) := xw_nat (by omega)
            have e57 : lb_X0_give_27 n p1 p2 p3 h1 h2 f (tlp (lb_X0_give_27 n p1 p2 p3 h1 h2 f) f') ((g : Int), A) = md_X0_give_57 n p1 p2 p3 h1 h2 f (tlp (lb_X0_give_27 n p1 p2 p3 h1 h2 f) f') ((g : Int), (if (g : Int) = xw (A 3 p1.toNat) then p2 else p2 - 1), A) := by
              simp only [lb_X0_give_27, mg_X0_give_27, xc, xg, hin, if_true, x1]
              rw [if_neg (by omega)]
              split <;> rfl
            rw [e57]
            clear e57
            unfold gvL
            generalize (if (g : Int) = xw (A 3 p1.toNat) then p2 else p2 - 1) = mt
            simp only [md_X0_give_57, mg_X0_give_57, md_X0_give_135, mg_X0_give_135, xg, hg12, hin, if_true, x1, toNat_nat, bz_0]
            have hnext : ∀ A' : Ob, A' 0 7 = h0 0 7 → tlp (lb_X0_give_27 n p1 p2 p3 h1 h2 f) f' ((g : Int) + 1, A') = RI (bz (gvL p1 p2 (gvI h1 p3 (h0 0 7 - p1).toNat (p1 + 1)) (List.range' (g + 1) d) A').1) [(gvL p1 p2 (gvI h1 p3 (h0 0 7 - p1).toNat (p1 + 1)) (List.range' (g + 1) d) A').2, h1, h2] := fun A' hA' => ih (g + 1) f' A' (by omega) (by omega) hA'
            by_cases c1 : xw mt < 0
            · rw [if_pos c1, if_pos c1]
              exact hnext A hA
            · rw [if_neg c1, if_neg c1]
              by_cases c2 : xw (A 5 g) < xw (A 2 p1.toNat)
              · rw [if_pos c2, if_pos c2]
                exact hnext A hA
              · rw [if_neg c2, if_neg c2]
                generalize hA1 : xset (xset A 5 g (A 5 g - A 2 p1.toNat)) 4 p1.toNat (g : Int) = A1
                have hA17 : A1 0 7 = h0 0 7 := by rw [← hA1, xset_part _ _ _ _ (by omega), xset_part _ _ _ _ (by omega)]; exact hA
                rw [pd_t (show GvG n A1 h1 (p1 + 1) from ⟨hr, by omega, by omega, by omega, by omega, by omega⟩), if_pos rfl]
                have eF : gvF A1 h1 (p1 + 1) mt p3 = gvI h1 p3 (h0 0 7 - p1).toNat (p1 + 1) mt A1 := by
                  rw [gvF_e, hA17, show (h0 0 7 - (p1 + 1)).toNat + 1 = (h0 0 7 - p1).toNat by omega]
                rw [eF]
                have hoff := gvI_off h1 p3 (h0 0 7 - p1).toNat (p1 + 1) mt A1 0 7 (by omega) (by omega)
                generalize gvI h1 p3 (h0 0 7 - p1).toNat (p1 + 1) mt A1 = r at hoff
                cases hr1 : r.1
                · rw [if_pos rfl, if_pos rfl]
                  exact hnext _ (by rw [xset_part _ _ _ _ (by omega), hoff, hA17])
                · rw [if_neg (by simp), if_neg (by simp), hr1]
                  rfl
      have := key (h1 0 2).toNat 0 f h0 (by omega) (by omega) rfl
      rw [← List.range_eq_range'] at this
      exact this
theorem ct_X0_give : ∀ n, XCt yX0_give (mX0_give n) (xgv (g_X0_give n) v_X0_give)
  | 0 => fun as μ r h => by
    exfalso
    unfold xgv at h
    split at h
    · rename_i hg
      unfold g_X0_give at hg
      split at hg
      · exact gb_X0_give hg
      · cases hg
    · cases h
  | n + 1 => (ctr_X0_give xfu n (ct_X0_give n)).of (fun as μ r h => by
    unfold xgv at h
    split at h
    · rename_i hg
      unfold g_X0_give at hg
      split at hg
      · rw [← h]
        exact (eqf_X0_give n xfu _ _ _ _ _ _).trans (sp_X0_give n xfu (xfu_ge (by decide)) _ _ _ _ _ _ hg)
      · cases hg
    · cases h)
