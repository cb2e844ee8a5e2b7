noncomputable def hwX (h : Ob) (k : Int) : Int := xop (hwc h k)
theorem hwX_e (h : Ob) (k : Int) : hwX h k = hwc h k := xop_eq _
noncomputable def f_X3_hwX : List AV → List Ob → Option Rt
  | [.inr (.inl (0, 0)), .inl p1], [h0] => some (some (.inl (hwX h0 p1)), [h0])
  | _, _ => none
theorem ct_X3_hwX : XCt yX3_handleWithContent mX3_handleWithContent f_X3_hwX := ct_X3_handleWithContent.of (fun as μ r h => by
  unfold f_X3_hwX at h
  split at h
  · rw [← h, hwX_e]
    rfl
  · cases h)
theorem dX7_after_0 : decode cX7_after 0 = .ok (.aload_n 0, 1) := by decide +kernel
theorem dX7_after_1 : decode cX7_after 1 = .ok (.getfield 22, 3) := by decide +kernel
theorem dX7_after_4 : decode cX7_after 4 = .ok (.getfield 229, 3) := by decide +kernel
theorem dX7_after_7 : decode cX7_after 7 = .ok (.ifCond .ne 5, 3) := by decide +kernel
theorem dX7_after_10 : decode cX7_after 10 = .ok (.iconst (-1), 1) := by decide +kernel
theorem dX7_after_11 : decode cX7_after 11 = .ok (.ireturn, 1) := by decide +kernel
theorem dX7_after_12 : decode cX7_after 12 = .ok (.aload_n 0, 1) := by decide +kernel
theorem dX7_after_13 : decode cX7_after 13 = .ok (.getfield 22, 3) := by decide +kernel
theorem dX7_after_16 : decode cX7_after 16 = .ok (.invokevirtual 233, 3) := by decide +kernel
theorem dX7_after_19 : decode cX7_after 19 = .ok (.astore_n 2, 1) := by decide +kernel
theorem dX7_after_20 : decode cX7_after 20 = .ok (.aload_n 2, 1) := by decide +kernel
theorem dX7_after_21 : decode cX7_after 21 = .ok (.iload_n 1, 1) := by decide +kernel
theorem dX7_after_22 : decode cX7_after 22 = .ok (.invokevirtual 237, 3) := by decide +kernel
theorem dX7_after_25 : decode cX7_after 25 = .ok (.istore_n 3, 1) := by decide +kernel
theorem dX7_after_26 : decode cX7_after 26 = .ok (.iload_n 3, 1) := by decide +kernel
theorem dX7_after_27 : decode cX7_after 27 = .ok (.iconst (-1), 1) := by decide +kernel
theorem dX7_after_28 : decode cX7_after 28 = .ok (.if_icmp .ne 5, 3) := by decide +kernel
theorem dX7_after_31 : decode cX7_after 31 = .ok (.iconst (-1), 1) := by decide +kernel
theorem dX7_after_32 : decode cX7_after 32 = .ok (.ireturn, 1) := by decide +kernel
theorem dX7_after_33 : decode cX7_after 33 = .ok (.iload_n 1, 1) := by decide +kernel
theorem dX7_after_34 : decode cX7_after 34 = .ok (.aload_n 2, 1) := by decide +kernel
theorem dX7_after_35 : decode cX7_after 35 = .ok (.getfield 119, 3) := by decide +kernel
theorem dX7_after_38 : decode cX7_after 38 = .ok (.iload_n 3, 1) := by decide +kernel
theorem dX7_after_39 : decode cX7_after 39 = .ok (.iaload, 1) := by decide +kernel
theorem dX7_after_40 : decode cX7_after 40 = .ok (.isub, 1) := by decide +kernel
theorem dX7_after_41 : decode cX7_after 41 = .ok (.iconst 1, 1) := by decide +kernel
theorem dX7_after_42 : decode cX7_after 42 = .ok (.isub, 1) := by decide +kernel
theorem dX7_after_43 : decode cX7_after 43 = .ok (.istore 4, 2) := by decide +kernel
theorem dX7_after_45 : decode cX7_after 45 = .ok (.aload_n 0, 1) := by decide +kernel
theorem dX7_after_46 : decode cX7_after 46 = .ok (.getfield 12, 3) := by decide +kernel
theorem dX7_after_49 : decode cX7_after 49 = .ok (.iload_n 3, 1) := by decide +kernel
theorem dX7_after_50 : decode cX7_after 50 = .ok (.invokevirtual 91, 3) := by decide +kernel
theorem dX7_after_53 : decode cX7_after 53 = .ok (.ifCond .eq 16, 3) := by decide +kernel
theorem dX7_after_56 : decode cX7_after 56 = .ok (.aload_n 0, 1) := by decide +kernel
theorem dX7_after_57 : decode cX7_after 57 = .ok (.getfield 12, 3) := by decide +kernel
theorem dX7_after_60 : decode cX7_after 60 = .ok (.iload_n 3, 1) := by decide +kernel
theorem dX7_after_61 : decode cX7_after 61 = .ok (.iload 4, 2) := by decide +kernel
theorem dX7_after_63 : decode cX7_after 63 = .ok (.invokevirtual 94, 3) := by decide +kernel
theorem dX7_after_66 : decode cX7_after 66 = .ok (.ifCond .ne 6, 3) := by decide +kernel
theorem dX7_after_69 : decode cX7_after 69 = .ok (.bipush (-2), 2) := by decide +kernel
theorem dX7_after_71 : decode cX7_after 71 = .ok (.ireturn, 1) := by decide +kernel
theorem dX7_after_72 : decode cX7_after 72 = .ok (.aload_n 0, 1) := by decide +kernel
theorem dX7_after_73 : decode cX7_after 73 = .ok (.getfield 12, 3) := by decide +kernel
theorem dX7_after_76 : decode cX7_after 76 = .ok (.getfield 119, 3) := by decide +kernel
theorem dX7_after_79 : decode cX7_after 79 = .ok (.iload_n 3, 1) := by decide +kernel
theorem dX7_after_80 : decode cX7_after 80 = .ok (.iaload, 1) := by decide +kernel
theorem dX7_after_81 : decode cX7_after 81 = .ok (.iconst 1, 1) := by decide +kernel
theorem dX7_after_82 : decode cX7_after 82 = .ok (.iadd, 1) := by decide +kernel
theorem dX7_after_83 : decode cX7_after 83 = .ok (.iload 4, 2) := by decide +kernel
theorem dX7_after_85 : decode cX7_after 85 = .ok (.iadd, 1) := by decide +kernel
theorem dX7_after_86 : decode cX7_after 86 = .ok (.ireturn, 1) := by decide +kernel
abbrev mX7_after : XM := (cX7_after, 5, RX7, (some .int), shw_M, 3)
noncomputable def rg_X7_after_0 (k10020 : XK) (k20020 : XK) (k30020 : XK) (k40020 : XK) (k50020 : XK) (k60020 : XK) (k70020 : XK) (k80020 : XK) (k90020 : XK) (k100020 : XK) (k110020 : XK) (k120020 : XK) (k130020 : XK) : XK :=
 o_aload 0 <|
 o_get shw_M 7 2 <|
 o_get shw_M 5 3 <|
 o_if_ne (o_aload 0 <|
 o_get shw_M 7 2 <|
 o_callVr 1 [3, 4, 5, 6, 7, 8, 9, 10, 11, 12, 13, 14, 15, 16] g_X5_aheadOfLast j_X5_aheadOfLast [(4, 0), (5, 0), (6, 0), (7, 0), (8, 0), (9, 0), (10, 0), (11, 0), (12, 0), (13, 0), (14, 0), (15, 0), (16, 0)] [o_astore 2 <|
 o_cut [] k10020,
 o_astore 2 <|
 o_cut [] k20020,
 o_astore 2 <|
 o_cut [] k30020,
 o_astore 2 <|
 o_cut [] k40020,
 o_astore 2 <|
 o_cut [] k50020,
 o_astore 2 <|
 o_cut [] k60020,
 o_astore 2 <|
 o_cut [] k70020,
 o_astore 2 <|
 o_cut [] k80020,
 o_astore 2 <|
 o_cut [] k90020,
 o_astore 2 <|
 o_cut [] k100020,
 o_astore 2 <|
 o_cut [] k110020,
 o_astore 2 <|
 o_cut [] k120020,
 o_astore 2 <|
 o_cut [] k130020])
 (o_iconst (-1) <|
 o_ireturn)
def en_X7_after_0 (p1 : Int) (h0 : Ob) (h1 : Ob) (h2 : Ob) (h3 : Ob) (h4 : Ob) (h5 : Ob) (h6 : Ob) (h7 : Ob) (h8 : Ob) (h9 : Ob) (h10 : Ob) (h11 : Ob) (h12 : Ob) (h13 : Ob) (h14 : Ob) (h15 : Ob) (h16 : Ob) (h17 : Ob) (h18 : Ob) (h19 : Ob) (h20 : Ob) (h21 : Ob) (h22 : Ob) (h23 : Ob) (h24 : Ob) (a : Unit) : XSt := ([some (.inr (.inl (0, 0))), some (.inl p1), none, none, none], [], [h0, h1, h2, h3, h4, h5, h6, h7, h8, h9, h10, h11, h12, h13, h14, h15, h16, h17, h18, h19, h20, h21, h22, h23, h24])
noncomputable def rg_X7_after_10020 : XK :=
 o_aload 2 <|
 o_iload 1 <|
 o_callV 2 1 [4] f_X3_hwX <|
 o_istore 3 <|
 o_iload 3 <|
 o_iconst (-1) <|
 o_icmp_ne (o_iload 1 <|
 o_aload 2 <|
 o_get shw_M 3 0 <|
 o_iload 3 <|
 o_iald shw_M <|
 o_isub <|
 o_iconst 1 <|
 o_isub <|
 o_istore 4 <|
 o_aload 0 <|
 o_get shw_M 7 0 <|
 o_iload 3 <|
 o_callV 2 1 [1] f_X3_isFull <|
 o_if_eq (o_iconst (-2) <|
 o_ireturn)
 (o_aload 0 <|
 o_get shw_M 7 0 <|
 o_iload 3 <|
 o_iload 4 <|
 o_callV 3 1 [1] f_X3_isContent <|
 o_if_ne (o_aload 0 <|
 o_get shw_M 7 0 <|
 o_get shw_M 3 0 <|
 o_iload 3 <|
 o_iald shw_M <|
 o_iconst 1 <|
 o_iadd <|
 o_iload 4 <|
 o_iadd <|
 o_ireturn)
 (o_iconst (-2) <|
 o_ireturn)))
 (o_iconst (-1) <|
 o_ireturn)
def en_X7_after_10020 (p1 : Int) (h0 : Ob) (h1 : Ob) (h2 : Ob) (h3 : Ob) (h4 : Ob) (h5 : Ob) (h6 : Ob) (h7 : Ob) (h8 : Ob) (h9 : Ob) (h10 : Ob) (h11 : Ob) (h12 : Ob) (h13 : Ob) (h14 : Ob) (h15 : Ob) (h16 : Ob) (h17 : Ob) (h18 : Ob) (h19 : Ob) (h20 : Ob) (h21 : Ob) (h22 : Ob) (h23 : Ob) (h24 : Ob) (a : Unit) : XSt := ([some (.inr (.inl (0, 0))), some (.inl p1), some (.inr (.inl (4, 0))), none, none], [], [h0, h1, h2, h3, h4, h5, h6, h7, h8, h9, h10, h11, h12, h13, h14, h15, h16, h17, h18, h19, h20, h21, h22, h23, h24])
noncomputable def rg_X7_after_20020 : XK :=
 o_aload 2 <|
 o_iload 1 <|
 o_callV 2 1 [5] f_X3_hwX <|
 o_istore 3 <|
 o_iload 3 <|
 o_iconst (-1) <|
 o_icmp_ne (o_iload 1 <|
 o_aload 2 <|
 o_get shw_M 3 0 <|
 o_iload 3 <|
 o_iald shw_M <|
 o_isub <|
 o_iconst 1 <|
 o_isub <|
 o_istore 4 <|
 o_aload 0 <|
 o_get shw_M 7 0 <|
 o_iload 3 <|
 o_callV 2 1 [1] f_X3_isFull <|
 o_if_eq (o_iconst (-2) <|
 o_ireturn)
 (o_aload 0 <|
 o_get shw_M 7 0 <|
 o_iload 3 <|
 o_iload 4 <|
 o_callV 3 1 [1] f_X3_isContent <|
 o_if_ne (o_aload 0 <|
 o_get shw_M 7 0 <|
 o_get shw_M 3 0 <|
 o_iload 3 <|
 o_iald shw_M <|
 o_iconst 1 <|
 o_iadd <|
 o_iload 4 <|
 o_iadd <|
 o_ireturn)
 (o_iconst (-2) <|
 o_ireturn)))
 (o_iconst (-1) <|
 o_ireturn)
def en_X7_after_20020 (p1 : Int) (h0 : Ob) (h1 : Ob) (h2 : Ob) (h3 : Ob) (h4 : Ob) (h5 : Ob) (h6 : Ob) (h7 : Ob) (h8 : Ob) (h9 : Ob) (h10 : Ob) (h11 : Ob) (h12 : Ob) (h13 : Ob) (h14 : Ob) (h15 : Ob) (h16 : Ob) (h17 : Ob) (h18 : Ob) (h19 : Ob) (h20 : Ob) (h21 : Ob) (h22 : Ob) (h23 : Ob) (h24 : Ob) (a : Unit) : XSt := ([some (.inr (.inl (0, 0))), some (.inl p1), some (.inr (.inl (5, 0))), none, none], [], [h0, h1, h2, h3, h4, h5, h6, h7, h8, h9, h10, h11, h12, h13, h14, h15, h16, h17, h18, h19, h20, h21, h22, h23, h24])
noncomputable def rg_X7_after_30020 : XK :=
 o_aload 2 <|
 o_iload 1 <|
 o_callV 2 1 [6] f_X3_hwX <|
 o_istore 3 <|
 o_iload 3 <|
 o_iconst (-1) <|
 o_icmp_ne (o_iload 1 <|
 o_aload 2 <|
 o_get shw_M 3 0 <|
 o_iload 3 <|
 o_iald shw_M <|
 o_isub <|
 o_iconst 1 <|
 o_isub <|
 o_istore 4 <|
 o_aload 0 <|
 o_get shw_M 7 0 <|
 o_iload 3 <|
 o_callV 2 1 [1] f_X3_isFull <|
 o_if_eq (o_iconst (-2) <|
 o_ireturn)
 (o_aload 0 <|
 o_get shw_M 7 0 <|
 o_iload 3 <|
 o_iload 4 <|
 o_callV 3 1 [1] f_X3_isContent <|
 o_if_ne (o_aload 0 <|
 o_get shw_M 7 0 <|
 o_get shw_M 3 0 <|
 o_iload 3 <|
 o_iald shw_M <|
 o_iconst 1 <|
 o_iadd <|
 o_iload 4 <|
 o_iadd <|
 o_ireturn)
 (o_iconst (-2) <|
 o_ireturn)))
 (o_iconst (-1) <|
 o_ireturn)
def en_X7_after_30020 (p1 : Int) (h0 : Ob) (h1 : Ob) (h2 : Ob) (h3 : Ob) (h4 : Ob) (h5 : Ob) (h6 : Ob) (h7 : Ob) (h8 : Ob) (h9 : Ob) (h10 : Ob) (h11 : Ob) (h12 : Ob) (h13 : Ob) (h14 : Ob) (h15 : Ob) (h16 : Ob) (h17 : Ob) (h18 : Ob) (h19 : Ob) (h20 : Ob) (h21 : Ob) (h22 : Ob) (h23 : Ob) (h24 : Ob) (a : Unit) : XSt := ([some (.inr (.inl (0, 0))), some (.inl p1), some (.inr (.inl (6, 0))), none, none], [], [h0, h1, h2, h3, h4, h5, h6, h7, h8, h9, h10, h11, h12, h13, h14, h15, h16, h17, h18, h19, h20, h21, h22, h23, h24])
noncomputable def rg_X7_after_40020 : XK :=
 o_aload 2 <|
 o_iload 1 <|
 o_callV 2 1 [7] f_X3_hwX <|
 o_istore 3 <|
 o_iload 3 <|
 o_iconst (-1) <|
 o_icmp_ne (o_iload 1 <|
 o_aload 2 <|
 o_get shw_M 3 0 <|
 o_iload 3 <|
 o_iald shw_M <|
 o_isub <|
 o_iconst 1 <|
 o_isub <|
 o_istore 4 <|
 o_aload 0 <|
 o_get shw_M 7 0 <|
 o_iload 3 <|
 o_callV 2 1 [1] f_X3_isFull <|
 o_if_eq (o_iconst (-2) <|
 o_ireturn)
 (o_aload 0 <|
 o_get shw_M 7 0 <|
 o_iload 3 <|
 o_iload 4 <|
 o_callV 3 1 [1] f_X3_isContent <|
 o_if_ne (o_aload 0 <|
 o_get shw_M 7 0 <|
 o_get shw_M 3 0 <|
 o_iload 3 <|
 o_iald shw_M <|
 o_iconst 1 <|
 o_iadd <|
 o_iload 4 <|
 o_iadd <|
 o_ireturn)
 (o_iconst (-2) <|
 o_ireturn)))
 (o_iconst (-1) <|
 o_ireturn)
def en_X7_after_40020 (p1 : Int) (h0 : Ob) (h1 : Ob) (h2 : Ob) (h3 : Ob) (h4 : Ob) (h5 : Ob) (h6 : Ob) (h7 : Ob) (h8 : Ob) (h9 : Ob) (h10 : Ob) (h11 : Ob) (h12 : Ob) (h13 : Ob) (h14 : Ob) (h15 : Ob) (h16 : Ob) (h17 : Ob) (h18 : Ob) (h19 : Ob) (h20 : Ob) (h21 : Ob) (h22 : Ob) (h23 : Ob) (h24 : Ob) (a : Unit) : XSt := ([some (.inr (.inl (0, 0))), some (.inl p1), some (.inr (.inl (7, 0))), none, none], [], [h0, h1, h2, h3, h4, h5, h6, h7, h8, h9, h10, h11, h12, h13, h14, h15, h16, h17, h18, h19, h20, h21, h22, h23, h24])
noncomputable def rg_X7_after_50020 : XK :=
 o_aload 2 <|
 o_iload 1 <|
 o_callV 2 1 [8] f_X3_hwX <|
 o_istore 3 <|
 o_iload 3 <|
 o_iconst (-1) <|
 o_icmp_ne (o_iload 1 <|
 o_aload 2 <|
 o_get shw_M 3 0 <|
 o_iload 3 <|
 o_iald shw_M <|
 o_isub <|
 o_iconst 1 <|
 o_isub <|
 o_istore 4 <|
 o_aload 0 <|
 o_get shw_M 7 0 <|
 o_iload 3 <|
 o_callV 2 1 [1] f_X3_isFull <|
 o_if_eq (o_iconst (-2) <|
 o_ireturn)
 (o_aload 0 <|
 o_get shw_M 7 0 <|
 o_iload 3 <|
 o_iload 4 <|
 o_callV 3 1 [1] f_X3_isContent <|
 o_if_ne (o_aload 0 <|
 o_get shw_M 7 0 <|
 o_get shw_M 3 0 <|
 o_iload 3 <|
 o_iald shw_M <|
 o_iconst 1 <|
 o_iadd <|
 o_iload 4 <|
 o_iadd <|
 o_ireturn)
 (o_iconst (-2) <|
 o_ireturn)))
 (o_iconst (-1) <|
 o_ireturn)
def en_X7_after_50020 (p1 : Int) (h0 : Ob) (h1 : Ob) (h2 : Ob) (h3 : Ob) (h4 : Ob) (h5 : Ob) (h6 : Ob) (h7 : Ob) (h8 : Ob) (h9 : Ob) (h10 : Ob) (h11 : Ob) (h12 : Ob) (h13 : Ob) (h14 : Ob) (h15 : Ob) (h16 : Ob) (h17 : Ob) (h18 : Ob) (h19 : Ob) (h20 : Ob) (h21 : Ob) (h22 : Ob) (h23 : Ob) (h24 : Ob) (a : Unit) : XSt := ([some (.inr (.inl (0, 0))), some (.inl p1), some (.inr (.inl (8, 0))), none, none], [], [h0, h1, h2, h3, h4, h5, h6, h7, h8, h9, h10, h11, h12, h13, h14, h15, h16, h17, h18, h19, h20, h21, h22, h23, h24])
noncomputable def rg_X7_after_60020 : XK :=
 o_aload 2 <|
 o_iload 1 <|
 o_callV 2 1 [9] f_X3_hwX <|
 o_istore 3 <|
 o_iload 3 <|
 o_iconst (-1) <|
 o_icmp_ne (o_iload 1 <|
 o_aload 2 <|
 o_get shw_M 3 0 <|
 o_iload 3 <|
 o_iald shw_M <|
 o_isub <|
 o_iconst 1 <|
 o_isub <|
 o_istore 4 <|
 o_aload 0 <|
 o_get shw_M 7 0 <|
 o_iload 3 <|
 o_callV 2 1 [1] f_X3_isFull <|
 o_if_eq (o_iconst (-2) <|
 o_ireturn)
 (o_aload 0 <|
 o_get shw_M 7 0 <|
 o_iload 3 <|
 o_iload 4 <|
 o_callV 3 1 [1] f_X3_isContent <|
 o_if_ne (o_aload 0 <|
 o_get shw_M 7 0 <|
 o_get shw_M 3 0 <|
 o_iload 3 <|
 o_iald shw_M <|
 o_iconst 1 <|
 o_iadd <|
 o_iload 4 <|
 o_iadd <|
 o_ireturn)
 (o_iconst (-2) <|
 o_ireturn)))
 (o_iconst (-1) <|
 o_ireturn)
def en_X7_after_60020 (p1 : Int) (h0 : Ob) (h1 : Ob) (h2 : Ob) (h3 : Ob) (h4 : Ob) (h5 : Ob) (h6 : Ob) (h7 : Ob) (h8 : Ob) (h9 : Ob) (h10 : Ob) (h11 : Ob) (h12 : Ob) (h13 : Ob) (h14 : Ob) (h15 : Ob) (h16 : Ob) (h17 : Ob) (h18 : Ob) (h19 : Ob) (h20 : Ob) (h21 : Ob) (h22 : Ob) (h23 : Ob) (h24 : Ob) (a : Unit) : XSt := ([some (.inr (.inl (0, 0))), some (.inl p1), some (.inr (.inl (9, 0))), none, none], [], [h0, h1, h2, h3, h4, h5, h6, h7, h8, h9, h10, h11, h12, h13, h14, h15, h16, h17, h18, h19, h20, h21, h22, h23, h24])
noncomputable def rg_X7_after_70020 : XK :=
 o_aload 2 <|
 o_iload 1 <|
 o_callV 2 1 [10] f_X3_hwX <|
 o_istore 3 <|
 o_iload 3 <|
 o_iconst (-1) <|
 o_icmp_ne (o_iload 1 <|
 o_aload 2 <|
 o_get shw_M 3 0 <|
 o_iload 3 <|
 o_iald shw_M <|
 o_isub <|
 o_iconst 1 <|
 o_isub <|
 o_istore 4 <|
 o_aload 0 <|
 o_get shw_M 7 0 <|
 o_iload 3 <|
 o_callV 2 1 [1] f_X3_isFull <|
 o_if_eq (o_iconst (-2) <|
 o_ireturn)
 (o_aload 0 <|
 o_get shw_M 7 0 <|
 o_iload 3 <|
 o_iload 4 <|
 o_callV 3 1 [1] f_X3_isContent <|
 o_if_ne (o_aload 0 <|
 o_get shw_M 7 0 <|
 o_get shw_M 3 0 <|
 o_iload 3 <|
 o_iald shw_M <|
 o_iconst 1 <|
 o_iadd <|
 o_iload 4 <|
 o_iadd <|
 o_ireturn)
 (o_iconst (-2) <|
 o_ireturn)))
 (o_iconst (-1) <|
 o_ireturn)
def en_X7_after_70020 (p1 : Int) (h0 : Ob) (h1 : Ob) (h2 : Ob) (h3 : Ob) (h4 : Ob) (h5 : Ob) (h6 : Ob) (h7 : Ob) (h8 : Ob) (h9 : Ob) (h10 : Ob) (h11 : Ob) (h12 : Ob) (h13 : Ob) (h14 : Ob) (h15 : Ob) (h16 : Ob) (h17 : Ob) (h18 : Ob) (h19 : Ob) (h20 : Ob) (h21 : Ob) (h22 : Ob) (h23 : Ob) (h24 : Ob) (a : Unit) : XSt := ([some (.inr (.inl (0, 0))), some (.inl p1), some (.inr (.inl (10, 0))), none, none], [], [h0, h1, h2, h3, h4, h5, h6, h7, h8, h9, h10, h11, h12, h13, h14, h15, h16, h17, h18, h19, h20, h21, h22, h23, h24])
noncomputable def rg_X7_after_80020 : XK :=
 o_aload 2 <|
 o_iload 1 <|
 o_callV 2 1 [11] f_X3_hwX <|
 o_istore 3 <|
 o_iload 3 <|
 o_iconst (-1) <|
 o_icmp_ne (o_iload 1 <|
 o_aload 2 <|
 o_get shw_M 3 0 <|
 o_iload 3 <|
 o_iald shw_M <|
 o_isub <|
 o_iconst 1 <|
 o_isub <|
 o_istore 4 <|
 o_aload 0 <|
 o_get shw_M 7 0 <|
 o_iload 3 <|
 o_callV 2 1 [1] f_X3_isFull <|
 o_if_eq (o_iconst (-2) <|
 o_ireturn)
 (o_aload 0 <|
 o_get shw_M 7 0 <|
 o_iload 3 <|
 o_iload 4 <|
 o_callV 3 1 [1] f_X3_isContent <|
 o_if_ne (o_aload 0 <|
 o_get shw_M 7 0 <|
 o_get shw_M 3 0 <|
 o_iload 3 <|
 o_iald shw_M <|
 o_iconst 1 <|
 o_iadd <|
 o_iload 4 <|
 o_iadd <|
 o_ireturn)
 (o_iconst (-2) <|
 o_ireturn)))
 (o_iconst (-1) <|
 o_ireturn)
def en_X7_after_80020 (p1 : Int) (h0 : Ob) (h1 : Ob) (h2 : Ob) (h3 : Ob) (h4 : Ob) (h5 : Ob) (h6 : Ob) (h7 : Ob) (h8 : Ob) (h9 : Ob) (h10 : Ob) (h11 : Ob) (h12 : Ob) (h13 : Ob) (h14 : Ob) (h15 : Ob) (h16 : Ob) (h17 : Ob) (h18 : Ob) (h19 : Ob) (h20 : Ob) (h21 : Ob) (h22 : Ob) (h23 : Ob) (h24 : Ob) (a : Unit) : XSt := ([some (.inr (.inl (0, 0))), some (.inl p1), some (.inr (.inl (11, 0))), none, none], [], [h0, h1, h2, h3, h4, h5, h6, h7, h8, h9, h10, h11, h12, h13, h14, h15, h16, h17, h18, h19, h20, h21, h22, h23, h24])
noncomputable def rg_X7_after_90020 : XK :=
 o_aload 2 <|
 o_iload 1 <|
 o_callV 2 1 [12] f_X3_hwX <|
 o_istore 3 <|
 o_iload 3 <|
 o_iconst (-1) <|
 o_icmp_ne (o_iload 1 <|
 o_aload 2 <|
 o_get shw_M 3 0 <|
 o_iload 3 <|
 o_iald shw_M <|
 o_isub <|
 o_iconst 1 <|
 o_isub <|
 o_istore 4 <|
 o_aload 0 <|
 o_get shw_M 7 0 <|
 o_iload 3 <|
 o_callV 2 1 [1] f_X3_isFull <|
 o_if_eq (o_iconst (-2) <|
 o_ireturn)
 (o_aload 0 <|
 o_get shw_M 7 0 <|
 o_iload 3 <|
 o_iload 4 <|
 o_callV 3 1 [1] f_X3_isContent <|
 o_if_ne (o_aload 0 <|
 o_get shw_M 7 0 <|
 o_get shw_M 3 0 <|
 o_iload 3 <|
 o_iald shw_M <|
 o_iconst 1 <|
 o_iadd <|
 o_iload 4 <|
 o_iadd <|
 o_ireturn)
 (o_iconst (-2) <|
 o_ireturn)))
 (o_iconst (-1) <|
 o_ireturn)
def en_X7_after_90020 (p1 : Int) (h0 : Ob) (h1 : Ob) (h2 : Ob) (h3 : Ob) (h4 : Ob) (h5 : Ob) (h6 : Ob) (h7 : Ob) (h8 : Ob) (h9 : Ob) (h10 : Ob) (h11 : Ob) (h12 : Ob) (h13 : Ob) (h14 : Ob) (h15 : Ob) (h16 : Ob) (h17 : Ob) (h18 : Ob) (h19 : Ob) (h20 : Ob) (h21 : Ob) (h22 : Ob) (h23 : Ob) (h24 : Ob) (a : Unit) : XSt := ([some (.inr (.inl (0, 0))), some (.inl p1), some (.inr (.inl (12, 0))), none, none], [], [h0, h1, h2, h3, h4, h5, h6, h7, h8, h9, h10, h11, h12, h13, h14, h15, h16, h17, h18, h19, h20, h21, h22, h23, h24])
noncomputable def rg_X7_after_100020 : XK :=
 o_aload 2 <|
 o_iload 1 <|
 o_callV 2 1 [13] f_X3_hwX <|
 o_istore 3 <|
 o_iload 3 <|
 o_iconst (-1) <|
 o_icmp_ne (o_iload 1 <|
 o_aload 2 <|
 o_get shw_M 3 0 <|
 o_iload 3 <|
 o_iald shw_M <|
 o_isub <|
 o_iconst 1 <|
 o_isub <|
 o_istore 4 <|
 o_aload 0 <|
 o_get shw_M 7 0 <|
 o_iload 3 <|
 o_callV 2 1 [1] f_X3_isFull <|
 o_if_eq (o_iconst (-2) <|
 o_ireturn)
 (o_aload 0 <|
 o_get shw_M 7 0 <|
 o_iload 3 <|
 o_iload 4 <|
 o_callV 3 1 [1] f_X3_isContent <|
 o_if_ne (o_aload 0 <|
 o_get shw_M 7 0 <|
 o_get shw_M 3 0 <|
 o_iload 3 <|
 o_iald shw_M <|
 o_iconst 1 <|
 o_iadd <|
 o_iload 4 <|
 o_iadd <|
 o_ireturn)
 (o_iconst (-2) <|
 o_ireturn)))
 (o_iconst (-1) <|
 o_ireturn)
def en_X7_after_100020 (p1 : Int) (h0 : Ob) (h1 : Ob) (h2 : Ob) (h3 : Ob) (h4 : Ob) (h5 : Ob) (h6 : Ob) (h7 : Ob) (h8 : Ob) (h9 : Ob) (h10 : Ob) (h11 : Ob) (h12 : Ob) (h13 : Ob) (h14 : Ob) (h15 : Ob) (h16 : Ob) (h17 : Ob) (h18 : Ob) (h19 : Ob) (h20 : Ob) (h21 : Ob) (h22 : Ob) (h23 : Ob) (h24 : Ob) (a : Unit) : XSt := ([some (.inr (.inl (0, 0))), some (.inl p1), some (.inr (.inl (13, 0))), none, none], [], [h0, h1, h2, h3, h4, h5, h6, h7, h8, h9, h10, h11, h12, h13, h14, h15, h16, h17, h18, h19, h20, h21, h22, h23, h24])
noncomputable def rg_X7_after_110020 : XK :=
 o_aload 2 <|
 o_iload 1 <|
 o_callV 2 1 [14] f_X3_hwX <|
 o_istore 3 <|
 o_iload 3 <|
 o_iconst (-1) <|
 o_icmp_ne (o_iload 1 <|
 o_aload 2 <|
 o_get shw_M 3 0 <|
 o_iload 3 <|
 o_iald shw_M <|
 o_isub <|
 o_iconst 1 <|
 o_isub <|
 o_istore 4 <|
 o_aload 0 <|
 o_get shw_M 7 0 <|
 o_iload 3 <|
 o_callV 2 1 [1] f_X3_isFull <|
 o_if_eq (o_iconst (-2) <|
 o_ireturn)
 (o_aload 0 <|
 o_get shw_M 7 0 <|
 o_iload 3 <|
 o_iload 4 <|
 o_callV 3 1 [1] f_X3_isContent <|
 o_if_ne (o_aload 0 <|
 o_get shw_M 7 0 <|
 o_get shw_M 3 0 <|
 o_iload 3 <|
 o_iald shw_M <|
 o_iconst 1 <|
 o_iadd <|
 o_iload 4 <|
 o_iadd <|
 o_ireturn)
 (o_iconst (-2) <|
 o_ireturn)))
 (o_iconst (-1) <|
 o_ireturn)
def en_X7_after_110020 (p1 : Int) (h0 : Ob) (h1 : Ob) (h2 : Ob) (h3 : Ob) (h4 : Ob) (h5 : Ob) (h6 : Ob) (h7 : Ob) (h8 : Ob) (h9 : Ob) (h10 : Ob) (h11 : Ob) (h12 : Ob) (h13 : Ob) (h14 : Ob) (h15 : Ob) (h16 : Ob) (h17 : Ob) (h18 : Ob) (h19 : Ob) (h20 : Ob) (h21 : Ob) (h22 : Ob) (h23 : Ob) (h24 : Ob) (a : Unit) : XSt := ([some (.inr (.inl (0, 0))), some (.inl p1), some (.inr (.inl (14, 0))), none, none], [], [h0, h1, h2, h3, h4, h5, h6, h7, h8, h9, h10, h11, h12, h13, h14, h15, h16, h17, h18, h19, h20, h21, h22, h23, h24])
noncomputable def rg_X7_after_120020 : XK :=
 o_aload 2 <|
 o_iload 1 <|
 o_callV 2 1 [15] f_X3_hwX <|
 o_istore 3 <|
 o_iload 3 <|
 o_iconst (-1) <|
 o_icmp_ne (o_iload 1 <|
 o_aload 2 <|
 o_get shw_M 3 0 <|
 o_iload 3 <|
 o_iald shw_M <|
 o_isub <|
 o_iconst 1 <|
 o_isub <|
 o_istore 4 <|
 o_aload 0 <|
 o_get shw_M 7 0 <|
 o_iload 3 <|
 o_callV 2 1 [1] f_X3_isFull <|
 o_if_eq (o_iconst (-2) <|
 o_ireturn)
 (o_aload 0 <|
 o_get shw_M 7 0 <|
 o_iload 3 <|
 o_iload 4 <|
 o_callV 3 1 [1] f_X3_isContent <|
 o_if_ne (o_aload 0 <|
 o_get shw_M 7 0 <|
 o_get shw_M 3 0 <|
 o_iload 3 <|
 o_iald shw_M <|
 o_iconst 1 <|
 o_iadd <|
 o_iload 4 <|
 o_iadd <|
 o_ireturn)
 (o_iconst (-2) <|
 o_ireturn)))
 (o_iconst (-1) <|
 o_ireturn)
def en_X7_after_120020 (p1 : Int) (h0 : Ob) (h1 : Ob) (h2 : Ob) (h3 : Ob) (h4 : Ob) (h5 : Ob) (h6 : Ob) (h7 : Ob) (h8 : Ob) (h9 : Ob) (h10 : Ob) (h11 : Ob) (h12 : Ob) (h13 : Ob) (h14 : Ob) (h15 : Ob) (h16 : Ob) (h17 : Ob) (h18 : Ob) (h19 : Ob) (h20 : Ob) (h21 : Ob) (h22 : Ob) (h23 : Ob) (h24 : Ob) (a : Unit) : XSt := ([some (.inr (.inl (0, 0))), some (.inl p1), some (.inr (.inl (15, 0))), none, none], [], [h0, h1, h2, h3, h4, h5, h6, h7, h8, h9, h10, h11, h12, h13, h14, h15, h16, h17, h18, h19, h20, h21, h22, h23, h24])
noncomputable def rg_X7_after_130020 : XK :=
 o_aload 2 <|
 o_iload 1 <|
 o_callV 2 1 [16] f_X3_hwX <|
 o_istore 3 <|
 o_iload 3 <|
 o_iconst (-1) <|
 o_icmp_ne (o_iload 1 <|
 o_aload 2 <|
 o_get shw_M 3 0 <|
 o_iload 3 <|
 o_iald shw_M <|
 o_isub <|
 o_iconst 1 <|
 o_isub <|
 o_istore 4 <|
 o_aload 0 <|
 o_get shw_M 7 0 <|
 o_iload 3 <|
 o_callV 2 1 [1] f_X3_isFull <|
 o_if_eq (o_iconst (-2) <|
 o_ireturn)
 (o_aload 0 <|
 o_get shw_M 7 0 <|
 o_iload 3 <|
 o_iload 4 <|
 o_callV 3 1 [1] f_X3_isContent <|
 o_if_ne (o_aload 0 <|
 o_get shw_M 7 0 <|
 o_get shw_M 3 0 <|
 o_iload 3 <|
 o_iald shw_M <|
 o_iconst 1 <|
 o_iadd <|
 o_iload 4 <|
 o_iadd <|
 o_ireturn)
 (o_iconst (-2) <|
 o_ireturn)))
 (o_iconst (-1) <|
 o_ireturn)
def en_X7_after_130020 (p1 : Int) (h0 : Ob) (h1 : Ob) (h2 : Ob) (h3 : Ob) (h4 : Ob) (h5 : Ob) (h6 : Ob) (h7 : Ob) (h8 : Ob) (h9 : Ob) (h10 : Ob) (h11 : Ob) (h12 : Ob) (h13 : Ob) (h14 : Ob) (h15 : Ob) (h16 : Ob) (h17 : Ob) (h18 : Ob) (h19 : Ob) (h20 : Ob) (h21 : Ob) (h22 : Ob) (h23 : Ob) (h24 : Ob) (a : Unit) : XSt := ([some (.inr (.inl (0, 0))), some (.inl p1), some (.inr (.inl (16, 0))), none, none], [], [h0, h1, h2, h3, h4, h5, h6, h7, h8, h9, h10, h11, h12, h13, h14, h15, h16, h17, h18, h19, h20, h21, h22, h23, h24])
noncomputable def mg_X7_after_0 (p1 : Int) (h0 : Ob) (h1 : Ob) (h2 : Ob) (h3 : Ob) (h4 : Ob) (h5 : Ob) (h6 : Ob) (h7 : Ob) (h8 : Ob) (h9 : Ob) (h10 : Ob) (h11 : Ob) (h12 : Ob) (h13 : Ob) (h14 : Ob) (h15 : Ob) (h16 : Ob) (h17 : Ob) (h18 : Ob) (h19 : Ob) (h20 : Ob) (h21 : Ob) (h22 : Ob) (h23 : Ob) (h24 : Ob) (k10020 : Unit → Option Rt) (k20020 : Unit → Option Rt) (k30020 : Unit → Option Rt) (k40020 : Unit → Option Rt) (k50020 : Unit → Option Rt) (k60020 : Unit → Option Rt) (k70020 : Unit → Option Rt) (k80020 : Unit → Option Rt) (k90020 : Unit → Option Rt) (k100020 : Unit → Option Rt) (k110020 : Unit → Option Rt) (k120020 : Unit → Option Rt) (k130020 : Unit → Option Rt) (a : Unit) : Option Rt :=
 if xw (h3 0 3) = 0 then (RI (-1) [h0, h1, h2, h3, h4, h5, h6, h7, h8, h9, h10, h11, h12, h13, h14, h15, h16, h17, h18, h19, h20, h21, h22, h23, h24])
 else (if pd (PG h3 ∧ 1 ≤ h3 0 2) then (
 if xw (flm (h3 0 1 + h3 0 2 + -1)) = 0 then (k10020 ())
 else if xw (flm (h3 0 1 + h3 0 2 + -1)) = 1 then (k20020 ())
 else if xw (flm (h3 0 1 + h3 0 2 + -1)) = 2 then (k30020 ())
 else if xw (flm (h3 0 1 + h3 0 2 + -1)) = 3 then (k40020 ())
 else if xw (flm (h3 0 1 + h3 0 2 + -1)) = 4 then (k50020 ())
 else if xw (flm (h3 0 1 + h3 0 2 + -1)) = 5 then (k60020 ())
 else if xw (flm (h3 0 1 + h3 0 2 + -1)) = 6 then (k70020 ())
 else if xw (flm (h3 0 1 + h3 0 2 + -1)) = 7 then (k80020 ())
 else if xw (flm (h3 0 1 + h3 0 2 + -1)) = 8 then (k90020 ())
 else if xw (flm (h3 0 1 + h3 0 2 + -1)) = 9 then (k100020 ())
 else if xw (flm (h3 0 1 + h3 0 2 + -1)) = 10 then (k110020 ())
 else if xw (flm (h3 0 1 + h3 0 2 + -1)) = 11 then (k120020 ())
 else if xw (flm (h3 0 1 + h3 0 2 + -1)) = 12 then (k130020 ())
 else none) else none)
set_option maxRecDepth 100000 in
set_option maxHeartbeats 4000000 in
theorem rq_X7_after_0 (p1 : Int) (h0 : Ob) (h1 : Ob) (h2 : Ob) (h3 : Ob) (h4 : Ob) (h5 : Ob) (h6 : Ob) (h7 : Ob) (h8 : Ob) (h9 : Ob) (h10 : Ob) (h11 : Ob) (h12 : Ob) (h13 : Ob) (h14 : Ob) (h15 : Ob) (h16 : Ob) (h17 : Ob) (h18 : Ob) (h19 : Ob) (h20 : Ob) (h21 : Ob) (h22 : Ob) (h23 : Ob) (h24 : Ob) (k10020 : XK) (k20020 : XK) (k30020 : XK) (k40020 : XK) (k50020 : XK) (k60020 : XK) (k70020 : XK) (k80020 : XK) (k90020 : XK) (k100020 : XK) (k110020 : XK) (k120020 : XK) (k130020 : XK) (a : Unit) : rg_X7_after_0 k10020 k20020 k30020 k40020 k50020 k60020 k70020 k80020 k90020 k100020 k110020 k120020 k130020 (en_X7_after_0 p1 h0 h1 h2 h3 h4 h5 h6 h7 h8 h9 h10 h11 h12 h13 h14 h15 h16 h17 h18 h19 h20 h21 h22 h23 h24 a) = mg_X7_after_0 p1 h0 h1 h2 h3 h4 h5 h6 h7 h8 h9 h10 h11 h12 h13 h14 h15 h16 h17 h18 h19 h20 h21 h22 h23 h24 (fun b => k10020 (en_X7_after_10020 p1 h0 h1 h2 h3 h4 h5 h6 h7 h8 h9 h10 h11 h12 h13 h14 h15 h16 h17 h18 h19 h20 h21 h22 h23 h24 b)) (fun b => k20020 (en_X7_after_20020 p1 h0 h1 h2 h3 h4 h5 h6 h7 h8 h9 h10 h11 h12 h13 h14 h15 h16 h17 h18 h19 h20 h21 h22 h23 h24 b)) (fun b => k30020 (en_X7_after_30020 p1 h0 h1 h2 h3 h4 h5 h6 h7 h8 h9 h10 h11 h12 h13 h14 h15 h16 h17 h18 h19 h20 h21 h22 h23 h24 b)) (fun b => k40020 (en_X7_after_40020 p1 h0 h1 h2 h3 h4 h5 h6 h7 h8 h9 h10 h11 h12 h13 h14 h15 h16 h17 h18 h19 h20 h21 h22 h23 h24 b)) (fun b => k50020 (en_X7_after_50020 p1 h0 h1 h2 h3 h4 h5 h6 h7 h8 h9 h10 h11 h12 h13 h14 h15 h16 h17 h18 h19 h20 h21 h22 h23 h24 b)) (fun b => k60020 (en_X7_after_60020 p1 h0 h1 h2 h3 h4 h5 h6 h7 h8 h9 h10 h11 h12 h13 h14 h15 h16 h17 h18 h19 h20 h21 h22 h23 h24 b)) (fun b => k70020 (en_X7_after_70020 p1 h0 h1 h2 h3 h4 h5 h6 h7 h8 h9 h10 h11 h12 h13 h14 h15 h16 h17 h18 h19 h20 h21 h22 h23 h24 b)) (fun b => k80020 (en_X7_after_80020 p1 h0 h1 h2 h3 h4 h5 h6 h7 h8 h9 h10 h11 h12 h13 h14 h15 h16 h17 h18 h19 h20 h21 h22 h23 h24 b)) (fun b => k90020 (en_X7_after_90020 p1 h0 h1 h2 h3 h4 h5 h6 h7 h8 h9 h10 h11 h12 h13 h14 h15 h16 h17 h18 h19 h20 h21 h22 h23 h24 b)) (fun b => k100020 (en_X7_after_100020 p1 h0 h1 h2 h3 h4 h5 h6 h7 h8 h9 h10 h11 h12 h13 h14 h15 h16 h17 h18 h19 h20 h21 h22 h23 h24 b)) (fun b => k110020 (en_X7_after_110020 p1 h0 h1 h2 h3 h4 h5 h6 h7 h8 h9 h10 h11 h12 h13 h14 h15 h16 h17 h18 h19 h20 h21 h22 h23 h24 b)) (fun b => k120020 (en_X7_after_120020 p1 h0 h1 h2 h3 h4 h5 h6 h7 h8 h9 h10 h11 h12 h13 h14 h15 h16 h17 h18 h19 h20 h21 h22 h23 h24 b)) (fun b => k130020 (en_X7_after_130020 p1 h0 h1 h2 h3 h4 h5 h6 h7 h8 h9 h10 h11 h12 h13 h14 h15 h16 h17 h18 h19 h20 h21 h22 h23 h24 b)) a := rfl
set_option maxRecDepth 100000 in
set_option maxHeartbeats 4000000 in
theorem sg_X7_after_0 {X : XDyn} {r0 : Rt} (C : XO X mX7_after) {k10020 : XK} (q10020 : XS X mX7_after r0 20 k10020) {k20020 : XK} (q20020 : XS X mX7_after r0 20 k20020) {k30020 : XK} (q30020 : XS X mX7_after r0 20 k30020) {k40020 : XK} (q40020 : XS X mX7_after r0 20 k40020) {k50020 : XK} (q50020 : XS X mX7_after r0 20 k50020) {k60020 : XK} (q60020 : XS X mX7_after r0 20 k60020) {k70020 : XK} (q70020 : XS X mX7_after r0 20 k70020) {k80020 : XK} (q80020 : XS X mX7_after r0 20 k80020) {k90020 : XK} (q90020 : XS X mX7_after r0 20 k90020) {k100020 : XK} (q100020 : XS X mX7_after r0 20 k100020) {k110020 : XK} (q110020 : XS X mX7_after r0 20 k110020) {k120020 : XK} (q120020 : XS X mX7_after r0 20 k120020) {k130020 : XK} (q130020 : XS X mX7_after r0 20 k130020) : XS X mX7_after r0 0 (rg_X7_after_0 k10020 k20020 k30020 k40020 k50020 k60020 k70020 k80020 k90020 k100020 k110020 k120020 k130020) := by
 unfold rg_X7_after_0
 exact s_aload_n (pc := 0) C dX7_after_0 rfl <|
    s_get (pc := 1) C (ci := 7) (kf := 2) rfl inX7 (by decide) wd_314 dX7_after_1 <|
    s_get (pc := 4) C (ci := 5) (kf := 3) rfl inX5 (by decide) wd_181 dX7_after_4 <|
    s_if_ne (pc := 7) C dX7_after_7 (by decide) (s_aload_n (pc := 12) C dX7_after_12 rfl <|
    s_get (pc := 13) C (ci := 7) (kf := 2) rfl inX7 (by decide) wd_314 dX7_after_13 <|
    s_callVr (pc := 16) C ct_X5_aheadOfLast rfl (n := 1) (mp := [3, 4, 5, 6, 7, 8, 9, 10, 11, 12, 13, 14, 15, 16]) ⟨rfl, by decide, rfl⟩ (ci := 5) rfl rfl (by decide) (by decide) yi_X5_aheadOfLast (by decide) wd_771 wd_702 wd_703 wd_75 wd_704 dX7_after_16 (List.forall_mem_cons.mpr ⟨s_astore_n (pc := 19) C dX7_after_19 rfl <|
    s_cut q10020, (List.forall_mem_cons.mpr ⟨s_astore_n (pc := 19) C dX7_after_19 rfl <|
    s_cut q20020, (List.forall_mem_cons.mpr ⟨s_astore_n (pc := 19) C dX7_after_19 rfl <|
    s_cut q30020, (List.forall_mem_cons.mpr ⟨s_astore_n (pc := 19) C dX7_after_19 rfl <|
    s_cut q40020, (List.forall_mem_cons.mpr ⟨s_astore_n (pc := 19) C dX7_after_19 rfl <|
    s_cut q50020, (List.forall_mem_cons.mpr ⟨s_astore_n (pc := 19) C dX7_after_19 rfl <|
    s_cut q60020, (List.forall_mem_cons.mpr ⟨s_astore_n (pc := 19) C dX7_after_19 rfl <|
    s_cut q70020, (List.forall_mem_cons.mpr ⟨s_astore_n (pc := 19) C dX7_after_19 rfl <|
    s_cut q80020, (List.forall_mem_cons.mpr ⟨s_astore_n (pc := 19) C dX7_after_19 rfl <|
    s_cut q90020, (List.forall_mem_cons.mpr ⟨s_astore_n (pc := 19) C dX7_after_19 rfl <|
    s_cut q100020, (List.forall_mem_cons.mpr ⟨s_astore_n (pc := 19) C dX7_after_19 rfl <|
    s_cut q110020, (List.forall_mem_cons.mpr ⟨s_astore_n (pc := 19) C dX7_after_19 rfl <|
    s_cut q120020, (List.forall_mem_cons.mpr ⟨s_astore_n (pc := 19) C dX7_after_19 rfl <|
    s_cut q130020, (fun _ z => absurd z List.not_mem_nil)⟩)⟩)⟩)⟩)⟩)⟩)⟩)⟩)⟩)⟩)⟩)⟩)⟩))
    (s_iconst (pc := 10) C dX7_after_10 <|
    s_ireturn (pc := 11) C rfl dX7_after_11)
noncomputable def mg_X7_after_10020 (p1 : Int) (h0 : Ob) (h1 : Ob) (h2 : Ob) (h3 : Ob) (h4 : Ob) (h5 : Ob) (h6 : Ob) (h7 : Ob) (h8 : Ob) (h9 : Ob) (h10 : Ob) (h11 : Ob) (h12 : Ob) (h13 : Ob) (h14 : Ob) (h15 : Ob) (h16 : Ob) (h17 : Ob) (h18 : Ob) (h19 : Ob) (h20 : Ob) (h21 : Ob) (h22 : Ob) (h23 : Ob) (h24 : Ob) (a : Unit) : Option Rt :=
 if xw (hwX h4 p1) = (-1) then (RI (-1) [h0, h1, h2, h3, h4, h5, h6, h7, h8, h9, h10, h11, h12, h13, h14, h15, h16, h17, h18, h19, h20, h21, h22, h23, h24])
 else (if xin (hwX h4 p1) 11 then (
 if xw (bz (ful h1 (hwX h4 p1))) = 0 then (RI (-2) [h0, h1, h2, h3, h4, h5, h6, h7, h8, h9, h10, h11, h12, h13, h14, h15, h16, h17, h18, h19, h20, h21, h22, h23, h24])
 else (if xw (bz (iscon h1 (hwX h4 p1) ((p1 - (h4 1 (xw (hwX h4 p1)).toNat)) - 1))) = 0 then (RI (-2) [h0, h1, h2, h3, h4, h5, h6, h7, h8, h9, h10, h11, h12, h13, h14, h15, h16, h17, h18, h19, h20, h21, h22, h23, h24])
 else (if xin (hwX h4 p1) 11 then (
 RI (((h1 1 (xw (hwX h4 p1)).toNat) + 1) + ((p1 - (h4 1 (xw (hwX h4 p1)).toNat)) - 1)) [h0, h1, h2, h3, h4, h5, h6, h7, h8, h9, h10, h11, h12, h13, h14, h15, h16, h17, h18, h19, h20, h21, h22, h23, h24]) else none))) else none)
set_option maxRecDepth 100000 in
set_option maxHeartbeats 4000000 in
theorem rq_X7_after_10020 (p1 : Int) (h0 : Ob) (h1 : Ob) (h2 : Ob) (h3 : Ob) (h4 : Ob) (h5 : Ob) (h6 : Ob) (h7 : Ob) (h8 : Ob) (h9 : Ob) (h10 : Ob) (h11 : Ob) (h12 : Ob) (h13 : Ob) (h14 : Ob) (h15 : Ob) (h16 : Ob) (h17 : Ob) (h18 : Ob) (h19 : Ob) (h20 : Ob) (h21 : Ob) (h22 : Ob) (h23 : Ob) (h24 : Ob) (a : Unit) : rg_X7_after_10020 (en_X7_after_10020 p1 h0 h1 h2 h3 h4 h5 h6 h7 h8 h9 h10 h11 h12 h13 h14 h15 h16 h17 h18 h19 h20 h21 h22 h23 h24 a) = mg_X7_after_10020 p1 h0 h1 h2 h3 h4 h5 h6 h7 h8 h9 h10 h11 h12 h13 h14 h15 h16 h17 h18 h19 h20 h21 h22 h23 h24 a := rfl
set_option maxRecDepth 100000 in
set_option maxHeartbeats 4000000 in
theorem sg_X7_after_10020 {X : XDyn} {r0 : Rt} (C : XO X mX7_after) : XS X mX7_after r0 20 (rg_X7_after_10020) := by
 unfold rg_X7_after_10020
 exact s_aload_n (pc := 20) C dX7_after_20 rfl <|
    s_iload_n (pc := 21) C dX7_after_21 rfl <|
    s_callV (pc := 22) C ct_X3_hwX (n := 2) (rk := 1) (mp := [4]) ⟨rfl, by decide, rfl⟩ (ci := 3) rfl rfl (by decide) (by decide) yi_X3_handleWithContent (by decide) wd_772 wd_773 wd_774 wd_74 wd_775 dX7_after_22 <|
    s_istore_n (pc := 25) C dX7_after_25 rfl <|
    s_iload_n (pc := 26) C dX7_after_26 rfl <|
    s_iconst (pc := 27) C dX7_after_27 <|
    s_icmp_ne (pc := 28) C dX7_after_28 (by decide) (s_iload_n (pc := 33) C dX7_after_33 rfl <|
    s_aload_n (pc := 34) C dX7_after_34 rfl <|
    s_get (pc := 35) C (ci := 3) (kf := 0) rfl inX3 (by decide) wd_104 dX7_after_35 <|
    s_iload_n (pc := 38) C dX7_after_38 rfl <|
    s_iald (pc := 39) C dX7_after_39 <|
    s_isub (pc := 40) C dX7_after_40 <|
    s_iconst (pc := 41) C dX7_after_41 <|
    s_isub (pc := 42) C dX7_after_42 <|
    s_istore (pc := 43) C dX7_after_43 <|
    s_aload_n (pc := 45) C dX7_after_45 rfl <|
    s_get (pc := 46) C (ci := 7) (kf := 0) rfl inX7 (by decide) wd_312 dX7_after_46 <|
    s_iload_n (pc := 49) C dX7_after_49 rfl <|
    s_callV (pc := 50) C ct_X3_isFull (n := 2) (rk := 1) (mp := [1]) ⟨rfl, by decide, rfl⟩ (ci := 3) rfl rfl (by decide) (by decide) yi_X3_isFull (by decide) wd_555 wd_556 wd_557 wd_74 wd_558 dX7_after_50 <|
    s_if_eq (pc := 53) C dX7_after_53 (by decide) (s_bipush (pc := 69) C dX7_after_69 (by decide) <|
    s_ireturn (pc := 71) C rfl dX7_after_71)
    (s_aload_n (pc := 56) C dX7_after_56 rfl <|
    s_get (pc := 57) C (ci := 7) (kf := 0) rfl inX7 (by decide) wd_312 dX7_after_57 <|
    s_iload_n (pc := 60) C dX7_after_60 rfl <|
    s_iload (pc := 61) C dX7_after_61 <|
    s_callV (pc := 63) C ct_X3_isContent (n := 3) (rk := 1) (mp := [1]) ⟨rfl, by decide, rfl⟩ (ci := 3) rfl rfl (by decide) (by decide) yi_X3_isContent (by decide) wd_559 wd_560 wd_561 wd_74 wd_562 dX7_after_63 <|
    s_if_ne (pc := 66) C dX7_after_66 (by decide) (s_aload_n (pc := 72) C dX7_after_72 rfl <|
    s_get (pc := 73) C (ci := 7) (kf := 0) rfl inX7 (by decide) wd_312 dX7_after_73 <|
    s_get (pc := 76) C (ci := 3) (kf := 0) rfl inX3 (by decide) wd_104 dX7_after_76 <|
    s_iload_n (pc := 79) C dX7_after_79 rfl <|
    s_iald (pc := 80) C dX7_after_80 <|
    s_iconst (pc := 81) C dX7_after_81 <|
    s_iadd (pc := 82) C dX7_after_82 <|
    s_iload (pc := 83) C dX7_after_83 <|
    s_iadd (pc := 85) C dX7_after_85 <|
    s_ireturn (pc := 86) C rfl dX7_after_86)
    (s_bipush (pc := 69) C dX7_after_69 (by decide) <|
    s_ireturn (pc := 71) C rfl dX7_after_71)))
    (s_iconst (pc := 31) C dX7_after_31 <|
    s_ireturn (pc := 32) C rfl dX7_after_32)
noncomputable def mg_X7_after_20020 (p1 : Int) (h0 : Ob) (h1 : Ob) (h2 : Ob) (h3 : Ob) (h4 : Ob) (h5 : Ob) (h6 : Ob) (h7 : Ob) (h8 : Ob) (h9 : Ob) (h10 : Ob) (h11 : Ob) (h12 : Ob) (h13 : Ob) (h14 : Ob) (h15 : Ob) (h16 : Ob) (h17 : Ob) (h18 : Ob) (h19 : Ob) (h20 : Ob) (h21 : Ob) (h22 : Ob) (h23 : Ob) (h24 : Ob) (a : Unit) : Option Rt :=
 if xw (hwX h5 p1) = (-1) then (RI (-1) [h0, h1, h2, h3, h4, h5, h6, h7, h8, h9, h10, h11, h12, h13, h14, h15, h16, h17, h18, h19, h20, h21, h22, h23, h24])
 else (if xin (hwX h5 p1) 11 then (
 if xw (bz (ful h1 (hwX h5 p1))) = 0 then (RI (-2) [h0, h1, h2, h3, h4, h5, h6, h7, h8, h9, h10, h11, h12, h13, h14, h15, h16, h17, h18, h19, h20, h21, h22, h23, h24])
 else (if xw (bz (iscon h1 (hwX h5 p1) ((p1 - (h5 1 (xw (hwX h5 p1)).toNat)) - 1))) = 0 then (RI (-2) [h0, h1, h2, h3, h4, h5, h6, h7, h8, h9, h10, h11, h12, h13, h14, h15, h16, h17, h18, h19, h20, h21, h22, h23, h24])
 else (if xin (hwX h5 p1) 11 then (
 RI (((h1 1 (xw (hwX h5 p1)).toNat) + 1) + ((p1 - (h5 1 (xw (hwX h5 p1)).toNat)) - 1)) [h0, h1, h2, h3, h4, h5, h6, h7, h8, h9, h10, h11, h12, h13, h14, h15, h16, h17, h18, h19, h20, h21, h22, h23, h24]) else none))) else none)
set_option maxRecDepth 100000 in
set_option maxHeartbeats 4000000 in
theorem rq_X7_after_20020 (p1 : Int) (h0 : Ob) (h1 : Ob) (h2 : Ob) (h3 : Ob) (h4 : Ob) (h5 : Ob) (h6 : Ob) (h7 : Ob) (h8 : Ob) (h9 : Ob) (h10 : Ob) (h11 : Ob) (h12 : Ob) (h13 : Ob) (h14 : Ob) (h15 : Ob) (h16 : Ob) (h17 : Ob) (h18 : Ob) (h19 : Ob) (h20 : Ob) (h21 : Ob) (h22 : Ob) (h23 : Ob) (h24 : Ob) (a : Unit) : rg_X7_after_20020 (en_X7_after_20020 p1 h0 h1 h2 h3 h4 h5 h6 h7 h8 h9 h10 h11 h12 h13 h14 h15 h16 h17 h18 h19 h20 h21 h22 h23 h24 a) = mg_X7_after_20020 p1 h0 h1 h2 h3 h4 h5 h6 h7 h8 h9 h10 h11 h12 h13 h14 h15 h16 h17 h18 h19 h20 h21 h22 h23 h24 a := rfl
set_option maxRecDepth 100000 in
set_option maxHeartbeats 4000000 in
theorem sg_X7_after_20020 {X : XDyn} {r0 : Rt} (C : XO X mX7_after) : XS X mX7_after r0 20 (rg_X7_after_20020) := by
 unfold rg_X7_after_20020
 exact s_aload_n (pc := 20) C dX7_after_20 rfl <|
    s_iload_n (pc := 21) C dX7_after_21 rfl <|
    s_callV (pc := 22) C ct_X3_hwX (n := 2) (rk := 1) (mp := [5]) ⟨rfl, by decide, rfl⟩ (ci := 3) rfl rfl (by decide) (by decide) yi_X3_handleWithContent (by decide) wd_772 wd_773 wd_774 wd_74 wd_775 dX7_after_22 <|
    s_istore_n (pc := 25) C dX7_after_25 rfl <|
    s_iload_n (pc := 26) C dX7_after_26 rfl <|
    s_iconst (pc := 27) C dX7_after_27 <|
    s_icmp_ne (pc := 28) C dX7_after_28 (by decide) (s_iload_n (pc := 33) C dX7_after_33 rfl <|
    s_aload_n (pc := 34) C dX7_after_34 rfl <|
    s_get (pc := 35) C (ci := 3) (kf := 0) rfl inX3 (by decide) wd_104 dX7_after_35 <|
    s_iload_n (pc := 38) C dX7_after_38 rfl <|
    s_iald (pc := 39) C dX7_after_39 <|
    s_isub (pc := 40) C dX7_after_40 <|
    s_iconst (pc := 41) C dX7_after_41 <|
    s_isub (pc := 42) C dX7_after_42 <|
    s_istore (pc := 43) C dX7_after_43 <|
    s_aload_n (pc := 45) C dX7_after_45 rfl <|
    s_get (pc := 46) C (ci := 7) (kf := 0) rfl inX7 (by decide) wd_312 dX7_after_46 <|
    s_iload_n (pc := 49) C dX7_after_49 rfl <|
    s_callV (pc := 50) C ct_X3_isFull (n := 2) (rk := 1) (mp := [1]) ⟨rfl, by decide, rfl⟩ (ci := 3) rfl rfl (by decide) (by decide) yi_X3_isFull (by decide) wd_555 wd_556 wd_557 wd_74 wd_558 dX7_after_50 <|
    s_if_eq (pc := 53) C dX7_after_53 (by decide) (s_bipush (pc := 69) C dX7_after_69 (by decide) <|
    s_ireturn (pc := 71) C rfl dX7_after_71)
    (s_aload_n (pc := 56) C dX7_after_56 rfl <|
    s_get (pc := 57) C (ci := 7) (kf := 0) rfl inX7 (by decide) wd_312 dX7_after_57 <|
    s_iload_n (pc := 60) C dX7_after_60 rfl <|
    s_iload (pc := 61) C dX7_after_61 <|
    s_callV (pc := 63) C ct_X3_isContent (n := 3) (rk := 1) (mp := [1]) ⟨rfl, by decide, rfl⟩ (ci := 3) rfl rfl (by decide) (by decide) yi_X3_isContent (by decide) wd_559 wd_560 wd_561 wd_74 wd_562 dX7_after_63 <|
    s_if_ne (pc := 66) C dX7_after_66 (by decide) (s_aload_n (pc := 72) C dX7_after_72 rfl <|
    s_get (pc := 73) C (ci := 7) (kf := 0) rfl inX7 (by decide) wd_312 dX7_after_73 <|
    s_get (pc := 76) C (ci := 3) (kf := 0) rfl inX3 (by decide) wd_104 dX7_after_76 <|
    s_iload_n (pc := 79) C dX7_after_79 rfl <|
    s_iald (pc := 80) C dX7_after_80 <|
    s_iconst (pc := 81) C dX7_after_81 <|
    s_iadd (pc := 82) C dX7_after_82 <|
    s_iload (pc := 83) C dX7_after_83 <|
    s_iadd (pc := 85) C dX7_after_85 <|
    s_ireturn (pc := 86) C rfl dX7_after_86)
    (s_bipush (pc := 69) C dX7_after_69 (by decide) <|
    s_ireturn (pc := 71) C rfl dX7_after_71)))
    (s_iconst (pc := 31) C dX7_after_31 <|
    s_ireturn (pc := 32) C rfl dX7_after_32)
noncomputable def mg_X7_after_30020 (p1 : Int) (h0 : Ob) (h1 : Ob) (h2 : Ob) (h3 : Ob) (h4 : Ob) (h5 : Ob) (h6 : Ob) (h7 : Ob) (h8 : Ob) (h9 : Ob) (h10 : Ob) (h11 : Ob) (h12 : Ob) (h13 : Ob) (h14 : Ob) (h15 : Ob) (h16 : Ob) (h17 : Ob) (h18 : Ob) (h19 : Ob) (h20 : Ob) (h21 : Ob) (h22 : Ob) (h23 : Ob) (h24 : Ob) (a : Unit) : Option Rt :=
 if xw (hwX h6 p1) = (-1) then (RI (-1) [h0, h1, h2, h3, h4, h5, h6, h7, h8, h9, h10, h11, h12, h13, h14, h15, h16, h17, h18, h19, h20, h21, h22, h23, h24])
 else (if xin (hwX h6 p1) 11 then (
 if xw (bz (ful h1 (hwX h6 p1))) = 0 then (RI (-2) [h0, h1, h2, h3, h4, h5, h6, h7, h8, h9, h10, h11, h12, h13, h14, h15, h16, h17, h18, h19, h20, h21, h22, h23, h24])
 else (if xw (bz (iscon h1 (hwX h6 p1) ((p1 - (h6 1 (xw (hwX h6 p1)).toNat)) - 1))) = 0 then (RI (-2) [h0, h1, h2, h3, h4, h5, h6, h7, h8, h9, h10, h11, h12, h13, h14, h15, h16, h17, h18, h19, h20, h21, h22, h23, h24])
 else (if xin (hwX h6 p1) 11 then (
 RI (((h1 1 (xw (hwX h6 p1)).toNat) + 1) + ((p1 - (h6 1 (xw (hwX h6 p1)).toNat)) - 1)) [h0, h1, h2, h3, h4, h5, h6, h7, h8, h9, h10, h11, h12, h13, h14, h15, h16, h17, h18, h19, h20, h21, h22, h23, h24]) else none))) else none)
set_option maxRecDepth 100000 in
set_option maxHeartbeats 4000000 in
theorem rq_X7_after_30020 (p1 : Int) (h0 : Ob) (h1 : Ob) (h2 : Ob) (h3 : Ob) (h4 : Ob) (h5 : Ob) (h6 : Ob) (h7 : Ob) (h8 : Ob) (h9 : Ob) (h10 : Ob) (h11 : Ob) (h12 : Ob) (h13 : Ob) (h14 : Ob) (h15 : Ob) (h16 : Ob) (h17 : Ob) (h18 : Ob) (h19 : Ob) (h20 : Ob) (h21 : Ob) (h22 : Ob) (h23 : Ob) (h24 : Ob) (a : Unit) : rg_X7_after_30020 (en_X7_after_30020 p1 h0 h1 h2 h3 h4 h5 h6 h7 h8 h9 h10 h11 h12 h13 h14 h15 h16 h17 h18 h19 h20 h21 h22 h23 h24 a) = mg_X7_after_30020 p1 h0 h1 h2 h3 h4 h5 h6 h7 h8 h9 h10 h11 h12 h13 h14 h15 h16 h17 h18 h19 h20 h21 h22 h23 h24 a := rfl
set_option maxRecDepth 100000 in
set_option maxHeartbeats 4000000 in
theorem sg_X7_after_30020 {X : XDyn} {r0 : Rt} (C : XO X mX7_after) : XS X mX7_after r0 20 (rg_X7_after_30020) := by
 unfold rg_X7_after_30020
 exact s_aload_n (pc := 20) C dX7_after_20 rfl <|
    s_iload_n (pc := 21) C dX7_after_21 rfl <|
    s_callV (pc := 22) C ct_X3_hwX (n := 2) (rk := 1) (mp := [6]) ⟨rfl, by decide, rfl⟩ (ci := 3) rfl rfl (by decide) (by decide) yi_X3_handleWithContent (by decide) wd_772 wd_773 wd_774 wd_74 wd_775 dX7_after_22 <|
    s_istore_n (pc := 25) C dX7_after_25 rfl <|
    s_iload_n (pc := 26) C dX7_after_26 rfl <|
    s_iconst (pc := 27) C dX7_after_27 <|
    s_icmp_ne (pc := 28) C dX7_after_28 (by decide) (s_iload_n (pc := 33) C dX7_after_33 rfl <|
    s_aload_n (pc := 34) C dX7_after_34 rfl <|
    s_get (pc := 35) C (ci := 3) (kf := 0) rfl inX3 (by decide) wd_104 dX7_after_35 <|
    s_iload_n (pc := 38) C dX7_after_38 rfl <|
    s_iald (pc := 39) C dX7_after_39 <|
    s_isub (pc := 40) C dX7_after_40 <|
    s_iconst (pc := 41) C dX7_after_41 <|
    s_isub (pc := 42) C dX7_after_42 <|
    s_istore (pc := 43) C dX7_after_43 <|
    s_aload_n (pc := 45) C dX7_after_45 rfl <|
    s_get (pc := 46) C (ci := 7) (kf := 0) rfl inX7 (by decide) wd_312 dX7_after_46 <|
    s_iload_n (pc := 49) C dX7_after_49 rfl <|
    s_callV (pc := 50) C ct_X3_isFull (n := 2) (rk := 1) (mp := [1]) ⟨rfl, by decide, rfl⟩ (ci := 3) rfl rfl (by decide) (by decide) yi_X3_isFull (by decide) wd_555 wd_556 wd_557 wd_74 wd_558 dX7_after_50 <|
    s_if_eq (pc := 53) C dX7_after_53 (by decide) (s_bipush (pc := 69) C dX7_after_69 (by decide) <|
    s_ireturn (pc := 71) C rfl dX7_after_71)
    (s_aload_n (pc := 56) C dX7_after_56 rfl <|
    s_get (pc := 57) C (ci := 7) (kf := 0) rfl inX7 (by decide) wd_312 dX7_after_57 <|
    s_iload_n (pc := 60) C dX7_after_60 rfl <|
    s_iload (pc := 61) C dX7_after_61 <|
    s_callV (pc := 63) C ct_X3_isContent (n := 3) (rk := 1) (mp := [1]) ⟨rfl, by decide, rfl⟩ (ci := 3) rfl rfl (by decide) (by decide) yi_X3_isContent (by decide) wd_559 wd_560 wd_561 wd_74 wd_562 dX7_after_63 <|
    s_if_ne (pc := 66) C dX7_after_66 (by decide) (s_aload_n (pc := 72) C dX7_after_72 rfl <|
    s_get (pc := 73) C (ci := 7) (kf := 0) rfl inX7 (by decide) wd_312 dX7_after_73 <|
    s_get (pc := 76) C (ci := 3) (kf := 0) rfl inX3 (by decide) wd_104 dX7_after_76 <|
    s_iload_n (pc := 79) C dX7_after_79 rfl <|
    s_iald (pc := 80) C dX7_after_80 <|
    s_iconst (pc := 81) C dX7_after_81 <|
    s_iadd (pc := 82) C dX7_after_82 <|
    s_iload (pc := 83) C dX7_after_83 <|
    s_iadd (pc := 85) C dX7_after_85 <|
    s_ireturn (pc := 86) C rfl dX7_after_86)
    (s_bipush (pc := 69) C dX7_after_69 (by decide) <|
    s_ireturn (pc := 71) C rfl dX7_after_71)))
    (s_iconst (pc := 31) C dX7_after_31 <|
    s_ireturn (pc := 32) C rfl dX7_after_32)
noncomputable def mg_X7_after_40020 (p1 : Int) (h0 : Ob) (h1 : Ob) (h2 : Ob) (h3 : Ob) (h4 : Ob) (h5 : Ob) (h6 : Ob) (h7 : Ob) (h8 : Ob) (h9 : Ob) (h10 : Ob) (h11 : Ob) (h12 : Ob) (h13 : Ob) (h14 : Ob) (h15 : Ob) (h16 : Ob) (h17 : Ob) (h18 : Ob) (h19 : Ob) (h20 : Ob) (h21 : Ob) (h22 : Ob) (h23 : Ob) (h24 : Ob) (a : Unit) : Option Rt :=
 if xw (hwX h7 p1) = (-1) then (RI (-1) [h0, h1, h2, h3, h4, h5, h6, h7, h8, h9, h10, h11, h12, h13, h14, h15, h16, h17, h18, h19, h20, h21, h22, h23, h24])
 else (if xin (hwX h7 p1) 11 then (
 if xw (bz (ful h1 (hwX h7 p1))) = 0 then (RI (-2) [h0, h1, h2, h3, h4, h5, h6, h7, h8, h9, h10, h11, h12, h13, h14, h15, h16, h17, h18, h19, h20, h21, h22, h23, h24])
 else (if xw (bz (iscon h1 (hwX h7 p1) ((p1 - (h7 1 (xw (hwX h7 p1)).toNat)) - 1))) = 0 then (RI (-2) [h0, h1, h2, h3, h4, h5, h6, h7, h8, h9, h10, h11, h12, h13, h14, h15, h16, h17, h18, h19, h20, h21, h22, h23, h24])
 else (if xin (hwX h7 p1) 11 then (
 RI (((h1 1 (xw (hwX h7 p1)).toNat) + 1) + ((p1 - (h7 1 (xw (hwX h7 p1)).toNat)) - 1)) [h0, h1, h2, h3, h4, h5, h6, h7, h8, h9, h10, h11, h12, h13, h14, h15, h16, h17, h18, h19, h20, h21, h22, h23, h24]) else none))) else none)
set_option maxRecDepth 100000 in
set_option maxHeartbeats 4000000 in
theorem rq_X7_after_40020 (p1 : Int) (h0 : Ob) (h1 : Ob) (h2 : Ob) (h3 : Ob) (h4 : Ob) (h5 : Ob) (h6 : Ob) (h7 : Ob) (h8 : Ob) (h9 : Ob) (h10 : Ob) (h11 : Ob) (h12 : Ob) (h13 : Ob) (h14 : Ob) (h15 : Ob) (h16 : Ob) (h17 : Ob) (h18 : Ob) (h19 : Ob) (h20 : Ob) (h21 : Ob) (h22 : Ob) (h23 : Ob) (h24 : Ob) (a : Unit) : rg_X7_after_40020 (en_X7_after_40020 p1 h0 h1 h2 h3 h4 h5 h6 h7 h8 h9 h10 h11 h12 h13 h14 h15 h16 h17 h18 h19 h20 h21 h22 h23 h24 a) = mg_X7_after_40020 p1 h0 h1 h2 h3 h4 h5 h6 h7 h8 h9 h10 h11 h12 h13 h14 h15 h16 h17 h18 h19 h20 h21 h22 h23 h24 a := rfl
set_option maxRecDepth 100000 in
set_option maxHeartbeats 4000000 in
theorem sg_X7_after_40020 {X : XDyn} {r0 : Rt} (C : XO X mX7_after) : XS X mX7_after r0 20 (rg_X7_after_40020) := by
 unfold rg_X7_after_40020
 exact s_aload_n (pc := 20) C dX7_after_20 rfl <|
    s_iload_n (pc := 21) C dX7_after_21 rfl <|
    s_callV (pc := 22) C ct_X3_hwX (n := 2) (rk := 1) (mp := [7]) ⟨rfl, by decide, rfl⟩ (ci := 3) rfl rfl (by decide) (by decide) yi_X3_handleWithContent (by decide) wd_772 wd_773 wd_774 wd_74 wd_775 dX7_after_22 <|
    s_istore_n (pc := 25) C dX7_after_25 rfl <|
    s_iload_n (pc := 26) C dX7_after_26 rfl <|
    s_iconst (pc := 27) C dX7_after_27 <|
    s_icmp_ne (pc := 28) C dX7_after_28 (by decide) (s_iload_n (pc := 33) C dX7_after_33 rfl <|
    s_aload_n (pc := 34) C dX7_after_34 rfl <|
    s_get (pc := 35) C (ci := 3) (kf := 0) rfl inX3 (by decide) wd_104 dX7_after_35 <|
    s_iload_n (pc := 38) C dX7_after_38 rfl <|
    s_iald (pc := 39) C dX7_after_39 <|
    s_isub (pc := 40) C dX7_after_40 <|
    s_iconst (pc := 41) C dX7_after_41 <|
    s_isub (pc := 42) C dX7_after_42 <|
    s_istore (pc := 43) C dX7_after_43 <|
    s_aload_n (pc := 45) C dX7_after_45 rfl <|
    s_get (pc := 46) C (ci := 7) (kf := 0) rfl inX7 (by decide) wd_312 dX7_after_46 <|
    s_iload_n (pc := 49) C dX7_after_49 rfl <|
    s_callV (pc := 50) C ct_X3_isFull (n := 2) (rk := 1) (mp := [1]) ⟨rfl, by decide, rfl⟩ (ci := 3) rfl rfl (by decide) (by decide) yi_X3_isFull (by decide) wd_555 wd_556 wd_557 wd_74 wd_558 dX7_after_50 <|
    s_if_eq (pc := 53) C dX7_after_53 (by decide) (s_bipush (pc := 69) C dX7_after_69 (by decide) <|
    s_ireturn (pc := 71) C rfl dX7_after_71)
    (s_aload_n (pc := 56) C dX7_after_56 rfl <|
    s_get (pc := 57) C (ci := 7) (kf := 0) rfl inX7 (by decide) wd_312 dX7_after_57 <|
    s_iload_n (pc := 60) C dX7_after_60 rfl <|
    s_iload (pc := 61) C dX7_after_61 <|
    s_callV (pc := 63) C ct_X3_isContent (n := 3) (rk := 1) (mp := [1]) ⟨rfl, by decide, rfl⟩ (ci := 3) rfl rfl (by decide) (by decide) yi_X3_isContent (by decide) wd_559 wd_560 wd_561 wd_74 wd_562 dX7_after_63 <|
    s_if_ne (pc := 66) C dX7_after_66 (by decide) (s_aload_n (pc := 72) C dX7_after_72 rfl <|
    s_get (pc := 73) C (ci := 7) (kf := 0) rfl inX7 (by decide) wd_312 dX7_after_73 <|
    s_get (pc := 76) C (ci := 3) (kf := 0) rfl inX3 (by decide) wd_104 dX7_after_76 <|
    s_iload_n (pc := 79) C dX7_after_79 rfl <|
    s_iald (pc := 80) C dX7_after_80 <|
    s_iconst (pc := 81) C dX7_after_81 <|
    s_iadd (pc := 82) C dX7_after_82 <|
    s_iload (pc := 83) C dX7_after_83 <|
    s_iadd (pc := 85) C dX7_after_85 <|
    s_ireturn (pc := 86) C rfl dX7_after_86)
    (s_bipush (pc := 69) C dX7_after_69 (by decide) <|
    s_ireturn (pc := 71) C rfl dX7_after_71)))
    (s_iconst (pc := 31) C dX7_after_31 <|
    s_ireturn (pc := 32) C rfl dX7_after_32)
noncomputable def mg_X7_after_50020 (p1 : Int) (h0 : Ob) (h1 : Ob) (h2 : Ob) (h3 : Ob) (h4 : Ob) (h5 : Ob) (h6 : Ob) (h7 : Ob) (h8 : Ob) (h9 : Ob) (h10 : Ob) (h11 : Ob) (h12 : Ob) (h13 : Ob) (h14 : Ob) (h15 : Ob) (h16 : Ob) (h17 : Ob) (h18 : Ob) (h19 : Ob) (h20 : Ob) (h21 : Ob) (h22 : Ob) (h23 : Ob) (h24 : Ob) (a : Unit) : Option Rt :=
 if xw (hwX h8 p1) = (-1) then (RI (-1) [h0, h1, h2, h3, h4, h5, h6, h7, h8, h9, h10, h11, h12, h13, h14, h15, h16, h17, h18, h19, h20, h21, h22, h23, h24])
 else (if xin (hwX h8 p1) 11 then (
 if xw (bz (ful h1 (hwX h8 p1))) = 0 then (RI (-2) [h0, h1, h2, h3, h4, h5, h6, h7, h8, h9, h10, h11, h12, h13, h14, h15, h16, h17, h18, h19, h20, h21, h22, h23, h24])
 else (if xw (bz (iscon h1 (hwX h8 p1) ((p1 - (h8 1 (xw (hwX h8 p1)).toNat)) - 1))) = 0 then (RI (-2) [h0, h1, h2, h3, h4, h5, h6, h7, h8, h9, h10, h11, h12, h13, h14, h15, h16, h17, h18, h19, h20, h21, h22, h23, h24])
 else (if xin (hwX h8 p1) 11 then (
 RI (((h1 1 (xw (hwX h8 p1)).toNat) + 1) + ((p1 - (h8 1 (xw (hwX h8 p1)).toNat)) - 1)) [h0, h1, h2, h3, h4, h5, h6, h7, h8, h9, h10, h11, h12, h13, h14, h15, h16, h17, h18, h19, h20, h21, h22, h23, h24]) else none))) else none)
set_option maxRecDepth 100000 in
set_option maxHeartbeats 4000000 in
theorem rq_X7_after_50020 (p1 : Int) (h0 : Ob) (h1 : Ob) (h2 : Ob) (h3 : Ob) (h4 : Ob) (h5 : Ob) (h6 : Ob) (h7 : Ob) (h8 : Ob) (h9 : Ob) (h10 : Ob) (h11 : Ob) (h12 : Ob) (h13 : Ob) (h14 : Ob) (h15 : Ob) (h16 : Ob) (h17 : Ob) (h18 : Ob) (h19 : Ob) (h20 : Ob) (h21 : Ob) (h22 : Ob) (h23 : Ob) (h24 : Ob) (a : Unit) : rg_X7_after_50020 (en_X7_after_50020 p1 h0 h1 h2 h3 h4 h5 h6 h7 h8 h9 h10 h11 h12 h13 h14 h15 h16 h17 h18 h19 h20 h21 h22 h23 h24 a) = mg_X7_after_50020 p1 h0 h1 h2 h3 h4 h5 h6 h7 h8 h9 h10 h11 h12 h13 h14 h15 h16 h17 h18 h19 h20 h21 h22 h23 h24 a := rfl
set_option maxRecDepth 100000 in
set_option maxHeartbeats 4000000 in
theorem sg_X7_after_50020 {X : XDyn} {r0 : Rt} (C : XO X mX7_after) : XS X mX7_after r0 20 (rg_X7_after_50020) := by
 unfold rg_X7_after_50020
 exact s_aload_n (pc := 20) C dX7_after_20 rfl <|
    s_iload_n (pc := 21) C dX7_after_21 rfl <|
    s_callV (pc := 22) C ct_X3_hwX (n := 2) (rk := 1) (mp := [8]) ⟨rfl, by decide, rfl⟩ (ci := 3) rfl rfl (by decide) (by decide) yi_X3_handleWithContent (by decide) wd_772 wd_773 wd_774 wd_74 wd_775 dX7_after_22 <|
    s_istore_n (pc := 25) C dX7_after_25 rfl <|
    s_iload_n (pc := 26) C dX7_after_26 rfl <|
    s_iconst (pc := 27) C dX7_after_27 <|
    s_icmp_ne (pc := 28) C dX7_after_28 (by decide) (s_iload_n (pc := 33) C dX7_after_33 rfl <|
    s_aload_n (pc := 34) C dX7_after_34 rfl <|
    s_get (pc := 35) C (ci := 3) (kf := 0) rfl inX3 (by decide) wd_104 dX7_after_35 <|
    s_iload_n (pc := 38) C dX7_after_38 rfl <|
    s_iald (pc := 39) C dX7_after_39 <|
    s_isub (pc := 40) C dX7_after_40 <|
    s_iconst (pc := 41) C dX7_after_41 <|
    s_isub (pc := 42) C dX7_after_42 <|
    s_istore (pc := 43) C dX7_after_43 <|
    s_aload_n (pc := 45) C dX7_after_45 rfl <|
    s_get (pc := 46) C (ci := 7) (kf := 0) rfl inX7 (by decide) wd_312 dX7_after_46 <|
    s_iload_n (pc := 49) C dX7_after_49 rfl <|
    s_callV (pc := 50) C ct_X3_isFull (n := 2) (rk := 1) (mp := [1]) ⟨rfl, by decide, rfl⟩ (ci := 3) rfl rfl (by decide) (by decide) yi_X3_isFull (by decide) wd_555 wd_556 wd_557 wd_74 wd_558 dX7_after_50 <|
    s_if_eq (pc := 53) C dX7_after_53 (by decide) (s_bipush (pc := 69) C dX7_after_69 (by decide) <|
    s_ireturn (pc := 71) C rfl dX7_after_71)
    (s_aload_n (pc := 56) C dX7_after_56 rfl <|
    s_get (pc := 57) C (ci := 7) (kf := 0) rfl inX7 (by decide) wd_312 dX7_after_57 <|
    s_iload_n (pc := 60) C dX7_after_60 rfl <|
    s_iload (pc := 61) C dX7_after_61 <|
    s_callV (pc := 63) C ct_X3_isContent (n := 3) (rk := 1) (mp := [1]) ⟨rfl, by decide, rfl⟩ (ci := 3) rfl rfl (by decide) (by decide) yi_X3_isContent (by decide) wd_559 wd_560 wd_561 wd_74 wd_562 dX7_after_63 <|
    s_if_ne (pc := 66) C dX7_after_66 (by decide) (s_aload_n (pc := 72) C dX7_after_72 rfl <|
    s_get (pc := 73) C (ci := 7) (kf := 0) rfl inX7 (by decide) wd_312 dX7_after_73 <|
    s_get (pc := 76) C (ci := 3) (kf := 0) rfl inX3 (by decide) wd_104 dX7_after_76 <|
    s_iload_n (pc := 79) C dX7_after_79 rfl <|
    s_iald (pc := 80) C dX7_after_80 <|
    s_iconst (pc := 81) C dX7_after_81 <|
    s_iadd (pc := 82) C dX7_after_82 <|
    s_iload (pc := 83) C dX7_after_83 <|
    s_iadd (pc := 85) C dX7_after_85 <|
    s_ireturn (pc := 86) C rfl dX7_after_86)
    (s_bipush (pc := 69) C dX7_after_69 (by decide) <|
    s_ireturn (pc := 71) C rfl dX7_after_71)))
    (s_iconst (pc := 31) C dX7_after_31 <|
    s_ireturn (pc := 32) C rfl dX7_after_32)
noncomputable def mg_X7_after_60020 (p1 : Int) (h0 : Ob) (h1 : Ob) (h2 : Ob) (h3 : Ob) (h4 : Ob) (h5 : Ob) (h6 : Ob) (h7 : Ob) (h8 : Ob) (h9 : Ob) (h10 : Ob) (h11 : Ob) (h12 : Ob) (h13 : Ob) (h14 : Ob) (h15 : Ob) (h16 : Ob) (h17 : Ob) (h18 : Ob) (h19 : Ob) (h20 : Ob) (h21 : Ob) (h22 : Ob) (h23 : Ob) (h24 : Ob) (a : Unit) : Option Rt :=
 if xw (hwX h9 p1) = (-1) then (RI (-1) [h0, h1, h2, h3, h4, h5, h6, h7, h8, h9, h10, h11, h12, h13, h14, h15, h16, h17, h18, h19, h20, h21, h22, h23, h24])
 else (if xin (hwX h9 p1) 11 then (
 if xw (bz (ful h1 (hwX h9 p1))) = 0 then (RI (-2) [h0, h1, h2, h3, h4, h5, h6, h7, h8, h9, h10, h11, h12, h13, h14, h15, h16, h17, h18, h19, h20, h21, h22, h23, h24])
 else (if xw (bz (iscon h1 (hwX h9 p1) ((p1 - (h9 1 (xw (hwX h9 p1)).toNat)) - 1))) = 0 then (RI (-2) [h0, h1, h2, h3, h4, h5, h6, h7, h8, h9, h10, h11, h12, h13, h14, h15, h16, h17, h18, h19, h20, h21, h22, h23, h24])
 else (if xin (hwX h9 p1) 11 then (
 RI (((h1 1 (xw (hwX h9 p1)).toNat) + 1) + ((p1 - (h9 1 (xw (hwX h9 p1)).toNat)) - 1)) [h0, h1, h2, h3, h4, h5, h6, h7, h8, h9, h10, h11, h12, h13, h14, h15, h16, h17, h18, h19, h20, h21, h22, h23, h24]) else none))) else none)
set_option maxRecDepth 100000 in
set_option maxHeartbeats 4000000 in
theorem rq_X7_after_60020 (p1 : Int) (h0 : Ob) (h1 : Ob) (h2 : Ob) (h3 : Ob) (h4 : Ob) (h5 : Ob) (h6 : Ob) (h7 : Ob) (h8 : Ob) (h9 : Ob) (h10 : Ob) (h11 : Ob) (h12 : Ob) (h13 : Ob) (h14 : Ob) (h15 : Ob) (h16 : Ob) (h17 : Ob) (h18 : Ob) (h19 : Ob) (h20 : Ob) (h21 : Ob) (h22 : Ob) (h23 : Ob) (h24 : Ob) (a : Unit) : rg_X7_after_60020 (en_X7_after_60020 p1 h0 h1 h2 h3 h4 h5 h6 h7 h8 h9 h10 h11 h12 h13 h14 h15 h16 h17 h18 h19 h20 h21 h22 h23 h24 a) = mg_X7_after_60020 p1 h0 h1 h2 h3 h4 h5 h6 h7 h8 h9 h10 h11 h12 h13 h14 h15 h16 h17 h18 h19 h20 h21 h22 h23 h24 a := rfl
set_option maxRecDepth 100000 in
set_option maxHeartbeats 4000000 in
theorem sg_X7_after_60020 {X : XDyn} {r0 : Rt} (C : XO X mX7_after) : XS X mX7_after r0 20 (rg_X7_after_60020) := by
 unfold rg_X7_after_60020
 exact s_aload_n (pc := 20) C dX7_after_20 rfl <|
    s_iload_n (pc := 21) C dX7_after_21 rfl <|
    s_callV (pc := 22) C ct_X3_hwX (n := 2) (rk := 1) (mp := [9]) ⟨rfl, by decide, rfl⟩ (ci := 3) rfl rfl (by decide) (by decide) yi_X3_handleWithContent (by decide) wd_772 wd_773 wd_774 wd_74 wd_775 dX7_after_22 <|
    s_istore_n (pc := 25) C dX7_after_25 rfl <|
    s_iload_n (pc := 26) C dX7_after_26 rfl <|
    s_iconst (pc := 27) C dX7_after_27 <|
    s_icmp_ne (pc := 28) C dX7_after_28 (by decide) (s_iload_n (pc := 33) C dX7_after_33 rfl <|
    s_aload_n (pc := 34) C dX7_after_34 rfl <|
    s_get (pc := 35) C (ci := 3) (kf := 0) rfl inX3 (by decide) wd_104 dX7_after_35 <|
    s_iload_n (pc := 38) C dX7_after_38 rfl <|
    s_iald (pc := 39) C dX7_after_39 <|
    s_isub (pc := 40) C dX7_after_40 <|
    s_iconst (pc := 41) C dX7_after_41 <|
    s_isub (pc := 42) C dX7_after_42 <|
    s_istore (pc := 43) C dX7_after_43 <|
    s_aload_n (pc := 45) C dX7_after_45 rfl <|
    s_get (pc := 46) C (ci := 7) (kf := 0) rfl inX7 (by decide) wd_312 dX7_after_46 <|
    s_iload_n (pc := 49) C dX7_after_49 rfl <|
    s_callV (pc := 50) C ct_X3_isFull (n := 2) (rk := 1) (mp := [1]) ⟨rfl, by decide, rfl⟩ (ci := 3) rfl rfl (by decide) (by decide) yi_X3_isFull (by decide) wd_555 wd_556 wd_557 wd_74 wd_558 dX7_after_50 <|
    s_if_eq (pc := 53) C dX7_after_53 (by decide) (s_bipush (pc := 69) C dX7_after_69 (by decide) <|
    s_ireturn (pc := 71) C rfl dX7_after_71)
    (s_aload_n (pc := 56) C dX7_after_56 rfl <|
    s_get (pc := 57) C (ci := 7) (kf := 0) rfl inX7 (by decide) wd_312 dX7_after_57 <|
    s_iload_n (pc := 60) C dX7_after_60 rfl <|
    s_iload (pc := 61) C dX7_after_61 <|
    s_callV (pc := 63) C ct_X3_isContent (n := 3) (rk := 1) (mp := [1]) ⟨rfl, by decide, rfl⟩ (ci := 3) rfl rfl (by decide) (by decide) yi_X3_isContent (by decide) wd_559 wd_560 wd_561 wd_74 wd_562 dX7_after_63 <|
    s_if_ne (pc := 66) C dX7_after_66 (by decide) (s_aload_n (pc := 72) C dX7_after_72 rfl <|
    s_get (pc := 73) C (ci := 7) (kf := 0) rfl inX7 (by decide) wd_312 dX7_after_73 <|
    s_get (pc := 76) C (ci := 3) (kf := 0) rfl inX3 (by decide) wd_104 dX7_after_76 <|
    s_iload_n (pc := 79) C dX7_after_79 rfl <|
    s_iald (pc := 80) C dX7_after_80 <|
    s_iconst (pc := 81) C dX7_after_81 <|
    s_iadd (pc := 82) C dX7_after_82 <|
    s_iload (pc := 83) C dX7_after_83 <|
    s_iadd (pc := 85) C dX7_after_85 <|
    s_ireturn (pc := 86) C rfl dX7_after_86)
    (s_bipush (pc := 69) C dX7_after_69 (by decide) <|
    s_ireturn (pc := 71) C rfl dX7_after_71)))
    (s_iconst (pc := 31) C dX7_after_31 <|
    s_ireturn (pc := 32) C rfl dX7_after_32)
noncomputable def mg_X7_after_70020 (p1 : Int) (h0 : Ob) (h1 : Ob) (h2 : Ob) (h3 : Ob) (h4 : Ob) (h5 : Ob) (h6 : Ob) (h7 : Ob) (h8 : Ob) (h9 : Ob) (h10 : Ob) (h11 : Ob) (h12 : Ob) (h13 : Ob) (h14 : Ob) (h15 : Ob) (h16 : Ob) (h17 : Ob) (h18 : Ob) (h19 : Ob) (h20 : Ob) (h21 : Ob) (h22 : Ob) (h23 : Ob) (h24 : Ob) (a : Unit) : Option Rt :=
 if xw (hwX h10 p1) = (-1) then (RI (-1) [h0, h1, h2, h3, h4, h5, h6, h7, h8, h9, h10, h11, h12, h13, h14, h15, h16, h17, h18, h19, h20, h21, h22, h23, h24])
 else (if xin (hwX h10 p1) 11 then (
 if xw (bz (ful h1 (hwX h10 p1))) = 0 then (RI (-2) [h0, h1, h2, h3, h4, h5, h6, h7, h8, h9, h10, h11, h12, h13, h14, h15, h16, h17, h18, h19, h20, h21, h22, h23, h24])
 else (if xw (bz (iscon h1 (hwX h10 p1) ((p1 - (h10 1 (xw (hwX h10 p1)).toNat)) - 1))) = 0 then (RI (-2) [h0, h1, h2, h3, h4, h5, h6, h7, h8, h9, h10, h11, h12, h13, h14, h15, h16, h17, h18, h19, h20, h21, h22, h23, h24])
 else (if xin (hwX h10 p1) 11 then (
 RI (((h1 1 (xw (hwX h10 p1)).toNat) + 1) + ((p1 - (h10 1 (xw (hwX h10 p1)).toNat)) - 1)) [h0, h1, h2, h3, h4, h5, h6, h7, h8, h9, h10, h11, h12, h13, h14, h15, h16, h17, h18, h19, h20, h21, h22, h23, h24]) else none))) else none)
set_option maxRecDepth 100000 in
set_option maxHeartbeats 4000000 in
theorem rq_X7_after_70020 (p1 : Int) (h0 : Ob) (h1 : Ob) (h2 : Ob) (h3 : Ob) (h4 : Ob) (h5 : Ob) (h6 : Ob) (h7 : Ob) (h8 : Ob) (h9 : Ob) (h10 : Ob) (h11 : Ob) (h12 : Ob) (h13 : Ob) (h14 : Ob) (h15 : Ob) (h16 : Ob) (h17 : Ob) (h18 : Ob) (h19 : Ob) (h20 : Ob) (h21 : Ob) (h22 : Ob) (h23 : Ob) (h24 : Ob) (a : Unit) : rg_X7_after_70020 (en_X7_after_70020 p1 h0 h1 h2 h3 h4 h5 h6 h7 h8 h9 h10 h11 h12 h13 h14 h15 h16 h17 h18 h19 h20 h21 h22 h23 h24 a) = mg_X7_after_70020 p1 h0 h1 h2 h3 h4 h5 h6 h7 h8 h9 h10 h11 h12 h13 h14 h15 h16 h17 h18 h19 h20 h21 h22 h23 h24 a := rfl
set_option maxRecDepth 100000 in
set_option maxHeartbeats 4000000 in
theorem sg_X7_after_70020 {X : XDyn} {r0 : Rt} (C : XO X mX7_after) : XS X mX7_after r0 20 (rg_X7_after_70020) := by
 unfold rg_X7_after_70020
 exact s_aload_n (pc := 20) C dX7_after_20 rfl <|
    s_iload_n (pc := 21) C dX7_after_21 rfl <|
    s_callV (pc := 22) C ct_X3_hwX (n := 2) (rk := 1) (mp := [10]) ⟨rfl, by decide, rfl⟩ (ci := 3) rfl rfl (by decide) (by decide) yi_X3_handleWithContent (by decide) wd_772 wd_773 wd_774 wd_74 wd_775 dX7_after_22 <|
    s_istore_n (pc := 25) C dX7_after_25 rfl <|
    s_iload_n (pc := 26) C dX7_after_26 rfl <|
    s_iconst (pc := 27) C dX7_after_27 <|
    s_icmp_ne (pc := 28) C dX7_after_28 (by decide) (s_iload_n (pc := 33) C dX7_after_33 rfl <|
    s_aload_n (pc := 34) C dX7_after_34 rfl <|
    s_get (pc := 35) C (ci := 3) (kf := 0) rfl inX3 (by decide) wd_104 dX7_after_35 <|
    s_iload_n (pc := 38) C dX7_after_38 rfl <|
    s_iald (pc := 39) C dX7_after_39 <|
    s_isub (pc := 40) C dX7_after_40 <|
    s_iconst (pc := 41) C dX7_after_41 <|
    s_isub (pc := 42) C dX7_after_42 <|
    s_istore (pc := 43) C dX7_after_43 <|
    s_aload_n (pc := 45) C dX7_after_45 rfl <|
    s_get (pc := 46) C (ci := 7) (kf := 0) rfl inX7 (by decide) wd_312 dX7_after_46 <|
    s_iload_n (pc := 49) C dX7_after_49 rfl <|
    s_callV (pc := 50) C ct_X3_isFull (n := 2) (rk := 1) (mp := [1]) ⟨rfl, by decide, rfl⟩ (ci := 3) rfl rfl (by decide) (by decide) yi_X3_isFull (by decide) wd_555 wd_556 wd_557 wd_74 wd_558 dX7_after_50 <|
    s_if_eq (pc := 53) C dX7_after_53 (by decide) (s_bipush (pc := 69) C dX7_after_69 (by decide) <|
    s_ireturn (pc := 71) C rfl dX7_after_71)
    (s_aload_n (pc := 56) C dX7_after_56 rfl <|
    s_get (pc := 57) C (ci := 7) (kf := 0) rfl inX7 (by decide) wd_312 dX7_after_57 <|
    s_iload_n (pc := 60) C dX7_after_60 rfl <|
    s_iload (pc := 61) C dX7_after_61 <|
    s_callV (pc := 63) C ct_X3_isContent (n := 3) (rk := 1) (mp := [1]) ⟨rfl, by decide, rfl⟩ (ci := 3) rfl rfl (by decide) (by decide) yi_X3_isContent (by decide) wd_559 wd_560 wd_561 wd_74 wd_562 dX7_after_63 <|
    s_if_ne (pc := 66) C dX7_after_66 (by decide) (s_aload_n (pc := 72) C dX7_after_72 rfl <|
    s_get (pc := 73) C (ci := 7) (kf := 0) rfl inX7 (by decide) wd_312 dX7_after_73 <|
    s_get (pc := 76) C (ci := 3) (kf := 0) rfl inX3 (by decide) wd_104 dX7_after_76 <|
    s_iload_n (pc := 79) C dX7_after_79 rfl <|
    s_iald (pc := 80) C dX7_after_80 <|
    s_iconst (pc := 81) C dX7_after_81 <|
    s_iadd (pc := 82) C dX7_after_82 <|
    s_iload (pc := 83) C dX7_after_83 <|
    s_iadd (pc := 85) C dX7_after_85 <|
    s_ireturn (pc := 86) C rfl dX7_after_86)
    (s_bipush (pc := 69) C dX7_after_69 (by decide) <|
    s_ireturn (pc := 71) C rfl dX7_after_71)))
    (s_iconst (pc := 31) C dX7_after_31 <|
    s_ireturn (pc := 32) C rfl dX7_after_32)
noncomputable def mg_X7_after_80020 (p1 : Int) (h0 : Ob) (h1 : Ob) (h2 : Ob) (h3 : Ob) (h4 : Ob) (h5 : Ob) (h6 : Ob) (h7 : Ob) (h8 : Ob) (h9 : Ob) (h10 : Ob) (h11 : Ob) (h12 : Ob) (h13 : Ob) (h14 : Ob) (h15 : Ob) (h16 : Ob) (h17 : Ob) (h18 : Ob) (h19 : Ob) (h20 : Ob) (h21 : Ob) (h22 : Ob) (h23 : Ob) (h24 : Ob) (a : Unit) : Option Rt :=
 if xw (hwX h11 p1) = (-1) then (RI (-1) [h0, h1, h2, h3, h4, h5, h6, h7, h8, h9, h10, h11, h12, h13, h14, h15, h16, h17, h18, h19, h20, h21, h22, h23, h24])
 else (if xin (hwX h11 p1) 11 then (
 if xw (bz (ful h1 (hwX h11 p1))) = 0 then (RI (-2) [h0, h1, h2, h3, h4, h5, h6, h7, h8, h9, h10, h11, h12, h13, h14, h15, h16, h17, h18, h19, h20, h21, h22, h23, h24])
 else (if xw (bz (iscon h1 (hwX h11 p1) ((p1 - (h11 1 (xw (hwX h11 p1)).toNat)) - 1))) = 0 then (RI (-2) [h0, h1, h2, h3, h4, h5, h6, h7, h8, h9, h10, h11, h12, h13, h14, h15, h16, h17, h18, h19, h20, h21, h22, h23, h24])
 else (if xin (hwX h11 p1) 11 then (
 RI (((h1 1 (xw (hwX h11 p1)).toNat) + 1) + ((p1 - (h11 1 (xw (hwX h11 p1)).toNat)) - 1)) [h0, h1, h2, h3, h4, h5, h6, h7, h8, h9, h10, h11, h12, h13, h14, h15, h16, h17, h18, h19, h20, h21, h22, h23, h24]) else none))) else none)
set_option maxRecDepth 100000 in
set_option maxHeartbeats 4000000 in
theorem rq_X7_after_80020 (p1 : Int) (h0 : Ob) (h1 : Ob) (h2 : Ob) (h3 : Ob) (h4 : Ob) (h5 : Ob) (h6 : Ob) (h7 : Ob) (h8 : Ob) (h9 : Ob) (h10 : Ob) (h11 : Ob) (h12 : Ob) (h13 : Ob) (h14 : Ob) (h15 : Ob) (h16 : Ob) (h17 : Ob) (h18 : Ob) (h19 : Ob) (h20 : Ob) (h21 : Ob) (h22 : Ob) (h23 : Ob) (h24 : Ob) (a : Unit) : rg_X7_after_80020 (en_X7_after_80020 p1 h0 h1 h2 h3 h4 h5 h6 h7 h8 h9 h10 h11 h12 h13 h14 h15 h16 h17 h18 h19 h20 h21 h22 h23 h24 a) = mg_X7_after_80020 p1 h0 h1 h2 h3 h4 h5 h6 h7 h8 h9 h10 h11 h12 h13 h14 h15 h16 h17 h18 h19 h20 h21 h22 h23 h24 a := rfl
set_option maxRecDepth 100000 in
set_option maxHeartbeats 4000000 in
theorem sg_X7_after_80020 {X : XDyn} {r0 : Rt} (C : XO X mX7_after) : XS X mX7_after r0 20 (rg_X7_after_80020) := by
 unfold rg_X7_after_80020
 exact s_aload_n (pc := 20) C dX7_after_20 rfl <|
    s_iload_n (pc := 21) C dX7_after_21 rfl <|
    s_callV (pc := 22) C ct_X3_hwX (n := 2) (rk := 1) (mp := [11]) ⟨rfl, by decide, rfl⟩ (ci := 3) rfl rfl (by decide) (by decide) yi_X3_handleWithContent (by decide) wd_772 wd_773 wd_774 wd_74 wd_775 dX7_after_22 <|
    s_istore_n (pc := 25) C dX7_after_25 rfl <|
    s_iload_n (pc := 26) C dX7_after_26 rfl <|
    s_iconst (pc := 27) C dX7_after_27 <|
    s_icmp_ne (pc := 28) C dX7_after_28 (by decide) (s_iload_n (pc := 33) C dX7_after_33 rfl <|
    s_aload_n (pc := 34) C dX7_after_34 rfl <|
    s_get (pc := 35) C (ci := 3) (kf := 0) rfl inX3 (by decide) wd_104 dX7_after_35 <|
    s_iload_n (pc := 38) C dX7_after_38 rfl <|
    s_iald (pc := 39) C dX7_after_39 <|
    s_isub (pc := 40) C dX7_after_40 <|
    s_iconst (pc := 41) C dX7_after_41 <|
    s_isub (pc := 42) C dX7_after_42 <|
    s_istore (pc := 43) C dX7_after_43 <|
    s_aload_n (pc := 45) C dX7_after_45 rfl <|
    s_get (pc := 46) C (ci := 7) (kf := 0) rfl inX7 (by decide) wd_312 dX7_after_46 <|
    s_iload_n (pc := 49) C dX7_after_49 rfl <|
    s_callV (pc := 50) C ct_X3_isFull (n := 2) (rk := 1) (mp := [1]) ⟨rfl, by decide, rfl⟩ (ci := 3) rfl rfl (by decide) (by decide) yi_X3_isFull (by decide) wd_555 wd_556 wd_557 wd_74 wd_558 dX7_after_50 <|
    s_if_eq (pc := 53) C dX7_after_53 (by decide) (s_bipush (pc := 69) C dX7_after_69 (by decide) <|
    s_ireturn (pc := 71) C rfl dX7_after_71)
    (s_aload_n (pc := 56) C dX7_after_56 rfl <|
    s_get (pc := 57) C (ci := 7) (kf := 0) rfl inX7 (by decide) wd_312 dX7_after_57 <|
    s_iload_n (pc := 60) C dX7_after_60 rfl <|
    s_iload (pc := 61) C dX7_after_61 <|
    s_callV (pc := 63) C ct_X3_isContent (n := 3) (rk := 1) (mp := [1]) ⟨rfl, by decide, rfl⟩ (ci := 3) rfl rfl (by decide) (by decide) yi_X3_isContent (by decide) wd_559 wd_560 wd_561 wd_74 wd_562 dX7_after_63 <|
    s_if_ne (pc := 66) C dX7_after_66 (by decide) (s_aload_n (pc := 72) C dX7_after_72 rfl <|
    s_get (pc := 73) C (ci := 7) (kf := 0) rfl inX7 (by decide) wd_312 dX7_after_73 <|
    s_get (pc := 76) C (ci := 3) (kf := 0) rfl inX3 (by decide) wd_104 dX7_after_76 <|
    s_iload_n (pc := 79) C dX7_after_79 rfl <|
    s_iald (pc := 80) C dX7_after_80 <|
    s_iconst (pc := 81) C dX7_after_81 <|
    s_iadd (pc := 82) C dX7_after_82 <|
    s_iload (pc := 83) C dX7_after_83 <|
    s_iadd (pc := 85) C dX7_after_85 <|
    s_ireturn (pc := 86) C rfl dX7_after_86)
    (s_bipush (pc := 69) C dX7_after_69 (by decide) <|
    s_ireturn (pc := 71) C rfl dX7_after_71)))
    (s_iconst (pc := 31) C dX7_after_31 <|
    s_ireturn (pc := 32) C rfl dX7_after_32)
noncomputable def mg_X7_after_90020 (p1 : Int) (h0 : Ob) (h1 : Ob) (h2 : Ob) (h3 : Ob) (h4 : Ob) (h5 : Ob) (h6 : Ob) (h7 : Ob) (h8 : Ob) (h9 : Ob) (h10 : Ob) (h11 : Ob) (h12 : Ob) (h13 : Ob) (h14 : Ob) (h15 : Ob) (h16 : Ob) (h17 : Ob) (h18 : Ob) (h19 : Ob) (h20 : Ob) (h21 : Ob) (h22 : Ob) (h23 : Ob) (h24 : Ob) (a : Unit) : Option Rt :=
 if xw (hwX h12 p1) = (-1) then (RI (-1) [h0, h1, h2, h3, h4, h5, h6, h7, h8, h9, h10, h11, h12, h13, h14, h15, h16, h17, h18, h19, h20, h21, h22, h23, h24])
 else (if xin (hwX h12 p1) 11 then (
 if xw (bz (ful h1 (hwX h12 p1))) = 0 then (RI (-2) [h0, h1, h2, h3, h4, h5, h6, h7, h8, h9, h10, h11, h12, h13, h14, h15, h16, h17, h18, h19, h20, h21, h22, h23, h24])
 else (if xw (bz (iscon h1 (hwX h12 p1) ((p1 - (h12 1 (xw (hwX h12 p1)).toNat)) - 1))) = 0 then (RI (-2) [h0, h1, h2, h3, h4, h5, h6, h7, h8, h9, h10, h11, h12, h13, h14, h15, h16, h17, h18, h19, h20, h21, h22, h23, h24])
 else (if xin (hwX h12 p1) 11 then (
 RI (((h1 1 (xw (hwX h12 p1)).toNat) + 1) + ((p1 - (h12 1 (xw (hwX h12 p1)).toNat)) - 1)) [h0, h1, h2, h3, h4, h5, h6, h7, h8, h9, h10, h11, h12, h13, h14, h15, h16, h17, h18, h19, h20, h21, h22, h23, h24]) else none))) else none)
set_option maxRecDepth 100000 in
set_option maxHeartbeats 4000000 in
theorem rq_X7_after_90020 (p1 : Int) (h0 : Ob) (h1 : Ob) (h2 : Ob) (h3 : Ob) (h4 : Ob) (h5 : Ob) (h6 : Ob) (h7 : Ob) (h8 : Ob) (h9 : Ob) (h10 : Ob) (h11 : Ob) (h12 : Ob) (h13 : Ob) (h14 : Ob) (h15 : Ob) (h16 : Ob) (h17 : Ob) (h18 : Ob) (h19 : Ob) (h20 : Ob) (h21 : Ob) (h22 : Ob) (h23 : Ob) (h24 : Ob) (a : Unit) : rg_X7_after_90020 (en_X7_after_90020 p1 h0 h1 h2 h3 h4 h5 h6 h7 h8 h9 h10 h11 h12 h13 h14 h15 h16 h17 h18 h19 h20 h21 h22 h23 h24 a) = mg_X7_after_90020 p1 h0 h1 h2 h3 h4 h5 h6 h7 h8 h9 h10 h11 h12 h13 h14 h15 h16 h17 h18 h19 h20 h21 h22 h23 h24 a := rfl
set_option maxRecDepth 100000 in
set_option maxHeartbeats 4000000 in
theorem sg_X7_after_90020 {X : XDyn} {r0 : Rt} (C : XO X mX7_after) : XS X mX7_after r0 20 (rg_X7_after_90020) := by
 unfold rg_X7_after_90020
 exact s_aload_n (pc := 20) C dX7_after_20 rfl <|
    s_iload_n (pc := 21) C dX7_after_21 rfl <|
    s_callV (pc := 22) C ct_X3_hwX (n := 2) (rk := 1) (mp := [12]) ⟨rfl, by decide, rfl⟩ (ci := 3) rfl rfl (by decide) (by decide) yi_X3_handleWithContent (by decide) wd_772 wd_773 wd_774 wd_74 wd_775 dX7_after_22 <|
    s_istore_n (pc := 25) C dX7_after_25 rfl <|
    s_iload_n (pc := 26) C dX7_after_26 rfl <|
    s_iconst (pc := 27) C dX7_after_27 <|
    s_icmp_ne (pc := 28) C dX7_after_28 (by decide) (s_iload_n (pc := 33) C dX7_after_33 rfl <|
    s_aload_n (pc := 34) C dX7_after_34 rfl <|
    s_get (pc := 35) C (ci := 3) (kf := 0) rfl inX3 (by decide) wd_104 dX7_after_35 <|
    s_iload_n (pc := 38) C dX7_after_38 rfl <|
    s_iald (pc := 39) C dX7_after_39 <|
    s_isub (pc := 40) C dX7_after_40 <|
    s_iconst (pc := 41) C dX7_after_41 <|
    s_isub (pc := 42) C dX7_after_42 <|
    s_istore (pc := 43) C dX7_after_43 <|
    s_aload_n (pc := 45) C dX7_after_45 rfl <|
    s_get (pc := 46) C (ci := 7) (kf := 0) rfl inX7 (by decide) wd_312 dX7_after_46 <|
    s_iload_n (pc := 49) C dX7_after_49 rfl <|
    s_callV (pc := 50) C ct_X3_isFull (n := 2) (rk := 1) (mp := [1]) ⟨rfl, by decide, rfl⟩ (ci := 3) rfl rfl (by decide) (by decide) yi_X3_isFull (by decide) wd_555 wd_556 wd_557 wd_74 wd_558 dX7_after_50 <|
    s_if_eq (pc := 53) C dX7_after_53 (by decide) (s_bipush (pc := 69) C dX7_after_69 (by decide) <|
    s_ireturn (pc := 71) C rfl dX7_after_71)
    (s_aload_n (pc := 56) C dX7_after_56 rfl <|
    s_get (pc := 57) C (ci := 7) (kf := 0) rfl inX7 (by decide) wd_312 dX7_after_57 <|
    s_iload_n (pc := 60) C dX7_after_60 rfl <|
    s_iload (pc := 61) C dX7_after_61 <|
    s_callV (pc := 63) C ct_X3_isContent (n := 3) (rk := 1) (mp := [1]) ⟨rfl, by decide, rfl⟩ (ci := 3) rfl rfl (by decide) (by decide) yi_X3_isContent (by decide) wd_559 wd_560 wd_561 wd_74 wd_562 dX7_after_63 <|
    s_if_ne (pc := 66) C dX7_after_66 (by decide) (s_aload_n (pc := 72) C dX7_after_72 rfl <|
    s_get (pc := 73) C (ci := 7) (kf := 0) rfl inX7 (by decide) wd_312 dX7_after_73 <|
    s_get (pc := 76) C (ci := 3) (kf := 0) rfl inX3 (by decide) wd_104 dX7_after_76 <|
    s_iload_n (pc := 79) C dX7_after_79 rfl <|
    s_iald (pc := 80) C dX7_after_80 <|
    s_iconst (pc := 81) C dX7_after_81 <|
    s_iadd (pc := 82) C dX7_after_82 <|
    s_iload (pc := 83) C dX7_after_83 <|
    s_iadd (pc := 85) C dX7_after_85 <|
    s_ireturn (pc := 86) C rfl dX7_after_86)
    (s_bipush (pc := 69) C dX7_after_69 (by decide) <|
    s_ireturn (pc := 71) C rfl dX7_after_71)))
    (s_iconst (pc := 31) C dX7_after_31 <|
    s_ireturn (pc := 32) C rfl dX7_after_32)
noncomputable def mg_X7_after_100020 (p1 : Int) (h0 : Ob) (h1 : Ob) (h2 : Ob) (h3 : Ob) (h4 : Ob) (h5 : Ob) (h6 : Ob) (h7 : Ob) (h8 : Ob) (h9 : Ob) (h10 : Ob) (h11 : Ob) (h12 : Ob) (h13 : Ob) (h14 : Ob) (h15 : Ob) (h16 : Ob) (h17 : Ob) (h18 : Ob) (h19 : Ob) (h20 : Ob) (h21 : Ob) (h22 : Ob) (h23 : Ob) (h24 : Ob) (a : Unit) : Option Rt :=
 if xw (hwX h13 p1) = (-1) then (RI (-1) [h0, h1, h2, h3, h4, h5, h6, h7, h8, h9, h10, h11, h12, h13, h14, h15, h16, h17, h18, h19, h20, h21, h22, h23, h24])
 else (if xin (hwX h13 p1) 11 then (
 if xw (bz (ful h1 (hwX h13 p1))) = 0 then (RI (-2) [h0, h1, h2, h3, h4, h5, h6, h7, h8, h9, h10, h11, h12, h13, h14, h15, h16, h17, h18, h19, h20, h21, h22, h23, h24])
 else (if xw (bz (iscon h1 (hwX h13 p1) ((p1 - (h13 1 (xw (hwX h13 p1)).toNat)) - 1))) = 0 then (RI (-2) [h0, h1, h2, h3, h4, h5, h6, h7, h8, h9, h10, h11, h12, h13, h14, h15, h16, h17, h18, h19, h20, h21, h22, h23, h24])
 else (if xin (hwX h13 p1) 11 then (
 RI (((h1 1 (xw (hwX h13 p1)).toNat) + 1) + ((p1 - (h13 1 (xw (hwX h13 p1)).toNat)) - 1)) [h0, h1, h2, h3, h4, h5, h6, h7, h8, h9, h10, h11, h12, h13, h14, h15, h16, h17, h18, h19, h20, h21, h22, h23, h24]) else none))) else none)
set_option maxRecDepth 100000 in
set_option maxHeartbeats 4000000 in
theorem rq_X7_after_100020 (p1 : Int) (h0 : Ob) (h1 : Ob) (h2 : Ob) (h3 : Ob) (h4 : Ob) (h5 : Ob) (h6 : Ob) (h7 : Ob) (h8 : Ob) (h9 : Ob) (h10 : Ob) (h11 : Ob) (h12 : Ob) (h13 : Ob) (h14 : Ob) (h15 : Ob) (h16 : Ob) (h17 : Ob) (h18 : Ob) (h19 : Ob) (h20 : Ob) (h21 : Ob) (h22 : Ob) (h23 : Ob) (h24 : Ob) (a : Unit) : rg_X7_after_100020 (en_X7_after_100020 p1 h0 h1 h2 h3 h4 h5 h6 h7 h8 h9 h10 h11 h12 h13 h14 h15 h16 h17 h18 h19 h20 h21 h22 h23 h24 a) = mg_X7_after_100020 p1 h0 h1 h2 h3 h4 h5 h6 h7 h8 h9 h10 h11 h12 h13 h14 h15 h16 h17 h18 h19 h20 h21 h22 h23 h24 a := rfl
set_option maxRecDepth 100000 in
set_option maxHeartbeats 4000000 in
theorem sg_X7_after_100020 {X : XDyn} {r0 : Rt} (C : XO X mX7_after) : XS X mX7_after r0 20 (rg_X7_after_100020) := by
 unfold rg_X7_after_100020
 exact s_aload_n (pc := 20) C dX7_after_20 rfl <|
    s_iload_n (pc := 21) C dX7_after_21 rfl <|
    s_callV (pc := 22) C ct_X3_hwX (n := 2) (rk := 1) (mp := [13]) ⟨rfl, by decide, rfl⟩ (ci := 3) rfl rfl (by decide) (by decide) yi_X3_handleWithContent (by decide) wd_772 wd_773 wd_774 wd_74 wd_775 dX7_after_22 <|
    s_istore_n (pc := 25) C dX7_after_25 rfl <|
    s_iload_n (pc := 26) C dX7_after_26 rfl <|
    s_iconst (pc := 27) C dX7_after_27 <|
    s_icmp_ne (pc := 28) C dX7_after_28 (by decide) (s_iload_n (pc := 33) C dX7_after_33 rfl <|
    s_aload_n (pc := 34) C dX7_after_34 rfl <|
    s_get (pc := 35) C (ci := 3) (kf := 0) rfl inX3 (by decide) wd_104 dX7_after_35 <|
    s_iload_n (pc := 38) C dX7_after_38 rfl <|
    s_iald (pc := 39) C dX7_after_39 <|
    s_isub (pc := 40) C dX7_after_40 <|
    s_iconst (pc := 41) C dX7_after_41 <|
    s_isub (pc := 42) C dX7_after_42 <|
    s_istore (pc := 43) C dX7_after_43 <|
    s_aload_n (pc := 45) C dX7_after_45 rfl <|
    s_get (pc := 46) C (ci := 7) (kf := 0) rfl inX7 (by decide) wd_312 dX7_after_46 <|
    s_iload_n (pc := 49) C dX7_after_49 rfl <|
    s_callV (pc := 50) C ct_X3_isFull (n := 2) (rk := 1) (mp := [1]) ⟨rfl, by decide, rfl⟩ (ci := 3) rfl rfl (by decide) (by decide) yi_X3_isFull (by decide) wd_555 wd_556 wd_557 wd_74 wd_558 dX7_after_50 <|
    s_if_eq (pc := 53) C dX7_after_53 (by decide) (s_bipush (pc := 69) C dX7_after_69 (by decide) <|
    s_ireturn (pc := 71) C rfl dX7_after_71)
    (s_aload_n (pc := 56) C dX7_after_56 rfl <|
    s_get (pc := 57) C (ci := 7) (kf := 0) rfl inX7 (by decide) wd_312 dX7_after_57 <|
    s_iload_n (pc := 60) C dX7_after_60 rfl <|
    s_iload (pc := 61) C dX7_after_61 <|
    s_callV (pc := 63) C ct_X3_isContent (n := 3) (rk := 1) (mp := [1]) ⟨rfl, by decide, rfl⟩ (ci := 3) rfl rfl (by decide) (by decide) yi_X3_isContent (by decide) wd_559 wd_560 wd_561 wd_74 wd_562 dX7_after_63 <|
    s_if_ne (pc := 66) C dX7_after_66 (by decide) (s_aload_n (pc := 72) C dX7_after_72 rfl <|
    s_get (pc := 73) C (ci := 7) (kf := 0) rfl inX7 (by decide) wd_312 dX7_after_73 <|
    s_get (pc := 76) C (ci := 3) (kf := 0) rfl inX3 (by decide) wd_104 dX7_after_76 <|
    s_iload_n (pc := 79) C dX7_after_79 rfl <|
    s_iald (pc := 80) C dX7_after_80 <|
    s_iconst (pc := 81) C dX7_after_81 <|
    s_iadd (pc := 82) C dX7_after_82 <|
    s_iload (pc := 83) C dX7_after_83 <|
    s_iadd (pc := 85) C dX7_after_85 <|
    s_ireturn (pc := 86) C rfl dX7_after_86)
    (s_bipush (pc := 69) C dX7_after_69 (by decide) <|
    s_ireturn (pc := 71) C rfl dX7_after_71)))
    (s_iconst (pc := 31) C dX7_after_31 <|
    s_ireturn (pc := 32) C rfl dX7_after_32)
noncomputable def mg_X7_after_110020 (p1 : Int) (h0 : Ob) (h1 : Ob) (h2 : Ob) (h3 : Ob) (h4 : Ob) (h5 : Ob) (h6 : Ob) (h7 : Ob) (h8 : Ob) (h9 : Ob) (h10 : Ob) (h11 : Ob) (h12 : Ob) (h13 : Ob) (h14 : Ob) (h15 : Ob) (h16 : Ob) (h17 : Ob) (h18 : Ob) (h19 : Ob) (h20 : Ob) (h21 : Ob) (h22 : Ob) (h23 : Ob) (h24 : Ob) (a : Unit) : Option Rt :=
 if xw (hwX h14 p1) = (-1) then (RI (-1) [h0, h1, h2, h3, h4, h5, h6, h7, h8, h9, h10, h11, h12, h13, h14, h15, h16, h17, h18, h19, h20, h21, h22, h23, h24])
 else (if xin (hwX h14 p1) 11 then (
 if xw (bz (ful h1 (hwX h14 p1))) = 0 then (RI (-2) [h0, h1, h2, h3, h4, h5, h6, h7, h8, h9, h10, h11, h12, h13, h14, h15, h16, h17, h18, h19, h20, h21, h22, h23, h24])
 else (if xw (bz (iscon h1 (hwX h14 p1) ((p1 - (h14 1 (xw (hwX h14 p1)).toNat)) - 1))) = 0 then (RI (-2) [h0, h1, h2, h3, h4, h5, h6, h7, h8, h9, h10, h11, h12, h13, h14, h15, h16, h17, h18, h19, h20, h21, h22, h23, h24])
 else (if xin (hwX h14 p1) 11 then (
 RI (((h1 1 (xw (hwX h14 p1)).toNat) + 1) + ((p1 - (h14 1 (xw (hwX h14 p1)).toNat)) - 1)) [h0, h1, h2, h3, h4, h5, h6, h7, h8, h9, h10, h11, h12, h13, h14, h15, h16, h17, h18, h19, h20, h21, h22, h23, h24]) else none))) else none)
set_option maxRecDepth 100000 in
set_option maxHeartbeats 4000000 in
theorem rq_X7_after_110020 (p1 : Int) (h0 : Ob) (h1 : Ob) (h2 : Ob) (h3 : Ob) (h4 : Ob) (h5 : Ob) (h6 : Ob) (h7 : Ob) (h8 : Ob) (h9 : Ob) (h10 : Ob) (h11 : Ob) (h12 : Ob) (h13 : Ob) (h14 : Ob) (h15 : Ob) (h16 : Ob) (h17 : Ob) (h18 : Ob) (h19 : Ob) (h20 : Ob) (h21 : Ob) (h22 : Ob) (h23 : Ob) (h24 : Ob) (a : Unit) : rg_X7_after_110020 (en_X7_after_110020 p1 h0 h1 h2 h3 h4 h5 h6 h7 h8 h9 h10 h11 h12 h13 h14 h15 h16 h17 h18 h19 h20 h21 h22 h23 h24 a) = mg_X7_after_110020 p1 h0 h1 h2 h3 h4 h5 h6 h7 h8 h9 h10 h11 h12 h13 h14 h15 h16 h17 h18 h19 h20 h21 h22 h23 h24 a := rfl
set_option maxRecDepth 100000 in
set_option maxHeartbeats 4000000 in
theorem sg_X7_after_110020 {X : XDyn} {r0 : Rt} (C : XO X mX7_after) : XS X mX7_after r0 20 (rg_X7_after_110020) := by
 unfold rg_X7_after_110020
 exact s_aload_n (pc := 20) C dX7_after_20 rfl <|
    s_iload_n (pc := 21) C dX7_after_21 rfl <|
    s_callV (pc := 22) C ct_X3_hwX (n := 2) (rk := 1) (mp := [14]) ⟨rfl, by decide, rfl⟩ (ci := 3) rfl rfl (by decide) (by decide) yi_X3_handleWithContent (by decide) wd_772 wd_773 wd_774 wd_74 wd_775 dX7_after_22 <|
    s_istore_n (pc := 25) C dX7_after_25 rfl <|
    s_iload_n (pc := 26) C dX7_after_26 rfl <|
    s_iconst (pc := 27) C dX7_after_27 <|
    s_icmp_ne (pc := 28) C dX7_after_28 (by decide) (s_iload_n (pc := 33) C dX7_after_33 rfl <|
    s_aload_n (pc := 34) C dX7_after_34 rfl <|
    s_get (pc := 35) C (ci := 3) (kf := 0) rfl inX3 (by decide) wd_104 dX7_after_35 <|
    s_iload_n (pc := 38) C dX7_after_38 rfl <|
    s_iald (pc := 39) C dX7_after_39 <|
    s_isub (pc := 40) C dX7_after_40 <|
    s_iconst (pc := 41) C dX7_after_41 <|
    s_isub (pc := 42) C dX7_after_42 <|
    s_istore (pc := 43) C dX7_after_43 <|
    s_aload_n (pc := 45) C dX7_after_45 rfl <|
    s_get (pc := 46) C (ci := 7) (kf := 0) rfl inX7 (by decide) wd_312 dX7_after_46 <|
    s_iload_n (pc := 49) C dX7_after_49 rfl <|
    s_callV (pc := 50) C ct_X3_isFull (n := 2) (rk := 1) (mp := [1]) ⟨rfl, by decide, rfl⟩ (ci := 3) rfl rfl (by decide) (by decide) yi_X3_isFull (by decide) wd_555 wd_556 wd_557 wd_74 wd_558 dX7_after_50 <|
    s_if_eq (pc := 53) C dX7_after_53 (by decide) (s_bipush (pc := 69) C dX7_after_69 (by decide) <|
    s_ireturn (pc := 71) C rfl dX7_after_71)
    (s_aload_n (pc := 56) C dX7_after_56 rfl <|
    s_get (pc := 57) C (ci := 7) (kf := 0) rfl inX7 (by decide) wd_312 dX7_after_57 <|
    s_iload_n (pc := 60) C dX7_after_60 rfl <|
    s_iload (pc := 61) C dX7_after_61 <|
    s_callV (pc := 63) C ct_X3_isContent (n := 3) (rk := 1) (mp := [1]) ⟨rfl, by decide, rfl⟩ (ci := 3) rfl rfl (by decide) (by decide) yi_X3_isContent (by decide) wd_559 wd_560 wd_561 wd_74 wd_562 dX7_after_63 <|
    s_if_ne (pc := 66) C dX7_after_66 (by decide) (s_aload_n (pc := 72) C dX7_after_72 rfl <|
    s_get (pc := 73) C (ci := 7) (kf := 0) rfl inX7 (by decide) wd_312 dX7_after_73 <|
    s_get (pc := 76) C (ci := 3) (kf := 0) rfl inX3 (by decide) wd_104 dX7_after_76 <|
    s_iload_n (pc := 79) C dX7_after_79 rfl <|
    s_iald (pc := 80) C dX7_after_80 <|
    s_iconst (pc := 81) C dX7_after_81 <|
    s_iadd (pc := 82) C dX7_after_82 <|
    s_iload (pc := 83) C dX7_after_83 <|
    s_iadd (pc := 85) C dX7_after_85 <|
    s_ireturn (pc := 86) C rfl dX7_after_86)
    (s_bipush (pc := 69) C dX7_after_69 (by decide) <|
    s_ireturn (pc := 71) C rfl dX7_after_71)))
    (s_iconst (pc := 31) C dX7_after_31 <|
    s_ireturn (pc := 32) C rfl dX7_after_32)
noncomputable def mg_X7_after_120020 (p1 : Int) (h0 : Ob) (h1 : Ob) (h2 : Ob) (h3 : Ob) (h4 : Ob) (h5 : Ob) (h6 : Ob) (h7 : Ob) (h8 : Ob) (h9 : Ob) (h10 : Ob) (h11 : Ob) (h12 : Ob) (h13 : Ob) (h14 : Ob) (h15 : Ob) (h16 : Ob) (h17 : Ob) (h18 : Ob) (h19 : Ob) (h20 : Ob) (h21 : Ob) (h22 : Ob) (h23 : Ob) (h24 : Ob) (a : Unit) : Option Rt :=
 if xw (hwX h15 p1) = (-1) then (RI (-1) [h0, h1, h2, h3, h4, h5, h6, h7, h8, h9, h10, h11, h12, h13, h14, h15, h16, h17, h18, h19, h20, h21, h22, h23, h24])
 else (if xin (hwX h15 p1) 11 then (
 if xw (bz (ful h1 (hwX h15 p1))) = 0 then (RI (-2) [h0, h1, h2, h3, h4, h5, h6, h7, h8, h9, h10, h11, h12, h13, h14, h15, h16, h17, h18, h19, h20, h21, h22, h23, h24])
 else (if xw (bz (iscon h1 (hwX h15 p1) ((p1 - (h15 1 (xw (hwX h15 p1)).toNat)) - 1))) = 0 then (RI (-2) [h0, h1, h2, h3, h4, h5, h6, h7, h8, h9, h10, h11, h12, h13, h14, h15, h16, h17, h18, h19, h20, h21, h22, h23, h24])
 else (if xin (hwX h15 p1) 11 then (
 RI (((h1 1 (xw (hwX h15 p1)).toNat) + 1) + ((p1 - (h15 1 (xw (hwX h15 p1)).toNat)) - 1)) [h0, h1, h2, h3, h4, h5, h6, h7, h8, h9, h10, h11, h12, h13, h14, h15, h16, h17, h18, h19, h20, h21, h22, h23, h24]) else none))) else none)
set_option maxRecDepth 100000 in
set_option maxHeartbeats 4000000 in
theorem rq_X7_after_120020 (p1 : Int) (h0 : Ob) (h1 : Ob) (h2 : Ob) (h3 : Ob) (h4 : Ob) (h5 : Ob) (h6 : Ob) (h7 : Ob) (h8 : Ob) (h9 : Ob) (h10 : Ob) (h11 : Ob) (h12 : Ob) (h13 : Ob) (h14 : Ob) (h15 : Ob) (h16 : Ob) (h17 : Ob) (h18 : Ob) (h19 : Ob) (h20 : Ob) (h21 : Ob) (h22 : Ob) (h23 : Ob) (h24 : Ob) (a : Unit) : rg_X7_after_120020 (en_X7_after_120020 p1 h0 h1 h2 h3 h4 h5 h6 h7 h8 h9 h10 h11 h12 h13 h14 h15 h16 h17 h18 h19 h20 h21 h22 h23 h24 a) = mg_X7_after_120020 p1 h0 h1 h2 h3 h4 h5 h6 h7 h8 h9 h10 h11 h12 h13 h14 h15 h16 h17 h18 h19 h20 h21 h22 h23 h24 a := rfl
set_option maxRecDepth 100000 in
set_option maxHeartbeats 4000000 in
theorem sg_X7_after_120020 {X : XDyn} {r0 : Rt} (C : XO X mX7_after) : XS X mX7_after r0 20 (rg_X7_after_120020) := by
 unfold rg_X7_after_120020
 exact s_aload_n (pc := 20) C dX7_after_20 rfl <|
    s_iload_n (pc := 21) C dX7_after_21 rfl <|
    s_callV (pc := 22) C ct_X3_hwX (n := 2) (rk := 1) (mp := [15]) ⟨rfl, by decide, rfl⟩ (ci := 3) rfl rfl (by decide) (by decide) yi_X3_handleWithContent (by decide) wd_772 wd_773 wd_774 wd_74 wd_775 dX7_after_22 <|
    s_istore_n (pc := 25) C dX7_after_25 rfl <|
    s_iload_n (pc := 26) C dX7_after_26 rfl <|
    s_iconst (pc := 27) C dX7_after_27 <|
    s_icmp_ne (pc := 28) C dX7_after_28 (by decide) (s_iload_n (pc := 33) C dX7_after_33 rfl <|
    s_aload_n (pc := 34) C dX7_after_34 rfl <|
    s_get (pc := 35) C (ci := 3) (kf := 0) rfl inX3 (by decide) wd_104 dX7_after_35 <|
    s_iload_n (pc := 38) C dX7_after_38 rfl <|
    s_iald (pc := 39) C dX7_after_39 <|
    s_isub (pc := 40) C dX7_after_40 <|
    s_iconst (pc := 41) C dX7_after_41 <|
    s_isub (pc := 42) C dX7_after_42 <|
    s_istore (pc := 43) C dX7_after_43 <|
    s_aload_n (pc := 45) C dX7_after_45 rfl <|
    s_get (pc := 46) C (ci := 7) (kf := 0) rfl inX7 (by decide) wd_312 dX7_after_46 <|
    s_iload_n (pc := 49) C dX7_after_49 rfl <|
    s_callV (pc := 50) C ct_X3_isFull (n := 2) (rk := 1) (mp := [1]) ⟨rfl, by decide, rfl⟩ (ci := 3) rfl rfl (by decide) (by decide) yi_X3_isFull (by decide) wd_555 wd_556 wd_557 wd_74 wd_558 dX7_after_50 <|
    s_if_eq (pc := 53) C dX7_after_53 (by decide) (s_bipush (pc := 69) C dX7_after_69 (by decide) <|
    s_ireturn (pc := 71) C rfl dX7_after_71)
    (s_aload_n (pc := 56) C dX7_after_56 rfl <|
    s_get (pc := 57) C (ci := 7) (kf := 0) rfl inX7 (by decide) wd_312 dX7_after_57 <|
    s_iload_n (pc := 60) C dX7_after_60 rfl <|
    s_iload (pc := 61) C dX7_after_61 <|
    s_callV (pc := 63) C ct_X3_isContent (n := 3) (rk := 1) (mp := [1]) ⟨rfl, by decide, rfl⟩ (ci := 3) rfl rfl (by decide) (by decide) yi_X3_isContent (by decide) wd_559 wd_560 wd_561 wd_74 wd_562 dX7_after_63 <|
    s_if_ne (pc := 66) C dX7_after_66 (by decide) (s_aload_n (pc := 72) C dX7_after_72 rfl <|
    s_get (pc := 73) C (ci := 7) (kf := 0) rfl inX7 (by decide) wd_312 dX7_after_73 <|
    s_get (pc := 76) C (ci := 3) (kf := 0) rfl inX3 (by decide) wd_104 dX7_after_76 <|
    s_iload_n (pc := 79) C dX7_after_79 rfl <|
    s_iald (pc := 80) C dX7_after_80 <|
    s_iconst (pc := 81) C dX7_after_81 <|
    s_iadd (pc := 82) C dX7_after_82 <|
    s_iload (pc := 83) C dX7_after_83 <|
    s_iadd (pc := 85) C dX7_after_85 <|
    s_ireturn (pc := 86) C rfl dX7_after_86)
    (s_bipush (pc := 69) C dX7_after_69 (by decide) <|
    s_ireturn (pc := 71) C rfl dX7_after_71)))
    (s_iconst (pc := 31) C dX7_after_31 <|
    s_ireturn (pc := 32) C rfl dX7_after_32)
noncomputable def mg_X7_after_130020 (p1 : Int) (h0 : Ob) (h1 : Ob) (h2 : Ob) (h3 : Ob) (h4 : Ob) (h5 : Ob) (h6 : Ob) (h7 : Ob) (h8 : Ob) (h9 : Ob) (h10 : Ob) (h11 : Ob) (h12 : Ob) (h13 : Ob) (h14 : Ob) (h15 : Ob) (h16 : Ob) (h17 : Ob) (h18 : Ob) (h19 : Ob) (h20 : Ob) (h21 : Ob) (h22 : Ob) (h23 : Ob) (h24 : Ob) (a : Unit) : Option Rt :=
 if xw (hwX h16 p1) = (-1) then (RI (-1) [h0, h1, h2, h3, h4, h5, h6, h7, h8, h9, h10, h11, h12, h13, h14, h15, h16, h17, h18, h19, h20, h21, h22, h23, h24])
 else (if xin (hwX h16 p1) 11 then (
 if xw (bz (ful h1 (hwX h16 p1))) = 0 then (RI (-2) [h0, h1, h2, h3, h4, h5, h6, h7, h8, h9, h10, h11, h12, h13, h14, h15, h16, h17, h18, h19, h20, h21, h22, h23, h24])
 else (if xw (bz (iscon h1 (hwX h16 p1) ((p1 - (h16 1 (xw (hwX h16 p1)).toNat)) - 1))) = 0 then (RI (-2) [h0, h1, h2, h3, h4, h5, h6, h7, h8, h9, h10, h11, h12, h13, h14, h15, h16, h17, h18, h19, h20, h21, h22, h23, h24])
 else (if xin (hwX h16 p1) 11 then (
 RI (((h1 1 (xw (hwX h16 p1)).toNat) + 1) + ((p1 - (h16 1 (xw (hwX h16 p1)).toNat)) - 1)) [h0, h1, h2, h3, h4, h5, h6, h7, h8, h9, h10, h11, h12, h13, h14, h15, h16, h17, h18, h19, h20, h21, h22, h23, h24]) else none))) else none)
set_option maxRecDepth 100000 in
set_option maxHeartbeats 4000000 in
theorem rq_X7_after_130020 (p1 : Int) (h0 : Ob) (h1 : Ob) (h2 : Ob) (h3 : Ob) (h4 : Ob) (h5 : Ob) (h6 : Ob) (h7 : Ob) (h8 : Ob) (h9 : Ob) (h10 : Ob) (h11 : Ob) (h12 : Ob) (h13 : Ob) (h14 : Ob) (h15 : Ob) (h16 : Ob) (h17 : Ob) (h18 : Ob) (h19 : Ob) (h20 : Ob) (h21 : Ob) (h22 : Ob) (h23 : Ob) (h24 : Ob) (a : Unit) : rg_X7_after_130020 (en_X7_after_130020 p1 h0 h1 h2 h3 h4 h5 h6 h7 h8 h9 h10 h11 h12 h13 h14 h15 h16 h17 h18 h19 h20 h21 h22 h23 h24 a) = mg_X7_after_130020 p1 h0 h1 h2 h3 h4 h5 h6 h7 h8 h9 h10 h11 h12 h13 h14 h15 h16 h17 h18 h19 h20 h21 h22 h23 h24 a := rfl
set_option maxRecDepth 100000 in
set_option maxHeartbeats 4000000 in
theorem sg_X7_after_130020 {X : XDyn} {r0 : Rt} (C : XO X mX7_after) : XS X mX7_after r0 20 (rg_X7_after_130020) := by
 unfold rg_X7_after_130020
 exact s_aload_n (pc := 20) C dX7_after_20 rfl <|
    s_iload_n (pc := 21) C dX7_after_21 rfl <|
    s_callV (pc := 22) C ct_X3_hwX (n := 2) (rk := 1) (mp := [16]) ⟨rfl, by decide, rfl⟩ (ci := 3) rfl rfl (by decide) (by decide) yi_X3_handleWithContent (by decide) wd_772 wd_773 wd_774 wd_74 wd_775 dX7_after_22 <|
    s_istore_n (pc := 25) C dX7_after_25 rfl <|
    s_iload_n (pc := 26) C dX7_after_26 rfl <|
    s_iconst (pc := 27) C dX7_after_27 <|
    s_icmp_ne (pc := 28) C dX7_after_28 (by decide) (s_iload_n (pc := 33) C dX7_after_33 rfl <|
    s_aload_n (pc := 34) C dX7_after_34 rfl <|
    s_get (pc := 35) C (ci := 3) (kf := 0) rfl inX3 (by decide) wd_104 dX7_after_35 <|
    s_iload_n (pc := 38) C dX7_after_38 rfl <|
    s_iald (pc := 39) C dX7_after_39 <|
    s_isub (pc := 40) C dX7_after_40 <|
    s_iconst (pc := 41) C dX7_after_41 <|
    s_isub (pc := 42) C dX7_after_42 <|
    s_istore (pc := 43) C dX7_after_43 <|
    s_aload_n (pc := 45) C dX7_after_45 rfl <|
    s_get (pc := 46) C (ci := 7) (kf := 0) rfl inX7 (by decide) wd_312 dX7_after_46 <|
    s_iload_n (pc := 49) C dX7_after_49 rfl <|
    s_callV (pc := 50) C ct_X3_isFull (n := 2) (rk := 1) (mp := [1]) ⟨rfl, by decide, rfl⟩ (ci := 3) rfl rfl (by decide) (by decide) yi_X3_isFull (by decide) wd_555 wd_556 wd_557 wd_74 wd_558 dX7_after_50 <|
    s_if_eq (pc := 53) C dX7_after_53 (by decide) (s_bipush (pc := 69) C dX7_after_69 (by decide) <|
    s_ireturn (pc := 71) C rfl dX7_after_71)
    (s_aload_n (pc := 56) C dX7_after_56 rfl <|
    s_get (pc := 57) C (ci := 7) (kf := 0) rfl inX7 (by decide) wd_312 dX7_after_57 <|
    s_iload_n (pc := 60) C dX7_after_60 rfl <|
    s_iload (pc := 61) C dX7_after_61 <|
    s_callV (pc := 63) C ct_X3_isContent (n := 3) (rk := 1) (mp := [1]) ⟨rfl, by decide, rfl⟩ (ci := 3) rfl rfl (by decide) (by decide) yi_X3_isContent (by decide) wd_559 wd_560 wd_561 wd_74 wd_562 dX7_after_63 <|
    s_if_ne (pc := 66) C dX7_after_66 (by decide) (s_aload_n (pc := 72) C dX7_after_72 rfl <|
    s_get (pc := 73) C (ci := 7) (kf := 0) rfl inX7 (by decide) wd_312 dX7_after_73 <|
    s_get (pc := 76) C (ci := 3) (kf := 0) rfl inX3 (by decide) wd_104 dX7_after_76 <|
    s_iload_n (pc := 79) C dX7_after_79 rfl <|
    s_iald (pc := 80) C dX7_after_80 <|
    s_iconst (pc := 81) C dX7_after_81 <|
    s_iadd (pc := 82) C dX7_after_82 <|
    s_iload (pc := 83) C dX7_after_83 <|
    s_iadd (pc := 85) C dX7_after_85 <|
    s_ireturn (pc := 86) C rfl dX7_after_86)
    (s_bipush (pc := 69) C dX7_after_69 (by decide) <|
    s_ireturn (pc := 71) C rfl dX7_after_71)))
    (s_iconst (pc := 31) C dX7_after_31 <|
    s_ireturn (pc := 32) C rfl dX7_after_32)
noncomputable def rw_X7_after_10020 : XK := rg_X7_after_10020
noncomputable def md_X7_after_10020 (p1 : Int) (h0 : Ob) (h1 : Ob) (h2 : Ob) (h3 : Ob) (h4 : Ob) (h5 : Ob) (h6 : Ob) (h7 : Ob) (h8 : Ob) (h9 : Ob) (h10 : Ob) (h11 : Ob) (h12 : Ob) (h13 : Ob) (h14 : Ob) (h15 : Ob) (h16 : Ob) (h17 : Ob) (h18 : Ob) (h19 : Ob) (h20 : Ob) (h21 : Ob) (h22 : Ob) (h23 : Ob) (h24 : Ob) : Unit → Option Rt := mg_X7_after_10020 p1 h0 h1 h2 h3 h4 h5 h6 h7 h8 h9 h10 h11 h12 h13 h14 h15 h16 h17 h18 h19 h20 h21 h22 h23 h24
theorem eq_X7_after_10020 (p1 : Int) (h0 : Ob) (h1 : Ob) (h2 : Ob) (h3 : Ob) (h4 : Ob) (h5 : Ob) (h6 : Ob) (h7 : Ob) (h8 : Ob) (h9 : Ob) (h10 : Ob) (h11 : Ob) (h12 : Ob) (h13 : Ob) (h14 : Ob) (h15 : Ob) (h16 : Ob) (h17 : Ob) (h18 : Ob) (h19 : Ob) (h20 : Ob) (h21 : Ob) (h22 : Ob) (h23 : Ob) (h24 : Ob) (a : Unit) : rw_X7_after_10020 (en_X7_after_10020 p1 h0 h1 h2 h3 h4 h5 h6 h7 h8 h9 h10 h11 h12 h13 h14 h15 h16 h17 h18 h19 h20 h21 h22 h23 h24 a) = md_X7_after_10020 p1 h0 h1 h2 h3 h4 h5 h6 h7 h8 h9 h10 h11 h12 h13 h14 h15 h16 h17 h18 h19 h20 h21 h22 h23 h24 a :=
 rq_X7_after_10020 p1 h0 h1 h2 h3 h4 h5 h6 h7 h8 h9 h10 h11 h12 h13 h14 h15 h16 h17 h18 h19 h20 h21 h22 h23 h24 a
theorem sd_X7_after_10020 {X : XDyn} {r0 : Rt} (C : XO X mX7_after) : XS X mX7_after r0 20 (rw_X7_after_10020) := sg_X7_after_10020 C
noncomputable def rw_X7_after_20020 : XK := rg_X7_after_20020
noncomputable def md_X7_after_20020 (p1 : Int) (h0 : Ob) (h1 : Ob) (h2 : Ob) (h3 : Ob) (h4 : Ob) (h5 : Ob) (h6 : Ob) (h7 : Ob) (h8 : Ob) (h9 : Ob) (h10 : Ob) (h11 : Ob) (h12 : Ob) (h13 : Ob) (h14 : Ob) (h15 : Ob) (h16 : Ob) (h17 : Ob) (h18 : Ob) (h19 : Ob) (h20 : Ob) (h21 : Ob) (h22 : Ob) (h23 : Ob) (h24 : Ob) : Unit → Option Rt := mg_X7_after_20020 p1 h0 h1 h2 h3 h4 h5 h6 h7 h8 h9 h10 h11 h12 h13 h14 h15 h16 h17 h18 h19 h20 h21 h22 h23 h24
theorem eq_X7_after_20020 (p1 : Int) (h0 : Ob) (h1 : Ob) (h2 : Ob) (h3 : Ob) (h4 : Ob) (h5 : Ob) (h6 : Ob) (h7 : Ob) (h8 : Ob) (h9 : Ob) (h10 : Ob) (h11 : Ob) (h12 : Ob) (h13 : Ob) (h14 : Ob) (h15 : Ob) (h16 : Ob) (h17 : Ob) (h18 : Ob) (h19 : Ob) (h20 : Ob) (h21 : Ob) (h22 : Ob) (h23 : Ob) (h24 : Ob) (a : Unit) : rw_X7_after_20020 (en_X7_after_20020 p1 h0 h1 h2 h3 h4 h5 h6 h7 h8 h9 h10 h11 h12 h13 h14 h15 h16 h17 h18 h19 h20 h21 h22 h23 h24 a) = md_X7_after_20020 p1 h0 h1 h2 h3 h4 h5 h6 h7 h8 h9 h10 h11 h12 h13 h14 h15 h16 h17 h18 h19 h20 h21 h22 h23 h24 a :=
 rq_X7_after_20020 p1 h0 h1 h2 h3 h4 h5 h6 h7 h8 h9 h10 h11 h12 h13 h14 h15 h16 h17 h18 h19 h20 h21 h22 h23 h24 a
theorem sd_X7_after_20020 {X : XDyn} {r0 : Rt} (C : XO X mX7_after) : XS X mX7_after r0 20 (rw_X7_after_20020) := sg_X7_after_20020 C
noncomputable def rw_X7_after_30020 : XK := rg_X7_after_30020
noncomputable def md_X7_after_30020 (p1 : Int) (h0 : Ob) (h1 : Ob) (h2 : Ob) (h3 : Ob) (h4 : Ob) (h5 : Ob) (h6 : Ob) (h7 : Ob) (h8 : Ob) (h9 : Ob) (h10 : Ob) (h11 : Ob) (h12 : Ob) (h13 : Ob) (h14 : Ob) (h15 : Ob) (h16 : Ob) (h17 : Ob) (h18 : Ob) (h19 : Ob) (h20 : Ob) (h21 : Ob) (h22 : Ob) (h23 : Ob) (h24 : Ob) : Unit → Option Rt := mg_X7_after_30020 p1 h0 h1 h2 h3 h4 h5 h6 h7 h8 h9 h10 h11 h12 h13 h14 h15 h16 h17 h18 h19 h20 h21 h22 h23 h24
theorem eq_X7_after_30020 (p1 : Int) (h0 : Ob) (h1 : Ob) (h2 : Ob) (h3 : Ob) (h4 : Ob) (h5 : Ob) (h6 : Ob) (h7 : Ob) (h8 : Ob) (h9 : Ob) (h10 : Ob) (h11 : Ob) (h12 : Ob) (h13 : Ob) (h14 : Ob) (h15 : Ob) (h16 : Ob) (h17 : Ob) (h18 : Ob) (h19 : Ob) (h20 : Ob) (h21 : Ob) (h22 : Ob) (h23 : Ob) (h24 : Ob) (a : Unit) : rw_X7_after_30020 (en_X7_after_30020 p1 h0 h1 h2 h3 h4 h5 h6 h7 h8 h9 h10 h11 h12 h13 h14 h15 h16 h17 h18 h19 h20 h21 h22 h23 h24 a) = md_X7_after_30020 p1 h0 h1 h2 h3 h4 h5 h6 h7 h8 h9 h10 h11 h12 h13 h14 h15 h16 h17 h18 h19 h20 h21 h22 h23 h24 a :=
 rq_X7_after_30020 p1 h0 h1 h2 h3 h4 h5 h6 h7 h8 h9 h10 h11 h12 h13 h14 h15 h16 h17 h18 h19 h20 h21 h22 h23 h24 a
theorem sd_X7_after_30020 {X : XDyn} {r0 : Rt} (C : XO X mX7_after) : XS X mX7_after r0 20 (rw_X7_after_30020) := sg_X7_after_30020 C
noncomputable def rw_X7_after_40020 : XK := rg_X7_after_40020
noncomputable def md_X7_after_40020 (p1 : Int) (h0 : Ob) (h1 : Ob) (h2 : Ob) (h3 : Ob) (h4 : Ob) (h5 : Ob) (h6 : Ob) (h7 : Ob) (h8 : Ob) (h9 : Ob) (h10 : Ob) (h11 : Ob) (h12 : Ob) (h13 : Ob) (h14 : Ob) (h15 : Ob) (h16 : Ob) (h17 : Ob) (h18 : Ob) (h19 : Ob) (h20 : Ob) (h21 : Ob) (h22 : Ob) (h23 : Ob) (h24 : Ob) : Unit → Option Rt := mg_X7_after_40020 p1 h0 h1 h2 h3 h4 h5 h6 h7 h8 h9 h10 h11 h12 h13 h14 h15 h16 h17 h18 h19 h20 h21 h22 h23 h24
theorem eq_X7_after_40020 (p1 : Int) (h0 : Ob) (h1 : Ob) (h2 : Ob) (h3 : Ob) (h4 : Ob) (h5 : Ob) (h6 : Ob) (h7 : Ob) (h8 : Ob) (h9 : Ob) (h10 : Ob) (h11 : Ob) (h12 : Ob) (h13 : Ob) (h14 : Ob) (h15 : Ob) (h16 : Ob) (h17 : Ob) (h18 : Ob) (h19 : Ob) (h20 : Ob) (h21 : Ob) (h22 : Ob) (h23 : Ob) (h24 : Ob) (a : Unit) : rw_X7_after_40020 (en_X7_after_40020 p1 h0 h1 h2 h3 h4 h5 h6 h7 h8 h9 h10 h11 h12 h13 h14 h15 h16 h17 h18 h19 h20 h21 h22 h23 h24 a) = md_X7_after_40020 p1 h0 h1 h2 h3 h4 h5 h6 h7 h8 h9 h10 h11 h12 h13 h14 h15 h16 h17 h18 h19 h20 h21 h22 h23 h24 a :=
 rq_X7_after_40020 p1 h0 h1 h2 h3 h4 h5 h6 h7 h8 h9 h10 h11 h12 h13 h14 h15 h16 h17 h18 h19 h20 h21 h22 h23 h24 a
theorem sd_X7_after_40020 {X : XDyn} {r0 : Rt} (C : XO X mX7_after) : XS X mX7_after r0 20 (rw_X7_after_40020) := sg_X7_after_40020 C
noncomputable def rw_X7_after_50020 : XK := rg_X7_after_50020
noncomputable def md_X7_after_50020 (p1 : Int) (h0 : Ob) (h1 : Ob) (h2 : Ob) (h3 : Ob) (h4 : Ob) (h5 : Ob) (h6 : Ob) (h7 : Ob) (h8 : Ob) (h9 : Ob) (h10 : Ob) (h11 : Ob) (h12 : Ob) (h13 : Ob) (h14 : Ob) (h15 : Ob) (h16 : Ob) (h17 : Ob) (h18 : Ob) (h19 : Ob) (h20 : Ob) (h21 : Ob) (h22 : Ob) (h23 : Ob) (h24 : Ob) : Unit → Option Rt := mg_X7_after_50020 p1 h0 h1 h2 h3 h4 h5 h6 h7 h8 h9 h10 h11 h12 h13 h14 h15 h16 h17 h18 h19 h20 h21 h22 h23 h24
theorem eq_X7_after_50020 (p1 : Int) (h0 : Ob) (h1 : Ob) (h2 : Ob) (h3 : Ob) (h4 : Ob) (h5 : Ob) (h6 : Ob) (h7 : Ob) (h8 : Ob) (h9 : Ob) (h10 : Ob) (h11 : Ob) (h12 : Ob) (h13 : Ob) (h14 : Ob) (h15 : Ob) (h16 : Ob) (h17 : Ob) (h18 : Ob) (h19 : Ob) (h20 : Ob) (h21 : Ob) (h22 : Ob) (h23 : Ob) (h24 : Ob) (a : Unit) : rw_X7_after_50020 (en_X7_after_50020 p1 h0 h1 h2 h3 h4 h5 h6 h7 h8 h9 h10 h11 h12 h13 h14 h15 h16 h17 h18 h19 h20 h21 h22 h23 h24 a) = md_X7_after_50020 p1 h0 h1 h2 h3 h4 h5 h6 h7 h8 h9 h10 h11 h12 h13 h14 h15 h16 h17 h18 h19 h20 h21 h22 h23 h24 a :=
 rq_X7_after_50020 p1 h0 h1 h2 h3 h4 h5 h6 h7 h8 h9 h10 h11 h12 h13 h14 h15 h16 h17 h18 h19 h20 h21 h22 h23 h24 a
theorem sd_X7_after_50020 {X : XDyn} {r0 : Rt} (C : XO X mX7_after) : XS X mX7_after r0 20 (rw_X7_after_50020) := sg_X7_after_50020 C
noncomputable def rw_X7_after_60020 : XK := rg_X7_after_60020
noncomputable def md_X7_after_60020 (p1 : Int) (h0 : Ob) (h1 : Ob) (h2 : Ob) (h3 : Ob) (h4 : Ob) (h5 : Ob) (h6 : Ob) (h7 : Ob) (h8 : Ob) (h9 : Ob) (h10 : Ob) (h11 : Ob) (h12 : Ob) (h13 : Ob) (h14 : Ob) (h15 : Ob) (h16 : Ob) (h17 : Ob) (h18 : Ob) (h19 : Ob) (h20 : Ob) (h21 : Ob) (h22 : Ob) (h23 : Ob) (h24 : Ob) : Unit → Option Rt := mg_X7_after_60020 p1 h0 h1 h2 h3 h4 h5 h6 h7 h8 h9 h10 h11 h12 h13 h14 h15 h16 h17 h18 h19 h20 h21 h22 h23 h24
theorem eq_X7_after_60020 (p1 : Int) (h0 : Ob) (h1 : Ob) (h2 : Ob) (h3 : Ob) (h4 : Ob) (h5 : Ob) (h6 : Ob) (h7 : Ob) (h8 : Ob) (h9 : Ob) (h10 : Ob) (h11 : Ob) (h12 : Ob) (h13 : Ob) (h14 : Ob) (h15 : Ob) (h16 : Ob) (h17 : Ob) (h18 : Ob) (h19 : Ob) (h20 : Ob) (h21 : Ob) (h22 : Ob) (h23 : Ob) (h24 : Ob) (a : Unit) : rw_X7_after_60020 (en_X7_after_60020 p1 h0 h1 h2 h3 h4 h5 h6 h7 h8 h9 h10 h11 h12 h13 h14 h15 h16 h17 h18 h19 h20 h21 h22 h23 h24 a) = md_X7_after_60020 p1 h0 h1 h2 h3 h4 h5 h6 h7 h8 h9 h10 h11 h12 h13 h14 h15 h16 h17 h18 h19 h20 h21 h22 h23 h24 a :=
 rq_X7_after_60020 p1 h0 h1 h2 h3 h4 h5 h6 h7 h8 h9 h10 h11 h12 h13 h14 h15 h16 h17 h18 h19 h20 h21 h22 h23 h24 a
theorem sd_X7_after_60020 {X : XDyn} {r0 : Rt} (C : XO X mX7_after) : XS X mX7_after r0 20 (rw_X7_after_60020) := sg_X7_after_60020 C
noncomputable def rw_X7_after_70020 : XK := rg_X7_after_70020
noncomputable def md_X7_after_70020 (p1 : Int) (h0 : Ob) (h1 : Ob) (h2 : Ob) (h3 : Ob) (h4 : Ob) (h5 : Ob) (h6 : Ob) (h7 : Ob) (h8 : Ob) (h9 : Ob) (h10 : Ob) (h11 : Ob) (h12 : Ob) (h13 : Ob) (h14 : Ob) (h15 : Ob) (h16 : Ob) (h17 : Ob) (h18 : Ob) (h19 : Ob) (h20 : Ob) (h21 : Ob) (h22 : Ob) (h23 : Ob) (h24 : Ob) : Unit → Option Rt := mg_X7_after_70020 p1 h0 h1 h2 h3 h4 h5 h6 h7 h8 h9 h10 h11 h12 h13 h14 h15 h16 h17 h18 h19 h20 h21 h22 h23 h24
theorem eq_X7_after_70020 (p1 : Int) (h0 : Ob) (h1 : Ob) (h2 : Ob) (h3 : Ob) (h4 : Ob) (h5 : Ob) (h6 : Ob) (h7 : Ob) (h8 : Ob) (h9 : Ob) (h10 : Ob) (h11 : Ob) (h12 : Ob) (h13 : Ob) (h14 : Ob) (h15 : Ob) (h16 : Ob) (h17 : Ob) (h18 : Ob) (h19 : Ob) (h20 : Ob) (h21 : Ob) (h22 : Ob) (h23 : Ob) (h24 : Ob) (a : Unit) : rw_X7_after_70020 (en_X7_after_70020 p1 h0 h1 h2 h3 h4 h5 h6 h7 h8 h9 h10 h11 h12 h13 h14 h15 h16 h17 h18 h19 h20 h21 h22 h23 h24 a) = md_X7_after_70020 p1 h0 h1 h2 h3 h4 h5 h6 h7 h8 h9 h10 h11 h12 h13 h14 h15 h16 h17 h18 h19 h20 h21 h22 h23 h24 a :=
 rq_X7_after_70020 p1 h0 h1 h2 h3 h4 h5 h6 h7 h8 h9 h10 h11 h12 h13 h14 h15 h16 h17 h18 h19 h20 h21 h22 h23 h24 a
theorem sd_X7_after_70020 {X : XDyn} {r0 : Rt} (C : XO X mX7_after) : XS X mX7_after r0 20 (rw_X7_after_70020) := sg_X7_after_70020 C
noncomputable def rw_X7_after_80020 : XK := rg_X7_after_80020
noncomputable def md_X7_after_80020 (p1 : Int) (h0 : Ob) (h1 : Ob) (h2 : Ob) (h3 : Ob) (h4 : Ob) (h5 : Ob) (h6 : Ob) (h7 : Ob) (h8 : Ob) (h9 : Ob) (h10 : Ob) (h11 : Ob) (h12 : Ob) (h13 : Ob) (h14 : Ob) (h15 : Ob) (h16 : Ob) (h17 : Ob) (h18 : Ob) (h19 : Ob) (h20 : Ob) (h21 : Ob) (h22 : Ob) (h23 : Ob) (h24 : Ob) : Unit → Option Rt := mg_X7_after_80020 p1 h0 h1 h2 h3 h4 h5 h6 h7 h8 h9 h10 h11 h12 h13 h14 h15 h16 h17 h18 h19 h20 h21 h22 h23 h24
theorem eq_X7_after_80020 (p1 : Int) (h0 : Ob) (h1 : Ob) (h2 : Ob) (h3 : Ob) (h4 : Ob) (h5 : Ob) (h6 : Ob) (h7 : Ob) (h8 : Ob) (h9 : Ob) (h10 : Ob) (h11 : Ob) (h12 : Ob) (h13 : Ob) (h14 : Ob) (h15 : Ob) (h16 : Ob) (h17 : Ob) (h18 : Ob) (h19 : Ob) (h20 : Ob) (h21 : Ob) (h22 : Ob) (h23 : Ob) (h24 : Ob) (a : Unit) : rw_X7_after_80020 (en_X7_after_80020 p1 h0 h1 h2 h3 h4 h5 h6 h7 h8 h9 h10 h11 h12 h13 h14 h15 h16 h17 h18 h19 h20 h21 h22 h23 h24 a) = md_X7_after_80020 p1 h0 h1 h2 h3 h4 h5 h6 h7 h8 h9 h10 h11 h12 h13 h14 h15 h16 h17 h18 h19 h20 h21 h22 h23 h24 a :=
 rq_X7_after_80020 p1 h0 h1 h2 h3 h4 h5 h6 h7 h8 h9 h10 h11 h12 h13 h14 h15 h16 h17 h18 h19 h20 h21 h22 h23 h24 a
theorem sd_X7_after_80020 {X : XDyn} {r0 : Rt} (C : XO X mX7_after) : XS X mX7_after r0 20 (rw_X7_after_80020) := sg_X7_after_80020 C
noncomputable def rw_X7_after_90020 : XK := rg_X7_after_90020
noncomputable def md_X7_after_90020 (p1 : Int) (h0 : Ob) (h1 : Ob) (h2 : Ob) (h3 : Ob) (h4 : Ob) (h5 : Ob) (h6 : Ob) (h7 : Ob) (h8 : Ob) (h9 : Ob) (h10 : Ob) (h11 : Ob) (h12 : Ob) (h13 : Ob) (h14 : Ob) (h15 : Ob) (h16 : Ob) (h17 : Ob) (h18 : Ob) (h19 : Ob) (h20 : Ob) (h21 : Ob) (h22 : Ob) (h23 : Ob) (h24 : Ob) : Unit → Option Rt := mg_X7_after_90020 p1 h0 h1 h2 h3 h4 h5 h6 h7 h8 h9 h10 h11 h12 h13 h14 h15 h16 h17 h18 h19 h20 h21 h22 h23 h24
theorem eq_X7_after_90020 (p1 : Int) (h0 : Ob) (h1 : Ob) (h2 : Ob) (h3 : Ob) (h4 : Ob) (h5 : Ob) (h6 : Ob) (h7 : Ob) (h8 : Ob) (h9 : Ob) (h10 : Ob) (h11 : Ob) (h12 : Ob) (h13 : Ob) (h14 : Ob) (h15 : Ob) (h16 : Ob) (h17 : Ob) (h18 : Ob) (h19 : Ob) (h20 : Ob) (h21 : Ob) (h22 : Ob) (h23 : Ob) (h24 : Ob) (a : Unit) : rw_X7_after_90020 (en_X7_after_90020 p1 h0 h1 h2 h3 h4 h5 h6 h7 h8 h9 h10 h11 h12 h13 h14 h15 h16 h17 h18 h19 h20 h21 h22 h23 h24 a) = md_X7_after_90020 p1 h0 h1 h2 h3 h4 h5 h6 h7 h8 h9 h10 h11 h12 h13 h14 h15 h16 h17 h18 h19 h20 h21 h22 h23 h24 a :=
 rq_X7_after_90020 p1 h0 h1 h2 h3 h4 h5 h6 h7 h8 h9 h10 h11 h12 h13 h14 h15 h16 h17 h18 h19 h20 h21 h22 h23 h24 a
theorem sd_X7_after_90020 {X : XDyn} {r0 : Rt} (C : XO X mX7_after) : XS X mX7_after r0 20 (rw_X7_after_90020) := sg_X7_after_90020 C
noncomputable def rw_X7_after_100020 : XK := rg_X7_after_100020
noncomputable def md_X7_after_100020 (p1 : Int) (h0 : Ob) (h1 : Ob) (h2 : Ob) (h3 : Ob) (h4 : Ob) (h5 : Ob) (h6 : Ob) (h7 : Ob) (h8 : Ob) (h9 : Ob) (h10 : Ob) (h11 : Ob) (h12 : Ob) (h13 : Ob) (h14 : Ob) (h15 : Ob) (h16 : Ob) (h17 : Ob) (h18 : Ob) (h19 : Ob) (h20 : Ob) (h21 : Ob) (h22 : Ob) (h23 : Ob) (h24 : Ob) : Unit → Option Rt := mg_X7_after_100020 p1 h0 h1 h2 h3 h4 h5 h6 h7 h8 h9 h10 h11 h12 h13 h14 h15 h16 h17 h18 h19 h20 h21 h22 h23 h24
theorem eq_X7_after_100020 (p1 : Int) (h0 : Ob) (h1 : Ob) (h2 : Ob) (h3 : Ob) (h4 : Ob) (h5 : Ob) (h6 : Ob) (h7 : Ob) (h8 : Ob) (h9 : Ob) (h10 : Ob) (h11 : Ob) (h12 : Ob) (h13 : Ob) (h14 : Ob) (h15 : Ob) (h16 : Ob) (h17 : Ob) (h18 : Ob) (h19 : Ob) (h20 : Ob) (h21 : Ob) (h22 : Ob) (h23 : Ob) (h24 : Ob) (a : Unit) : rw_X7_after_100020 (en_X7_after_100020 p1 h0 h1 h2 h3 h4 h5 h6 h7 h8 h9 h10 h11 h12 h13 h14 h15 h16 h17 h18 h19 h20 h21 h22 h23 h24 a) = md_X7_after_100020 p1 h0 h1 h2 h3 h4 h5 h6 h7 h8 h9 h10 h11 h12 h13 h14 h15 h16 h17 h18 h19 h20 h21 h22 h23 h24 a :=
 rq_X7_after_100020 p1 h0 h1 h2 h3 h4 h5 h6 h7 h8 h9 h10 h11 h12 h13 h14 h15 h16 h17 h18 h19 h20 h21 h22 h23 h24 a
theorem sd_X7_after_100020 {X : XDyn} {r0 : Rt} (C : XO X mX7_after) : XS X mX7_after r0 20 (rw_X7_after_100020) := sg_X7_after_100020 C
noncomputable def rw_X7_after_110020 : XK := rg_X7_after_110020
noncomputable def md_X7_after_110020 (p1 : Int) (h0 : Ob) (h1 : Ob) (h2 : Ob) (h3 : Ob) (h4 : Ob) (h5 : Ob) (h6 : Ob) (h7 : Ob) (h8 : Ob) (h9 : Ob) (h10 : Ob) (h11 : Ob) (h12 : Ob) (h13 : Ob) (h14 : Ob) (h15 : Ob) (h16 : Ob) (h17 : Ob) (h18 : Ob) (h19 : Ob) (h20 : Ob) (h21 : Ob) (h22 : Ob) (h23 : Ob) (h24 : Ob) : Unit → Option Rt := mg_X7_after_110020 p1 h0 h1 h2 h3 h4 h5 h6 h7 h8 h9 h10 h11 h12 h13 h14 h15 h16 h17 h18 h19 h20 h21 h22 h23 h24
theorem eq_X7_after_110020 (p1 : Int) (h0 : Ob) (h1 : Ob) (h2 : Ob) (h3 : Ob) (h4 : Ob) (h5 : Ob) (h6 : Ob) (h7 : Ob) (h8 : Ob) (h9 : Ob) (h10 : Ob) (h11 : Ob) (h12 : Ob) (h13 : Ob) (h14 : Ob) (h15 : Ob) (h16 : Ob) (h17 : Ob) (h18 : Ob) (h19 : Ob) (h20 : Ob) (h21 : Ob) (h22 : Ob) (h23 : Ob) (h24 : Ob) (a : Unit) : rw_X7_after_110020 (en_X7_after_110020 p1 h0 h1 h2 h3 h4 h5 h6 h7 h8 h9 h10 h11 h12 h13 h14 h15 h16 h17 h18 h19 h20 h21 h22 h23 h24 a) = md_X7_after_110020 p1 h0 h1 h2 h3 h4 h5 h6 h7 h8 h9 h10 h11 h12 h13 h14 h15 h16 h17 h18 h19 h20 h21 h22 h23 h24 a :=
 rq_X7_after_110020 p1 h0 h1 h2 h3 h4 h5 h6 h7 h8 h9 h10 h11 h12 h13 h14 h15 h16 h17 h18 h19 h20 h21 h22 h23 h24 a
theorem sd_X7_after_110020 {X : XDyn} {r0 : Rt} (C : XO X mX7_after) : XS X mX7_after r0 20 (rw_X7_after_110020) := sg_X7_after_110020 C
noncomputable def rw_X7_after_120020 : XK := rg_X7_after_120020
noncomputable def md_X7_after_120020 (p1 : Int) (h0 : Ob) (h1 : Ob) (h2 : Ob) (h3 : Ob) (h4 : Ob) (h5 : Ob) (h6 : Ob) (h7 : Ob) (h8 : Ob) (h9 : Ob) (h10 : Ob) (h11 : Ob) (h12 : Ob) (h13 : Ob) (h14 : Ob) (h15 : Ob) (h16 : Ob) (h17 : Ob) (h18 : Ob) (h19 : Ob) (h20 : Ob) (h21 : Ob) (h22 : Ob) (h23 : Ob) (h24 : Ob) : Unit → Option Rt := mg_X7_after_120020 p1 h0 h1 h2 h3 h4 h5 h6 h7 h8 h9 h10 h11 h12 h13 h14 h15 h16 h17 h18 h19 h20 h21 h22 h23 h24
theorem eq_X7_after_120020 (p1 : Int) (h0 : Ob) (h1 : Ob) (h2 : Ob) (h3 : Ob) (h4 : Ob) (h5 : Ob) (h6 : Ob) (h7 : Ob) (h8 : Ob) (h9 : Ob) (h10 : Ob) (h11 : Ob) (h12 : Ob) (h13 : Ob) (h14 : Ob) (h15 : Ob) (h16 : Ob) (h17 : Ob) (h18 : Ob) (h19 : Ob) (h20 : Ob) (h21 : Ob) (h22 : Ob) (h23 : Ob) (h24 : Ob) (a : Unit) : rw_X7_after_120020 (en_X7_after_120020 p1 h0 h1 h2 h3 h4 h5 h6 h7 h8 h9 h10 h11 h12 h13 h14 h15 h16 h17 h18 h19 h20 h21 h22 h23 h24 a) = md_X7_after_120020 p1 h0 h1 h2 h3 h4 h5 h6 h7 h8 h9 h10 h11 h12 h13 h14 h15 h16 h17 h18 h19 h20 h21 h22 h23 h24 a :=
 rq_X7_after_120020 p1 h0 h1 h2 h3 h4 h5 h6 h7 h8 h9 h10 h11 h12 h13 h14 h15 h16 h17 h18 h19 h20 h21 h22 h23 h24 a
theorem sd_X7_after_120020 {X : XDyn} {r0 : Rt} (C : XO X mX7_after) : XS X mX7_after r0 20 (rw_X7_after_120020) := sg_X7_after_120020 C
noncomputable def rw_X7_after_130020 : XK := rg_X7_after_130020
noncomputable def md_X7_after_130020 (p1 : Int) (h0 : Ob) (h1 : Ob) (h2 : Ob) (h3 : Ob) (h4 : Ob) (h5 : Ob) (h6 : Ob) (h7 : Ob) (h8 : Ob) (h9 : Ob) (h10 : Ob) (h11 : Ob) (h12 : Ob) (h13 : Ob) (h14 : Ob) (h15 : Ob) (h16 : Ob) (h17 : Ob) (h18 : Ob) (h19 : Ob) (h20 : Ob) (h21 : Ob) (h22 : Ob) (h23 : Ob) (h24 : Ob) : Unit → Option Rt := mg_X7_after_130020 p1 h0 h1 h2 h3 h4 h5 h6 h7 h8 h9 h10 h11 h12 h13 h14 h15 h16 h17 h18 h19 h20 h21 h22 h23 h24
theorem eq_X7_after_130020 (p1 : Int) (h0 : Ob) (h1 : Ob) (h2 : Ob) (h3 : Ob) (h4 : Ob) (h5 : Ob) (h6 : Ob) (h7 : Ob) (h8 : Ob) (h9 : Ob) (h10 : Ob) (h11 : Ob) (h12 : Ob) (h13 : Ob) (h14 : Ob) (h15 : Ob) (h16 : Ob) (h17 : Ob) (h18 : Ob) (h19 : Ob) (h20 : Ob) (h21 : Ob) (h22 : Ob) (h23 : Ob) (h24 : Ob) (a : Unit) : rw_X7_after_130020 (en_X7_after_130020 p1 h0 h1 h2 h3 h4 h5 h6 h7 h8 h9 h10 h11 h12 h13 h14 h15 h16 h17 h18 h19 h20 h21 h22 h23 h24 a) = md_X7_after_130020 p1 h0 h1 h2 h3 h4 h5 h6 h7 h8 h9 h10 h11 h12 h13 h14 h15 h16 h17 h18 h19 h20 h21 h22 h23 h24 a :=
 rq_X7_after_130020 p1 h0 h1 h2 h3 h4 h5 h6 h7 h8 h9 h10 h11 h12 h13 h14 h15 h16 h17 h18 h19 h20 h21 h22 h23 h24 a
theorem sd_X7_after_130020 {X : XDyn} {r0 : Rt} (C : XO X mX7_after) : XS X mX7_after r0 20 (rw_X7_after_130020) := sg_X7_after_130020 C
noncomputable def rw_X7_after_0 : XK := rg_X7_after_0 (rw_X7_after_10020) (rw_X7_after_20020) (rw_X7_after_30020) (rw_X7_after_40020) (rw_X7_after_50020) (rw_X7_after_60020) (rw_X7_after_70020) (rw_X7_after_80020) (rw_X7_after_90020) (rw_X7_after_100020) (rw_X7_after_110020) (rw_X7_after_120020) (rw_X7_after_130020)
noncomputable def md_X7_after_0 (p1 : Int) (h0 : Ob) (h1 : Ob) (h2 : Ob) (h3 : Ob) (h4 : Ob) (h5 : Ob) (h6 : Ob) (h7 : Ob) (h8 : Ob) (h9 : Ob) (h10 : Ob) (h11 : Ob) (h12 : Ob) (h13 : Ob) (h14 : Ob) (h15 : Ob) (h16 : Ob) (h17 : Ob) (h18 : Ob) (h19 : Ob) (h20 : Ob) (h21 : Ob) (h22 : Ob) (h23 : Ob) (h24 : Ob) : Unit → Option Rt := mg_X7_after_0 p1 h0 h1 h2 h3 h4 h5 h6 h7 h8 h9 h10 h11 h12 h13 h14 h15 h16 h17 h18 h19 h20 h21 h22 h23 h24 (md_X7_after_10020 p1 h0 h1 h2 h3 h4 h5 h6 h7 h8 h9 h10 h11 h12 h13 h14 h15 h16 h17 h18 h19 h20 h21 h22 h23 h24) (md_X7_after_20020 p1 h0 h1 h2 h3 h4 h5 h6 h7 h8 h9 h10 h11 h12 h13 h14 h15 h16 h17 h18 h19 h20 h21 h22 h23 h24) (md_X7_after_30020 p1 h0 h1 h2 h3 h4 h5 h6 h7 h8 h9 h10 h11 h12 h13 h14 h15 h16 h17 h18 h19 h20 h21 h22 h23 h24) (md_X7_after_40020 p1 h0 h1 h2 h3 h4 h5 h6 h7 h8 h9 h10 h11 h12 h13 h14 h15 h16 h17 h18 h19 h20 h21 h22 h23 h24) (md_X7_after_50020 p1 h0 h1 h2 h3 h4 h5 h6 h7 h8 h9 h10 h11 h12 h13 h14 h15 h16 h17 h18 h19 h20 h21 h22 h23 h24) (md_X7_after_60020 p1 h0 h1 h2 h3 h4 h5 h6 h7 h8 h9 h10 h11 h12 h13 h14 h15 h16 h17 h18 h19 h20 h21 h22 h23 h24) (md_X7_after_70020 p1 h0 h1 h2 h3 h4 h5 h6 h7 h8 h9 h10 h11 h12 h13 h14 h15 h16 h17 h18 h19 h20 h21 h22 h23 h24) (md_X7_after_80020 p1 h0 h1 h2 h3 h4 h5 h6 h7 h8 h9 h10 h11 h12 h13 h14 h15 h16 h17 h18 h19 h20 h21 h22 h23 h24) (md_X7_after_90020 p1 h0 h1 h2 h3 h4 h5 h6 h7 h8 h9 h10 h11 h12 h13 h14 h15 h16 h17 h18 h19 h20 h21 h22 h23 h24) (md_X7_after_100020 p1 h0 h1 h2 h3 h4 h5 h6 h7 h8 h9 h10 h11 h12 h13 h14 h15 h16 h17 h18 h19 h20 h21 h22 h23 h24) (md_X7_after_110020 p1 h0 h1 h2 h3 h4 h5 h6 h7 h8 h9 h10 h11 h12 h13 h14 h15 h16 h17 h18 h19 h20 h21 h22 h23 h24) (md_X7_after_120020 p1 h0 h1 h2 h3 h4 h5 h6 h7 h8 h9 h10 h11 h12 h13 h14 h15 h16 h17 h18 h19 h20 h21 h22 h23 h24) (md_X7_after_130020 p1 h0 h1 h2 h3 h4 h5 h6 h7 h8 h9 h10 h11 h12 h13 h14 h15 h16 h17 h18 h19 h20 h21 h22 h23 h24)
theorem eq_X7_after_0 (p1 : Int) (h0 : Ob) (h1 : Ob) (h2 : Ob) (h3 : Ob) (h4 : Ob) (h5 : Ob) (h6 : Ob) (h7 : Ob) (h8 : Ob) (h9 : Ob) (h10 : Ob) (h11 : Ob) (h12 : Ob) (h13 : Ob) (h14 : Ob) (h15 : Ob) (h16 : Ob) (h17 : Ob) (h18 : Ob) (h19 : Ob) (h20 : Ob) (h21 : Ob) (h22 : Ob) (h23 : Ob) (h24 : Ob) (a : Unit) : rw_X7_after_0 (en_X7_after_0 p1 h0 h1 h2 h3 h4 h5 h6 h7 h8 h9 h10 h11 h12 h13 h14 h15 h16 h17 h18 h19 h20 h21 h22 h23 h24 a) = md_X7_after_0 p1 h0 h1 h2 h3 h4 h5 h6 h7 h8 h9 h10 h11 h12 h13 h14 h15 h16 h17 h18 h19 h20 h21 h22 h23 h24 a :=
 (rq_X7_after_0 p1 h0 h1 h2 h3 h4 h5 h6 h7 h8 h9 h10 h11 h12 h13 h14 h15 h16 h17 h18 h19 h20 h21 h22 h23 h24 (rw_X7_after_10020) (rw_X7_after_20020) (rw_X7_after_30020) (rw_X7_after_40020) (rw_X7_after_50020) (rw_X7_after_60020) (rw_X7_after_70020) (rw_X7_after_80020) (rw_X7_after_90020) (rw_X7_after_100020) (rw_X7_after_110020) (rw_X7_after_120020) (rw_X7_after_130020) a).trans (congrFun (congr (congr (congr (congr (congr (congr (congr (congr (congr (congr (congr (congr (congr (rfl : mg_X7_after_0 p1 h0 h1 h2 h3 h4 h5 h6 h7 h8 h9 h10 h11 h12 h13 h14 h15 h16 h17 h18 h19 h20 h21 h22 h23 h24 = mg_X7_after_0 p1 h0 h1 h2 h3 h4 h5 h6 h7 h8 h9 h10 h11 h12 h13 h14 h15 h16 h17 h18 h19 h20 h21 h22 h23 h24) (funext (eq_X7_after_10020 p1 h0 h1 h2 h3 h4 h5 h6 h7 h8 h9 h10 h11 h12 h13 h14 h15 h16 h17 h18 h19 h20 h21 h22 h23 h24))) (funext (eq_X7_after_20020 p1 h0 h1 h2 h3 h4 h5 h6 h7 h8 h9 h10 h11 h12 h13 h14 h15 h16 h17 h18 h19 h20 h21 h22 h23 h24))) (funext (eq_X7_after_30020 p1 h0 h1 h2 h3 h4 h5 h6 h7 h8 h9 h10 h11 h12 h13 h14 h15 h16 h17 h18 h19 h20 h21 h22 h23 h24))) (funext (eq_X7_after_40020 p1 h0 h1 h2 h3 h4 h5 h6 h7 h8 h9 h10 h11 h12 h13 h14 h15 h16 h17 h18 h19 h20 h21 h22 h23 h24))) (funext (eq_X7_after_50020 p1 h0 h1 h2 h3 h4 h5 h6 h7 h8 h9 h10 h11 h12 h13 h14 h15 h16 h17 h18 h19 h20 h21 h22 h23 h24))) (funext (eq_X7_after_60020 p1 h0 h1 h2 h3 h4 h5 h6 h7 h8 h9 h10 h11 h12 h13 h14 h15 h16 h17 h18 h19 h20 h21 h22 h23 h24))) (funext (eq_X7_after_70020 p1 h0 h1 h2 h3 h4 h5 h6 h7 h8 h9 h10 h11 h12 h13 h14 h15 h16 h17 h18 h19 h20 h21 h22 h23 h24))) (funext (eq_X7_after_80020 p1 h0 h1 h2 h3 h4 h5 h6 h7 h8 h9 h10 h11 h12 h13 h14 h15 h16 h17 h18 h19 h20 h21 h22 h23 h24))) (funext (eq_X7_after_90020 p1 h0 h1 h2 h3 h4 h5 h6 h7 h8 h9 h10 h11 h12 h13 h14 h15 h16 h17 h18 h19 h20 h21 h22 h23 h24))) (funext (eq_X7_after_100020 p1 h0 h1 h2 h3 h4 h5 h6 h7 h8 h9 h10 h11 h12 h13 h14 h15 h16 h17 h18 h19 h20 h21 h22 h23 h24))) (funext (eq_X7_after_110020 p1 h0 h1 h2 h3 h4 h5 h6 h7 h8 h9 h10 h11 h12 h13 h14 h15 h16 h17 h18 h19 h20 h21 h22 h23 h24))) (funext (eq_X7_after_120020 p1 h0 h1 h2 h3 h4 h5 h6 h7 h8 h9 h10 h11 h12 h13 h14 h15 h16 h17 h18 h19 h20 h21 h22 h23 h24))) (funext (eq_X7_after_130020 p1 h0 h1 h2 h3 h4 h5 h6 h7 h8 h9 h10 h11 h12 h13 h14 h15 h16 h17 h18 h19 h20 h21 h22 h23 h24))) a)
theorem sd_X7_after_0 {X : XDyn} {r0 : Rt} (C : XO X mX7_after) : XS X mX7_after r0 0 (rw_X7_after_0) := sg_X7_after_0 C (sd_X7_after_10020 C) (sd_X7_after_20020 C) (sd_X7_after_30020 C) (sd_X7_after_40020 C) (sd_X7_after_50020 C) (sd_X7_after_60020 C) (sd_X7_after_70020 C) (sd_X7_after_80020 C) (sd_X7_after_90020 C) (sd_X7_after_100020 C) (sd_X7_after_110020 C) (sd_X7_after_120020 C) (sd_X7_after_130020 C)
theorem ctr_X7_after : XCt yX7_after mX7_after (xF mX7_after (rw_X7_after_0)) := xMet (by decide +kernel) rfl (fun _ _ C => sd_X7_after_0 C)
theorem eqf_X7_after (p1 : Int) (h0 : Ob) (h1 : Ob) (h2 : Ob) (h3 : Ob) (h4 : Ob) (h5 : Ob) (h6 : Ob) (h7 : Ob) (h8 : Ob) (h9 : Ob) (h10 : Ob) (h11 : Ob) (h12 : Ob) (h13 : Ob) (h14 : Ob) (h15 : Ob) (h16 : Ob) (h17 : Ob) (h18 : Ob) (h19 : Ob) (h20 : Ob) (h21 : Ob) (h22 : Ob) (h23 : Ob) (h24 : Ob) : xF mX7_after (rw_X7_after_0) [.inr (.inl (0, 0)), .inl p1] [h0, h1, h2, h3, h4, h5, h6, h7, h8, h9, h10, h11, h12, h13, h14, h15, h16, h17, h18, h19, h20, h21, h22, h23, h24] = md_X7_after_0 p1 h0 h1 h2 h3 h4 h5 h6 h7 h8 h9 h10 h11 h12 h13 h14 h15 h16 h17 h18 h19 h20 h21 h22 h23 h24 () := eq_X7_after_0 p1 h0 h1 h2 h3 h4 h5 h6 h7 h8 h9 h10 h11 h12 h13 h14 h15 h16 h17 h18 h19 h20 h21 h22 h23 h24 ()
theorem yi_X7_after : yX7_after.cls = RX7 ∧ yX7_after.cls ≠ "java/lang/invoke/MethodHandle" ∧ yX7_after.cls ≠ "java/lang/invoke/VarHandle" ∧ (parseMethodDescriptor yX7_after.desc).map (fun d => d.parameters.length) = some 1 := ⟨rfl, by decide +kernel, by decide +kernel, by decide +kernel⟩
