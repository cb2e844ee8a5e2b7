theorem dX7_make_0 : decode cX7_make 0 = .ok (.aload_n 0, 1) := by decide +kernel
theorem dX7_make_1 : decode cX7_make 1 = .ok (.getfield 12, 3) := by decide +kernel
theorem dX7_make_4 : decode cX7_make 4 = .ok (.invokevirtual 61, 3) := by decide +kernel
theorem dX7_make_7 : decode cX7_make 7 = .ok (.istore_n 3, 1) := by decide +kernel
theorem dX7_make_8 : decode cX7_make 8 = .ok (.iload_n 1, 1) := by decide +kernel
theorem dX7_make_9 : decode cX7_make 9 = .ok (.invokestatic 65, 3) := by decide +kernel
theorem dX7_make_12 : decode cX7_make 12 = .ok (.ifCond .eq 18, 3) := by decide +kernel
theorem dX7_make_15 : decode cX7_make 15 = .ok (.iload_n 2, 1) := by decide +kernel
theorem dX7_make_16 : decode cX7_make 16 = .ok (.ifCond .lt 14, 3) := by decide +kernel
theorem dX7_make_19 : decode cX7_make 19 = .ok (.iload_n 2, 1) := by decide +kernel
theorem dX7_make_20 : decode cX7_make 20 = .ok (.bipush 9, 2) := by decide +kernel
theorem dX7_make_22 : decode cX7_make 22 = .ok (.if_icmp .gt 8, 3) := by decide +kernel
theorem dX7_make_25 : decode cX7_make 25 = .ok (.iload_n 3, 1) := by decide +kernel
theorem dX7_make_26 : decode cX7_make 26 = .ok (.iconst (-1), 1) := by decide +kernel
theorem dX7_make_27 : decode cX7_make 27 = .ok (.if_icmp .ne 5, 3) := by decide +kernel
theorem dX7_make_30 : decode cX7_make 30 = .ok (.iconst (-1), 1) := by decide +kernel
theorem dX7_make_31 : decode cX7_make 31 = .ok (.ireturn, 1) := by decide +kernel
theorem dX7_make_32 : decode cX7_make 32 = .ok (.aload_n 0, 1) := by decide +kernel
theorem dX7_make_33 : decode cX7_make 33 = .ok (.getfield 22, 3) := by decide +kernel
theorem dX7_make_36 : decode cX7_make 36 = .ok (.aload_n 0, 1) := by decide +kernel
theorem dX7_make_37 : decode cX7_make 37 = .ok (.getfield 12, 3) := by decide +kernel
theorem dX7_make_40 : decode cX7_make 40 = .ok (.invokevirtual 69, 3) := by decide +kernel
theorem dX7_make_43 : decode cX7_make 43 = .ok (.aload_n 0, 1) := by decide +kernel
theorem dX7_make_44 : decode cX7_make 44 = .ok (.getfield 43, 3) := by decide +kernel
theorem dX7_make_47 : decode cX7_make 47 = .ok (.aload_n 0, 1) := by decide +kernel
theorem dX7_make_48 : decode cX7_make 48 = .ok (.getfield 12, 3) := by decide +kernel
theorem dX7_make_51 : decode cX7_make 51 = .ok (.iload_n 1, 1) := by decide +kernel
theorem dX7_make_52 : decode cX7_make 52 = .ok (.iconst 1, 1) := by decide +kernel
theorem dX7_make_53 : decode cX7_make 53 = .ok (.iadd, 1) := by decide +kernel
theorem dX7_make_54 : decode cX7_make 54 = .ok (.iconst (-1), 1) := by decide +kernel
theorem dX7_make_55 : decode cX7_make 55 = .ok (.invokevirtual 73, 3) := by decide +kernel
theorem dX7_make_58 : decode cX7_make 58 = .ok (.istore 4, 2) := by decide +kernel
theorem dX7_make_60 : decode cX7_make 60 = .ok (.iload 4, 2) := by decide +kernel
theorem dX7_make_62 : decode cX7_make 62 = .ok (.iconst (-1), 1) := by decide +kernel
theorem dX7_make_63 : decode cX7_make 63 = .ok (.if_icmp .ne 17, 3) := by decide +kernel
theorem dX7_make_66 : decode cX7_make 66 = .ok (.aload_n 0, 1) := by decide +kernel
theorem dX7_make_67 : decode cX7_make 67 = .ok (.getfield 22, 3) := by decide +kernel
theorem dX7_make_70 : decode cX7_make 70 = .ok (.aload_n 0, 1) := by decide +kernel
theorem dX7_make_71 : decode cX7_make 71 = .ok (.getfield 12, 3) := by decide +kernel
theorem dX7_make_74 : decode cX7_make 74 = .ok (.invokevirtual 77, 3) := by decide +kernel
theorem dX7_make_77 : decode cX7_make 77 = .ok (.bipush (-2), 2) := by decide +kernel
theorem dX7_make_79 : decode cX7_make 79 = .ok (.ireturn, 1) := by decide +kernel
theorem dX7_make_80 : decode cX7_make 80 = .ok (.aload_n 0, 1) := by decide +kernel
theorem dX7_make_81 : decode cX7_make 81 = .ok (.getfield 12, 3) := by decide +kernel
theorem dX7_make_84 : decode cX7_make 84 = .ok (.iload_n 3, 1) := by decide +kernel
theorem dX7_make_85 : decode cX7_make 85 = .ok (.iload 4, 2) := by decide +kernel
theorem dX7_make_87 : decode cX7_make 87 = .ok (.iload_n 1, 1) := by decide +kernel
theorem dX7_make_88 : decode cX7_make 88 = .ok (.invokevirtual 80, 3) := by decide +kernel
theorem dX7_make_91 : decode cX7_make 91 = .ok (.aload_n 0, 1) := by decide +kernel
theorem dX7_make_92 : decode cX7_make 92 = .ok (.getfield 12, 3) := by decide +kernel
theorem dX7_make_95 : decode cX7_make 95 = .ok (.iload_n 3, 1) := by decide +kernel
theorem dX7_make_96 : decode cX7_make 96 = .ok (.iload_n 2, 1) := by decide +kernel
theorem dX7_make_97 : decode cX7_make 97 = .ok (.invokevirtual 84, 3) := by decide +kernel
theorem dX7_make_100 : decode cX7_make 100 = .ok (.aload_n 0, 1) := by decide +kernel
theorem dX7_make_101 : decode cX7_make 101 = .ok (.iload_n 3, 1) := by decide +kernel
theorem dX7_make_102 : decode cX7_make 102 = .ok (.invokevirtual 87, 3) := by decide +kernel
theorem dX7_make_105 : decode cX7_make 105 = .ok (.iload_n 3, 1) := by decide +kernel
theorem dX7_make_106 : decode cX7_make 106 = .ok (.ireturn, 1) := by decide +kernel
abbrev mX7_make : XM := (cX7_make, 5, RX7, (some .int), shw_M, 14)
noncomputable def rg_X7_make_0 : XK :=
 o_aload 0 <|
 o_get shw_M 7 0 <|
 o_callV 1 1 [1] f_X3_firstUnusedHandle <|
 o_istore 3 <|
 o_iload 1 <|
 o_callS 1 1 [] f_X7_isSize <|
 o_if_eq (o_iconst (-1) <|
 o_ireturn)
 (o_iload 2 <|
 o_if_lt (o_iconst (-1) <|
 o_ireturn)
 (o_iload 2 <|
 o_iconst 9 <|
 o_icmp_gt (o_iconst (-1) <|
 o_ireturn)
 (o_iload 3 <|
 o_iconst (-1) <|
 o_icmp_ne (o_aload 0 <|
 o_get shw_M 7 2 <|
 o_aload 0 <|
 o_get shw_M 7 0 <|
 o_callVg 2 0 [3, 4, 5, 6, 7, 8, 9, 10, 11, 12, 13, 14, 15, 16, 1] g_X5_save v_X5_save <|
 o_aload 0 <|
 o_get shw_M 7 5 <|
 o_aload 0 <|
 o_get shw_M 7 0 <|
 o_iload 1 <|
 o_iconst 1 <|
 o_iadd <|
 o_iconst (-1) <|
 o_callVg 4 1 [19, 20, 21, 22, 1] g_X2_seek v_X2_seek <|
 o_istore 4 <|
 o_iload 4 <|
 o_iconst (-1) <|
 o_icmp_ne (o_aload 0 <|
 o_get shw_M 7 0 <|
 o_iload 3 <|
 o_iload 4 <|
 o_iload 1 <|
 o_callV 4 0 [1] f_X3_layNew <|
 o_aload 0 <|
 o_get shw_M 7 0 <|
 o_iload 3 <|
 o_iload 2 <|
 o_callV 3 0 [1] f_X3_describe <|
 o_aload 0 <|
 o_iload 3 <|
 o_callV 2 0 [0, 1, 2, 3, 4, 5, 6, 7, 8, 9, 10, 11, 12, 13, 14, 15, 16, 17, 18, 19, 20, 21, 22, 23, 24] f_X7_finish <|
 o_iload 3 <|
 o_ireturn)
 (o_aload 0 <|
 o_get shw_M 7 2 <|
 o_aload 0 <|
 o_get shw_M 7 0 <|
 o_callVg 2 0 [3, 4, 5, 6, 7, 8, 9, 10, 11, 12, 13, 14, 15, 16, 1] g_X5_putBack v_X5_putBack <|
 o_iconst (-2) <|
 o_ireturn))
 (o_iconst (-1) <|
 o_ireturn))))
def en_X7_make_0 (p1 : Int) (p2 : Int) (h0 : Ob) (h2 : Ob) (h17 : Ob) (h18 : Ob) (h23 : Ob) (h24 : Ob) (a : Ob × Ob × Ob × Ob × Ob × Ob × Ob × Ob × Ob × Ob × Ob × Ob × Ob × Ob × Ob × Ob × Ob × Ob × Ob) : XSt := ([some (.inr (.inl (0, 0))), some (.inl p1), some (.inl p2), none, none], [], [h0, a.1, h2, a.2.1, a.2.2.1, a.2.2.2.1, a.2.2.2.2.1, a.2.2.2.2.2.1, a.2.2.2.2.2.2.1, a.2.2.2.2.2.2.2.1, a.2.2.2.2.2.2.2.2.1, a.2.2.2.2.2.2.2.2.2.1, a.2.2.2.2.2.2.2.2.2.2.1, a.2.2.2.2.2.2.2.2.2.2.2.1, a.2.2.2.2.2.2.2.2.2.2.2.2.1, a.2.2.2.2.2.2.2.2.2.2.2.2.2.1, a.2.2.2.2.2.2.2.2.2.2.2.2.2.2.1, h17, h18, a.2.2.2.2.2.2.2.2.2.2.2.2.2.2.2.1, a.2.2.2.2.2.2.2.2.2.2.2.2.2.2.2.2.1, a.2.2.2.2.2.2.2.2.2.2.2.2.2.2.2.2.2.1, a.2.2.2.2.2.2.2.2.2.2.2.2.2.2.2.2.2.2, h23, h24])
noncomputable def mg_X7_make_0 (p1 : Int) (p2 : Int) (h0 : Ob) (h2 : Ob) (h17 : Ob) (h18 : Ob) (h23 : Ob) (h24 : Ob) (a : Ob × Ob × Ob × Ob × Ob × Ob × Ob × Ob × Ob × Ob × Ob × Ob × Ob × Ob × Ob × Ob × Ob × Ob × Ob) : Option Rt :=
 if xw (bz (siz p1)) = 0 then (RI (-1) [h0, a.1, h2, a.2.1, a.2.2.1, a.2.2.2.1, a.2.2.2.2.1, a.2.2.2.2.2.1, a.2.2.2.2.2.2.1, a.2.2.2.2.2.2.2.1, a.2.2.2.2.2.2.2.2.1, a.2.2.2.2.2.2.2.2.2.1, a.2.2.2.2.2.2.2.2.2.2.1, a.2.2.2.2.2.2.2.2.2.2.2.1, a.2.2.2.2.2.2.2.2.2.2.2.2.1, a.2.2.2.2.2.2.2.2.2.2.2.2.2.1, a.2.2.2.2.2.2.2.2.2.2.2.2.2.2.1, h17, h18, a.2.2.2.2.2.2.2.2.2.2.2.2.2.2.2.1, a.2.2.2.2.2.2.2.2.2.2.2.2.2.2.2.2.1, a.2.2.2.2.2.2.2.2.2.2.2.2.2.2.2.2.2.1, a.2.2.2.2.2.2.2.2.2.2.2.2.2.2.2.2.2.2, h23, h24])
 else (if xw p2 < 0 then (RI (-1) [h0, a.1, h2, a.2.1, a.2.2.1, a.2.2.2.1, a.2.2.2.2.1, a.2.2.2.2.2.1, a.2.2.2.2.2.2.1, a.2.2.2.2.2.2.2.1, a.2.2.2.2.2.2.2.2.1, a.2.2.2.2.2.2.2.2.2.1, a.2.2.2.2.2.2.2.2.2.2.1, a.2.2.2.2.2.2.2.2.2.2.2.1, a.2.2.2.2.2.2.2.2.2.2.2.2.1, a.2.2.2.2.2.2.2.2.2.2.2.2.2.1, a.2.2.2.2.2.2.2.2.2.2.2.2.2.2.1, h17, h18, a.2.2.2.2.2.2.2.2.2.2.2.2.2.2.2.1, a.2.2.2.2.2.2.2.2.2.2.2.2.2.2.2.2.1, a.2.2.2.2.2.2.2.2.2.2.2.2.2.2.2.2.2.1, a.2.2.2.2.2.2.2.2.2.2.2.2.2.2.2.2.2.2, h23, h24])
 else (if xw p2 > 9 then (RI (-1) [h0, a.1, h2, a.2.1, a.2.2.1, a.2.2.2.1, a.2.2.2.2.1, a.2.2.2.2.2.1, a.2.2.2.2.2.2.1, a.2.2.2.2.2.2.2.1, a.2.2.2.2.2.2.2.2.1, a.2.2.2.2.2.2.2.2.2.1, a.2.2.2.2.2.2.2.2.2.2.1, a.2.2.2.2.2.2.2.2.2.2.2.1, a.2.2.2.2.2.2.2.2.2.2.2.2.1, a.2.2.2.2.2.2.2.2.2.2.2.2.2.1, a.2.2.2.2.2.2.2.2.2.2.2.2.2.2.1, h17, h18, a.2.2.2.2.2.2.2.2.2.2.2.2.2.2.2.1, a.2.2.2.2.2.2.2.2.2.2.2.2.2.2.2.2.1, a.2.2.2.2.2.2.2.2.2.2.2.2.2.2.2.2.2.1, a.2.2.2.2.2.2.2.2.2.2.2.2.2.2.2.2.2.2, h23, h24])
 else (if xw (ffu a.1) = (-1) then (RI (-1) [h0, a.1, h2, a.2.1, a.2.2.1, a.2.2.2.1, a.2.2.2.2.1, a.2.2.2.2.2.1, a.2.2.2.2.2.2.1, a.2.2.2.2.2.2.2.1, a.2.2.2.2.2.2.2.2.1, a.2.2.2.2.2.2.2.2.2.1, a.2.2.2.2.2.2.2.2.2.2.1, a.2.2.2.2.2.2.2.2.2.2.2.1, a.2.2.2.2.2.2.2.2.2.2.2.2.1, a.2.2.2.2.2.2.2.2.2.2.2.2.2.1, a.2.2.2.2.2.2.2.2.2.2.2.2.2.2.1, h17, h18, a.2.2.2.2.2.2.2.2.2.2.2.2.2.2.2.1, a.2.2.2.2.2.2.2.2.2.2.2.2.2.2.2.2.1, a.2.2.2.2.2.2.2.2.2.2.2.2.2.2.2.2.2.1, a.2.2.2.2.2.2.2.2.2.2.2.2.2.2.2.2.2.2, h23, h24])
 else (if pd (PG a.2.1) then (
 if pd (LW a.1 ∧ Lst a.1 ∧ 1 ≤ (p1 + 1) ∧ (p1 + 1) ≤ 200) then (
 if xw ((fsF a.2.2.2.2.2.2.2.2.2.2.2.2.2.2.2.1 a.2.2.2.2.2.2.2.2.2.2.2.2.2.2.2.2.1 a.2.2.2.2.2.2.2.2.2.2.2.2.2.2.2.2.2.1 a.2.2.2.2.2.2.2.2.2.2.2.2.2.2.2.2.2.2 a.1 (p1 + 1) ((-1) : Int)).1) = (-1) then (if pd (PG a.2.1) then (
 RI (-2) [h0, (cpyO ((fsF a.2.2.2.2.2.2.2.2.2.2.2.2.2.2.2.1 a.2.2.2.2.2.2.2.2.2.2.2.2.2.2.2.2.1 a.2.2.2.2.2.2.2.2.2.2.2.2.2.2.2.2.2.1 a.2.2.2.2.2.2.2.2.2.2.2.2.2.2.2.2.2.2 a.1 (p1 + 1) ((-1) : Int)).2.2.2.2.2) (kpk a.2.1 0 [(svK a.2.1 0 a.2.2.1 a.1), (svK a.2.1 1 a.2.2.2.1 a.1), (svK a.2.1 2 a.2.2.2.2.1 a.1), (svK a.2.1 3 a.2.2.2.2.2.1 a.1), (svK a.2.1 4 a.2.2.2.2.2.2.1 a.1), (svK a.2.1 5 a.2.2.2.2.2.2.2.1 a.1), (svK a.2.1 6 a.2.2.2.2.2.2.2.2.1 a.1), (svK a.2.1 7 a.2.2.2.2.2.2.2.2.2.1 a.1), (svK a.2.1 8 a.2.2.2.2.2.2.2.2.2.2.1 a.1), (svK a.2.1 9 a.2.2.2.2.2.2.2.2.2.2.2.1 a.1), (svK a.2.1 10 a.2.2.2.2.2.2.2.2.2.2.2.2.1 a.1), (svK a.2.1 11 a.2.2.2.2.2.2.2.2.2.2.2.2.2.1 a.1), (svK a.2.1 12 a.2.2.2.2.2.2.2.2.2.2.2.2.2.2.1 a.1)])), h2, a.2.1, (svK a.2.1 0 a.2.2.1 a.1), (svK a.2.1 1 a.2.2.2.1 a.1), (svK a.2.1 2 a.2.2.2.2.1 a.1), (svK a.2.1 3 a.2.2.2.2.2.1 a.1), (svK a.2.1 4 a.2.2.2.2.2.2.1 a.1), (svK a.2.1 5 a.2.2.2.2.2.2.2.1 a.1), (svK a.2.1 6 a.2.2.2.2.2.2.2.2.1 a.1), (svK a.2.1 7 a.2.2.2.2.2.2.2.2.2.1 a.1), (svK a.2.1 8 a.2.2.2.2.2.2.2.2.2.2.1 a.1), (svK a.2.1 9 a.2.2.2.2.2.2.2.2.2.2.2.1 a.1), (svK a.2.1 10 a.2.2.2.2.2.2.2.2.2.2.2.2.1 a.1), (svK a.2.1 11 a.2.2.2.2.2.2.2.2.2.2.2.2.2.1 a.1), (svK a.2.1 12 a.2.2.2.2.2.2.2.2.2.2.2.2.2.2.1 a.1), h17, h18, ((fsF a.2.2.2.2.2.2.2.2.2.2.2.2.2.2.2.1 a.2.2.2.2.2.2.2.2.2.2.2.2.2.2.2.2.1 a.2.2.2.2.2.2.2.2.2.2.2.2.2.2.2.2.2.1 a.2.2.2.2.2.2.2.2.2.2.2.2.2.2.2.2.2.2 a.1 (p1 + 1) ((-1) : Int)).2.1), ((fsF a.2.2.2.2.2.2.2.2.2.2.2.2.2.2.2.1 a.2.2.2.2.2.2.2.2.2.2.2.2.2.2.2.2.1 a.2.2.2.2.2.2.2.2.2.2.2.2.2.2.2.2.2.1 a.2.2.2.2.2.2.2.2.2.2.2.2.2.2.2.2.2.2 a.1 (p1 + 1) ((-1) : Int)).2.2.1), ((fsF a.2.2.2.2.2.2.2.2.2.2.2.2.2.2.2.1 a.2.2.2.2.2.2.2.2.2.2.2.2.2.2.2.2.1 a.2.2.2.2.2.2.2.2.2.2.2.2.2.2.2.2.2.1 a.2.2.2.2.2.2.2.2.2.2.2.2.2.2.2.2.2.2 a.1 (p1 + 1) ((-1) : Int)).2.2.2.1), ((fsF a.2.2.2.2.2.2.2.2.2.2.2.2.2.2.2.1 a.2.2.2.2.2.2.2.2.2.2.2.2.2.2.2.2.1 a.2.2.2.2.2.2.2.2.2.2.2.2.2.2.2.2.2.1 a.2.2.2.2.2.2.2.2.2.2.2.2.2.2.2.2.2.2 a.1 (p1 + 1) ((-1) : Int)).2.2.2.2.1), h23, h24]) else none)
 else (RI (ffu a.1) [h0, (finO (descO (layO ((fsF a.2.2.2.2.2.2.2.2.2.2.2.2.2.2.2.1 a.2.2.2.2.2.2.2.2.2.2.2.2.2.2.2.2.1 a.2.2.2.2.2.2.2.2.2.2.2.2.2.2.2.2.2.1 a.2.2.2.2.2.2.2.2.2.2.2.2.2.2.2.2.2.2 a.1 (p1 + 1) ((-1) : Int)).2.2.2.2.2) (ffu a.1) ((fsF a.2.2.2.2.2.2.2.2.2.2.2.2.2.2.2.1 a.2.2.2.2.2.2.2.2.2.2.2.2.2.2.2.2.1 a.2.2.2.2.2.2.2.2.2.2.2.2.2.2.2.2.2.1 a.2.2.2.2.2.2.2.2.2.2.2.2.2.2.2.2.2.2 a.1 (p1 + 1) ((-1) : Int)).1) p1) (ffu a.1) p2) (ffu a.1)), h2, (keeO a.2.1), (svK a.2.1 0 a.2.2.1 a.1), (svK a.2.1 1 a.2.2.2.1 a.1), (svK a.2.1 2 a.2.2.2.2.1 a.1), (svK a.2.1 3 a.2.2.2.2.2.1 a.1), (svK a.2.1 4 a.2.2.2.2.2.2.1 a.1), (svK a.2.1 5 a.2.2.2.2.2.2.2.1 a.1), (svK a.2.1 6 a.2.2.2.2.2.2.2.2.1 a.1), (svK a.2.1 7 a.2.2.2.2.2.2.2.2.2.1 a.1), (svK a.2.1 8 a.2.2.2.2.2.2.2.2.2.2.1 a.1), (svK a.2.1 9 a.2.2.2.2.2.2.2.2.2.2.2.1 a.1), (svK a.2.1 10 a.2.2.2.2.2.2.2.2.2.2.2.2.1 a.1), (svK a.2.1 11 a.2.2.2.2.2.2.2.2.2.2.2.2.2.1 a.1), (svK a.2.1 12 a.2.2.2.2.2.2.2.2.2.2.2.2.2.2.1 a.1), h17, h18, ((fsF a.2.2.2.2.2.2.2.2.2.2.2.2.2.2.2.1 a.2.2.2.2.2.2.2.2.2.2.2.2.2.2.2.2.1 a.2.2.2.2.2.2.2.2.2.2.2.2.2.2.2.2.2.1 a.2.2.2.2.2.2.2.2.2.2.2.2.2.2.2.2.2.2 a.1 (p1 + 1) ((-1) : Int)).2.1), ((fsF a.2.2.2.2.2.2.2.2.2.2.2.2.2.2.2.1 a.2.2.2.2.2.2.2.2.2.2.2.2.2.2.2.2.1 a.2.2.2.2.2.2.2.2.2.2.2.2.2.2.2.2.2.1 a.2.2.2.2.2.2.2.2.2.2.2.2.2.2.2.2.2.2 a.1 (p1 + 1) ((-1) : Int)).2.2.1), ((fsF a.2.2.2.2.2.2.2.2.2.2.2.2.2.2.2.1 a.2.2.2.2.2.2.2.2.2.2.2.2.2.2.2.2.1 a.2.2.2.2.2.2.2.2.2.2.2.2.2.2.2.2.2.1 a.2.2.2.2.2.2.2.2.2.2.2.2.2.2.2.2.2.2 a.1 (p1 + 1) ((-1) : Int)).2.2.2.1), ((fsF a.2.2.2.2.2.2.2.2.2.2.2.2.2.2.2.1 a.2.2.2.2.2.2.2.2.2.2.2.2.2.2.2.2.1 a.2.2.2.2.2.2.2.2.2.2.2.2.2.2.2.2.2.1 a.2.2.2.2.2.2.2.2.2.2.2.2.2.2.2.2.2.2 a.1 (p1 + 1) ((-1) : Int)).2.2.2.2.1), h23, h24])) else none) else none))))
set_option maxRecDepth 100000 in
set_option maxHeartbeats 4000000 in
theorem rq_X7_make_0 (p1 : Int) (p2 : Int) (h0 : Ob) (h2 : Ob) (h17 : Ob) (h18 : Ob) (h23 : Ob) (h24 : Ob) (a : Ob × Ob × Ob × Ob × Ob × Ob × Ob × Ob × Ob × Ob × Ob × Ob × Ob × Ob × Ob × Ob × Ob × Ob × Ob) : rg_X7_make_0 (en_X7_make_0 p1 p2 h0 h2 h17 h18 h23 h24 a) = mg_X7_make_0 p1 p2 h0 h2 h17 h18 h23 h24 a := rfl
set_option maxRecDepth 100000 in
set_option maxHeartbeats 4000000 in
theorem sg_X7_make_0 {X : XDyn} {r0 : Rt} (C : XO X mX7_make) : XS X mX7_make r0 0 (rg_X7_make_0) := by
 unfold rg_X7_make_0
 exact s_aload_n (pc := 0) C dX7_make_0 rfl <|
    s_get (pc := 1) C (ci := 7) (kf := 0) rfl inX7 (by decide) wd_312 dX7_make_1 <|
    s_callV (pc := 4) C ct_X3_firstUnusedHandle (n := 1) (rk := 1) (mp := [1]) ⟨rfl, by decide, rfl⟩ (ci := 3) rfl rfl (by decide) (by decide) yi_X3_firstUnusedHandle (by decide) wd_346 wd_347 wd_348 wd_74 wd_349 dX7_make_4 <|
    s_istore_n (pc := 7) C dX7_make_7 rfl <|
    s_iload_n (pc := 8) C dX7_make_8 rfl <|
    s_callS (pc := 9) C ct_X7_isSize (n := 1) (rk := 1) (mp := []) ⟨rfl, by decide, rfl⟩ (by decide) (by decide) ⟨rfl, yi_X7_isSize⟩ wd_357 wd_358 wd_73 wd_359 dX7_make_9 <|
    s_if_eq (pc := 12) C dX7_make_12 (by decide) (s_iconst (pc := 30) C dX7_make_30 <|
    s_ireturn (pc := 31) C rfl dX7_make_31)
    (s_iload_n (pc := 15) C dX7_make_15 rfl <|
    s_if_lt (pc := 16) C dX7_make_16 (by decide) (s_iconst (pc := 30) C dX7_make_30 <|
    s_ireturn (pc := 31) C rfl dX7_make_31)
    (s_iload_n (pc := 19) C dX7_make_19 rfl <|
    s_bipush (pc := 20) C dX7_make_20 (by decide) <|
    s_icmp_gt (pc := 22) C dX7_make_22 (by decide) (s_iconst (pc := 30) C dX7_make_30 <|
    s_ireturn (pc := 31) C rfl dX7_make_31)
    (s_iload_n (pc := 25) C dX7_make_25 rfl <|
    s_iconst (pc := 26) C dX7_make_26 <|
    s_icmp_ne (pc := 27) C dX7_make_27 (by decide) (s_aload_n (pc := 32) C dX7_make_32 rfl <|
    s_get (pc := 33) C (ci := 7) (kf := 2) rfl inX7 (by decide) wd_314 dX7_make_33 <|
    s_aload_n (pc := 36) C dX7_make_36 rfl <|
    s_get (pc := 37) C (ci := 7) (kf := 0) rfl inX7 (by decide) wd_312 dX7_make_37 <|
    s_callVg (pc := 40) C ct_X5_save (n := 2) (rk := 0) (mp := [3, 4, 5, 6, 7, 8, 9, 10, 11, 12, 13, 14, 15, 16, 1]) ⟨rfl, by decide, rfl⟩ (ci := 5) rfl rfl (by decide) (by decide) yi_X5_save (by decide) wd_360 wd_361 wd_362 wd_75 wd_363 dX7_make_40 <|
    s_aload_n (pc := 43) C dX7_make_43 rfl <|
    s_get (pc := 44) C (ci := 7) (kf := 5) rfl inX7 (by decide) wd_317 dX7_make_44 <|
    s_aload_n (pc := 47) C dX7_make_47 rfl <|
    s_get (pc := 48) C (ci := 7) (kf := 0) rfl inX7 (by decide) wd_312 dX7_make_48 <|
    s_iload_n (pc := 51) C dX7_make_51 rfl <|
    s_iconst (pc := 52) C dX7_make_52 <|
    s_iadd (pc := 53) C dX7_make_53 <|
    s_iconst (pc := 54) C dX7_make_54 <|
    s_callVg (pc := 55) C ct_X2_seek (n := 4) (rk := 1) (mp := [19, 20, 21, 22, 1]) ⟨rfl, by decide, rfl⟩ (ci := 2) rfl rfl (by decide) (by decide) yi_X2_seek (by decide) wd_378 wd_379 wd_380 wd_78 wd_381 dX7_make_55 <|
    s_istore (pc := 58) C dX7_make_58 <|
    s_iload (pc := 60) C dX7_make_60 <|
    s_iconst (pc := 62) C dX7_make_62 <|
    s_icmp_ne (pc := 63) C dX7_make_63 (by decide) (s_aload_n (pc := 80) C dX7_make_80 rfl <|
    s_get (pc := 81) C (ci := 7) (kf := 0) rfl inX7 (by decide) wd_312 dX7_make_81 <|
    s_iload_n (pc := 84) C dX7_make_84 rfl <|
    s_iload (pc := 85) C dX7_make_85 <|
    s_iload_n (pc := 87) C dX7_make_87 rfl <|
    s_callV (pc := 88) C ct_X3_layNew (n := 4) (rk := 0) (mp := [1]) ⟨rfl, by decide, rfl⟩ (ci := 3) rfl rfl (by decide) (by decide) yi_X3_layNew (by decide) wd_530 wd_531 wd_532 wd_74 wd_533 dX7_make_88 <|
    s_aload_n (pc := 91) C dX7_make_91 rfl <|
    s_get (pc := 92) C (ci := 7) (kf := 0) rfl inX7 (by decide) wd_312 dX7_make_92 <|
    s_iload_n (pc := 95) C dX7_make_95 rfl <|
    s_iload_n (pc := 96) C dX7_make_96 rfl <|
    s_callV (pc := 97) C ct_X3_describe (n := 3) (rk := 0) (mp := [1]) ⟨rfl, by decide, rfl⟩ (ci := 3) rfl rfl (by decide) (by decide) yi_X3_describe (by decide) wd_538 wd_539 wd_540 wd_74 wd_541 dX7_make_97 <|
    s_aload_n (pc := 100) C dX7_make_100 rfl <|
    s_iload_n (pc := 101) C dX7_make_101 rfl <|
    s_callV (pc := 102) C ct_X7_finish (n := 2) (rk := 0) (mp := [0, 1, 2, 3, 4, 5, 6, 7, 8, 9, 10, 11, 12, 13, 14, 15, 16, 17, 18, 19, 20, 21, 22, 23, 24]) ⟨rfl, by decide, rfl⟩ (ci := 7) rfl rfl (by decide) (by decide) yi_X7_finish (by decide) wd_542 wd_544 wd_10 wd_73 wd_545 dX7_make_102 <|
    s_iload_n (pc := 105) C dX7_make_105 rfl <|
    s_ireturn (pc := 106) C rfl dX7_make_106)
    (s_aload_n (pc := 66) C dX7_make_66 rfl <|
    s_get (pc := 67) C (ci := 7) (kf := 2) rfl inX7 (by decide) wd_314 dX7_make_67 <|
    s_aload_n (pc := 70) C dX7_make_70 rfl <|
    s_get (pc := 71) C (ci := 7) (kf := 0) rfl inX7 (by decide) wd_312 dX7_make_71 <|
    s_callVg (pc := 74) C ct_X5_putBack (n := 2) (rk := 0) (mp := [3, 4, 5, 6, 7, 8, 9, 10, 11, 12, 13, 14, 15, 16, 1]) ⟨rfl, by decide, rfl⟩ (ci := 5) rfl rfl (by decide) (by decide) yi_X5_putBack (by decide) wd_526 wd_527 wd_528 wd_75 wd_529 dX7_make_74 <|
    s_bipush (pc := 77) C dX7_make_77 (by decide) <|
    s_ireturn (pc := 79) C rfl dX7_make_79))
    (s_iconst (pc := 30) C dX7_make_30 <|
    s_ireturn (pc := 31) C rfl dX7_make_31))))
noncomputable def rw_X7_make_0 : XK := rg_X7_make_0
noncomputable def md_X7_make_0 (p1 : Int) (p2 : Int) (h0 : Ob) (h2 : Ob) (h17 : Ob) (h18 : Ob) (h23 : Ob) (h24 : Ob) : Ob × Ob × Ob × Ob × Ob × Ob × Ob × Ob × Ob × Ob × Ob × Ob × Ob × Ob × Ob × Ob × Ob × Ob × Ob → Option Rt := mg_X7_make_0 p1 p2 h0 h2 h17 h18 h23 h24
theorem eq_X7_make_0 (p1 : Int) (p2 : Int) (h0 : Ob) (h2 : Ob) (h17 : Ob) (h18 : Ob) (h23 : Ob) (h24 : Ob) (a : Ob × Ob × Ob × Ob × Ob × Ob × Ob × Ob × Ob × Ob × Ob × Ob × Ob × Ob × Ob × Ob × Ob × Ob × Ob) : rw_X7_make_0 (en_X7_make_0 p1 p2 h0 h2 h17 h18 h23 h24 a) = md_X7_make_0 p1 p2 h0 h2 h17 h18 h23 h24 a :=
 rq_X7_make_0 p1 p2 h0 h2 h17 h18 h23 h24 a
theorem sd_X7_make_0 {X : XDyn} {r0 : Rt} (C : XO X mX7_make) : XS X mX7_make r0 0 (rw_X7_make_0) := sg_X7_make_0 C
theorem ctr_X7_make : XCt yX7_make mX7_make (xF mX7_make (rw_X7_make_0)) := xMet (by decide +kernel) rfl (fun _ _ C => sd_X7_make_0 C)
theorem eqf_X7_make (p1 : Int) (p2 : Int) (h0 : Ob) (h1 : Ob) (h2 : Ob) (h3 : Ob) (h4 : Ob) (h5 : Ob) (h6 : Ob) (h7 : Ob) (h8 : Ob) (h9 : Ob) (h10 : Ob) (h11 : Ob) (h12 : Ob) (h13 : Ob) (h14 : Ob) (h15 : Ob) (h16 : Ob) (h17 : Ob) (h18 : Ob) (h19 : Ob) (h20 : Ob) (h21 : Ob) (h22 : Ob) (h23 : Ob) (h24 : Ob) : xF mX7_make (rw_X7_make_0) [.inr (.inl (0, 0)), .inl p1, .inl p2] [h0, h1, h2, h3, h4, h5, h6, h7, h8, h9, h10, h11, h12, h13, h14, h15, h16, h17, h18, h19, h20, h21, h22, h23, h24] = md_X7_make_0 p1 p2 h0 h2 h17 h18 h23 h24 (h1, h3, h4, h5, h6, h7, h8, h9, h10, h11, h12, h13, h14, h15, h16, h19, h20, h21, h22) := eq_X7_make_0 p1 p2 h0 h2 h17 h18 h23 h24 (h1, h3, h4, h5, h6, h7, h8, h9, h10, h11, h12, h13, h14, h15, h16, h19, h20, h21, h22)
theorem yi_X7_make : yX7_make.cls = RX7 ∧ yX7_make.cls ≠ "java/lang/invoke/MethodHandle" ∧ yX7_make.cls ≠ "java/lang/invoke/VarHandle" ∧ (parseMethodDescriptor yX7_make.desc).map (fun d => d.parameters.length) = some 2 := ⟨rfl, by decide +kernel, by decide +kernel, by decide +kernel⟩
theorem dX7_remake_0 : decode cX7_remake 0 = .ok (.aload_n 0, 1) := by decide +kernel
theorem dX7_remake_1 : decode cX7_remake 1 = .ok (.getfield 12, 3) := by decide +kernel
theorem dX7_remake_4 : decode cX7_remake 4 = .ok (.iload_n 1, 1) := by decide +kernel
theorem dX7_remake_5 : decode cX7_remake 5 = .ok (.invokevirtual 138, 3) := by decide +kernel
theorem dX7_remake_8 : decode cX7_remake 8 = .ok (.iconst 2, 1) := by decide +kernel
theorem dX7_remake_9 : decode cX7_remake 9 = .ok (.if_icmp .eq 5, 3) := by decide +kernel
theorem dX7_remake_12 : decode cX7_remake 12 = .ok (.iconst (-1), 1) := by decide +kernel
theorem dX7_remake_13 : decode cX7_remake 13 = .ok (.ireturn, 1) := by decide +kernel
theorem dX7_remake_14 : decode cX7_remake 14 = .ok (.aload_n 0, 1) := by decide +kernel
theorem dX7_remake_15 : decode cX7_remake 15 = .ok (.getfield 22, 3) := by decide +kernel
theorem dX7_remake_18 : decode cX7_remake 18 = .ok (.aload_n 0, 1) := by decide +kernel
theorem dX7_remake_19 : decode cX7_remake 19 = .ok (.getfield 12, 3) := by decide +kernel
theorem dX7_remake_22 : decode cX7_remake 22 = .ok (.invokevirtual 69, 3) := by decide +kernel
theorem dX7_remake_25 : decode cX7_remake 25 = .ok (.aload_n 0, 1) := by decide +kernel
theorem dX7_remake_26 : decode cX7_remake 26 = .ok (.getfield 43, 3) := by decide +kernel
theorem dX7_remake_29 : decode cX7_remake 29 = .ok (.aload_n 0, 1) := by decide +kernel
theorem dX7_remake_30 : decode cX7_remake 30 = .ok (.getfield 12, 3) := by decide +kernel
theorem dX7_remake_33 : decode cX7_remake 33 = .ok (.aload_n 0, 1) := by decide +kernel
theorem dX7_remake_34 : decode cX7_remake 34 = .ok (.getfield 12, 3) := by decide +kernel
theorem dX7_remake_37 : decode cX7_remake 37 = .ok (.getfield 132, 3) := by decide +kernel
theorem dX7_remake_40 : decode cX7_remake 40 = .ok (.iload_n 1, 1) := by decide +kernel
theorem dX7_remake_41 : decode cX7_remake 41 = .ok (.iaload, 1) := by decide +kernel
theorem dX7_remake_42 : decode cX7_remake 42 = .ok (.iconst 1, 1) := by decide +kernel
theorem dX7_remake_43 : decode cX7_remake 43 = .ok (.iadd, 1) := by decide +kernel
theorem dX7_remake_44 : decode cX7_remake 44 = .ok (.iconst (-1), 1) := by decide +kernel
theorem dX7_remake_45 : decode cX7_remake 45 = .ok (.invokevirtual 73, 3) := by decide +kernel
theorem dX7_remake_48 : decode cX7_remake 48 = .ok (.istore_n 2, 1) := by decide +kernel
theorem dX7_remake_49 : decode cX7_remake 49 = .ok (.iload_n 2, 1) := by decide +kernel
theorem dX7_remake_50 : decode cX7_remake 50 = .ok (.iconst (-1), 1) := by decide +kernel
theorem dX7_remake_51 : decode cX7_remake 51 = .ok (.if_icmp .ne 17, 3) := by decide +kernel
theorem dX7_remake_54 : decode cX7_remake 54 = .ok (.aload_n 0, 1) := by decide +kernel
theorem dX7_remake_55 : decode cX7_remake 55 = .ok (.getfield 22, 3) := by decide +kernel
theorem dX7_remake_58 : decode cX7_remake 58 = .ok (.aload_n 0, 1) := by decide +kernel
theorem dX7_remake_59 : decode cX7_remake 59 = .ok (.getfield 12, 3) := by decide +kernel
theorem dX7_remake_62 : decode cX7_remake 62 = .ok (.invokevirtual 77, 3) := by decide +kernel
theorem dX7_remake_65 : decode cX7_remake 65 = .ok (.bipush (-2), 2) := by decide +kernel
theorem dX7_remake_67 : decode cX7_remake 67 = .ok (.ireturn, 1) := by decide +kernel
theorem dX7_remake_68 : decode cX7_remake 68 = .ok (.aload_n 0, 1) := by decide +kernel
theorem dX7_remake_69 : decode cX7_remake 69 = .ok (.getfield 12, 3) := by decide +kernel
theorem dX7_remake_72 : decode cX7_remake 72 = .ok (.iload_n 1, 1) := by decide +kernel
theorem dX7_remake_73 : decode cX7_remake 73 = .ok (.iload_n 2, 1) := by decide +kernel
theorem dX7_remake_74 : decode cX7_remake 74 = .ok (.aload_n 0, 1) := by decide +kernel
theorem dX7_remake_75 : decode cX7_remake 75 = .ok (.getfield 12, 3) := by decide +kernel
theorem dX7_remake_78 : decode cX7_remake 78 = .ok (.getfield 132, 3) := by decide +kernel
theorem dX7_remake_81 : decode cX7_remake 81 = .ok (.iload_n 1, 1) := by decide +kernel
theorem dX7_remake_82 : decode cX7_remake 82 = .ok (.iaload, 1) := by decide +kernel
theorem dX7_remake_83 : decode cX7_remake 83 = .ok (.invokevirtual 80, 3) := by decide +kernel
theorem dX7_remake_86 : decode cX7_remake 86 = .ok (.aload_n 0, 1) := by decide +kernel
theorem dX7_remake_87 : decode cX7_remake 87 = .ok (.getfield 12, 3) := by decide +kernel
theorem dX7_remake_90 : decode cX7_remake 90 = .ok (.dup, 1) := by decide +kernel
theorem dX7_remake_91 : decode cX7_remake 91 = .ok (.getfield 142, 3) := by decide +kernel
theorem dX7_remake_94 : decode cX7_remake 94 = .ok (.aload_n 0, 1) := by decide +kernel
theorem dX7_remake_95 : decode cX7_remake 95 = .ok (.getfield 12, 3) := by decide +kernel
theorem dX7_remake_98 : decode cX7_remake 98 = .ok (.getfield 145, 3) := by decide +kernel
theorem dX7_remake_101 : decode cX7_remake 101 = .ok (.iload_n 1, 1) := by decide +kernel
theorem dX7_remake_102 : decode cX7_remake 102 = .ok (.iaload, 1) := by decide +kernel
theorem dX7_remake_103 : decode cX7_remake 103 = .ok (.iadd, 1) := by decide +kernel
theorem dX7_remake_104 : decode cX7_remake 104 = .ok (.putfield 142, 3) := by decide +kernel
theorem dX7_remake_107 : decode cX7_remake 107 = .ok (.aload_n 0, 1) := by decide +kernel
theorem dX7_remake_108 : decode cX7_remake 108 = .ok (.iload_n 1, 1) := by decide +kernel
theorem dX7_remake_109 : decode cX7_remake 109 = .ok (.invokevirtual 87, 3) := by decide +kernel
theorem dX7_remake_112 : decode cX7_remake 112 = .ok (.iload_n 2, 1) := by decide +kernel
theorem dX7_remake_113 : decode cX7_remake 113 = .ok (.ireturn, 1) := by decide +kernel
abbrev mX7_remake : XM := (cX7_remake, 3, RX7, (some .int), shw_M, 14)
noncomputable def rg_X7_remake_0 : XK :=
 o_aload 0 <|
 o_get shw_M 7 0 <|
 o_iload 1 <|
 o_callV 2 1 [1] f_X3_kindOf <|
 o_iconst 2 <|
 o_icmp_eq (o_aload 0 <|
 o_get shw_M 7 2 <|
 o_aload 0 <|
 o_get shw_M 7 0 <|
 o_callVg 2 0 [3, 4, 5, 6, 7, 8, 9, 10, 11, 12, 13, 14, 15, 16, 1] g_X5_save v_X5_save <|
 o_aload 0 <|
 o_get shw_M 7 5 <|
 o_aload 0 <|
 o_get shw_M 7 0 <|
 o_aload 0 <|
 o_get shw_M 7 0 <|
 o_get shw_M 3 1 <|
 o_iload 1 <|
 o_iald shw_M <|
 o_iconst 1 <|
 o_iadd <|
 o_iconst (-1) <|
 o_callVg 4 1 [19, 20, 21, 22, 1] g_X2_seek v_X2_seek <|
 o_istore 2 <|
 o_iload 2 <|
 o_iconst (-1) <|
 o_icmp_ne (o_aload 0 <|
 o_get shw_M 7 0 <|
 o_iload 1 <|
 o_iload 2 <|
 o_aload 0 <|
 o_get shw_M 7 0 <|
 o_get shw_M 3 1 <|
 o_iload 1 <|
 o_iald shw_M <|
 o_callV 4 0 [1] f_X3_layNew <|
 o_aload 0 <|
 o_get shw_M 7 0 <|
 o_dup <|
 o_get shw_M 3 13 <|
 o_aload 0 <|
 o_get shw_M 7 0 <|
 o_get shw_M 3 5 <|
 o_iload 1 <|
 o_iald shw_M <|
 o_iadd <|
 o_put shw_M 3 13 false <|
 o_aload 0 <|
 o_iload 1 <|
 o_callV 2 0 [0, 1, 2, 3, 4, 5, 6, 7, 8, 9, 10, 11, 12, 13, 14, 15, 16, 17, 18, 19, 20, 21, 22, 23, 24] f_X7_finish <|
 o_iload 2 <|
 o_ireturn)
 (o_aload 0 <|
 o_get shw_M 7 2 <|
 o_aload 0 <|
 o_get shw_M 7 0 <|
 o_callVg 2 0 [3, 4, 5, 6, 7, 8, 9, 10, 11, 12, 13, 14, 15, 16, 1] g_X5_putBack v_X5_putBack <|
 o_iconst (-2) <|
 o_ireturn))
 (o_iconst (-1) <|
 o_ireturn)
def en_X7_remake_0 (p1 : Int) (h0 : Ob) (h2 : Ob) (h17 : Ob) (h18 : Ob) (h23 : Ob) (h24 : Ob) (a : Ob × Ob × Ob × Ob × Ob × Ob × Ob × Ob × Ob × Ob × Ob × Ob × Ob × Ob × Ob × Ob × Ob × Ob × Ob) : XSt := ([some (.inr (.inl (0, 0))), some (.inl p1), none], [], [h0, a.1, h2, a.2.1, a.2.2.1, a.2.2.2.1, a.2.2.2.2.1, a.2.2.2.2.2.1, a.2.2.2.2.2.2.1, a.2.2.2.2.2.2.2.1, a.2.2.2.2.2.2.2.2.1, a.2.2.2.2.2.2.2.2.2.1, a.2.2.2.2.2.2.2.2.2.2.1, a.2.2.2.2.2.2.2.2.2.2.2.1, a.2.2.2.2.2.2.2.2.2.2.2.2.1, a.2.2.2.2.2.2.2.2.2.2.2.2.2.1, a.2.2.2.2.2.2.2.2.2.2.2.2.2.2.1, h17, h18, a.2.2.2.2.2.2.2.2.2.2.2.2.2.2.2.1, a.2.2.2.2.2.2.2.2.2.2.2.2.2.2.2.2.1, a.2.2.2.2.2.2.2.2.2.2.2.2.2.2.2.2.2.1, a.2.2.2.2.2.2.2.2.2.2.2.2.2.2.2.2.2.2, h23, h24])
noncomputable def mg_X7_remake_0 (p1 : Int) (h0 : Ob) (h2 : Ob) (h17 : Ob) (h18 : Ob) (h23 : Ob) (h24 : Ob) (a : Ob × Ob × Ob × Ob × Ob × Ob × Ob × Ob × Ob × Ob × Ob × Ob × Ob × Ob × Ob × Ob × Ob × Ob × Ob) : Option Rt :=
 if xw (knd a.1 p1) = 2 then (if pd (PG a.2.1) then (
 if xin p1 11 then (
 if pd (LW a.1 ∧ Lst a.1 ∧ 1 ≤ ((a.1 2 (xw p1).toNat) + 1) ∧ ((a.1 2 (xw p1).toNat) + 1) ≤ 200) then (
 if xw ((fsF a.2.2.2.2.2.2.2.2.2.2.2.2.2.2.2.1 a.2.2.2.2.2.2.2.2.2.2.2.2.2.2.2.2.1 a.2.2.2.2.2.2.2.2.2.2.2.2.2.2.2.2.2.1 a.2.2.2.2.2.2.2.2.2.2.2.2.2.2.2.2.2.2 a.1 ((a.1 2 (xw p1).toNat) + 1) ((-1) : Int)).1) = (-1) then (if pd (PG a.2.1) then (
 RI (-2) [h0, (cpyO ((fsF a.2.2.2.2.2.2.2.2.2.2.2.2.2.2.2.1 a.2.2.2.2.2.2.2.2.2.2.2.2.2.2.2.2.1 a.2.2.2.2.2.2.2.2.2.2.2.2.2.2.2.2.2.1 a.2.2.2.2.2.2.2.2.2.2.2.2.2.2.2.2.2.2 a.1 ((a.1 2 (xw p1).toNat) + 1) ((-1) : Int)).2.2.2.2.2) (kpk a.2.1 0 [(svK a.2.1 0 a.2.2.1 a.1), (svK a.2.1 1 a.2.2.2.1 a.1), (svK a.2.1 2 a.2.2.2.2.1 a.1), (svK a.2.1 3 a.2.2.2.2.2.1 a.1), (svK a.2.1 4 a.2.2.2.2.2.2.1 a.1), (svK a.2.1 5 a.2.2.2.2.2.2.2.1 a.1), (svK a.2.1 6 a.2.2.2.2.2.2.2.2.1 a.1), (svK a.2.1 7 a.2.2.2.2.2.2.2.2.2.1 a.1), (svK a.2.1 8 a.2.2.2.2.2.2.2.2.2.2.1 a.1), (svK a.2.1 9 a.2.2.2.2.2.2.2.2.2.2.2.1 a.1), (svK a.2.1 10 a.2.2.2.2.2.2.2.2.2.2.2.2.1 a.1), (svK a.2.1 11 a.2.2.2.2.2.2.2.2.2.2.2.2.2.1 a.1), (svK a.2.1 12 a.2.2.2.2.2.2.2.2.2.2.2.2.2.2.1 a.1)])), h2, a.2.1, (svK a.2.1 0 a.2.2.1 a.1), (svK a.2.1 1 a.2.2.2.1 a.1), (svK a.2.1 2 a.2.2.2.2.1 a.1), (svK a.2.1 3 a.2.2.2.2.2.1 a.1), (svK a.2.1 4 a.2.2.2.2.2.2.1 a.1), (svK a.2.1 5 a.2.2.2.2.2.2.2.1 a.1), (svK a.2.1 6 a.2.2.2.2.2.2.2.2.1 a.1), (svK a.2.1 7 a.2.2.2.2.2.2.2.2.2.1 a.1), (svK a.2.1 8 a.2.2.2.2.2.2.2.2.2.2.1 a.1), (svK a.2.1 9 a.2.2.2.2.2.2.2.2.2.2.2.1 a.1), (svK a.2.1 10 a.2.2.2.2.2.2.2.2.2.2.2.2.1 a.1), (svK a.2.1 11 a.2.2.2.2.2.2.2.2.2.2.2.2.2.1 a.1), (svK a.2.1 12 a.2.2.2.2.2.2.2.2.2.2.2.2.2.2.1 a.1), h17, h18, ((fsF a.2.2.2.2.2.2.2.2.2.2.2.2.2.2.2.1 a.2.2.2.2.2.2.2.2.2.2.2.2.2.2.2.2.1 a.2.2.2.2.2.2.2.2.2.2.2.2.2.2.2.2.2.1 a.2.2.2.2.2.2.2.2.2.2.2.2.2.2.2.2.2.2 a.1 ((a.1 2 (xw p1).toNat) + 1) ((-1) : Int)).2.1), ((fsF a.2.2.2.2.2.2.2.2.2.2.2.2.2.2.2.1 a.2.2.2.2.2.2.2.2.2.2.2.2.2.2.2.2.1 a.2.2.2.2.2.2.2.2.2.2.2.2.2.2.2.2.2.1 a.2.2.2.2.2.2.2.2.2.2.2.2.2.2.2.2.2.2 a.1 ((a.1 2 (xw p1).toNat) + 1) ((-1) : Int)).2.2.1), ((fsF a.2.2.2.2.2.2.2.2.2.2.2.2.2.2.2.1 a.2.2.2.2.2.2.2.2.2.2.2.2.2.2.2.2.1 a.2.2.2.2.2.2.2.2.2.2.2.2.2.2.2.2.2.1 a.2.2.2.2.2.2.2.2.2.2.2.2.2.2.2.2.2.2 a.1 ((a.1 2 (xw p1).toNat) + 1) ((-1) : Int)).2.2.2.1), ((fsF a.2.2.2.2.2.2.2.2.2.2.2.2.2.2.2.1 a.2.2.2.2.2.2.2.2.2.2.2.2.2.2.2.2.1 a.2.2.2.2.2.2.2.2.2.2.2.2.2.2.2.2.2.1 a.2.2.2.2.2.2.2.2.2.2.2.2.2.2.2.2.2.2 a.1 ((a.1 2 (xw p1).toNat) + 1) ((-1) : Int)).2.2.2.2.1), h23, h24]) else none)
 else (if xin p1 11 then (
 if xin p1 8 then (
 RI ((fsF a.2.2.2.2.2.2.2.2.2.2.2.2.2.2.2.1 a.2.2.2.2.2.2.2.2.2.2.2.2.2.2.2.2.1 a.2.2.2.2.2.2.2.2.2.2.2.2.2.2.2.2.2.1 a.2.2.2.2.2.2.2.2.2.2.2.2.2.2.2.2.2.2 a.1 ((a.1 2 (xw p1).toNat) + 1) ((-1) : Int)).1) [h0, (finO (xset (layO ((fsF a.2.2.2.2.2.2.2.2.2.2.2.2.2.2.2.1 a.2.2.2.2.2.2.2.2.2.2.2.2.2.2.2.2.1 a.2.2.2.2.2.2.2.2.2.2.2.2.2.2.2.2.2.1 a.2.2.2.2.2.2.2.2.2.2.2.2.2.2.2.2.2.2 a.1 ((a.1 2 (xw p1).toNat) + 1) ((-1) : Int)).2.2.2.2.2) p1 ((fsF a.2.2.2.2.2.2.2.2.2.2.2.2.2.2.2.1 a.2.2.2.2.2.2.2.2.2.2.2.2.2.2.2.2.1 a.2.2.2.2.2.2.2.2.2.2.2.2.2.2.2.2.2.1 a.2.2.2.2.2.2.2.2.2.2.2.2.2.2.2.2.2.2 a.1 ((a.1 2 (xw p1).toNat) + 1) ((-1) : Int)).1) (((fsF a.2.2.2.2.2.2.2.2.2.2.2.2.2.2.2.1 a.2.2.2.2.2.2.2.2.2.2.2.2.2.2.2.2.1 a.2.2.2.2.2.2.2.2.2.2.2.2.2.2.2.2.2.1 a.2.2.2.2.2.2.2.2.2.2.2.2.2.2.2.2.2.2 a.1 ((a.1 2 (xw p1).toNat) + 1) ((-1) : Int)).2.2.2.2.2) 2 (xw p1).toNat)) 0 13 (((layO ((fsF a.2.2.2.2.2.2.2.2.2.2.2.2.2.2.2.1 a.2.2.2.2.2.2.2.2.2.2.2.2.2.2.2.2.1 a.2.2.2.2.2.2.2.2.2.2.2.2.2.2.2.2.2.1 a.2.2.2.2.2.2.2.2.2.2.2.2.2.2.2.2.2.2 a.1 ((a.1 2 (xw p1).toNat) + 1) ((-1) : Int)).2.2.2.2.2) p1 ((fsF a.2.2.2.2.2.2.2.2.2.2.2.2.2.2.2.1 a.2.2.2.2.2.2.2.2.2.2.2.2.2.2.2.2.1 a.2.2.2.2.2.2.2.2.2.2.2.2.2.2.2.2.2.1 a.2.2.2.2.2.2.2.2.2.2.2.2.2.2.2.2.2.2 a.1 ((a.1 2 (xw p1).toNat) + 1) ((-1) : Int)).1) (((fsF a.2.2.2.2.2.2.2.2.2.2.2.2.2.2.2.1 a.2.2.2.2.2.2.2.2.2.2.2.2.2.2.2.2.1 a.2.2.2.2.2.2.2.2.2.2.2.2.2.2.2.2.2.1 a.2.2.2.2.2.2.2.2.2.2.2.2.2.2.2.2.2.2 a.1 ((a.1 2 (xw p1).toNat) + 1) ((-1) : Int)).2.2.2.2.2) 2 (xw p1).toNat)) 0 13) + ((layO ((fsF a.2.2.2.2.2.2.2.2.2.2.2.2.2.2.2.1 a.2.2.2.2.2.2.2.2.2.2.2.2.2.2.2.2.1 a.2.2.2.2.2.2.2.2.2.2.2.2.2.2.2.2.2.1 a.2.2.2.2.2.2.2.2.2.2.2.2.2.2.2.2.2.2 a.1 ((a.1 2 (xw p1).toNat) + 1) ((-1) : Int)).2.2.2.2.2) p1 ((fsF a.2.2.2.2.2.2.2.2.2.2.2.2.2.2.2.1 a.2.2.2.2.2.2.2.2.2.2.2.2.2.2.2.2.1 a.2.2.2.2.2.2.2.2.2.2.2.2.2.2.2.2.2.1 a.2.2.2.2.2.2.2.2.2.2.2.2.2.2.2.2.2.2 a.1 ((a.1 2 (xw p1).toNat) + 1) ((-1) : Int)).1) (((fsF a.2.2.2.2.2.2.2.2.2.2.2.2.2.2.2.1 a.2.2.2.2.2.2.2.2.2.2.2.2.2.2.2.2.1 a.2.2.2.2.2.2.2.2.2.2.2.2.2.2.2.2.2.1 a.2.2.2.2.2.2.2.2.2.2.2.2.2.2.2.2.2.2 a.1 ((a.1 2 (xw p1).toNat) + 1) ((-1) : Int)).2.2.2.2.2) 2 (xw p1).toNat)) 6 (xw p1).toNat))) p1), h2, (keeO a.2.1), (svK a.2.1 0 a.2.2.1 a.1), (svK a.2.1 1 a.2.2.2.1 a.1), (svK a.2.1 2 a.2.2.2.2.1 a.1), (svK a.2.1 3 a.2.2.2.2.2.1 a.1), (svK a.2.1 4 a.2.2.2.2.2.2.1 a.1), (svK a.2.1 5 a.2.2.2.2.2.2.2.1 a.1), (svK a.2.1 6 a.2.2.2.2.2.2.2.2.1 a.1), (svK a.2.1 7 a.2.2.2.2.2.2.2.2.2.1 a.1), (svK a.2.1 8 a.2.2.2.2.2.2.2.2.2.2.1 a.1), (svK a.2.1 9 a.2.2.2.2.2.2.2.2.2.2.2.1 a.1), (svK a.2.1 10 a.2.2.2.2.2.2.2.2.2.2.2.2.1 a.1), (svK a.2.1 11 a.2.2.2.2.2.2.2.2.2.2.2.2.2.1 a.1), (svK a.2.1 12 a.2.2.2.2.2.2.2.2.2.2.2.2.2.2.1 a.1), h17, h18, ((fsF a.2.2.2.2.2.2.2.2.2.2.2.2.2.2.2.1 a.2.2.2.2.2.2.2.2.2.2.2.2.2.2.2.2.1 a.2.2.2.2.2.2.2.2.2.2.2.2.2.2.2.2.2.1 a.2.2.2.2.2.2.2.2.2.2.2.2.2.2.2.2.2.2 a.1 ((a.1 2 (xw p1).toNat) + 1) ((-1) : Int)).2.1), ((fsF a.2.2.2.2.2.2.2.2.2.2.2.2.2.2.2.1 a.2.2.2.2.2.2.2.2.2.2.2.2.2.2.2.2.1 a.2.2.2.2.2.2.2.2.2.2.2.2.2.2.2.2.2.1 a.2.2.2.2.2.2.2.2.2.2.2.2.2.2.2.2.2.2 a.1 ((a.1 2 (xw p1).toNat) + 1) ((-1) : Int)).2.2.1), ((fsF a.2.2.2.2.2.2.2.2.2.2.2.2.2.2.2.1 a.2.2.2.2.2.2.2.2.2.2.2.2.2.2.2.2.1 a.2.2.2.2.2.2.2.2.2.2.2.2.2.2.2.2.2.1 a.2.2.2.2.2.2.2.2.2.2.2.2.2.2.2.2.2.2 a.1 ((a.1 2 (xw p1).toNat) + 1) ((-1) : Int)).2.2.2.1), ((fsF a.2.2.2.2.2.2.2.2.2.2.2.2.2.2.2.1 a.2.2.2.2.2.2.2.2.2.2.2.2.2.2.2.2.1 a.2.2.2.2.2.2.2.2.2.2.2.2.2.2.2.2.2.1 a.2.2.2.2.2.2.2.2.2.2.2.2.2.2.2.2.2.2 a.1 ((a.1 2 (xw p1).toNat) + 1) ((-1) : Int)).2.2.2.2.1), h23, h24]) else none) else none)) else none) else none) else none)
 else (RI (-1) [h0, a.1, h2, a.2.1, a.2.2.1, a.2.2.2.1, a.2.2.2.2.1, a.2.2.2.2.2.1, a.2.2.2.2.2.2.1, a.2.2.2.2.2.2.2.1, a.2.2.2.2.2.2.2.2.1, a.2.2.2.2.2.2.2.2.2.1, a.2.2.2.2.2.2.2.2.2.2.1, a.2.2.2.2.2.2.2.2.2.2.2.1, a.2.2.2.2.2.2.2.2.2.2.2.2.1, a.2.2.2.2.2.2.2.2.2.2.2.2.2.1, a.2.2.2.2.2.2.2.2.2.2.2.2.2.2.1, h17, h18, a.2.2.2.2.2.2.2.2.2.2.2.2.2.2.2.1, a.2.2.2.2.2.2.2.2.2.2.2.2.2.2.2.2.1, a.2.2.2.2.2.2.2.2.2.2.2.2.2.2.2.2.2.1, a.2.2.2.2.2.2.2.2.2.2.2.2.2.2.2.2.2.2, h23, h24])
set_option maxRecDepth 100000 in
set_option maxHeartbeats 4000000 in
theorem rq_X7_remake_0 (p1 : Int) (h0 : Ob) (h2 : Ob) (h17 : Ob) (h18 : Ob) (h23 : Ob) (h24 : Ob) (a : Ob × Ob × Ob × Ob × Ob × Ob × Ob × Ob × Ob × Ob × Ob × Ob × Ob × Ob × Ob × Ob × Ob × Ob × Ob) : rg_X7_remake_0 (en_X7_remake_0 p1 h0 h2 h17 h18 h23 h24 a) = mg_X7_remake_0 p1 h0 h2 h17 h18 h23 h24 a := rfl
set_option maxRecDepth 100000 in
set_option maxHeartbeats 4000000 in
theorem sg_X7_remake_0 {X : XDyn} {r0 : Rt} (C : XO X mX7_remake) : XS X mX7_remake r0 0 (rg_X7_remake_0) := by
 unfold rg_X7_remake_0
 exact s_aload_n (pc := 0) C dX7_remake_0 rfl <|
    s_get (pc := 1) C (ci := 7) (kf := 0) rfl inX7 (by decide) wd_312 dX7_remake_1 <|
    s_iload_n (pc := 4) C dX7_remake_4 rfl <|
    s_callV (pc := 5) C ct_X3_kindOf (n := 2) (rk := 1) (mp := [1]) ⟨rfl, by decide, rfl⟩ (ci := 3) rfl rfl (by decide) (by decide) yi_X3_kindOf (by decide) wd_634 wd_635 wd_636 wd_74 wd_637 dX7_remake_5 <|
    s_iconst (pc := 8) C dX7_remake_8 <|
    s_icmp_eq (pc := 9) C dX7_remake_9 (by decide) (s_aload_n (pc := 14) C dX7_remake_14 rfl <|
    s_get (pc := 15) C (ci := 7) (kf := 2) rfl inX7 (by decide) wd_314 dX7_remake_15 <|
    s_aload_n (pc := 18) C dX7_remake_18 rfl <|
    s_get (pc := 19) C (ci := 7) (kf := 0) rfl inX7 (by decide) wd_312 dX7_remake_19 <|
    s_callVg (pc := 22) C ct_X5_save (n := 2) (rk := 0) (mp := [3, 4, 5, 6, 7, 8, 9, 10, 11, 12, 13, 14, 15, 16, 1]) ⟨rfl, by decide, rfl⟩ (ci := 5) rfl rfl (by decide) (by decide) yi_X5_save (by decide) wd_360 wd_361 wd_362 wd_75 wd_363 dX7_remake_22 <|
    s_aload_n (pc := 25) C dX7_remake_25 rfl <|
    s_get (pc := 26) C (ci := 7) (kf := 5) rfl inX7 (by decide) wd_317 dX7_remake_26 <|
    s_aload_n (pc := 29) C dX7_remake_29 rfl <|
    s_get (pc := 30) C (ci := 7) (kf := 0) rfl inX7 (by decide) wd_312 dX7_remake_30 <|
    s_aload_n (pc := 33) C dX7_remake_33 rfl <|
    s_get (pc := 34) C (ci := 7) (kf := 0) rfl inX7 (by decide) wd_312 dX7_remake_34 <|
    s_get (pc := 37) C (ci := 3) (kf := 1) rfl inX3 (by decide) wd_110 dX7_remake_37 <|
    s_iload_n (pc := 40) C dX7_remake_40 rfl <|
    s_iald (pc := 41) C dX7_remake_41 <|
    s_iconst (pc := 42) C dX7_remake_42 <|
    s_iadd (pc := 43) C dX7_remake_43 <|
    s_iconst (pc := 44) C dX7_remake_44 <|
    s_callVg (pc := 45) C ct_X2_seek (n := 4) (rk := 1) (mp := [19, 20, 21, 22, 1]) ⟨rfl, by decide, rfl⟩ (ci := 2) rfl rfl (by decide) (by decide) yi_X2_seek (by decide) wd_378 wd_379 wd_380 wd_78 wd_381 dX7_remake_45 <|
    s_istore_n (pc := 48) C dX7_remake_48 rfl <|
    s_iload_n (pc := 49) C dX7_remake_49 rfl <|
    s_iconst (pc := 50) C dX7_remake_50 <|
    s_icmp_ne (pc := 51) C dX7_remake_51 (by decide) (s_aload_n (pc := 68) C dX7_remake_68 rfl <|
    s_get (pc := 69) C (ci := 7) (kf := 0) rfl inX7 (by decide) wd_312 dX7_remake_69 <|
    s_iload_n (pc := 72) C dX7_remake_72 rfl <|
    s_iload_n (pc := 73) C dX7_remake_73 rfl <|
    s_aload_n (pc := 74) C dX7_remake_74 rfl <|
    s_get (pc := 75) C (ci := 7) (kf := 0) rfl inX7 (by decide) wd_312 dX7_remake_75 <|
    s_get (pc := 78) C (ci := 3) (kf := 1) rfl inX3 (by decide) wd_110 dX7_remake_78 <|
    s_iload_n (pc := 81) C dX7_remake_81 rfl <|
    s_iald (pc := 82) C dX7_remake_82 <|
    s_callV (pc := 83) C ct_X3_layNew (n := 4) (rk := 0) (mp := [1]) ⟨rfl, by decide, rfl⟩ (ci := 3) rfl rfl (by decide) (by decide) yi_X3_layNew (by decide) wd_530 wd_531 wd_532 wd_74 wd_533 dX7_remake_83 <|
    s_aload_n (pc := 86) C dX7_remake_86 rfl <|
    s_get (pc := 87) C (ci := 7) (kf := 0) rfl inX7 (by decide) wd_312 dX7_remake_87 <|
    s_dup (pc := 90) C dX7_remake_90 <|
    s_get (pc := 91) C (ci := 3) (kf := 13) rfl inX3 (by decide) wd_136 dX7_remake_91 <|
    s_aload_n (pc := 94) C dX7_remake_94 rfl <|
    s_get (pc := 95) C (ci := 7) (kf := 0) rfl inX7 (by decide) wd_312 dX7_remake_95 <|
    s_get (pc := 98) C (ci := 3) (kf := 5) rfl inX3 (by decide) wd_118 dX7_remake_98 <|
    s_iload_n (pc := 101) C dX7_remake_101 rfl <|
    s_iald (pc := 102) C dX7_remake_102 <|
    s_iadd (pc := 103) C dX7_remake_103 <|
    s_put (pc := 104) (z := false) C (ci := 3) (kf := 13) rfl inX3 tyX3_ok nmX3 (by decide) wd_136 rfl rfl dX7_remake_104 <|
    s_aload_n (pc := 107) C dX7_remake_107 rfl <|
    s_iload_n (pc := 108) C dX7_remake_108 rfl <|
    s_callV (pc := 109) C ct_X7_finish (n := 2) (rk := 0) (mp := [0, 1, 2, 3, 4, 5, 6, 7, 8, 9, 10, 11, 12, 13, 14, 15, 16, 17, 18, 19, 20, 21, 22, 23, 24]) ⟨rfl, by decide, rfl⟩ (ci := 7) rfl rfl (by decide) (by decide) yi_X7_finish (by decide) wd_542 wd_544 wd_10 wd_73 wd_545 dX7_remake_109 <|
    s_iload_n (pc := 112) C dX7_remake_112 rfl <|
    s_ireturn (pc := 113) C rfl dX7_remake_113)
    (s_aload_n (pc := 54) C dX7_remake_54 rfl <|
    s_get (pc := 55) C (ci := 7) (kf := 2) rfl inX7 (by decide) wd_314 dX7_remake_55 <|
    s_aload_n (pc := 58) C dX7_remake_58 rfl <|
    s_get (pc := 59) C (ci := 7) (kf := 0) rfl inX7 (by decide) wd_312 dX7_remake_59 <|
    s_callVg (pc := 62) C ct_X5_putBack (n := 2) (rk := 0) (mp := [3, 4, 5, 6, 7, 8, 9, 10, 11, 12, 13, 14, 15, 16, 1]) ⟨rfl, by decide, rfl⟩ (ci := 5) rfl rfl (by decide) (by decide) yi_X5_putBack (by decide) wd_526 wd_527 wd_528 wd_75 wd_529 dX7_remake_62 <|
    s_bipush (pc := 65) C dX7_remake_65 (by decide) <|
    s_ireturn (pc := 67) C rfl dX7_remake_67))
    (s_iconst (pc := 12) C dX7_remake_12 <|
    s_ireturn (pc := 13) C rfl dX7_remake_13)
noncomputable def rw_X7_remake_0 : XK := rg_X7_remake_0
noncomputable def md_X7_remake_0 (p1 : Int) (h0 : Ob) (h2 : Ob) (h17 : Ob) (h18 : Ob) (h23 : Ob) (h24 : Ob) : Ob × Ob × Ob × Ob × Ob × Ob × Ob × Ob × Ob × Ob × Ob × Ob × Ob × Ob × Ob × Ob × Ob × Ob × Ob → Option Rt := mg_X7_remake_0 p1 h0 h2 h17 h18 h23 h24
theorem eq_X7_remake_0 (p1 : Int) (h0 : Ob) (h2 : Ob) (h17 : Ob) (h18 : Ob) (h23 : Ob) (h24 : Ob) (a : Ob × Ob × Ob × Ob × Ob × Ob × Ob × Ob × Ob × Ob × Ob × Ob × Ob × Ob × Ob × Ob × Ob × Ob × Ob) : rw_X7_remake_0 (en_X7_remake_0 p1 h0 h2 h17 h18 h23 h24 a) = md_X7_remake_0 p1 h0 h2 h17 h18 h23 h24 a :=
 rq_X7_remake_0 p1 h0 h2 h17 h18 h23 h24 a
theorem sd_X7_remake_0 {X : XDyn} {r0 : Rt} (C : XO X mX7_remake) : XS X mX7_remake r0 0 (rw_X7_remake_0) := sg_X7_remake_0 C
theorem ctr_X7_remake : XCt yX7_remake mX7_remake (xF mX7_remake (rw_X7_remake_0)) := xMet (by decide +kernel) rfl (fun _ _ C => sd_X7_remake_0 C)
theorem eqf_X7_remake (p1 : Int) (h0 : Ob) (h1 : Ob) (h2 : Ob) (h3 : Ob) (h4 : Ob) (h5 : Ob) (h6 : Ob) (h7 : Ob) (h8 : Ob) (h9 : Ob) (h10 : Ob) (h11 : Ob) (h12 : Ob) (h13 : Ob) (h14 : Ob) (h15 : Ob) (h16 : Ob) (h17 : Ob) (h18 : Ob) (h19 : Ob) (h20 : Ob) (h21 : Ob) (h22 : Ob) (h23 : Ob) (h24 : Ob) : xF mX7_remake (rw_X7_remake_0) [.inr (.inl (0, 0)), .inl p1] [h0, h1, h2, h3, h4, h5, h6, h7, h8, h9, h10, h11, h12, h13, h14, h15, h16, h17, h18, h19, h20, h21, h22, h23, h24] = md_X7_remake_0 p1 h0 h2 h17 h18 h23 h24 (h1, h3, h4, h5, h6, h7, h8, h9, h10, h11, h12, h13, h14, h15, h16, h19, h20, h21, h22) := eq_X7_remake_0 p1 h0 h2 h17 h18 h23 h24 (h1, h3, h4, h5, h6, h7, h8, h9, h10, h11, h12, h13, h14, h15, h16, h19, h20, h21, h22)
theorem yi_X7_remake : yX7_remake.cls = RX7 ∧ yX7_remake.cls ≠ "java/lang/invoke/MethodHandle" ∧ yX7_remake.cls ≠ "java/lang/invoke/VarHandle" ∧ (parseMethodDescriptor yX7_remake.desc).map (fun d => d.parameters.length) = some 1 := ⟨rfl, by decide +kernel, by decide +kernel, by decide +kernel⟩
theorem dX7_resize_0 : decode cX7_resize 0 = .ok (.aload_n 0, 1) := by decide +kernel
theorem dX7_resize_1 : decode cX7_resize 1 = .ok (.getfield 12, 3) := by decide +kernel
theorem dX7_resize_4 : decode cX7_resize 4 = .ok (.iload_n 1, 1) := by decide +kernel
theorem dX7_resize_5 : decode cX7_resize 5 = .ok (.invokevirtual 91, 3) := by decide +kernel
theorem dX7_resize_8 : decode cX7_resize 8 = .ok (.ifCond .eq 23, 3) := by decide +kernel
theorem dX7_resize_11 : decode cX7_resize 11 = .ok (.iload_n 2, 1) := by decide +kernel
theorem dX7_resize_12 : decode cX7_resize 12 = .ok (.invokestatic 65, 3) := by decide +kernel
theorem dX7_resize_15 : decode cX7_resize 15 = .ok (.ifCond .eq 16, 3) := by decide +kernel
theorem dX7_resize_18 : decode cX7_resize 18 = .ok (.iload_n 2, 1) := by decide +kernel
theorem dX7_resize_19 : decode cX7_resize 19 = .ok (.aload_n 0, 1) := by decide +kernel
theorem dX7_resize_20 : decode cX7_resize 20 = .ok (.getfield 12, 3) := by decide +kernel
theorem dX7_resize_23 : decode cX7_resize 23 = .ok (.getfield 132, 3) := by decide +kernel
theorem dX7_resize_26 : decode cX7_resize 26 = .ok (.iload_n 1, 1) := by decide +kernel
theorem dX7_resize_27 : decode cX7_resize 27 = .ok (.iaload, 1) := by decide +kernel
theorem dX7_resize_28 : decode cX7_resize 28 = .ok (.if_icmp .ne 5, 3) := by decide +kernel
theorem dX7_resize_31 : decode cX7_resize 31 = .ok (.iconst (-1), 1) := by decide +kernel
theorem dX7_resize_32 : decode cX7_resize 32 = .ok (.ireturn, 1) := by decide +kernel
theorem dX7_resize_33 : decode cX7_resize 33 = .ok (.aload_n 0, 1) := by decide +kernel
theorem dX7_resize_34 : decode cX7_resize 34 = .ok (.getfield 22, 3) := by decide +kernel
theorem dX7_resize_37 : decode cX7_resize 37 = .ok (.aload_n 0, 1) := by decide +kernel
theorem dX7_resize_38 : decode cX7_resize 38 = .ok (.getfield 12, 3) := by decide +kernel
theorem dX7_resize_41 : decode cX7_resize 41 = .ok (.invokevirtual 69, 3) := by decide +kernel
theorem dX7_resize_44 : decode cX7_resize 44 = .ok (.aload_n 0, 1) := by decide +kernel
theorem dX7_resize_45 : decode cX7_resize 45 = .ok (.iload_n 1, 1) := by decide +kernel
theorem dX7_resize_46 : decode cX7_resize 46 = .ok (.iload_n 2, 1) := by decide +kernel
theorem dX7_resize_47 : decode cX7_resize 47 = .ok (.invokevirtual 148, 3) := by decide +kernel
theorem dX7_resize_50 : decode cX7_resize 50 = .ok (.istore_n 3, 1) := by decide +kernel
theorem dX7_resize_51 : decode cX7_resize 51 = .ok (.iload_n 3, 1) := by decide +kernel
theorem dX7_resize_52 : decode cX7_resize 52 = .ok (.iconst (-1), 1) := by decide +kernel
theorem dX7_resize_53 : decode cX7_resize 53 = .ok (.if_icmp .ne 17, 3) := by decide +kernel
theorem dX7_resize_56 : decode cX7_resize 56 = .ok (.aload_n 0, 1) := by decide +kernel
theorem dX7_resize_57 : decode cX7_resize 57 = .ok (.getfield 22, 3) := by decide +kernel
theorem dX7_resize_60 : decode cX7_resize 60 = .ok (.aload_n 0, 1) := by decide +kernel
theorem dX7_resize_61 : decode cX7_resize 61 = .ok (.getfield 12, 3) := by decide +kernel
theorem dX7_resize_64 : decode cX7_resize 64 = .ok (.invokevirtual 77, 3) := by decide +kernel
theorem dX7_resize_67 : decode cX7_resize 67 = .ok (.bipush (-2), 2) := by decide +kernel
theorem dX7_resize_69 : decode cX7_resize 69 = .ok (.ireturn, 1) := by decide +kernel
theorem dX7_resize_70 : decode cX7_resize 70 = .ok (.aload_n 0, 1) := by decide +kernel
theorem dX7_resize_71 : decode cX7_resize 71 = .ok (.getfield 12, 3) := by decide +kernel
theorem dX7_resize_74 : decode cX7_resize 74 = .ok (.getfield 119, 3) := by decide +kernel
theorem dX7_resize_77 : decode cX7_resize 77 = .ok (.iload_n 1, 1) := by decide +kernel
theorem dX7_resize_78 : decode cX7_resize 78 = .ok (.iload_n 3, 1) := by decide +kernel
theorem dX7_resize_79 : decode cX7_resize 79 = .ok (.iastore, 1) := by decide +kernel
theorem dX7_resize_80 : decode cX7_resize 80 = .ok (.aload_n 0, 1) := by decide +kernel
theorem dX7_resize_81 : decode cX7_resize 81 = .ok (.getfield 12, 3) := by decide +kernel
theorem dX7_resize_84 : decode cX7_resize 84 = .ok (.iload_n 1, 1) := by decide +kernel
theorem dX7_resize_85 : decode cX7_resize 85 = .ok (.aload_n 0, 1) := by decide +kernel
theorem dX7_resize_86 : decode cX7_resize 86 = .ok (.getfield 12, 3) := by decide +kernel
theorem dX7_resize_89 : decode cX7_resize 89 = .ok (.getfield 132, 3) := by decide +kernel
theorem dX7_resize_92 : decode cX7_resize 92 = .ok (.iload_n 1, 1) := by decide +kernel
theorem dX7_resize_93 : decode cX7_resize 93 = .ok (.iaload, 1) := by decide +kernel
theorem dX7_resize_94 : decode cX7_resize 94 = .ok (.iload_n 2, 1) := by decide +kernel
theorem dX7_resize_95 : decode cX7_resize 95 = .ok (.invokevirtual 152, 3) := by decide +kernel
theorem dX7_resize_98 : decode cX7_resize 98 = .ok (.aload_n 0, 1) := by decide +kernel
theorem dX7_resize_99 : decode cX7_resize 99 = .ok (.getfield 12, 3) := by decide +kernel
theorem dX7_resize_102 : decode cX7_resize 102 = .ok (.getfield 132, 3) := by decide +kernel
theorem dX7_resize_105 : decode cX7_resize 105 = .ok (.iload_n 1, 1) := by decide +kernel
theorem dX7_resize_106 : decode cX7_resize 106 = .ok (.iload_n 2, 1) := by decide +kernel
theorem dX7_resize_107 : decode cX7_resize 107 = .ok (.iastore, 1) := by decide +kernel
theorem dX7_resize_108 : decode cX7_resize 108 = .ok (.aload_n 0, 1) := by decide +kernel
theorem dX7_resize_109 : decode cX7_resize 109 = .ok (.getfield 12, 3) := by decide +kernel
theorem dX7_resize_112 : decode cX7_resize 112 = .ok (.getfield 135, 3) := by decide +kernel
theorem dX7_resize_115 : decode cX7_resize 115 = .ok (.iload_n 1, 1) := by decide +kernel
theorem dX7_resize_116 : decode cX7_resize 116 = .ok (.aload_n 0, 1) := by decide +kernel
theorem dX7_resize_117 : decode cX7_resize 117 = .ok (.getfield 12, 3) := by decide +kernel
theorem dX7_resize_120 : decode cX7_resize 120 = .ok (.getfield 135, 3) := by decide +kernel
theorem dX7_resize_123 : decode cX7_resize 123 = .ok (.iload_n 1, 1) := by decide +kernel
theorem dX7_resize_124 : decode cX7_resize 124 = .ok (.iaload, 1) := by decide +kernel
theorem dX7_resize_125 : decode cX7_resize 125 = .ok (.iload_n 2, 1) := by decide +kernel
theorem dX7_resize_126 : decode cX7_resize 126 = .ok (.invokestatic 155, 3) := by decide +kernel
theorem dX7_resize_129 : decode cX7_resize 129 = .ok (.iastore, 1) := by decide +kernel
theorem dX7_resize_130 : decode cX7_resize 130 = .ok (.aload_n 0, 1) := by decide +kernel
theorem dX7_resize_131 : decode cX7_resize 131 = .ok (.iload_n 1, 1) := by decide +kernel
theorem dX7_resize_132 : decode cX7_resize 132 = .ok (.invokevirtual 87, 3) := by decide +kernel
theorem dX7_resize_135 : decode cX7_resize 135 = .ok (.iload_n 3, 1) := by decide +kernel
theorem dX7_resize_136 : decode cX7_resize 136 = .ok (.ireturn, 1) := by decide +kernel
abbrev mX7_resize : XM := (cX7_resize, 4, RX7, (some .int), shw_M, 15)
noncomputable def rg_X7_resize_0 : XK :=
 o_aload 0 <|
 o_get shw_M 7 0 <|
 o_iload 1 <|
 o_callV 2 1 [1] f_X3_isFull <|
 o_if_eq (o_iconst (-1) <|
 o_ireturn)
 (o_iload 2 <|
 o_callS 1 1 [] f_X7_isSize <|
 o_if_eq (o_iconst (-1) <|
 o_ireturn)
 (o_iload 2 <|
 o_aload 0 <|
 o_get shw_M 7 0 <|
 o_get shw_M 3 1 <|
 o_iload 1 <|
 o_iald shw_M <|
 o_icmp_ne (o_aload 0 <|
 o_get shw_M 7 2 <|
 o_aload 0 <|
 o_get shw_M 7 0 <|
 o_callVg 2 0 [3, 4, 5, 6, 7, 8, 9, 10, 11, 12, 13, 14, 15, 16, 1] g_X5_save v_X5_save <|
 o_aload 0 <|
 o_iload 1 <|
 o_iload 2 <|
 o_callVg 3 1 [0, 1, 2, 3, 4, 5, 6, 7, 8, 9, 10, 11, 12, 13, 14, 15, 16, 17, 18, 19, 20, 21, 22, 23, 24] g_X7_placeToResize v_X7_placeToResize <|
 o_istore 3 <|
 o_iload 3 <|
 o_iconst (-1) <|
 o_icmp_ne (o_aload 0 <|
 o_get shw_M 7 0 <|
 o_get shw_M 3 0 <|
 o_iload 1 <|
 o_iload 3 <|
 o_iast shw_M <|
 o_aload 0 <|
 o_get shw_M 7 0 <|
 o_iload 1 <|
 o_aload 0 <|
 o_get shw_M 7 0 <|
 o_get shw_M 3 1 <|
 o_iload 1 <|
 o_iald shw_M <|
 o_iload 2 <|
 o_callV 4 0 [1] f_X3_clearContents <|
 o_aload 0 <|
 o_get shw_M 7 0 <|
 o_get shw_M 3 1 <|
 o_iload 1 <|
 o_iload 2 <|
 o_iast shw_M <|
 o_aload 0 <|
 o_get shw_M 7 0 <|
 o_get shw_M 3 4 <|
 o_iload 1 <|
 o_aload 0 <|
 o_get shw_M 7 0 <|
 o_get shw_M 3 4 <|
 o_iload 1 <|
 o_iald shw_M <|
 o_iload 2 <|
 o_min <|
 o_iast shw_M <|
 o_aload 0 <|
 o_iload 1 <|
 o_callV 2 0 [0, 1, 2, 3, 4, 5, 6, 7, 8, 9, 10, 11, 12, 13, 14, 15, 16, 17, 18, 19, 20, 21, 22, 23, 24] f_X7_finish <|
 o_iload 3 <|
 o_ireturn)
 (o_aload 0 <|
 o_get shw_M 7 2 <|
 o_aload 0 <|
 o_get shw_M 7 0 <|
 o_callVg 2 0 [3, 4, 5, 6, 7, 8, 9, 10, 11, 12, 13, 14, 15, 16, 1] g_X5_putBack v_X5_putBack <|
 o_iconst (-2) <|
 o_ireturn))
 (o_iconst (-1) <|
 o_ireturn)))
def en_X7_resize_0 (p1 : Int) (p2 : Int) (h0 : Ob) (h2 : Ob) (h17 : Ob) (h18 : Ob) (h23 : Ob) (h24 : Ob) (a : Ob × Ob × Ob × Ob × Ob × Ob × Ob × Ob × Ob × Ob × Ob × Ob × Ob × Ob × Ob × Ob × Ob × Ob × Ob) : XSt := ([some (.inr (.inl (0, 0))), some (.inl p1), some (.inl p2), none], [], [h0, a.1, h2, a.2.1, a.2.2.1, a.2.2.2.1, a.2.2.2.2.1, a.2.2.2.2.2.1, a.2.2.2.2.2.2.1, a.2.2.2.2.2.2.2.1, a.2.2.2.2.2.2.2.2.1, a.2.2.2.2.2.2.2.2.2.1, a.2.2.2.2.2.2.2.2.2.2.1, a.2.2.2.2.2.2.2.2.2.2.2.1, a.2.2.2.2.2.2.2.2.2.2.2.2.1, a.2.2.2.2.2.2.2.2.2.2.2.2.2.1, a.2.2.2.2.2.2.2.2.2.2.2.2.2.2.1, h17, h18, a.2.2.2.2.2.2.2.2.2.2.2.2.2.2.2.1, a.2.2.2.2.2.2.2.2.2.2.2.2.2.2.2.2.1, a.2.2.2.2.2.2.2.2.2.2.2.2.2.2.2.2.2.1, a.2.2.2.2.2.2.2.2.2.2.2.2.2.2.2.2.2.2, h23, h24])
noncomputable def mg_X7_resize_0 (p1 : Int) (p2 : Int) (h0 : Ob) (h2 : Ob) (h17 : Ob) (h18 : Ob) (h23 : Ob) (h24 : Ob) (a : Ob × Ob × Ob × Ob × Ob × Ob × Ob × Ob × Ob × Ob × Ob × Ob × Ob × Ob × Ob × Ob × Ob × Ob × Ob) : Option Rt :=
 if xw (bz (ful a.1 p1)) = 0 then (RI (-1) [h0, a.1, h2, a.2.1, a.2.2.1, a.2.2.2.1, a.2.2.2.2.1, a.2.2.2.2.2.1, a.2.2.2.2.2.2.1, a.2.2.2.2.2.2.2.1, a.2.2.2.2.2.2.2.2.1, a.2.2.2.2.2.2.2.2.2.1, a.2.2.2.2.2.2.2.2.2.2.1, a.2.2.2.2.2.2.2.2.2.2.2.1, a.2.2.2.2.2.2.2.2.2.2.2.2.1, a.2.2.2.2.2.2.2.2.2.2.2.2.2.1, a.2.2.2.2.2.2.2.2.2.2.2.2.2.2.1, h17, h18, a.2.2.2.2.2.2.2.2.2.2.2.2.2.2.2.1, a.2.2.2.2.2.2.2.2.2.2.2.2.2.2.2.2.1, a.2.2.2.2.2.2.2.2.2.2.2.2.2.2.2.2.2.1, a.2.2.2.2.2.2.2.2.2.2.2.2.2.2.2.2.2.2, h23, h24])
 else (if xw (bz (siz p2)) = 0 then (RI (-1) [h0, a.1, h2, a.2.1, a.2.2.1, a.2.2.2.1, a.2.2.2.2.1, a.2.2.2.2.2.1, a.2.2.2.2.2.2.1, a.2.2.2.2.2.2.2.1, a.2.2.2.2.2.2.2.2.1, a.2.2.2.2.2.2.2.2.2.1, a.2.2.2.2.2.2.2.2.2.2.1, a.2.2.2.2.2.2.2.2.2.2.2.1, a.2.2.2.2.2.2.2.2.2.2.2.2.1, a.2.2.2.2.2.2.2.2.2.2.2.2.2.1, a.2.2.2.2.2.2.2.2.2.2.2.2.2.2.1, h17, h18, a.2.2.2.2.2.2.2.2.2.2.2.2.2.2.2.1, a.2.2.2.2.2.2.2.2.2.2.2.2.2.2.2.2.1, a.2.2.2.2.2.2.2.2.2.2.2.2.2.2.2.2.2.1, a.2.2.2.2.2.2.2.2.2.2.2.2.2.2.2.2.2.2, h23, h24])
 else (if xin p1 11 then (
 if xw p2 = xw (a.1 2 (xw p1).toNat) then (RI (-1) [h0, a.1, h2, a.2.1, a.2.2.1, a.2.2.2.1, a.2.2.2.2.1, a.2.2.2.2.2.1, a.2.2.2.2.2.2.1, a.2.2.2.2.2.2.2.1, a.2.2.2.2.2.2.2.2.1, a.2.2.2.2.2.2.2.2.2.1, a.2.2.2.2.2.2.2.2.2.2.1, a.2.2.2.2.2.2.2.2.2.2.2.1, a.2.2.2.2.2.2.2.2.2.2.2.2.1, a.2.2.2.2.2.2.2.2.2.2.2.2.2.1, a.2.2.2.2.2.2.2.2.2.2.2.2.2.2.1, h17, h18, a.2.2.2.2.2.2.2.2.2.2.2.2.2.2.2.1, a.2.2.2.2.2.2.2.2.2.2.2.2.2.2.2.2.1, a.2.2.2.2.2.2.2.2.2.2.2.2.2.2.2.2.2.1, a.2.2.2.2.2.2.2.2.2.2.2.2.2.2.2.2.2.2, h23, h24])
 else (if pd (PG a.2.1) then (
 if pd (LW a.1 ∧ Lst a.1 ∧ 0 ≤ p1 ∧ p1 < 8 ∧ 1 ≤ p2 ∧ p2 ≤ 60) then (
 if xw ((prF a.2.2.2.2.2.2.2.2.2.2.2.2.2.2.2.1 a.2.2.2.2.2.2.2.2.2.2.2.2.2.2.2.2.1 a.2.2.2.2.2.2.2.2.2.2.2.2.2.2.2.2.2.1 a.2.2.2.2.2.2.2.2.2.2.2.2.2.2.2.2.2.2 a.1 p1 p2).1) = (-1) then (if pd (PG a.2.1) then (
 RI (-2) [h0, (cpyO ((prF a.2.2.2.2.2.2.2.2.2.2.2.2.2.2.2.1 a.2.2.2.2.2.2.2.2.2.2.2.2.2.2.2.2.1 a.2.2.2.2.2.2.2.2.2.2.2.2.2.2.2.2.2.1 a.2.2.2.2.2.2.2.2.2.2.2.2.2.2.2.2.2.2 a.1 p1 p2).2.2.2.2.2) (kpk a.2.1 0 [(svK a.2.1 0 a.2.2.1 a.1), (svK a.2.1 1 a.2.2.2.1 a.1), (svK a.2.1 2 a.2.2.2.2.1 a.1), (svK a.2.1 3 a.2.2.2.2.2.1 a.1), (svK a.2.1 4 a.2.2.2.2.2.2.1 a.1), (svK a.2.1 5 a.2.2.2.2.2.2.2.1 a.1), (svK a.2.1 6 a.2.2.2.2.2.2.2.2.1 a.1), (svK a.2.1 7 a.2.2.2.2.2.2.2.2.2.1 a.1), (svK a.2.1 8 a.2.2.2.2.2.2.2.2.2.2.1 a.1), (svK a.2.1 9 a.2.2.2.2.2.2.2.2.2.2.2.1 a.1), (svK a.2.1 10 a.2.2.2.2.2.2.2.2.2.2.2.2.1 a.1), (svK a.2.1 11 a.2.2.2.2.2.2.2.2.2.2.2.2.2.1 a.1), (svK a.2.1 12 a.2.2.2.2.2.2.2.2.2.2.2.2.2.2.1 a.1)])), h2, a.2.1, (svK a.2.1 0 a.2.2.1 a.1), (svK a.2.1 1 a.2.2.2.1 a.1), (svK a.2.1 2 a.2.2.2.2.1 a.1), (svK a.2.1 3 a.2.2.2.2.2.1 a.1), (svK a.2.1 4 a.2.2.2.2.2.2.1 a.1), (svK a.2.1 5 a.2.2.2.2.2.2.2.1 a.1), (svK a.2.1 6 a.2.2.2.2.2.2.2.2.1 a.1), (svK a.2.1 7 a.2.2.2.2.2.2.2.2.2.1 a.1), (svK a.2.1 8 a.2.2.2.2.2.2.2.2.2.2.1 a.1), (svK a.2.1 9 a.2.2.2.2.2.2.2.2.2.2.2.1 a.1), (svK a.2.1 10 a.2.2.2.2.2.2.2.2.2.2.2.2.1 a.1), (svK a.2.1 11 a.2.2.2.2.2.2.2.2.2.2.2.2.2.1 a.1), (svK a.2.1 12 a.2.2.2.2.2.2.2.2.2.2.2.2.2.2.1 a.1), h17, h18, ((prF a.2.2.2.2.2.2.2.2.2.2.2.2.2.2.2.1 a.2.2.2.2.2.2.2.2.2.2.2.2.2.2.2.2.1 a.2.2.2.2.2.2.2.2.2.2.2.2.2.2.2.2.2.1 a.2.2.2.2.2.2.2.2.2.2.2.2.2.2.2.2.2.2 a.1 p1 p2).2.1), ((prF a.2.2.2.2.2.2.2.2.2.2.2.2.2.2.2.1 a.2.2.2.2.2.2.2.2.2.2.2.2.2.2.2.2.1 a.2.2.2.2.2.2.2.2.2.2.2.2.2.2.2.2.2.1 a.2.2.2.2.2.2.2.2.2.2.2.2.2.2.2.2.2.2 a.1 p1 p2).2.2.1), ((prF a.2.2.2.2.2.2.2.2.2.2.2.2.2.2.2.1 a.2.2.2.2.2.2.2.2.2.2.2.2.2.2.2.2.1 a.2.2.2.2.2.2.2.2.2.2.2.2.2.2.2.2.2.1 a.2.2.2.2.2.2.2.2.2.2.2.2.2.2.2.2.2.2 a.1 p1 p2).2.2.2.1), ((prF a.2.2.2.2.2.2.2.2.2.2.2.2.2.2.2.1 a.2.2.2.2.2.2.2.2.2.2.2.2.2.2.2.2.1 a.2.2.2.2.2.2.2.2.2.2.2.2.2.2.2.2.2.1 a.2.2.2.2.2.2.2.2.2.2.2.2.2.2.2.2.2.2 a.1 p1 p2).2.2.2.2.1), h23, h24]) else none)
 else (if xin p1 11 then (
 if xin p1 11 then (
 if xin p1 11 then (
 if xin p1 8 then (
 if xin p1 8 then (
 RI ((prF a.2.2.2.2.2.2.2.2.2.2.2.2.2.2.2.1 a.2.2.2.2.2.2.2.2.2.2.2.2.2.2.2.2.1 a.2.2.2.2.2.2.2.2.2.2.2.2.2.2.2.2.2.1 a.2.2.2.2.2.2.2.2.2.2.2.2.2.2.2.2.2.2 a.1 p1 p2).1) [h0, (finO (xset (xset (clrO (xset ((prF a.2.2.2.2.2.2.2.2.2.2.2.2.2.2.2.1 a.2.2.2.2.2.2.2.2.2.2.2.2.2.2.2.2.1 a.2.2.2.2.2.2.2.2.2.2.2.2.2.2.2.2.2.1 a.2.2.2.2.2.2.2.2.2.2.2.2.2.2.2.2.2.2 a.1 p1 p2).2.2.2.2.2) 1 (xw p1).toNat ((prF a.2.2.2.2.2.2.2.2.2.2.2.2.2.2.2.1 a.2.2.2.2.2.2.2.2.2.2.2.2.2.2.2.2.1 a.2.2.2.2.2.2.2.2.2.2.2.2.2.2.2.2.2.1 a.2.2.2.2.2.2.2.2.2.2.2.2.2.2.2.2.2.2 a.1 p1 p2).1)) p1 ((xset ((prF a.2.2.2.2.2.2.2.2.2.2.2.2.2.2.2.1 a.2.2.2.2.2.2.2.2.2.2.2.2.2.2.2.2.1 a.2.2.2.2.2.2.2.2.2.2.2.2.2.2.2.2.2.1 a.2.2.2.2.2.2.2.2.2.2.2.2.2.2.2.2.2.2 a.1 p1 p2).2.2.2.2.2) 1 (xw p1).toNat ((prF a.2.2.2.2.2.2.2.2.2.2.2.2.2.2.2.1 a.2.2.2.2.2.2.2.2.2.2.2.2.2.2.2.2.1 a.2.2.2.2.2.2.2.2.2.2.2.2.2.2.2.2.2.1 a.2.2.2.2.2.2.2.2.2.2.2.2.2.2.2.2.2.2 a.1 p1 p2).1)) 2 (xw p1).toNat) p2) 2 (xw p1).toNat p2) 5 (xw p1).toNat (xmin ((xset (clrO (xset ((prF a.2.2.2.2.2.2.2.2.2.2.2.2.2.2.2.1 a.2.2.2.2.2.2.2.2.2.2.2.2.2.2.2.2.1 a.2.2.2.2.2.2.2.2.2.2.2.2.2.2.2.2.2.1 a.2.2.2.2.2.2.2.2.2.2.2.2.2.2.2.2.2.2 a.1 p1 p2).2.2.2.2.2) 1 (xw p1).toNat ((prF a.2.2.2.2.2.2.2.2.2.2.2.2.2.2.2.1 a.2.2.2.2.2.2.2.2.2.2.2.2.2.2.2.2.1 a.2.2.2.2.2.2.2.2.2.2.2.2.2.2.2.2.2.1 a.2.2.2.2.2.2.2.2.2.2.2.2.2.2.2.2.2.2 a.1 p1 p2).1)) p1 ((xset ((prF a.2.2.2.2.2.2.2.2.2.2.2.2.2.2.2.1 a.2.2.2.2.2.2.2.2.2.2.2.2.2.2.2.2.1 a.2.2.2.2.2.2.2.2.2.2.2.2.2.2.2.2.2.1 a.2.2.2.2.2.2.2.2.2.2.2.2.2.2.2.2.2.2 a.1 p1 p2).2.2.2.2.2) 1 (xw p1).toNat ((prF a.2.2.2.2.2.2.2.2.2.2.2.2.2.2.2.1 a.2.2.2.2.2.2.2.2.2.2.2.2.2.2.2.2.1 a.2.2.2.2.2.2.2.2.2.2.2.2.2.2.2.2.2.1 a.2.2.2.2.2.2.2.2.2.2.2.2.2.2.2.2.2.2 a.1 p1 p2).1)) 2 (xw p1).toNat) p2) 2 (xw p1).toNat p2) 5 (xw p1).toNat) p2)) p1), h2, (keeO a.2.1), (svK a.2.1 0 a.2.2.1 a.1), (svK a.2.1 1 a.2.2.2.1 a.1), (svK a.2.1 2 a.2.2.2.2.1 a.1), (svK a.2.1 3 a.2.2.2.2.2.1 a.1), (svK a.2.1 4 a.2.2.2.2.2.2.1 a.1), (svK a.2.1 5 a.2.2.2.2.2.2.2.1 a.1), (svK a.2.1 6 a.2.2.2.2.2.2.2.2.1 a.1), (svK a.2.1 7 a.2.2.2.2.2.2.2.2.2.1 a.1), (svK a.2.1 8 a.2.2.2.2.2.2.2.2.2.2.1 a.1), (svK a.2.1 9 a.2.2.2.2.2.2.2.2.2.2.2.1 a.1), (svK a.2.1 10 a.2.2.2.2.2.2.2.2.2.2.2.2.1 a.1), (svK a.2.1 11 a.2.2.2.2.2.2.2.2.2.2.2.2.2.1 a.1), (svK a.2.1 12 a.2.2.2.2.2.2.2.2.2.2.2.2.2.2.1 a.1), h17, h18, ((prF a.2.2.2.2.2.2.2.2.2.2.2.2.2.2.2.1 a.2.2.2.2.2.2.2.2.2.2.2.2.2.2.2.2.1 a.2.2.2.2.2.2.2.2.2.2.2.2.2.2.2.2.2.1 a.2.2.2.2.2.2.2.2.2.2.2.2.2.2.2.2.2.2 a.1 p1 p2).2.1), ((prF a.2.2.2.2.2.2.2.2.2.2.2.2.2.2.2.1 a.2.2.2.2.2.2.2.2.2.2.2.2.2.2.2.2.1 a.2.2.2.2.2.2.2.2.2.2.2.2.2.2.2.2.2.1 a.2.2.2.2.2.2.2.2.2.2.2.2.2.2.2.2.2.2 a.1 p1 p2).2.2.1), ((prF a.2.2.2.2.2.2.2.2.2.2.2.2.2.2.2.1 a.2.2.2.2.2.2.2.2.2.2.2.2.2.2.2.2.1 a.2.2.2.2.2.2.2.2.2.2.2.2.2.2.2.2.2.1 a.2.2.2.2.2.2.2.2.2.2.2.2.2.2.2.2.2.2 a.1 p1 p2).2.2.2.1), ((prF a.2.2.2.2.2.2.2.2.2.2.2.2.2.2.2.1 a.2.2.2.2.2.2.2.2.2.2.2.2.2.2.2.2.1 a.2.2.2.2.2.2.2.2.2.2.2.2.2.2.2.2.2.1 a.2.2.2.2.2.2.2.2.2.2.2.2.2.2.2.2.2.2 a.1 p1 p2).2.2.2.2.1), h23, h24]) else none) else none) else none) else none) else none)) else none) else none)) else none))
set_option maxRecDepth 100000 in
set_option maxHeartbeats 4000000 in
theorem rq_X7_resize_0 (p1 : Int) (p2 : Int) (h0 : Ob) (h2 : Ob) (h17 : Ob) (h18 : Ob) (h23 : Ob) (h24 : Ob) (a : Ob × Ob × Ob × Ob × Ob × Ob × Ob × Ob × Ob × Ob × Ob × Ob × Ob × Ob × Ob × Ob × Ob × Ob × Ob) : rg_X7_resize_0 (en_X7_resize_0 p1 p2 h0 h2 h17 h18 h23 h24 a) = mg_X7_resize_0 p1 p2 h0 h2 h17 h18 h23 h24 a := rfl
set_option maxRecDepth 100000 in
set_option maxHeartbeats 4000000 in
theorem sg_X7_resize_0 {X : XDyn} {r0 : Rt} (C : XO X mX7_resize) : XS X mX7_resize r0 0 (rg_X7_resize_0) := by
 unfold rg_X7_resize_0
 exact s_aload_n (pc := 0) C dX7_resize_0 rfl <|
    s_get (pc := 1) C (ci := 7) (kf := 0) rfl inX7 (by decide) wd_312 dX7_resize_1 <|
    s_iload_n (pc := 4) C dX7_resize_4 rfl <|
    s_callV (pc := 5) C ct_X3_isFull (n := 2) (rk := 1) (mp := [1]) ⟨rfl, by decide, rfl⟩ (ci := 3) rfl rfl (by decide) (by decide) yi_X3_isFull (by decide) wd_555 wd_556 wd_557 wd_74 wd_558 dX7_resize_5 <|
    s_if_eq (pc := 8) C dX7_resize_8 (by decide) (s_iconst (pc := 31) C dX7_resize_31 <|
    s_ireturn (pc := 32) C rfl dX7_resize_32)
    (s_iload_n (pc := 11) C dX7_resize_11 rfl <|
    s_callS (pc := 12) C ct_X7_isSize (n := 1) (rk := 1) (mp := []) ⟨rfl, by decide, rfl⟩ (by decide) (by decide) ⟨rfl, yi_X7_isSize⟩ wd_357 wd_358 wd_73 wd_359 dX7_resize_12 <|
    s_if_eq (pc := 15) C dX7_resize_15 (by decide) (s_iconst (pc := 31) C dX7_resize_31 <|
    s_ireturn (pc := 32) C rfl dX7_resize_32)
    (s_iload_n (pc := 18) C dX7_resize_18 rfl <|
    s_aload_n (pc := 19) C dX7_resize_19 rfl <|
    s_get (pc := 20) C (ci := 7) (kf := 0) rfl inX7 (by decide) wd_312 dX7_resize_20 <|
    s_get (pc := 23) C (ci := 3) (kf := 1) rfl inX3 (by decide) wd_110 dX7_resize_23 <|
    s_iload_n (pc := 26) C dX7_resize_26 rfl <|
    s_iald (pc := 27) C dX7_resize_27 <|
    s_icmp_ne (pc := 28) C dX7_resize_28 (by decide) (s_aload_n (pc := 33) C dX7_resize_33 rfl <|
    s_get (pc := 34) C (ci := 7) (kf := 2) rfl inX7 (by decide) wd_314 dX7_resize_34 <|
    s_aload_n (pc := 37) C dX7_resize_37 rfl <|
    s_get (pc := 38) C (ci := 7) (kf := 0) rfl inX7 (by decide) wd_312 dX7_resize_38 <|
    s_callVg (pc := 41) C ct_X5_save (n := 2) (rk := 0) (mp := [3, 4, 5, 6, 7, 8, 9, 10, 11, 12, 13, 14, 15, 16, 1]) ⟨rfl, by decide, rfl⟩ (ci := 5) rfl rfl (by decide) (by decide) yi_X5_save (by decide) wd_360 wd_361 wd_362 wd_75 wd_363 dX7_resize_41 <|
    s_aload_n (pc := 44) C dX7_resize_44 rfl <|
    s_iload_n (pc := 45) C dX7_resize_45 rfl <|
    s_iload_n (pc := 46) C dX7_resize_46 rfl <|
    s_callVg (pc := 47) C ct_X7_placeToResize (n := 3) (rk := 1) (mp := [0, 1, 2, 3, 4, 5, 6, 7, 8, 9, 10, 11, 12, 13, 14, 15, 16, 17, 18, 19, 20, 21, 22, 23, 24]) ⟨rfl, by decide, rfl⟩ (ci := 7) rfl rfl (by decide) (by decide) yi_X7_placeToResize (by decide) wd_643 wd_645 wd_12 wd_73 wd_646 dX7_resize_47 <|
    s_istore_n (pc := 50) C dX7_resize_50 rfl <|
    s_iload_n (pc := 51) C dX7_resize_51 rfl <|
    s_iconst (pc := 52) C dX7_resize_52 <|
    s_icmp_ne (pc := 53) C dX7_resize_53 (by decide) (s_aload_n (pc := 70) C dX7_resize_70 rfl <|
    s_get (pc := 71) C (ci := 7) (kf := 0) rfl inX7 (by decide) wd_312 dX7_resize_71 <|
    s_get (pc := 74) C (ci := 3) (kf := 0) rfl inX3 (by decide) wd_104 dX7_resize_74 <|
    s_iload_n (pc := 77) C dX7_resize_77 rfl <|
    s_iload_n (pc := 78) C dX7_resize_78 rfl <|
    s_iast (pc := 79) C dX7_resize_79 <|
    s_aload_n (pc := 80) C dX7_resize_80 rfl <|
    s_get (pc := 81) C (ci := 7) (kf := 0) rfl inX7 (by decide) wd_312 dX7_resize_81 <|
    s_iload_n (pc := 84) C dX7_resize_84 rfl <|
    s_aload_n (pc := 85) C dX7_resize_85 rfl <|
    s_get (pc := 86) C (ci := 7) (kf := 0) rfl inX7 (by decide) wd_312 dX7_resize_86 <|
    s_get (pc := 89) C (ci := 3) (kf := 1) rfl inX3 (by decide) wd_110 dX7_resize_89 <|
    s_iload_n (pc := 92) C dX7_resize_92 rfl <|
    s_iald (pc := 93) C dX7_resize_93 <|
    s_iload_n (pc := 94) C dX7_resize_94 rfl <|
    s_callV (pc := 95) C ct_X3_clearContents (n := 4) (rk := 0) (mp := [1]) ⟨rfl, by decide, rfl⟩ (ci := 3) rfl rfl (by decide) (by decide) yi_X3_clearContents (by decide) wd_651 wd_535 wd_536 wd_74 wd_537 dX7_resize_95 <|
    s_aload_n (pc := 98) C dX7_resize_98 rfl <|
    s_get (pc := 99) C (ci := 7) (kf := 0) rfl inX7 (by decide) wd_312 dX7_resize_99 <|
    s_get (pc := 102) C (ci := 3) (kf := 1) rfl inX3 (by decide) wd_110 dX7_resize_102 <|
    s_iload_n (pc := 105) C dX7_resize_105 rfl <|
    s_iload_n (pc := 106) C dX7_resize_106 rfl <|
    s_iast (pc := 107) C dX7_resize_107 <|
    s_aload_n (pc := 108) C dX7_resize_108 rfl <|
    s_get (pc := 109) C (ci := 7) (kf := 0) rfl inX7 (by decide) wd_312 dX7_resize_109 <|
    s_get (pc := 112) C (ci := 3) (kf := 4) rfl inX3 (by decide) wd_116 dX7_resize_112 <|
    s_iload_n (pc := 115) C dX7_resize_115 rfl <|
    s_aload_n (pc := 116) C dX7_resize_116 rfl <|
    s_get (pc := 117) C (ci := 7) (kf := 0) rfl inX7 (by decide) wd_312 dX7_resize_117 <|
    s_get (pc := 120) C (ci := 3) (kf := 4) rfl inX3 (by decide) wd_116 dX7_resize_120 <|
    s_iload_n (pc := 123) C dX7_resize_123 rfl <|
    s_iald (pc := 124) C dX7_resize_124 <|
    s_iload_n (pc := 125) C dX7_resize_125 rfl <|
    s_min (pc := 126) C (by decide) wd_652 wd_421 wd_82 wd_422 dX7_resize_126 <|
    s_iast (pc := 129) C dX7_resize_129 <|
    s_aload_n (pc := 130) C dX7_resize_130 rfl <|
    s_iload_n (pc := 131) C dX7_resize_131 rfl <|
    s_callV (pc := 132) C ct_X7_finish (n := 2) (rk := 0) (mp := [0, 1, 2, 3, 4, 5, 6, 7, 8, 9, 10, 11, 12, 13, 14, 15, 16, 17, 18, 19, 20, 21, 22, 23, 24]) ⟨rfl, by decide, rfl⟩ (ci := 7) rfl rfl (by decide) (by decide) yi_X7_finish (by decide) wd_542 wd_544 wd_10 wd_73 wd_545 dX7_resize_132 <|
    s_iload_n (pc := 135) C dX7_resize_135 rfl <|
    s_ireturn (pc := 136) C rfl dX7_resize_136)
    (s_aload_n (pc := 56) C dX7_resize_56 rfl <|
    s_get (pc := 57) C (ci := 7) (kf := 2) rfl inX7 (by decide) wd_314 dX7_resize_57 <|
    s_aload_n (pc := 60) C dX7_resize_60 rfl <|
    s_get (pc := 61) C (ci := 7) (kf := 0) rfl inX7 (by decide) wd_312 dX7_resize_61 <|
    s_callVg (pc := 64) C ct_X5_putBack (n := 2) (rk := 0) (mp := [3, 4, 5, 6, 7, 8, 9, 10, 11, 12, 13, 14, 15, 16, 1]) ⟨rfl, by decide, rfl⟩ (ci := 5) rfl rfl (by decide) (by decide) yi_X5_putBack (by decide) wd_526 wd_527 wd_528 wd_75 wd_529 dX7_resize_64 <|
    s_bipush (pc := 67) C dX7_resize_67 (by decide) <|
    s_ireturn (pc := 69) C rfl dX7_resize_69))
    (s_iconst (pc := 31) C dX7_resize_31 <|
    s_ireturn (pc := 32) C rfl dX7_resize_32)))
noncomputable def rw_X7_resize_0 : XK := rg_X7_resize_0
noncomputable def md_X7_resize_0 (p1 : Int) (p2 : Int) (h0 : Ob) (h2 : Ob) (h17 : Ob) (h18 : Ob) (h23 : Ob) (h24 : Ob) : Ob × Ob × Ob × Ob × Ob × Ob × Ob × Ob × Ob × Ob × Ob × Ob × Ob × Ob × Ob × Ob × Ob × Ob × Ob → Option Rt := mg_X7_resize_0 p1 p2 h0 h2 h17 h18 h23 h24
theorem eq_X7_resize_0 (p1 : Int) (p2 : Int) (h0 : Ob) (h2 : Ob) (h17 : Ob) (h18 : Ob) (h23 : Ob) (h24 : Ob) (a : Ob × Ob × Ob × Ob × Ob × Ob × Ob × Ob × Ob × Ob × Ob × Ob × Ob × Ob × Ob × Ob × Ob × Ob × Ob) : rw_X7_resize_0 (en_X7_resize_0 p1 p2 h0 h2 h17 h18 h23 h24 a) = md_X7_resize_0 p1 p2 h0 h2 h17 h18 h23 h24 a :=
 rq_X7_resize_0 p1 p2 h0 h2 h17 h18 h23 h24 a
theorem sd_X7_resize_0 {X : XDyn} {r0 : Rt} (C : XO X mX7_resize) : XS X mX7_resize r0 0 (rw_X7_resize_0) := sg_X7_resize_0 C
theorem ctr_X7_resize : XCt yX7_resize mX7_resize (xF mX7_resize (rw_X7_resize_0)) := xMet (by decide +kernel) rfl (fun _ _ C => sd_X7_resize_0 C)
theorem eqf_X7_resize (p1 : Int) (p2 : Int) (h0 : Ob) (h1 : Ob) (h2 : Ob) (h3 : Ob) (h4 : Ob) (h5 : Ob) (h6 : Ob) (h7 : Ob) (h8 : Ob) (h9 : Ob) (h10 : Ob) (h11 : Ob) (h12 : Ob) (h13 : Ob) (h14 : Ob) (h15 : Ob) (h16 : Ob) (h17 : Ob) (h18 : Ob) (h19 : Ob) (h20 : Ob) (h21 : Ob) (h22 : Ob) (h23 : Ob) (h24 : Ob) : xF mX7_resize (rw_X7_resize_0) [.inr (.inl (0, 0)), .inl p1, .inl p2] [h0, h1, h2, h3, h4, h5, h6, h7, h8, h9, h10, h11, h12, h13, h14, h15, h16, h17, h18, h19, h20, h21, h22, h23, h24] = md_X7_resize_0 p1 p2 h0 h2 h17 h18 h23 h24 (h1, h3, h4, h5, h6, h7, h8, h9, h10, h11, h12, h13, h14, h15, h16, h19, h20, h21, h22) := eq_X7_resize_0 p1 p2 h0 h2 h17 h18 h23 h24 (h1, h3, h4, h5, h6, h7, h8, h9, h10, h11, h12, h13, h14, h15, h16, h19, h20, h21, h22)
theorem yi_X7_resize : yX7_resize.cls = RX7 ∧ yX7_resize.cls ≠ "java/lang/invoke/MethodHandle" ∧ yX7_resize.cls ≠ "java/lang/invoke/VarHandle" ∧ (parseMethodDescriptor yX7_resize.desc).map (fun d => d.parameters.length) = some 2 := ⟨rfl, by decide +kernel, by decide +kernel, by decide +kernel⟩
theorem dX7_fix_0 : decode cX7_fix 0 = .ok (.aload_n 0, 1) := by decide +kernel
theorem dX7_fix_1 : decode cX7_fix 1 = .ok (.getfield 12, 3) := by decide +kernel
theorem dX7_fix_4 : decode cX7_fix 4 = .ok (.invokevirtual 160, 3) := by decide +kernel
theorem dX7_fix_7 : decode cX7_fix 7 = .ok (.istore_n 2, 1) := by decide +kernel
theorem dX7_fix_8 : decode cX7_fix 8 = .ok (.iload_n 1, 1) := by decide +kernel
theorem dX7_fix_9 : decode cX7_fix 9 = .ok (.invokestatic 65, 3) := by decide +kernel
theorem dX7_fix_12 : decode cX7_fix 12 = .ok (.ifCond .eq 8, 3) := by decide +kernel
theorem dX7_fix_15 : decode cX7_fix 15 = .ok (.iload_n 2, 1) := by decide +kernel
theorem dX7_fix_16 : decode cX7_fix 16 = .ok (.iconst (-1), 1) := by decide +kernel
theorem dX7_fix_17 : decode cX7_fix 17 = .ok (.if_icmp .ne 5, 3) := by decide +kernel
theorem dX7_fix_20 : decode cX7_fix 20 = .ok (.iconst (-1), 1) := by decide +kernel
theorem dX7_fix_21 : decode cX7_fix 21 = .ok (.ireturn, 1) := by decide +kernel
theorem dX7_fix_22 : decode cX7_fix 22 = .ok (.aload_n 0, 1) := by decide +kernel
theorem dX7_fix_23 : decode cX7_fix 23 = .ok (.getfield 22, 3) := by decide +kernel
theorem dX7_fix_26 : decode cX7_fix 26 = .ok (.aload_n 0, 1) := by decide +kernel
theorem dX7_fix_27 : decode cX7_fix 27 = .ok (.getfield 12, 3) := by decide +kernel
theorem dX7_fix_30 : decode cX7_fix 30 = .ok (.invokevirtual 69, 3) := by decide +kernel
theorem dX7_fix_33 : decode cX7_fix 33 = .ok (.aload_n 0, 1) := by decide +kernel
theorem dX7_fix_34 : decode cX7_fix 34 = .ok (.getfield 50, 3) := by decide +kernel
theorem dX7_fix_37 : decode cX7_fix 37 = .ok (.aload_n 0, 1) := by decide +kernel
theorem dX7_fix_38 : decode cX7_fix 38 = .ok (.getfield 12, 3) := by decide +kernel
theorem dX7_fix_41 : decode cX7_fix 41 = .ok (.iload_n 1, 1) := by decide +kernel
theorem dX7_fix_42 : decode cX7_fix 42 = .ok (.iconst 1, 1) := by decide +kernel
theorem dX7_fix_43 : decode cX7_fix 43 = .ok (.iadd, 1) := by decide +kernel
theorem dX7_fix_44 : decode cX7_fix 44 = .ok (.invokevirtual 163, 3) := by decide +kernel
theorem dX7_fix_47 : decode cX7_fix 47 = .ok (.istore_n 3, 1) := by decide +kernel
theorem dX7_fix_48 : decode cX7_fix 48 = .ok (.iload_n 3, 1) := by decide +kernel
theorem dX7_fix_49 : decode cX7_fix 49 = .ok (.iconst (-1), 1) := by decide +kernel
theorem dX7_fix_50 : decode cX7_fix 50 = .ok (.if_icmp .ne 14, 3) := by decide +kernel
theorem dX7_fix_53 : decode cX7_fix 53 = .ok (.aload_n 0, 1) := by decide +kernel
theorem dX7_fix_54 : decode cX7_fix 54 = .ok (.getfield 12, 3) := by decide +kernel
theorem dX7_fix_57 : decode cX7_fix 57 = .ok (.iload_n 1, 1) := by decide +kernel
theorem dX7_fix_58 : decode cX7_fix 58 = .ok (.iconst 1, 1) := by decide +kernel
theorem dX7_fix_59 : decode cX7_fix 59 = .ok (.iadd, 1) := by decide +kernel
theorem dX7_fix_60 : decode cX7_fix 60 = .ok (.invokevirtual 167, 3) := by decide +kernel
theorem dX7_fix_63 : decode cX7_fix 63 = .ok (.istore_n 3, 1) := by decide +kernel
theorem dX7_fix_64 : decode cX7_fix 64 = .ok (.iload_n 3, 1) := by decide +kernel
theorem dX7_fix_65 : decode cX7_fix 65 = .ok (.iconst (-1), 1) := by decide +kernel
theorem dX7_fix_66 : decode cX7_fix 66 = .ok (.if_icmp .ne 17, 3) := by decide +kernel
theorem dX7_fix_69 : decode cX7_fix 69 = .ok (.aload_n 0, 1) := by decide +kernel
theorem dX7_fix_70 : decode cX7_fix 70 = .ok (.getfield 22, 3) := by decide +kernel
theorem dX7_fix_73 : decode cX7_fix 73 = .ok (.aload_n 0, 1) := by decide +kernel
theorem dX7_fix_74 : decode cX7_fix 74 = .ok (.getfield 12, 3) := by decide +kernel
theorem dX7_fix_77 : decode cX7_fix 77 = .ok (.invokevirtual 77, 3) := by decide +kernel
theorem dX7_fix_80 : decode cX7_fix 80 = .ok (.bipush (-2), 2) := by decide +kernel
theorem dX7_fix_82 : decode cX7_fix 82 = .ok (.ireturn, 1) := by decide +kernel
theorem dX7_fix_83 : decode cX7_fix 83 = .ok (.aload_n 0, 1) := by decide +kernel
theorem dX7_fix_84 : decode cX7_fix 84 = .ok (.getfield 12, 3) := by decide +kernel
theorem dX7_fix_87 : decode cX7_fix 87 = .ok (.bipush 8, 2) := by decide +kernel
theorem dX7_fix_89 : decode cX7_fix 89 = .ok (.iload_n 2, 1) := by decide +kernel
theorem dX7_fix_90 : decode cX7_fix 90 = .ok (.iadd, 1) := by decide +kernel
theorem dX7_fix_91 : decode cX7_fix 91 = .ok (.iload_n 3, 1) := by decide +kernel
theorem dX7_fix_92 : decode cX7_fix 92 = .ok (.iload_n 1, 1) := by decide +kernel
theorem dX7_fix_93 : decode cX7_fix 93 = .ok (.invokevirtual 80, 3) := by decide +kernel
theorem dX7_fix_96 : decode cX7_fix 96 = .ok (.aload_n 0, 1) := by decide +kernel
theorem dX7_fix_97 : decode cX7_fix 97 = .ok (.iconst (-1), 1) := by decide +kernel
theorem dX7_fix_98 : decode cX7_fix 98 = .ok (.invokevirtual 87, 3) := by decide +kernel
theorem dX7_fix_101 : decode cX7_fix 101 = .ok (.iload_n 2, 1) := by decide +kernel
theorem dX7_fix_102 : decode cX7_fix 102 = .ok (.ireturn, 1) := by decide +kernel
abbrev mX7_fix : XM := (cX7_fix, 4, RX7, (some .int), shw_M, 5)
noncomputable def rg_X7_fix_0 (k64 : XK) : XK :=
 o_aload 0 <|
 o_get shw_M 7 0 <|
 o_callV 1 1 [1] f_X3_firstUnusedPointer <|
 o_istore 2 <|
 o_iload 1 <|
 o_callS 1 1 [] f_X7_isSize <|
 o_if_eq (o_iconst (-1) <|
 o_ireturn)
 (o_iload 2 <|
 o_iconst (-1) <|
 o_icmp_ne (o_aload 0 <|
 o_get shw_M 7 2 <|
 o_aload 0 <|
 o_get shw_M 7 0 <|
 o_callVg 2 0 [3, 4, 5, 6, 7, 8, 9, 10, 11, 12, 13, 14, 15, 16, 1] g_X5_save v_X5_save <|
 o_aload 0 <|
 o_get shw_M 7 6 <|
 o_aload 0 <|
 o_get shw_M 7 0 <|
 o_iload 1 <|
 o_iconst 1 <|
 o_iadd <|
 o_callVg 3 1 [23, 24, 1] g_X1_clearFirst v_X1_clearFirst <|
 o_istore 3 <|
 o_iload 3 <|
 o_iconst (-1) <|
 o_icmp_ne (o_cut [] k64)
 (o_aload 0 <|
 o_get shw_M 7 0 <|
 o_iload 1 <|
 o_iconst 1 <|
 o_iadd <|
 o_callV 2 1 [1] f_X3_grow <|
 o_istore 3 <|
 o_cut [] k64))
 (o_iconst (-1) <|
 o_ireturn))
def en_X7_fix_0 (p1 : Int) (h0 : Ob) (h2 : Ob) (h17 : Ob) (h18 : Ob) (h19 : Ob) (h20 : Ob) (h21 : Ob) (h22 : Ob) (a : Ob × Ob × Ob × Ob × Ob × Ob × Ob × Ob × Ob × Ob × Ob × Ob × Ob × Ob × Ob × Ob × Ob) : XSt := ([some (.inr (.inl (0, 0))), some (.inl p1), none, none], [], [h0, a.1, h2, a.2.1, a.2.2.1, a.2.2.2.1, a.2.2.2.2.1, a.2.2.2.2.2.1, a.2.2.2.2.2.2.1, a.2.2.2.2.2.2.2.1, a.2.2.2.2.2.2.2.2.1, a.2.2.2.2.2.2.2.2.2.1, a.2.2.2.2.2.2.2.2.2.2.1, a.2.2.2.2.2.2.2.2.2.2.2.1, a.2.2.2.2.2.2.2.2.2.2.2.2.1, a.2.2.2.2.2.2.2.2.2.2.2.2.2.1, a.2.2.2.2.2.2.2.2.2.2.2.2.2.2.1, h17, h18, h19, h20, h21, h22, a.2.2.2.2.2.2.2.2.2.2.2.2.2.2.2.1, a.2.2.2.2.2.2.2.2.2.2.2.2.2.2.2.2])
noncomputable def rg_X7_fix_64 : XK :=
 o_iload 3 <|
 o_iconst (-1) <|
 o_icmp_ne (o_aload 0 <|
 o_get shw_M 7 0 <|
 o_iconst 8 <|
 o_iload 2 <|
 o_iadd <|
 o_iload 3 <|
 o_iload 1 <|
 o_callV 4 0 [1] f_X3_layNew <|
 o_aload 0 <|
 o_iconst (-1) <|
 o_callV 2 0 [0, 1, 2, 3, 4, 5, 6, 7, 8, 9, 10, 11, 12, 13, 14, 15, 16, 17, 18, 19, 20, 21, 22, 23, 24] f_X7_finish <|
 o_iload 2 <|
 o_ireturn)
 (o_aload 0 <|
 o_get shw_M 7 2 <|
 o_aload 0 <|
 o_get shw_M 7 0 <|
 o_callVg 2 0 [3, 4, 5, 6, 7, 8, 9, 10, 11, 12, 13, 14, 15, 16, 1] g_X5_putBack v_X5_putBack <|
 o_iconst (-2) <|
 o_ireturn)
def en_X7_fix_64 (p1 : Int) (h0 : Ob) (h2 : Ob) (h17 : Ob) (h18 : Ob) (h19 : Ob) (h20 : Ob) (h21 : Ob) (h22 : Ob) (a : Int × Int × Ob × Ob × Ob × Ob × Ob × Ob × Ob × Ob × Ob × Ob × Ob × Ob × Ob × Ob × Ob × Ob × Ob) : XSt := ([some (.inr (.inl (0, 0))), some (.inl p1), some (.inl a.1), some (.inl a.2.1)], [], [h0, a.2.2.1, h2, a.2.2.2.1, a.2.2.2.2.1, a.2.2.2.2.2.1, a.2.2.2.2.2.2.1, a.2.2.2.2.2.2.2.1, a.2.2.2.2.2.2.2.2.1, a.2.2.2.2.2.2.2.2.2.1, a.2.2.2.2.2.2.2.2.2.2.1, a.2.2.2.2.2.2.2.2.2.2.2.1, a.2.2.2.2.2.2.2.2.2.2.2.2.1, a.2.2.2.2.2.2.2.2.2.2.2.2.2.1, a.2.2.2.2.2.2.2.2.2.2.2.2.2.2.1, a.2.2.2.2.2.2.2.2.2.2.2.2.2.2.2.1, a.2.2.2.2.2.2.2.2.2.2.2.2.2.2.2.2.1, h17, h18, h19, h20, h21, h22, a.2.2.2.2.2.2.2.2.2.2.2.2.2.2.2.2.2.1, a.2.2.2.2.2.2.2.2.2.2.2.2.2.2.2.2.2.2])
noncomputable def mg_X7_fix_0 (p1 : Int) (h0 : Ob) (h2 : Ob) (h17 : Ob) (h18 : Ob) (h19 : Ob) (h20 : Ob) (h21 : Ob) (h22 : Ob) (k64 : (Int × Int × Ob × Ob × Ob × Ob × Ob × Ob × Ob × Ob × Ob × Ob × Ob × Ob × Ob × Ob × Ob × Ob × Ob) → Option Rt) (a : Ob × Ob × Ob × Ob × Ob × Ob × Ob × Ob × Ob × Ob × Ob × Ob × Ob × Ob × Ob × Ob × Ob) : Option Rt :=
 if xw (bz (siz p1)) = 0 then (RI (-1) [h0, a.1, h2, a.2.1, a.2.2.1, a.2.2.2.1, a.2.2.2.2.1, a.2.2.2.2.2.1, a.2.2.2.2.2.2.1, a.2.2.2.2.2.2.2.1, a.2.2.2.2.2.2.2.2.1, a.2.2.2.2.2.2.2.2.2.1, a.2.2.2.2.2.2.2.2.2.2.1, a.2.2.2.2.2.2.2.2.2.2.2.1, a.2.2.2.2.2.2.2.2.2.2.2.2.1, a.2.2.2.2.2.2.2.2.2.2.2.2.2.1, a.2.2.2.2.2.2.2.2.2.2.2.2.2.2.1, h17, h18, h19, h20, h21, h22, a.2.2.2.2.2.2.2.2.2.2.2.2.2.2.2.1, a.2.2.2.2.2.2.2.2.2.2.2.2.2.2.2.2])
 else (if xw (ffp a.1) = (-1) then (RI (-1) [h0, a.1, h2, a.2.1, a.2.2.1, a.2.2.2.1, a.2.2.2.2.1, a.2.2.2.2.2.1, a.2.2.2.2.2.2.1, a.2.2.2.2.2.2.2.1, a.2.2.2.2.2.2.2.2.1, a.2.2.2.2.2.2.2.2.2.1, a.2.2.2.2.2.2.2.2.2.2.1, a.2.2.2.2.2.2.2.2.2.2.2.1, a.2.2.2.2.2.2.2.2.2.2.2.2.1, a.2.2.2.2.2.2.2.2.2.2.2.2.2.1, a.2.2.2.2.2.2.2.2.2.2.2.2.2.2.1, h17, h18, h19, h20, h21, h22, a.2.2.2.2.2.2.2.2.2.2.2.2.2.2.2.1, a.2.2.2.2.2.2.2.2.2.2.2.2.2.2.2.2])
 else (if pd (PG a.2.1) then (
 if pd (LW a.1 ∧ 1 ≤ (p1 + 1) ∧ (p1 + 1) ≤ 200) then (
 if xw ((cfF a.2.2.2.2.2.2.2.2.2.2.2.2.2.2.2.2 a.1 (p1 + 1)).1) = (-1) then (k64 ((ffp a.1), (grR ((cfF a.2.2.2.2.2.2.2.2.2.2.2.2.2.2.2.2 a.1 (p1 + 1)).2.2) (p1 + 1)), (grO ((cfF a.2.2.2.2.2.2.2.2.2.2.2.2.2.2.2.2 a.1 (p1 + 1)).2.2) (p1 + 1)), a.2.1, (svK a.2.1 0 a.2.2.1 a.1), (svK a.2.1 1 a.2.2.2.1 a.1), (svK a.2.1 2 a.2.2.2.2.1 a.1), (svK a.2.1 3 a.2.2.2.2.2.1 a.1), (svK a.2.1 4 a.2.2.2.2.2.2.1 a.1), (svK a.2.1 5 a.2.2.2.2.2.2.2.1 a.1), (svK a.2.1 6 a.2.2.2.2.2.2.2.2.1 a.1), (svK a.2.1 7 a.2.2.2.2.2.2.2.2.2.1 a.1), (svK a.2.1 8 a.2.2.2.2.2.2.2.2.2.2.1 a.1), (svK a.2.1 9 a.2.2.2.2.2.2.2.2.2.2.2.1 a.1), (svK a.2.1 10 a.2.2.2.2.2.2.2.2.2.2.2.2.1 a.1), (svK a.2.1 11 a.2.2.2.2.2.2.2.2.2.2.2.2.2.1 a.1), (svK a.2.1 12 a.2.2.2.2.2.2.2.2.2.2.2.2.2.2.1 a.1), (oldO a.2.2.2.2.2.2.2.2.2.2.2.2.2.2.2.1 a.1), ((cfF a.2.2.2.2.2.2.2.2.2.2.2.2.2.2.2.2 a.1 (p1 + 1)).2.1)))
 else (k64 ((ffp a.1), ((cfF a.2.2.2.2.2.2.2.2.2.2.2.2.2.2.2.2 a.1 (p1 + 1)).1), ((cfF a.2.2.2.2.2.2.2.2.2.2.2.2.2.2.2.2 a.1 (p1 + 1)).2.2), a.2.1, (svK a.2.1 0 a.2.2.1 a.1), (svK a.2.1 1 a.2.2.2.1 a.1), (svK a.2.1 2 a.2.2.2.2.1 a.1), (svK a.2.1 3 a.2.2.2.2.2.1 a.1), (svK a.2.1 4 a.2.2.2.2.2.2.1 a.1), (svK a.2.1 5 a.2.2.2.2.2.2.2.1 a.1), (svK a.2.1 6 a.2.2.2.2.2.2.2.2.1 a.1), (svK a.2.1 7 a.2.2.2.2.2.2.2.2.2.1 a.1), (svK a.2.1 8 a.2.2.2.2.2.2.2.2.2.2.1 a.1), (svK a.2.1 9 a.2.2.2.2.2.2.2.2.2.2.2.1 a.1), (svK a.2.1 10 a.2.2.2.2.2.2.2.2.2.2.2.2.1 a.1), (svK a.2.1 11 a.2.2.2.2.2.2.2.2.2.2.2.2.2.1 a.1), (svK a.2.1 12 a.2.2.2.2.2.2.2.2.2.2.2.2.2.2.1 a.1), (oldO a.2.2.2.2.2.2.2.2.2.2.2.2.2.2.2.1 a.1), ((cfF a.2.2.2.2.2.2.2.2.2.2.2.2.2.2.2.2 a.1 (p1 + 1)).2.1)))) else none) else none))
set_option maxRecDepth 100000 in
set_option maxHeartbeats 4000000 in
theorem rq_X7_fix_0 (p1 : Int) (h0 : Ob) (h2 : Ob) (h17 : Ob) (h18 : Ob) (h19 : Ob) (h20 : Ob) (h21 : Ob) (h22 : Ob) (k64 : XK) (a : Ob × Ob × Ob × Ob × Ob × Ob × Ob × Ob × Ob × Ob × Ob × Ob × Ob × Ob × Ob × Ob × Ob) : rg_X7_fix_0 k64 (en_X7_fix_0 p1 h0 h2 h17 h18 h19 h20 h21 h22 a) = mg_X7_fix_0 p1 h0 h2 h17 h18 h19 h20 h21 h22 (fun b => k64 (en_X7_fix_64 p1 h0 h2 h17 h18 h19 h20 h21 h22 b)) a := rfl
set_option maxRecDepth 100000 in
set_option maxHeartbeats 4000000 in
theorem sg_X7_fix_0 {X : XDyn} {r0 : Rt} (C : XO X mX7_fix) {k64 : XK} (q64 : XS X mX7_fix r0 64 k64) : XS X mX7_fix r0 0 (rg_X7_fix_0 k64) := by
 unfold rg_X7_fix_0
 exact s_aload_n (pc := 0) C dX7_fix_0 rfl <|
    s_get (pc := 1) C (ci := 7) (kf := 0) rfl inX7 (by decide) wd_312 dX7_fix_1 <|
    s_callV (pc := 4) C ct_X3_firstUnusedPointer (n := 1) (rk := 1) (mp := [1]) ⟨rfl, by decide, rfl⟩ (ci := 3) rfl rfl (by decide) (by decide) yi_X3_firstUnusedPointer (by decide) wd_657 wd_658 wd_659 wd_74 wd_660 dX7_fix_4 <|
    s_istore_n (pc := 7) C dX7_fix_7 rfl <|
    s_iload_n (pc := 8) C dX7_fix_8 rfl <|
    s_callS (pc := 9) C ct_X7_isSize (n := 1) (rk := 1) (mp := []) ⟨rfl, by decide, rfl⟩ (by decide) (by decide) ⟨rfl, yi_X7_isSize⟩ wd_357 wd_358 wd_73 wd_359 dX7_fix_9 <|
    s_if_eq (pc := 12) C dX7_fix_12 (by decide) (s_iconst (pc := 20) C dX7_fix_20 <|
    s_ireturn (pc := 21) C rfl dX7_fix_21)
    (s_iload_n (pc := 15) C dX7_fix_15 rfl <|
    s_iconst (pc := 16) C dX7_fix_16 <|
    s_icmp_ne (pc := 17) C dX7_fix_17 (by decide) (s_aload_n (pc := 22) C dX7_fix_22 rfl <|
    s_get (pc := 23) C (ci := 7) (kf := 2) rfl inX7 (by decide) wd_314 dX7_fix_23 <|
    s_aload_n (pc := 26) C dX7_fix_26 rfl <|
    s_get (pc := 27) C (ci := 7) (kf := 0) rfl inX7 (by decide) wd_312 dX7_fix_27 <|
    s_callVg (pc := 30) C ct_X5_save (n := 2) (rk := 0) (mp := [3, 4, 5, 6, 7, 8, 9, 10, 11, 12, 13, 14, 15, 16, 1]) ⟨rfl, by decide, rfl⟩ (ci := 5) rfl rfl (by decide) (by decide) yi_X5_save (by decide) wd_360 wd_361 wd_362 wd_75 wd_363 dX7_fix_30 <|
    s_aload_n (pc := 33) C dX7_fix_33 rfl <|
    s_get (pc := 34) C (ci := 7) (kf := 6) rfl inX7 (by decide) wd_318 dX7_fix_34 <|
    s_aload_n (pc := 37) C dX7_fix_37 rfl <|
    s_get (pc := 38) C (ci := 7) (kf := 0) rfl inX7 (by decide) wd_312 dX7_fix_38 <|
    s_iload_n (pc := 41) C dX7_fix_41 rfl <|
    s_iconst (pc := 42) C dX7_fix_42 <|
    s_iadd (pc := 43) C dX7_fix_43 <|
    s_callVg (pc := 44) C ct_X1_clearFirst (n := 3) (rk := 1) (mp := [23, 24, 1]) ⟨rfl, by decide, rfl⟩ (ci := 1) rfl rfl (by decide) (by decide) yi_X1_clearFirst (by decide) wd_662 wd_663 wd_664 wd_80 wd_665 dX7_fix_44 <|
    s_istore_n (pc := 47) C dX7_fix_47 rfl <|
    s_iload_n (pc := 48) C dX7_fix_48 rfl <|
    s_iconst (pc := 49) C dX7_fix_49 <|
    s_icmp_ne (pc := 50) C dX7_fix_50 (by decide) (s_cut q64)
    (s_aload_n (pc := 53) C dX7_fix_53 rfl <|
    s_get (pc := 54) C (ci := 7) (kf := 0) rfl inX7 (by decide) wd_312 dX7_fix_54 <|
    s_iload_n (pc := 57) C dX7_fix_57 rfl <|
    s_iconst (pc := 58) C dX7_fix_58 <|
    s_iadd (pc := 59) C dX7_fix_59 <|
    s_callV (pc := 60) C ct_X3_grow (n := 2) (rk := 1) (mp := [1]) ⟨rfl, by decide, rfl⟩ (ci := 3) rfl rfl (by decide) (by decide) yi_X3_grow (by decide) wd_683 wd_417 wd_418 wd_74 wd_419 dX7_fix_60 <|
    s_istore_n (pc := 63) C dX7_fix_63 rfl <|
    s_cut q64))
    (s_iconst (pc := 20) C dX7_fix_20 <|
    s_ireturn (pc := 21) C rfl dX7_fix_21))
noncomputable def mg_X7_fix_64 (p1 : Int) (h0 : Ob) (h2 : Ob) (h17 : Ob) (h18 : Ob) (h19 : Ob) (h20 : Ob) (h21 : Ob) (h22 : Ob) (a : Int × Int × Ob × Ob × Ob × Ob × Ob × Ob × Ob × Ob × Ob × Ob × Ob × Ob × Ob × Ob × Ob × Ob × Ob) : Option Rt :=
 if xw a.2.1 = (-1) then (if pd (PG a.2.2.2.1) then (
 RI (-2) [h0, (cpyO a.2.2.1 (kpk a.2.2.2.1 0 [a.2.2.2.2.1, a.2.2.2.2.2.1, a.2.2.2.2.2.2.1, a.2.2.2.2.2.2.2.1, a.2.2.2.2.2.2.2.2.1, a.2.2.2.2.2.2.2.2.2.1, a.2.2.2.2.2.2.2.2.2.2.1, a.2.2.2.2.2.2.2.2.2.2.2.1, a.2.2.2.2.2.2.2.2.2.2.2.2.1, a.2.2.2.2.2.2.2.2.2.2.2.2.2.1, a.2.2.2.2.2.2.2.2.2.2.2.2.2.2.1, a.2.2.2.2.2.2.2.2.2.2.2.2.2.2.2.1, a.2.2.2.2.2.2.2.2.2.2.2.2.2.2.2.2.1])), h2, a.2.2.2.1, a.2.2.2.2.1, a.2.2.2.2.2.1, a.2.2.2.2.2.2.1, a.2.2.2.2.2.2.2.1, a.2.2.2.2.2.2.2.2.1, a.2.2.2.2.2.2.2.2.2.1, a.2.2.2.2.2.2.2.2.2.2.1, a.2.2.2.2.2.2.2.2.2.2.2.1, a.2.2.2.2.2.2.2.2.2.2.2.2.1, a.2.2.2.2.2.2.2.2.2.2.2.2.2.1, a.2.2.2.2.2.2.2.2.2.2.2.2.2.2.1, a.2.2.2.2.2.2.2.2.2.2.2.2.2.2.2.1, a.2.2.2.2.2.2.2.2.2.2.2.2.2.2.2.2.1, h17, h18, h19, h20, h21, h22, a.2.2.2.2.2.2.2.2.2.2.2.2.2.2.2.2.2.1, a.2.2.2.2.2.2.2.2.2.2.2.2.2.2.2.2.2.2]) else none)
 else (RI a.1 [h0, (finO (layO a.2.2.1 (8 + a.1) a.2.1 p1) ((-1) : Int)), h2, (keeO a.2.2.2.1), a.2.2.2.2.1, a.2.2.2.2.2.1, a.2.2.2.2.2.2.1, a.2.2.2.2.2.2.2.1, a.2.2.2.2.2.2.2.2.1, a.2.2.2.2.2.2.2.2.2.1, a.2.2.2.2.2.2.2.2.2.2.1, a.2.2.2.2.2.2.2.2.2.2.2.1, a.2.2.2.2.2.2.2.2.2.2.2.2.1, a.2.2.2.2.2.2.2.2.2.2.2.2.2.1, a.2.2.2.2.2.2.2.2.2.2.2.2.2.2.1, a.2.2.2.2.2.2.2.2.2.2.2.2.2.2.2.1, a.2.2.2.2.2.2.2.2.2.2.2.2.2.2.2.2.1, h17, h18, h19, h20, h21, h22, a.2.2.2.2.2.2.2.2.2.2.2.2.2.2.2.2.2.1, a.2.2.2.2.2.2.2.2.2.2.2.2.2.2.2.2.2.2])
set_option maxRecDepth 100000 in
set_option maxHeartbeats 4000000 in
theorem rq_X7_fix_64 (p1 : Int) (h0 : Ob) (h2 : Ob) (h17 : Ob) (h18 : Ob) (h19 : Ob) (h20 : Ob) (h21 : Ob) (h22 : Ob) (a : Int × Int × Ob × Ob × Ob × Ob × Ob × Ob × Ob × Ob × Ob × Ob × Ob × Ob × Ob × Ob × Ob × Ob × Ob) : rg_X7_fix_64 (en_X7_fix_64 p1 h0 h2 h17 h18 h19 h20 h21 h22 a) = mg_X7_fix_64 p1 h0 h2 h17 h18 h19 h20 h21 h22 a := rfl
set_option maxRecDepth 100000 in
set_option maxHeartbeats 4000000 in
theorem sg_X7_fix_64 {X : XDyn} {r0 : Rt} (C : XO X mX7_fix) : XS X mX7_fix r0 64 (rg_X7_fix_64) := by
 unfold rg_X7_fix_64
 exact s_iload_n (pc := 64) C dX7_fix_64 rfl <|
    s_iconst (pc := 65) C dX7_fix_65 <|
    s_icmp_ne (pc := 66) C dX7_fix_66 (by decide) (s_aload_n (pc := 83) C dX7_fix_83 rfl <|
    s_get (pc := 84) C (ci := 7) (kf := 0) rfl inX7 (by decide) wd_312 dX7_fix_84 <|
    s_bipush (pc := 87) C dX7_fix_87 (by decide) <|
    s_iload_n (pc := 89) C dX7_fix_89 rfl <|
    s_iadd (pc := 90) C dX7_fix_90 <|
    s_iload_n (pc := 91) C dX7_fix_91 rfl <|
    s_iload_n (pc := 92) C dX7_fix_92 rfl <|
    s_callV (pc := 93) C ct_X3_layNew (n := 4) (rk := 0) (mp := [1]) ⟨rfl, by decide, rfl⟩ (ci := 3) rfl rfl (by decide) (by decide) yi_X3_layNew (by decide) wd_530 wd_531 wd_532 wd_74 wd_533 dX7_fix_93 <|
    s_aload_n (pc := 96) C dX7_fix_96 rfl <|
    s_iconst (pc := 97) C dX7_fix_97 <|
    s_callV (pc := 98) C ct_X7_finish (n := 2) (rk := 0) (mp := [0, 1, 2, 3, 4, 5, 6, 7, 8, 9, 10, 11, 12, 13, 14, 15, 16, 17, 18, 19, 20, 21, 22, 23, 24]) ⟨rfl, by decide, rfl⟩ (ci := 7) rfl rfl (by decide) (by decide) yi_X7_finish (by decide) wd_542 wd_544 wd_10 wd_73 wd_545 dX7_fix_98 <|
    s_iload_n (pc := 101) C dX7_fix_101 rfl <|
    s_ireturn (pc := 102) C rfl dX7_fix_102)
    (s_aload_n (pc := 69) C dX7_fix_69 rfl <|
    s_get (pc := 70) C (ci := 7) (kf := 2) rfl inX7 (by decide) wd_314 dX7_fix_70 <|
    s_aload_n (pc := 73) C dX7_fix_73 rfl <|
    s_get (pc := 74) C (ci := 7) (kf := 0) rfl inX7 (by decide) wd_312 dX7_fix_74 <|
    s_callVg (pc := 77) C ct_X5_putBack (n := 2) (rk := 0) (mp := [3, 4, 5, 6, 7, 8, 9, 10, 11, 12, 13, 14, 15, 16, 1]) ⟨rfl, by decide, rfl⟩ (ci := 5) rfl rfl (by decide) (by decide) yi_X5_putBack (by decide) wd_526 wd_527 wd_528 wd_75 wd_529 dX7_fix_77 <|
    s_bipush (pc := 80) C dX7_fix_80 (by decide) <|
    s_ireturn (pc := 82) C rfl dX7_fix_82)
noncomputable def rw_X7_fix_64 : XK := rg_X7_fix_64
noncomputable def md_X7_fix_64 (p1 : Int) (h0 : Ob) (h2 : Ob) (h17 : Ob) (h18 : Ob) (h19 : Ob) (h20 : Ob) (h21 : Ob) (h22 : Ob) : Int × Int × Ob × Ob × Ob × Ob × Ob × Ob × Ob × Ob × Ob × Ob × Ob × Ob × Ob × Ob × Ob × Ob × Ob → Option Rt := mg_X7_fix_64 p1 h0 h2 h17 h18 h19 h20 h21 h22
theorem eq_X7_fix_64 (p1 : Int) (h0 : Ob) (h2 : Ob) (h17 : Ob) (h18 : Ob) (h19 : Ob) (h20 : Ob) (h21 : Ob) (h22 : Ob) (a : Int × Int × Ob × Ob × Ob × Ob × Ob × Ob × Ob × Ob × Ob × Ob × Ob × Ob × Ob × Ob × Ob × Ob × Ob) : rw_X7_fix_64 (en_X7_fix_64 p1 h0 h2 h17 h18 h19 h20 h21 h22 a) = md_X7_fix_64 p1 h0 h2 h17 h18 h19 h20 h21 h22 a :=
 rq_X7_fix_64 p1 h0 h2 h17 h18 h19 h20 h21 h22 a
theorem sd_X7_fix_64 {X : XDyn} {r0 : Rt} (C : XO X mX7_fix) : XS X mX7_fix r0 64 (rw_X7_fix_64) := sg_X7_fix_64 C
noncomputable def rw_X7_fix_0 : XK := rg_X7_fix_0 (rw_X7_fix_64)
noncomputable def md_X7_fix_0 (p1 : Int) (h0 : Ob) (h2 : Ob) (h17 : Ob) (h18 : Ob) (h19 : Ob) (h20 : Ob) (h21 : Ob) (h22 : Ob) : Ob × Ob × Ob × Ob × Ob × Ob × Ob × Ob × Ob × Ob × Ob × Ob × Ob × Ob × Ob × Ob × Ob → Option Rt := mg_X7_fix_0 p1 h0 h2 h17 h18 h19 h20 h21 h22 (md_X7_fix_64 p1 h0 h2 h17 h18 h19 h20 h21 h22)
theorem eq_X7_fix_0 (p1 : Int) (h0 : Ob) (h2 : Ob) (h17 : Ob) (h18 : Ob) (h19 : Ob) (h20 : Ob) (h21 : Ob) (h22 : Ob) (a : Ob × Ob × Ob × Ob × Ob × Ob × Ob × Ob × Ob × Ob × Ob × Ob × Ob × Ob × Ob × Ob × Ob) : rw_X7_fix_0 (en_X7_fix_0 p1 h0 h2 h17 h18 h19 h20 h21 h22 a) = md_X7_fix_0 p1 h0 h2 h17 h18 h19 h20 h21 h22 a :=
 (rq_X7_fix_0 p1 h0 h2 h17 h18 h19 h20 h21 h22 (rw_X7_fix_64) a).trans (congrFun (congr (rfl : mg_X7_fix_0 p1 h0 h2 h17 h18 h19 h20 h21 h22 = mg_X7_fix_0 p1 h0 h2 h17 h18 h19 h20 h21 h22) (funext (eq_X7_fix_64 p1 h0 h2 h17 h18 h19 h20 h21 h22))) a)
theorem sd_X7_fix_0 {X : XDyn} {r0 : Rt} (C : XO X mX7_fix) : XS X mX7_fix r0 0 (rw_X7_fix_0) := sg_X7_fix_0 C (sd_X7_fix_64 C)
theorem ctr_X7_fix : XCt yX7_fix mX7_fix (xF mX7_fix (rw_X7_fix_0)) := xMet (by decide +kernel) rfl (fun _ _ C => sd_X7_fix_0 C)
theorem eqf_X7_fix (p1 : Int) (h0 : Ob) (h1 : Ob) (h2 : Ob) (h3 : Ob) (h4 : Ob) (h5 : Ob) (h6 : Ob) (h7 : Ob) (h8 : Ob) (h9 : Ob) (h10 : Ob) (h11 : Ob) (h12 : Ob) (h13 : Ob) (h14 : Ob) (h15 : Ob) (h16 : Ob) (h17 : Ob) (h18 : Ob) (h19 : Ob) (h20 : Ob) (h21 : Ob) (h22 : Ob) (h23 : Ob) (h24 : Ob) : xF mX7_fix (rw_X7_fix_0) [.inr (.inl (0, 0)), .inl p1] [h0, h1, h2, h3, h4, h5, h6, h7, h8, h9, h10, h11, h12, h13, h14, h15, h16, h17, h18, h19, h20, h21, h22, h23, h24] = md_X7_fix_0 p1 h0 h2 h17 h18 h19 h20 h21 h22 (h1, h3, h4, h5, h6, h7, h8, h9, h10, h11, h12, h13, h14, h15, h16, h23, h24) := eq_X7_fix_0 p1 h0 h2 h17 h18 h19 h20 h21 h22 (h1, h3, h4, h5, h6, h7, h8, h9, h10, h11, h12, h13, h14, h15, h16, h23, h24)
theorem yi_X7_fix : yX7_fix.cls = RX7 ∧ yX7_fix.cls ≠ "java/lang/invoke/MethodHandle" ∧ yX7_fix.cls ≠ "java/lang/invoke/VarHandle" ∧ (parseMethodDescriptor yX7_fix.desc).map (fun d => d.parameters.length) = some 1 := ⟨rfl, by decide +kernel, by decide +kernel, by decide +kernel⟩
theorem dX7_reserve_0 : decode cX7_reserve 0 = .ok (.iload_n 1, 1) := by decide +kernel
theorem dX7_reserve_1 : decode cX7_reserve 1 = .ok (.invokestatic 65, 3) := by decide +kernel
theorem dX7_reserve_4 : decode cX7_reserve 4 = .ok (.ifCond .ne 5, 3) := by decide +kernel
theorem dX7_reserve_7 : decode cX7_reserve 7 = .ok (.iconst (-1), 1) := by decide +kernel
theorem dX7_reserve_8 : decode cX7_reserve 8 = .ok (.ireturn, 1) := by decide +kernel
theorem dX7_reserve_9 : decode cX7_reserve 9 = .ok (.aload_n 0, 1) := by decide +kernel
theorem dX7_reserve_10 : decode cX7_reserve 10 = .ok (.getfield 22, 3) := by decide +kernel
theorem dX7_reserve_13 : decode cX7_reserve 13 = .ok (.aload_n 0, 1) := by decide +kernel
theorem dX7_reserve_14 : decode cX7_reserve 14 = .ok (.getfield 12, 3) := by decide +kernel
theorem dX7_reserve_17 : decode cX7_reserve 17 = .ok (.invokevirtual 69, 3) := by decide +kernel
theorem dX7_reserve_20 : decode cX7_reserve 20 = .ok (.aload_n 0, 1) := by decide +kernel
theorem dX7_reserve_21 : decode cX7_reserve 21 = .ok (.getfield 50, 3) := by decide +kernel
theorem dX7_reserve_24 : decode cX7_reserve 24 = .ok (.aload_n 0, 1) := by decide +kernel
theorem dX7_reserve_25 : decode cX7_reserve 25 = .ok (.getfield 12, 3) := by decide +kernel
theorem dX7_reserve_28 : decode cX7_reserve 28 = .ok (.iload_n 1, 1) := by decide +kernel
theorem dX7_reserve_29 : decode cX7_reserve 29 = .ok (.iconst 1, 1) := by decide +kernel
theorem dX7_reserve_30 : decode cX7_reserve 30 = .ok (.iadd, 1) := by decide +kernel
theorem dX7_reserve_31 : decode cX7_reserve 31 = .ok (.invokevirtual 163, 3) := by decide +kernel
theorem dX7_reserve_34 : decode cX7_reserve 34 = .ok (.istore_n 2, 1) := by decide +kernel
theorem dX7_reserve_35 : decode cX7_reserve 35 = .ok (.iload_n 2, 1) := by decide +kernel
theorem dX7_reserve_36 : decode cX7_reserve 36 = .ok (.iconst (-1), 1) := by decide +kernel
theorem dX7_reserve_37 : decode cX7_reserve 37 = .ok (.if_icmp .ne 17, 3) := by decide +kernel
theorem dX7_reserve_40 : decode cX7_reserve 40 = .ok (.aload_n 0, 1) := by decide +kernel
theorem dX7_reserve_41 : decode cX7_reserve 41 = .ok (.getfield 22, 3) := by decide +kernel
theorem dX7_reserve_44 : decode cX7_reserve 44 = .ok (.aload_n 0, 1) := by decide +kernel
theorem dX7_reserve_45 : decode cX7_reserve 45 = .ok (.getfield 12, 3) := by decide +kernel
theorem dX7_reserve_48 : decode cX7_reserve 48 = .ok (.invokevirtual 77, 3) := by decide +kernel
theorem dX7_reserve_51 : decode cX7_reserve 51 = .ok (.bipush (-2), 2) := by decide +kernel
theorem dX7_reserve_53 : decode cX7_reserve 53 = .ok (.ireturn, 1) := by decide +kernel
theorem dX7_reserve_54 : decode cX7_reserve 54 = .ok (.aload_n 0, 1) := by decide +kernel
theorem dX7_reserve_55 : decode cX7_reserve 55 = .ok (.iconst (-1), 1) := by decide +kernel
theorem dX7_reserve_56 : decode cX7_reserve 56 = .ok (.invokevirtual 87, 3) := by decide +kernel
theorem dX7_reserve_59 : decode cX7_reserve 59 = .ok (.iload_n 2, 1) := by decide +kernel
theorem dX7_reserve_60 : decode cX7_reserve 60 = .ok (.ireturn, 1) := by decide +kernel
abbrev mX7_reserve : XM := (cX7_reserve, 3, RX7, (some .int), shw_M, 5)
noncomputable def rg_X7_reserve_0 : XK :=
 o_iload 1 <|
 o_callS 1 1 [] f_X7_isSize <|
 o_if_ne (o_aload 0 <|
 o_get shw_M 7 2 <|
 o_aload 0 <|
 o_get shw_M 7 0 <|
 o_callVg 2 0 [3, 4, 5, 6, 7, 8, 9, 10, 11, 12, 13, 14, 15, 16, 1] g_X5_save v_X5_save <|
 o_aload 0 <|
 o_get shw_M 7 6 <|
 o_aload 0 <|
 o_get shw_M 7 0 <|
 o_iload 1 <|
 o_iconst 1 <|
 o_iadd <|
 o_callVg 3 1 [23, 24, 1] g_X1_clearFirst v_X1_clearFirst <|
 o_istore 2 <|
 o_iload 2 <|
 o_iconst (-1) <|
 o_icmp_ne (o_aload 0 <|
 o_iconst (-1) <|
 o_callV 2 0 [0, 1, 2, 3, 4, 5, 6, 7, 8, 9, 10, 11, 12, 13, 14, 15, 16, 17, 18, 19, 20, 21, 22, 23, 24] f_X7_finish <|
 o_iload 2 <|
 o_ireturn)
 (o_aload 0 <|
 o_get shw_M 7 2 <|
 o_aload 0 <|
 o_get shw_M 7 0 <|
 o_callVg 2 0 [3, 4, 5, 6, 7, 8, 9, 10, 11, 12, 13, 14, 15, 16, 1] g_X5_putBack v_X5_putBack <|
 o_iconst (-2) <|
 o_ireturn))
 (o_iconst (-1) <|
 o_ireturn)
def en_X7_reserve_0 (p1 : Int) (h0 : Ob) (h2 : Ob) (h17 : Ob) (h18 : Ob) (h19 : Ob) (h20 : Ob) (h21 : Ob) (h22 : Ob) (a : Ob × Ob × Ob × Ob × Ob × Ob × Ob × Ob × Ob × Ob × Ob × Ob × Ob × Ob × Ob × Ob × Ob) : XSt := ([some (.inr (.inl (0, 0))), some (.inl p1), none], [], [h0, a.1, h2, a.2.1, a.2.2.1, a.2.2.2.1, a.2.2.2.2.1, a.2.2.2.2.2.1, a.2.2.2.2.2.2.1, a.2.2.2.2.2.2.2.1, a.2.2.2.2.2.2.2.2.1, a.2.2.2.2.2.2.2.2.2.1, a.2.2.2.2.2.2.2.2.2.2.1, a.2.2.2.2.2.2.2.2.2.2.2.1, a.2.2.2.2.2.2.2.2.2.2.2.2.1, a.2.2.2.2.2.2.2.2.2.2.2.2.2.1, a.2.2.2.2.2.2.2.2.2.2.2.2.2.2.1, h17, h18, h19, h20, h21, h22, a.2.2.2.2.2.2.2.2.2.2.2.2.2.2.2.1, a.2.2.2.2.2.2.2.2.2.2.2.2.2.2.2.2])
noncomputable def mg_X7_reserve_0 (p1 : Int) (h0 : Ob) (h2 : Ob) (h17 : Ob) (h18 : Ob) (h19 : Ob) (h20 : Ob) (h21 : Ob) (h22 : Ob) (a : Ob × Ob × Ob × Ob × Ob × Ob × Ob × Ob × Ob × Ob × Ob × Ob × Ob × Ob × Ob × Ob × Ob) : Option Rt :=
 if xw (bz (siz p1)) = 0 then (RI (-1) [h0, a.1, h2, a.2.1, a.2.2.1, a.2.2.2.1, a.2.2.2.2.1, a.2.2.2.2.2.1, a.2.2.2.2.2.2.1, a.2.2.2.2.2.2.2.1, a.2.2.2.2.2.2.2.2.1, a.2.2.2.2.2.2.2.2.2.1, a.2.2.2.2.2.2.2.2.2.2.1, a.2.2.2.2.2.2.2.2.2.2.2.1, a.2.2.2.2.2.2.2.2.2.2.2.2.1, a.2.2.2.2.2.2.2.2.2.2.2.2.2.1, a.2.2.2.2.2.2.2.2.2.2.2.2.2.2.1, h17, h18, h19, h20, h21, h22, a.2.2.2.2.2.2.2.2.2.2.2.2.2.2.2.1, a.2.2.2.2.2.2.2.2.2.2.2.2.2.2.2.2])
 else (if pd (PG a.2.1) then (
 if pd (LW a.1 ∧ 1 ≤ (p1 + 1) ∧ (p1 + 1) ≤ 200) then (
 if xw ((cfF a.2.2.2.2.2.2.2.2.2.2.2.2.2.2.2.2 a.1 (p1 + 1)).1) = (-1) then (if pd (PG a.2.1) then (
 RI (-2) [h0, (cpyO ((cfF a.2.2.2.2.2.2.2.2.2.2.2.2.2.2.2.2 a.1 (p1 + 1)).2.2) (kpk a.2.1 0 [(svK a.2.1 0 a.2.2.1 a.1), (svK a.2.1 1 a.2.2.2.1 a.1), (svK a.2.1 2 a.2.2.2.2.1 a.1), (svK a.2.1 3 a.2.2.2.2.2.1 a.1), (svK a.2.1 4 a.2.2.2.2.2.2.1 a.1), (svK a.2.1 5 a.2.2.2.2.2.2.2.1 a.1), (svK a.2.1 6 a.2.2.2.2.2.2.2.2.1 a.1), (svK a.2.1 7 a.2.2.2.2.2.2.2.2.2.1 a.1), (svK a.2.1 8 a.2.2.2.2.2.2.2.2.2.2.1 a.1), (svK a.2.1 9 a.2.2.2.2.2.2.2.2.2.2.2.1 a.1), (svK a.2.1 10 a.2.2.2.2.2.2.2.2.2.2.2.2.1 a.1), (svK a.2.1 11 a.2.2.2.2.2.2.2.2.2.2.2.2.2.1 a.1), (svK a.2.1 12 a.2.2.2.2.2.2.2.2.2.2.2.2.2.2.1 a.1)])), h2, a.2.1, (svK a.2.1 0 a.2.2.1 a.1), (svK a.2.1 1 a.2.2.2.1 a.1), (svK a.2.1 2 a.2.2.2.2.1 a.1), (svK a.2.1 3 a.2.2.2.2.2.1 a.1), (svK a.2.1 4 a.2.2.2.2.2.2.1 a.1), (svK a.2.1 5 a.2.2.2.2.2.2.2.1 a.1), (svK a.2.1 6 a.2.2.2.2.2.2.2.2.1 a.1), (svK a.2.1 7 a.2.2.2.2.2.2.2.2.2.1 a.1), (svK a.2.1 8 a.2.2.2.2.2.2.2.2.2.2.1 a.1), (svK a.2.1 9 a.2.2.2.2.2.2.2.2.2.2.2.1 a.1), (svK a.2.1 10 a.2.2.2.2.2.2.2.2.2.2.2.2.1 a.1), (svK a.2.1 11 a.2.2.2.2.2.2.2.2.2.2.2.2.2.1 a.1), (svK a.2.1 12 a.2.2.2.2.2.2.2.2.2.2.2.2.2.2.1 a.1), h17, h18, h19, h20, h21, h22, (oldO a.2.2.2.2.2.2.2.2.2.2.2.2.2.2.2.1 a.1), ((cfF a.2.2.2.2.2.2.2.2.2.2.2.2.2.2.2.2 a.1 (p1 + 1)).2.1)]) else none)
 else (RI ((cfF a.2.2.2.2.2.2.2.2.2.2.2.2.2.2.2.2 a.1 (p1 + 1)).1) [h0, (finO ((cfF a.2.2.2.2.2.2.2.2.2.2.2.2.2.2.2.2 a.1 (p1 + 1)).2.2) ((-1) : Int)), h2, (keeO a.2.1), (svK a.2.1 0 a.2.2.1 a.1), (svK a.2.1 1 a.2.2.2.1 a.1), (svK a.2.1 2 a.2.2.2.2.1 a.1), (svK a.2.1 3 a.2.2.2.2.2.1 a.1), (svK a.2.1 4 a.2.2.2.2.2.2.1 a.1), (svK a.2.1 5 a.2.2.2.2.2.2.2.1 a.1), (svK a.2.1 6 a.2.2.2.2.2.2.2.2.1 a.1), (svK a.2.1 7 a.2.2.2.2.2.2.2.2.2.1 a.1), (svK a.2.1 8 a.2.2.2.2.2.2.2.2.2.2.1 a.1), (svK a.2.1 9 a.2.2.2.2.2.2.2.2.2.2.2.1 a.1), (svK a.2.1 10 a.2.2.2.2.2.2.2.2.2.2.2.2.1 a.1), (svK a.2.1 11 a.2.2.2.2.2.2.2.2.2.2.2.2.2.1 a.1), (svK a.2.1 12 a.2.2.2.2.2.2.2.2.2.2.2.2.2.2.1 a.1), h17, h18, h19, h20, h21, h22, (oldO a.2.2.2.2.2.2.2.2.2.2.2.2.2.2.2.1 a.1), ((cfF a.2.2.2.2.2.2.2.2.2.2.2.2.2.2.2.2 a.1 (p1 + 1)).2.1)])) else none) else none)
set_option maxRecDepth 100000 in
set_option maxHeartbeats 4000000 in
theorem rq_X7_reserve_0 (p1 : Int) (h0 : Ob) (h2 : Ob) (h17 : Ob) (h18 : Ob) (h19 : Ob) (h20 : Ob) (h21 : Ob) (h22 : Ob) (a : Ob × Ob × Ob × Ob × Ob × Ob × Ob × Ob × Ob × Ob × Ob × Ob × Ob × Ob × Ob × Ob × Ob) : rg_X7_reserve_0 (en_X7_reserve_0 p1 h0 h2 h17 h18 h19 h20 h21 h22 a) = mg_X7_reserve_0 p1 h0 h2 h17 h18 h19 h20 h21 h22 a := rfl
set_option maxRecDepth 100000 in
set_option maxHeartbeats 4000000 in
theorem sg_X7_reserve_0 {X : XDyn} {r0 : Rt} (C : XO X mX7_reserve) : XS X mX7_reserve r0 0 (rg_X7_reserve_0) := by
 unfold rg_X7_reserve_0
 exact s_iload_n (pc := 0) C dX7_reserve_0 rfl <|
    s_callS (pc := 1) C ct_X7_isSize (n := 1) (rk := 1) (mp := []) ⟨rfl, by decide, rfl⟩ (by decide) (by decide) ⟨rfl, yi_X7_isSize⟩ wd_357 wd_358 wd_73 wd_359 dX7_reserve_1 <|
    s_if_ne (pc := 4) C dX7_reserve_4 (by decide) (s_aload_n (pc := 9) C dX7_reserve_9 rfl <|
    s_get (pc := 10) C (ci := 7) (kf := 2) rfl inX7 (by decide) wd_314 dX7_reserve_10 <|
    s_aload_n (pc := 13) C dX7_reserve_13 rfl <|
    s_get (pc := 14) C (ci := 7) (kf := 0) rfl inX7 (by decide) wd_312 dX7_reserve_14 <|
    s_callVg (pc := 17) C ct_X5_save (n := 2) (rk := 0) (mp := [3, 4, 5, 6, 7, 8, 9, 10, 11, 12, 13, 14, 15, 16, 1]) ⟨rfl, by decide, rfl⟩ (ci := 5) rfl rfl (by decide) (by decide) yi_X5_save (by decide) wd_360 wd_361 wd_362 wd_75 wd_363 dX7_reserve_17 <|
    s_aload_n (pc := 20) C dX7_reserve_20 rfl <|
    s_get (pc := 21) C (ci := 7) (kf := 6) rfl inX7 (by decide) wd_318 dX7_reserve_21 <|
    s_aload_n (pc := 24) C dX7_reserve_24 rfl <|
    s_get (pc := 25) C (ci := 7) (kf := 0) rfl inX7 (by decide) wd_312 dX7_reserve_25 <|
    s_iload_n (pc := 28) C dX7_reserve_28 rfl <|
    s_iconst (pc := 29) C dX7_reserve_29 <|
    s_iadd (pc := 30) C dX7_reserve_30 <|
    s_callVg (pc := 31) C ct_X1_clearFirst (n := 3) (rk := 1) (mp := [23, 24, 1]) ⟨rfl, by decide, rfl⟩ (ci := 1) rfl rfl (by decide) (by decide) yi_X1_clearFirst (by decide) wd_662 wd_663 wd_664 wd_80 wd_665 dX7_reserve_31 <|
    s_istore_n (pc := 34) C dX7_reserve_34 rfl <|
    s_iload_n (pc := 35) C dX7_reserve_35 rfl <|
    s_iconst (pc := 36) C dX7_reserve_36 <|
    s_icmp_ne (pc := 37) C dX7_reserve_37 (by decide) (s_aload_n (pc := 54) C dX7_reserve_54 rfl <|
    s_iconst (pc := 55) C dX7_reserve_55 <|
    s_callV (pc := 56) C ct_X7_finish (n := 2) (rk := 0) (mp := [0, 1, 2, 3, 4, 5, 6, 7, 8, 9, 10, 11, 12, 13, 14, 15, 16, 17, 18, 19, 20, 21, 22, 23, 24]) ⟨rfl, by decide, rfl⟩ (ci := 7) rfl rfl (by decide) (by decide) yi_X7_finish (by decide) wd_542 wd_544 wd_10 wd_73 wd_545 dX7_reserve_56 <|
    s_iload_n (pc := 59) C dX7_reserve_59 rfl <|
    s_ireturn (pc := 60) C rfl dX7_reserve_60)
    (s_aload_n (pc := 40) C dX7_reserve_40 rfl <|
    s_get (pc := 41) C (ci := 7) (kf := 2) rfl inX7 (by decide) wd_314 dX7_reserve_41 <|
    s_aload_n (pc := 44) C dX7_reserve_44 rfl <|
    s_get (pc := 45) C (ci := 7) (kf := 0) rfl inX7 (by decide) wd_312 dX7_reserve_45 <|
    s_callVg (pc := 48) C ct_X5_putBack (n := 2) (rk := 0) (mp := [3, 4, 5, 6, 7, 8, 9, 10, 11, 12, 13, 14, 15, 16, 1]) ⟨rfl, by decide, rfl⟩ (ci := 5) rfl rfl (by decide) (by decide) yi_X5_putBack (by decide) wd_526 wd_527 wd_528 wd_75 wd_529 dX7_reserve_48 <|
    s_bipush (pc := 51) C dX7_reserve_51 (by decide) <|
    s_ireturn (pc := 53) C rfl dX7_reserve_53))
    (s_iconst (pc := 7) C dX7_reserve_7 <|
    s_ireturn (pc := 8) C rfl dX7_reserve_8)
noncomputable def rw_X7_reserve_0 : XK := rg_X7_reserve_0
noncomputable def md_X7_reserve_0 (p1 : Int) (h0 : Ob) (h2 : Ob) (h17 : Ob) (h18 : Ob) (h19 : Ob) (h20 : Ob) (h21 : Ob) (h22 : Ob) : Ob × Ob × Ob × Ob × Ob × Ob × Ob × Ob × Ob × Ob × Ob × Ob × Ob × Ob × Ob × Ob × Ob → Option Rt := mg_X7_reserve_0 p1 h0 h2 h17 h18 h19 h20 h21 h22
theorem eq_X7_reserve_0 (p1 : Int) (h0 : Ob) (h2 : Ob) (h17 : Ob) (h18 : Ob) (h19 : Ob) (h20 : Ob) (h21 : Ob) (h22 : Ob) (a : Ob × Ob × Ob × Ob × Ob × Ob × Ob × Ob × Ob × Ob × Ob × Ob × Ob × Ob × Ob × Ob × Ob) : rw_X7_reserve_0 (en_X7_reserve_0 p1 h0 h2 h17 h18 h19 h20 h21 h22 a) = md_X7_reserve_0 p1 h0 h2 h17 h18 h19 h20 h21 h22 a :=
 rq_X7_reserve_0 p1 h0 h2 h17 h18 h19 h20 h21 h22 a
theorem sd_X7_reserve_0 {X : XDyn} {r0 : Rt} (C : XO X mX7_reserve) : XS X mX7_reserve r0 0 (rw_X7_reserve_0) := sg_X7_reserve_0 C
theorem ctr_X7_reserve : XCt yX7_reserve mX7_reserve (xF mX7_reserve (rw_X7_reserve_0)) := xMet (by decide +kernel) rfl (fun _ _ C => sd_X7_reserve_0 C)
theorem eqf_X7_reserve (p1 : Int) (h0 : Ob) (h1 : Ob) (h2 : Ob) (h3 : Ob) (h4 : Ob) (h5 : Ob) (h6 : Ob) (h7 : Ob) (h8 : Ob) (h9 : Ob) (h10 : Ob) (h11 : Ob) (h12 : Ob) (h13 : Ob) (h14 : Ob) (h15 : Ob) (h16 : Ob) (h17 : Ob) (h18 : Ob) (h19 : Ob) (h20 : Ob) (h21 : Ob) (h22 : Ob) (h23 : Ob) (h24 : Ob) : xF mX7_reserve (rw_X7_reserve_0) [.inr (.inl (0, 0)), .inl p1] [h0, h1, h2, h3, h4, h5, h6, h7, h8, h9, h10, h11, h12, h13, h14, h15, h16, h17, h18, h19, h20, h21, h22, h23, h24] = md_X7_reserve_0 p1 h0 h2 h17 h18 h19 h20 h21 h22 (h1, h3, h4, h5, h6, h7, h8, h9, h10, h11, h12, h13, h14, h15, h16, h23, h24) := eq_X7_reserve_0 p1 h0 h2 h17 h18 h19 h20 h21 h22 (h1, h3, h4, h5, h6, h7, h8, h9, h10, h11, h12, h13, h14, h15, h16, h23, h24)
theorem yi_X7_reserve : yX7_reserve.cls = RX7 ∧ yX7_reserve.cls ≠ "java/lang/invoke/MethodHandle" ∧ yX7_reserve.cls ≠ "java/lang/invoke/VarHandle" ∧ (parseMethodDescriptor yX7_reserve.desc).map (fun d => d.parameters.length) = some 1 := ⟨rfl, by decide +kernel, by decide +kernel, by decide +kernel⟩
theorem dX7_compact_0 : decode cX7_compact 0 = .ok (.aload_n 0, 1) := by decide +kernel
theorem dX7_compact_1 : decode cX7_compact 1 = .ok (.getfield 22, 3) := by decide +kernel
theorem dX7_compact_4 : decode cX7_compact 4 = .ok (.aload_n 0, 1) := by decide +kernel
theorem dX7_compact_5 : decode cX7_compact 5 = .ok (.getfield 12, 3) := by decide +kernel
theorem dX7_compact_8 : decode cX7_compact 8 = .ok (.invokevirtual 69, 3) := by decide +kernel
theorem dX7_compact_11 : decode cX7_compact 11 = .ok (.aload_n 0, 1) := by decide +kernel
theorem dX7_compact_12 : decode cX7_compact 12 = .ok (.getfield 12, 3) := by decide +kernel
theorem dX7_compact_15 : decode cX7_compact 15 = .ok (.sipush 201, 3) := by decide +kernel
theorem dX7_compact_18 : decode cX7_compact 18 = .ok (.invokevirtual 170, 3) := by decide +kernel
theorem dX7_compact_21 : decode cX7_compact 21 = .ok (.pop, 1) := by decide +kernel
theorem dX7_compact_22 : decode cX7_compact 22 = .ok (.aload_n 0, 1) := by decide +kernel
theorem dX7_compact_23 : decode cX7_compact 23 = .ok (.iconst (-1), 1) := by decide +kernel
theorem dX7_compact_24 : decode cX7_compact 24 = .ok (.invokevirtual 87, 3) := by decide +kernel
theorem dX7_compact_27 : decode cX7_compact 27 = .ok (.aload_n 0, 1) := by decide +kernel
theorem dX7_compact_28 : decode cX7_compact 28 = .ok (.getfield 22, 3) := by decide +kernel
theorem dX7_compact_31 : decode cX7_compact 31 = .ok (.aload_n 0, 1) := by decide +kernel
theorem dX7_compact_32 : decode cX7_compact 32 = .ok (.getfield 12, 3) := by decide +kernel
theorem dX7_compact_35 : decode cX7_compact 35 = .ok (.invokevirtual 173, 3) := by decide +kernel
theorem dX7_compact_38 : decode cX7_compact 38 = .ok (.ireturn, 1) := by decide +kernel
abbrev mX7_compact : XM := (cX7_compact, 1, RX7, (some .int), shw_M, 4)
noncomputable def rg_X7_compact_0 : XK :=
 o_aload 0 <|
 o_get shw_M 7 2 <|
 o_aload 0 <|
 o_get shw_M 7 0 <|
 o_callVg 2 0 [3, 4, 5, 6, 7, 8, 9, 10, 11, 12, 13, 14, 15, 16, 1] g_X5_save v_X5_save <|
 o_aload 0 <|
 o_get shw_M 7 0 <|
 o_iconst 201 <|
 o_callVg 2 1 [1] g_X3_slide v_X3_slide <|
 o_pop <|
 o_aload 0 <|
 o_iconst (-1) <|
 o_callV 2 0 [0, 1, 2, 3, 4, 5, 6, 7, 8, 9, 10, 11, 12, 13, 14, 15, 16, 17, 18, 19, 20, 21, 22, 23, 24] f_X7_finish <|
 o_aload 0 <|
 o_get shw_M 7 2 <|
 o_aload 0 <|
 o_get shw_M 7 0 <|
 o_callVg 2 1 [3, 4, 5, 6, 7, 8, 9, 10, 11, 12, 13, 14, 15, 16, 1] g_X5_movedSince v_X5_movedSince <|
 o_ireturn
def en_X7_compact_0 (h0 : Ob) (h2 : Ob) (h17 : Ob) (h18 : Ob) (h19 : Ob) (h20 : Ob) (h21 : Ob) (h22 : Ob) (h23 : Ob) (h24 : Ob) (a : Ob × Ob × Ob × Ob × Ob × Ob × Ob × Ob × Ob × Ob × Ob × Ob × Ob × Ob × Ob) : XSt := ([some (.inr (.inl (0, 0)))], [], [h0, a.1, h2, a.2.1, a.2.2.1, a.2.2.2.1, a.2.2.2.2.1, a.2.2.2.2.2.1, a.2.2.2.2.2.2.1, a.2.2.2.2.2.2.2.1, a.2.2.2.2.2.2.2.2.1, a.2.2.2.2.2.2.2.2.2.1, a.2.2.2.2.2.2.2.2.2.2.1, a.2.2.2.2.2.2.2.2.2.2.2.1, a.2.2.2.2.2.2.2.2.2.2.2.2.1, a.2.2.2.2.2.2.2.2.2.2.2.2.2.1, a.2.2.2.2.2.2.2.2.2.2.2.2.2.2, h17, h18, h19, h20, h21, h22, h23, h24])
noncomputable def mg_X7_compact_0 (h0 : Ob) (h2 : Ob) (h17 : Ob) (h18 : Ob) (h19 : Ob) (h20 : Ob) (h21 : Ob) (h22 : Ob) (h23 : Ob) (h24 : Ob) (a : Ob × Ob × Ob × Ob × Ob × Ob × Ob × Ob × Ob × Ob × Ob × Ob × Ob × Ob × Ob) : Option Rt :=
 if pd (PG a.2.1) then (
 if pd (LW a.1) then (
 if pd (PG (keeO a.2.1) ∧ ((keeO a.2.1) 0 3 = 0 ∨ (keeO a.2.1) 0 3 = 1 ∧ 1 ≤ (keeO a.2.1) 0 2)) then (
 RI (mvsF (keeO a.2.1) (finO ((sld a.1 (201 : Int)).2) ((-1) : Int)) [(svK a.2.1 0 a.2.2.1 a.1), (svK a.2.1 1 a.2.2.2.1 a.1), (svK a.2.1 2 a.2.2.2.2.1 a.1), (svK a.2.1 3 a.2.2.2.2.2.1 a.1), (svK a.2.1 4 a.2.2.2.2.2.2.1 a.1), (svK a.2.1 5 a.2.2.2.2.2.2.2.1 a.1), (svK a.2.1 6 a.2.2.2.2.2.2.2.2.1 a.1), (svK a.2.1 7 a.2.2.2.2.2.2.2.2.2.1 a.1), (svK a.2.1 8 a.2.2.2.2.2.2.2.2.2.2.1 a.1), (svK a.2.1 9 a.2.2.2.2.2.2.2.2.2.2.2.1 a.1), (svK a.2.1 10 a.2.2.2.2.2.2.2.2.2.2.2.2.1 a.1), (svK a.2.1 11 a.2.2.2.2.2.2.2.2.2.2.2.2.2.1 a.1), (svK a.2.1 12 a.2.2.2.2.2.2.2.2.2.2.2.2.2.2 a.1)]) [h0, (finO ((sld a.1 (201 : Int)).2) ((-1) : Int)), h2, (keeO a.2.1), (svK a.2.1 0 a.2.2.1 a.1), (svK a.2.1 1 a.2.2.2.1 a.1), (svK a.2.1 2 a.2.2.2.2.1 a.1), (svK a.2.1 3 a.2.2.2.2.2.1 a.1), (svK a.2.1 4 a.2.2.2.2.2.2.1 a.1), (svK a.2.1 5 a.2.2.2.2.2.2.2.1 a.1), (svK a.2.1 6 a.2.2.2.2.2.2.2.2.1 a.1), (svK a.2.1 7 a.2.2.2.2.2.2.2.2.2.1 a.1), (svK a.2.1 8 a.2.2.2.2.2.2.2.2.2.2.1 a.1), (svK a.2.1 9 a.2.2.2.2.2.2.2.2.2.2.2.1 a.1), (svK a.2.1 10 a.2.2.2.2.2.2.2.2.2.2.2.2.1 a.1), (svK a.2.1 11 a.2.2.2.2.2.2.2.2.2.2.2.2.2.1 a.1), (svK a.2.1 12 a.2.2.2.2.2.2.2.2.2.2.2.2.2.2 a.1), h17, h18, h19, h20, h21, h22, h23, h24]) else none) else none) else none
set_option maxRecDepth 100000 in
set_option maxHeartbeats 4000000 in
theorem rq_X7_compact_0 (h0 : Ob) (h2 : Ob) (h17 : Ob) (h18 : Ob) (h19 : Ob) (h20 : Ob) (h21 : Ob) (h22 : Ob) (h23 : Ob) (h24 : Ob) (a : Ob × Ob × Ob × Ob × Ob × Ob × Ob × Ob × Ob × Ob × Ob × Ob × Ob × Ob × Ob) : rg_X7_compact_0 (en_X7_compact_0 h0 h2 h17 h18 h19 h20 h21 h22 h23 h24 a) = mg_X7_compact_0 h0 h2 h17 h18 h19 h20 h21 h22 h23 h24 a := rfl
set_option maxRecDepth 100000 in
set_option maxHeartbeats 4000000 in
theorem sg_X7_compact_0 {X : XDyn} {r0 : Rt} (C : XO X mX7_compact) : XS X mX7_compact r0 0 (rg_X7_compact_0) := by
 unfold rg_X7_compact_0
 exact s_aload_n (pc := 0) C dX7_compact_0 rfl <|
    s_get (pc := 1) C (ci := 7) (kf := 2) rfl inX7 (by decide) wd_314 dX7_compact_1 <|
    s_aload_n (pc := 4) C dX7_compact_4 rfl <|
    s_get (pc := 5) C (ci := 7) (kf := 0) rfl inX7 (by decide) wd_312 dX7_compact_5 <|
    s_callVg (pc := 8) C ct_X5_save (n := 2) (rk := 0) (mp := [3, 4, 5, 6, 7, 8, 9, 10, 11, 12, 13, 14, 15, 16, 1]) ⟨rfl, by decide, rfl⟩ (ci := 5) rfl rfl (by decide) (by decide) yi_X5_save (by decide) wd_360 wd_361 wd_362 wd_75 wd_363 dX7_compact_8 <|
    s_aload_n (pc := 11) C dX7_compact_11 rfl <|
    s_get (pc := 12) C (ci := 7) (kf := 0) rfl inX7 (by decide) wd_312 dX7_compact_12 <|
    s_sipush (pc := 15) C dX7_compact_15 (by decide) <|
    s_callVg (pc := 18) C ct_X3_slide (n := 2) (rk := 1) (mp := [1]) ⟨rfl, by decide, rfl⟩ (ci := 3) rfl rfl (by decide) (by decide) yi_X3_slide (by decide) wd_696 wd_405 wd_406 wd_74 wd_407 dX7_compact_18 <|
    s_pop (pc := 21) C dX7_compact_21 <|
    s_aload_n (pc := 22) C dX7_compact_22 rfl <|
    s_iconst (pc := 23) C dX7_compact_23 <|
    s_callV (pc := 24) C ct_X7_finish (n := 2) (rk := 0) (mp := [0, 1, 2, 3, 4, 5, 6, 7, 8, 9, 10, 11, 12, 13, 14, 15, 16, 17, 18, 19, 20, 21, 22, 23, 24]) ⟨rfl, by decide, rfl⟩ (ci := 7) rfl rfl (by decide) (by decide) yi_X7_finish (by decide) wd_542 wd_544 wd_10 wd_73 wd_545 dX7_compact_24 <|
    s_aload_n (pc := 27) C dX7_compact_27 rfl <|
    s_get (pc := 28) C (ci := 7) (kf := 2) rfl inX7 (by decide) wd_314 dX7_compact_28 <|
    s_aload_n (pc := 31) C dX7_compact_31 rfl <|
    s_get (pc := 32) C (ci := 7) (kf := 0) rfl inX7 (by decide) wd_312 dX7_compact_32 <|
    s_callVg (pc := 35) C ct_X5_movedSince (n := 2) (rk := 1) (mp := [3, 4, 5, 6, 7, 8, 9, 10, 11, 12, 13, 14, 15, 16, 1]) ⟨rfl, by decide, rfl⟩ (ci := 5) rfl rfl (by decide) (by decide) yi_X5_movedSince (by decide) wd_697 wd_698 wd_699 wd_75 wd_700 dX7_compact_35 <|
    s_ireturn (pc := 38) C rfl dX7_compact_38
noncomputable def rw_X7_compact_0 : XK := rg_X7_compact_0
noncomputable def md_X7_compact_0 (h0 : Ob) (h2 : Ob) (h17 : Ob) (h18 : Ob) (h19 : Ob) (h20 : Ob) (h21 : Ob) (h22 : Ob) (h23 : Ob) (h24 : Ob) : Ob × Ob × Ob × Ob × Ob × Ob × Ob × Ob × Ob × Ob × Ob × Ob × Ob × Ob × Ob → Option Rt := mg_X7_compact_0 h0 h2 h17 h18 h19 h20 h21 h22 h23 h24
theorem eq_X7_compact_0 (h0 : Ob) (h2 : Ob) (h17 : Ob) (h18 : Ob) (h19 : Ob) (h20 : Ob) (h21 : Ob) (h22 : Ob) (h23 : Ob) (h24 : Ob) (a : Ob × Ob × Ob × Ob × Ob × Ob × Ob × Ob × Ob × Ob × Ob × Ob × Ob × Ob × Ob) : rw_X7_compact_0 (en_X7_compact_0 h0 h2 h17 h18 h19 h20 h21 h22 h23 h24 a) = md_X7_compact_0 h0 h2 h17 h18 h19 h20 h21 h22 h23 h24 a :=
 rq_X7_compact_0 h0 h2 h17 h18 h19 h20 h21 h22 h23 h24 a
theorem sd_X7_compact_0 {X : XDyn} {r0 : Rt} (C : XO X mX7_compact) : XS X mX7_compact r0 0 (rw_X7_compact_0) := sg_X7_compact_0 C
theorem ctr_X7_compact : XCt yX7_compact mX7_compact (xF mX7_compact (rw_X7_compact_0)) := xMet (by decide +kernel) rfl (fun _ _ C => sd_X7_compact_0 C)
theorem eqf_X7_compact (h0 : Ob) (h1 : Ob) (h2 : Ob) (h3 : Ob) (h4 : Ob) (h5 : Ob) (h6 : Ob) (h7 : Ob) (h8 : Ob) (h9 : Ob) (h10 : Ob) (h11 : Ob) (h12 : Ob) (h13 : Ob) (h14 : Ob) (h15 : Ob) (h16 : Ob) (h17 : Ob) (h18 : Ob) (h19 : Ob) (h20 : Ob) (h21 : Ob) (h22 : Ob) (h23 : Ob) (h24 : Ob) : xF mX7_compact (rw_X7_compact_0) [.inr (.inl (0, 0))] [h0, h1, h2, h3, h4, h5, h6, h7, h8, h9, h10, h11, h12, h13, h14, h15, h16, h17, h18, h19, h20, h21, h22, h23, h24] = md_X7_compact_0 h0 h2 h17 h18 h19 h20 h21 h22 h23 h24 (h1, h3, h4, h5, h6, h7, h8, h9, h10, h11, h12, h13, h14, h15, h16) := eq_X7_compact_0 h0 h2 h17 h18 h19 h20 h21 h22 h23 h24 (h1, h3, h4, h5, h6, h7, h8, h9, h10, h11, h12, h13, h14, h15, h16)
theorem yi_X7_compact : yX7_compact.cls = RX7 ∧ yX7_compact.cls ≠ "java/lang/invoke/MethodHandle" ∧ yX7_compact.cls ≠ "java/lang/invoke/VarHandle" ∧ (parseMethodDescriptor yX7_compact.desc).map (fun d => d.parameters.length) = some 0 := ⟨rfl, by decide +kernel, by decide +kernel, by decide +kernel⟩
