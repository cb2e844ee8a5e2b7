theorem inS_one : ∀ b : Nat, b < 8 → ∀ i : Nat, i < 11 → inS (xshl 1 (b : Int)) (i : Int) = decide (i = b) := by decide +kernel
theorem hdl_natT {i : Nat} (hi : i < 8) : hdl (i : Int) = true := hdl_nat hi
theorem fw_cases (h : Ob) (a n : Int) : fwF h a n = -1 ∨ ∃ b : Nat, b < 8 ∧ fwF h a n = (b : Int) ∧ ful h (b : Int) = true ∧ a ≤ h 1 b ∧ h 1 b < a + n := by
  rw [fwF_e]
  unfold fwFI
  have key : ∀ m : Nat, m ≤ 8 → (List.range m).foldl (fun (fd : Int) (i : Nat) => if ful h (i : Int) && (decide (a ≤ h 1 i) && (decide (h 1 i < a + n) && (decide (fd = -1) || decide (h 1 i < h 1 fd.toNat)))) then (i : Int) else fd) (-1) = -1 ∨ ∃ b : Nat, b < 8 ∧ (List.range m).foldl (fun (fd : Int) (i : Nat) => if ful h (i : Int) && (decide (a ≤ h 1 i) && (decide (h 1 i < a + n) && (decide (fd = -1) || decide (h 1 i < h 1 fd.toNat)))) then (i : Int) else fd) (-1) = (b : Int) ∧ ful h (b : Int) = true ∧ a ≤ h 1 b ∧ h 1 b < a + n := by
    intro m
    induction m with
    | zero => intro _; exact Or.inl rfl
    | succ m ih =>
      intro hm
      have := ih (by omega)
      rw [List.range_succ, List.foldl_append]
      generalize (List.range m).foldl (fun (fd : Int) (i : Nat) => if ful h (i : Int) && (decide (a ≤ h 1 i) && (decide (h 1 i < a + n) && (decide (fd = -1) || decide (h 1 i < h 1 fd.toNat)))) then (i : Int) else fd) (-1) = z at this
      simp only [List.foldl_cons, List.foldl_nil]
      by_cases hc : (ful h (m : Int) && (decide (a ≤ h 1 m) && (decide (h 1 m < a + n) && (decide (z = -1) || decide (h 1 m < h 1 z.toNat))))) = true
      · rw [if_pos hc]
        simp only [Bool.and_eq_true, decide_eq_true_eq] at hc
        exact Or.inr ⟨m, by omega, rfl, hc.1, hc.2.1, hc.2.2.1⟩
      · rw [if_neg hc]
        exact this
  exact key 8 (by omega)
theorem LW.fu {h : Ob} (hL : LW h) {b : Nat} (hb : b < 8) : ful h (b : Int) = true ↔ h 1 b ≠ -1 := by
  unfold ful
  rw [hdl_nat hb, xw_nat (by omega), toNat_nat, hL.xpl (by omega)]
  simp
/-- highest's place: free but for the block itself -/
theorem hi_cases {h : Ob} (hL : LW h) {b : Nat} (hb : b < 8) (a n : Int) : hiF h (b : Int) a n = -1 ∨ (ful h (b : Int) = true ∧ hiP h (b : Int) a n (hiF h (b : Int) a n) ∧ hiF h (b : Int) a n < 200) := by
  unfold hiF
  split
  · rename_i hf
    rw [xop_eq]
    rcases gmx_cases (hiP h (b : Int) a n) 200 with ⟨h1, h2, h3, h4⟩ | ⟨h1, h2⟩
    · exact Or.inr ⟨hf, h3, by omega⟩
    · exact Or.inl h1
  · exact Or.inl rfl
theorem LW.hi {h : Ob} (hL : LW h) {b : Nat} (hb : b < 8) {a n x : Int} (hf : ful h (b : Int) = true) (hP : hiP h (b : Int) a n x) : LW (xset h 1 b x) := by
  obtain ⟨h1, h2, h3⟩ := hP
  rw [toNat_nat] at h2 h3
  have hp := (hL.fu hb).mp hf
  have hb4 := hL.2.2.2.1 b (by omega)
  refine hL.movec (by omega) h1 hp (by omega) (fun j hj hjb hpj => ?_)
  have hj4 := hL.2.2.2.1 j hj
  by_cases c1 : h 1 j + h 2 j + 1 ≤ x
  · exact Or.inl c1
  · by_cases c2 : x + h 2 b + 1 ≤ h 1 j
    · exact Or.inr c2
    · exfalso
      have hno : ∀ c, x ≤ c → c < x + (h 2 b + 1) → ¬ cvd h j c := fun c k1 k2 k3 => by
        have := (h3 c k1 k2).1 j hj k3
        rw [inS_one b hb j hj] at this
        exact hjb (by simpa using this)
      by_cases c3 : x ≤ h 1 j
      · exact hno (h 1 j) c3 (by omega) ⟨hpj, Int.le_refl _, by omega⟩
      · exact hno x (Int.le_refl _) (by omega) ⟨hpj, by omega, by omega⟩
noncomputable def clI (a n : Int) : Nat → Ob → Ob → Bool × Ob × Ob
  | 0, r, h => (decide (fwF h a n = -1), r, h)
  | k + 1, r, h => if fwF h a n = -1 then (true, r, h) else if hiF h (fwF h a n) a n = -1 then (false, hiO r h (fwF h a n), h) else clI a n k (hiO r h (fwF h a n)) (xset h 1 (fwF h a n).toNat (hiF h (fwF h a n) a n))
noncomputable def clF : Ob → Ob → Int → Int → Bool × Ob × Ob := xop (fun r h a n => clI a n 8 r h)
theorem clF_e (r h : Ob) (a n : Int) : clF r h a n = clI a n 8 r h := by
  unfold clF
  rw [xop_eq]
theorem dX1_clear_0 : decode cX1_clear 0 = .ok (.iconst 0, 1) := by decide +kernel
theorem dX1_clear_1 : decode cX1_clear 1 = .ok (.istore 4, 2) := by decide +kernel
theorem dX1_clear_3 : decode cX1_clear 3 = .ok (.iload 4, 2) := by decide +kernel
theorem dX1_clear_5 : decode cX1_clear 5 = .ok (.bipush 8, 2) := by decide +kernel
theorem dX1_clear_7 : decode cX1_clear 7 = .ok (.if_icmp .ge 54, 3) := by decide +kernel
theorem dX1_clear_10 : decode cX1_clear 10 = .ok (.aload_n 0, 1) := by decide +kernel
theorem dX1_clear_11 : decode cX1_clear 11 = .ok (.aload_n 1, 1) := by decide +kernel
theorem dX1_clear_12 : decode cX1_clear 12 = .ok (.iload_n 2, 1) := by decide +kernel
theorem dX1_clear_13 : decode cX1_clear 13 = .ok (.iload_n 3, 1) := by decide +kernel
theorem dX1_clear_14 : decode cX1_clear 14 = .ok (.invokevirtual 61, 3) := by decide +kernel
theorem dX1_clear_17 : decode cX1_clear 17 = .ok (.istore 5, 2) := by decide +kernel
theorem dX1_clear_19 : decode cX1_clear 19 = .ok (.iload 5, 2) := by decide +kernel
theorem dX1_clear_21 : decode cX1_clear 21 = .ok (.iconst (-1), 1) := by decide +kernel
theorem dX1_clear_22 : decode cX1_clear 22 = .ok (.if_icmp .ne 5, 3) := by decide +kernel
theorem dX1_clear_25 : decode cX1_clear 25 = .ok (.iconst 1, 1) := by decide +kernel
theorem dX1_clear_26 : decode cX1_clear 26 = .ok (.ireturn, 1) := by decide +kernel
theorem dX1_clear_27 : decode cX1_clear 27 = .ok (.aload_n 0, 1) := by decide +kernel
theorem dX1_clear_28 : decode cX1_clear 28 = .ok (.aload_n 1, 1) := by decide +kernel
theorem dX1_clear_29 : decode cX1_clear 29 = .ok (.iload 5, 2) := by decide +kernel
theorem dX1_clear_31 : decode cX1_clear 31 = .ok (.iload_n 2, 1) := by decide +kernel
theorem dX1_clear_32 : decode cX1_clear 32 = .ok (.iload_n 3, 1) := by decide +kernel
theorem dX1_clear_33 : decode cX1_clear 33 = .ok (.invokevirtual 65, 3) := by decide +kernel
theorem dX1_clear_36 : decode cX1_clear 36 = .ok (.istore 6, 2) := by decide +kernel
theorem dX1_clear_38 : decode cX1_clear 38 = .ok (.iload 6, 2) := by decide +kernel
theorem dX1_clear_40 : decode cX1_clear 40 = .ok (.iconst (-1), 1) := by decide +kernel
theorem dX1_clear_41 : decode cX1_clear 41 = .ok (.if_icmp .ne 5, 3) := by decide +kernel
theorem dX1_clear_44 : decode cX1_clear 44 = .ok (.iconst 0, 1) := by decide +kernel
theorem dX1_clear_45 : decode cX1_clear 45 = .ok (.ireturn, 1) := by decide +kernel
theorem dX1_clear_46 : decode cX1_clear 46 = .ok (.aload_n 1, 1) := by decide +kernel
theorem dX1_clear_47 : decode cX1_clear 47 = .ok (.getfield 22, 3) := by decide +kernel
theorem dX1_clear_50 : decode cX1_clear 50 = .ok (.iload 5, 2) := by decide +kernel
theorem dX1_clear_52 : decode cX1_clear 52 = .ok (.iload 6, 2) := by decide +kernel
theorem dX1_clear_54 : decode cX1_clear 54 = .ok (.iastore, 1) := by decide +kernel
theorem dX1_clear_55 : decode cX1_clear 55 = .ok (.iinc 4 1, 3) := by decide +kernel
theorem dX1_clear_58 : decode cX1_clear 58 = .ok (.goto (-55), 3) := by decide +kernel
theorem dX1_clear_61 : decode cX1_clear 61 = .ok (.aload_n 0, 1) := by decide +kernel
theorem dX1_clear_62 : decode cX1_clear 62 = .ok (.aload_n 1, 1) := by decide +kernel
theorem dX1_clear_63 : decode cX1_clear 63 = .ok (.iload_n 2, 1) := by decide +kernel
theorem dX1_clear_64 : decode cX1_clear 64 = .ok (.iload_n 3, 1) := by decide +kernel
theorem dX1_clear_65 : decode cX1_clear 65 = .ok (.invokevirtual 61, 3) := by decide +kernel
theorem dX1_clear_68 : decode cX1_clear 68 = .ok (.iconst (-1), 1) := by decide +kernel
theorem dX1_clear_69 : decode cX1_clear 69 = .ok (.if_icmp .ne 7, 3) := by decide +kernel
theorem dX1_clear_72 : decode cX1_clear 72 = .ok (.iconst 1, 1) := by decide +kernel
theorem dX1_clear_73 : decode cX1_clear 73 = .ok (.goto 4, 3) := by decide +kernel
theorem dX1_clear_76 : decode cX1_clear 76 = .ok (.iconst 0, 1) := by decide +kernel
theorem dX1_clear_77 : decode cX1_clear 77 = .ok (.ireturn, 1) := by decide +kernel
abbrev mX1_clear : XM := (cX1_clear, 7, RX1, (some .boolean), shw_1_6_3, 3)
noncomputable def rg_X1_clear_0 (k3 : XK) : XK :=
 o_iconst 0 <|
 o_istore 4 <|
 o_cut [] k3
def en_X1_clear_0 (p2 : Int) (p3 : Int) (h0 : Ob) (a : Ob × Ob) : XSt := ([some (.inr (.inl (0, 0))), some (.inr (.inl (2, 0))), some (.inl p2), some (.inl p3), none, none, none], [], [h0, a.1, a.2])
noncomputable def rg_X1_clear_3 (k3 : XK) : XK :=
 o_iload 4 <|
 o_iconst 8 <|
 o_icmp_ge (o_aload 0 <|
 o_aload 1 <|
 o_iload 2 <|
 o_iload 3 <|
 o_callVg 4 1 [0, 1, 2] g_X1_firstWithin v_X1_firstWithin <|
 o_iconst (-1) <|
 o_icmp_ne (o_iconst 0 <|
 o_zreturn)
 (o_iconst 1 <|
 o_zreturn))
 (o_aload 0 <|
 o_aload 1 <|
 o_iload 2 <|
 o_iload 3 <|
 o_callVg 4 1 [0, 1, 2] g_X1_firstWithin v_X1_firstWithin <|
 o_istore 5 <|
 o_iload 5 <|
 o_iconst (-1) <|
 o_icmp_ne (o_aload 0 <|
 o_aload 1 <|
 o_iload 5 <|
 o_iload 2 <|
 o_iload 3 <|
 o_callVg 5 1 [0, 1, 2] g_X1_highest v_X1_highest <|
 o_istore 6 <|
 o_iload 6 <|
 o_iconst (-1) <|
 o_icmp_ne (o_aload 1 <|
 o_get shw_1_6_3 3 0 <|
 o_iload 5 <|
 o_iload 6 <|
 o_iast shw_1_6_3 <|
 o_iinc 4 1 <|
 o_cut [5, 6] k3)
 (o_iconst 0 <|
 o_zreturn))
 (o_iconst 1 <|
 o_zreturn))
def en_X1_clear_3 (p2 : Int) (p3 : Int) (h0 : Ob) (a : Int × Ob × Ob) : XSt := ([some (.inr (.inl (0, 0))), some (.inr (.inl (2, 0))), some (.inl p2), some (.inl p3), some (.inl a.1), none, none], [], [h0, a.2.1, a.2.2])
noncomputable def mg_X1_clear_0 (p2 : Int) (p3 : Int) (h0 : Ob) (k3 : (Int × Ob × Ob) → Option Rt) (a : Ob × Ob) : Option Rt :=
 k3 (0, a.1, a.2)
set_option maxRecDepth 100000 in
set_option maxHeartbeats 4000000 in
theorem rq_X1_clear_0 (p2 : Int) (p3 : Int) (h0 : Ob) (k3 : XK) (a : Ob × Ob) : rg_X1_clear_0 k3 (en_X1_clear_0 p2 p3 h0 a) = mg_X1_clear_0 p2 p3 h0 (fun b => k3 (en_X1_clear_3 p2 p3 h0 b)) a := rfl
set_option maxRecDepth 100000 in
set_option maxHeartbeats 4000000 in
theorem sg_X1_clear_0 {X : XDyn} {r0 : Rt} (C : XO X mX1_clear) {k3 : XK} (q3 : XS X mX1_clear r0 3 k3) : XS X mX1_clear r0 0 (rg_X1_clear_0 k3) := by
 unfold rg_X1_clear_0
 exact s_iconst (pc := 0) C dX1_clear_0 <|
    s_istore (pc := 1) C dX1_clear_1 <|
    s_cut q3
noncomputable def mg_X1_clear_3 (p2 : Int) (p3 : Int) (h0 : Ob) (k3 : (Int × Ob × Ob) → Option Rt) (a : Int × Ob × Ob) : Option Rt :=
 if xw a.1 ≥ 8 then (if pd (LW a.2.2 ∧ 0 ≤ p2 ∧ 0 ≤ p3 ∧ p2 + p3 ≤ 200) then (
 if xw (fwF a.2.2 p2 p3) = (-1) then (RI 1 [h0, a.2.1, a.2.2])
 else (RI 0 [h0, a.2.1, a.2.2])) else none)
 else (if pd (LW a.2.2 ∧ 0 ≤ p2 ∧ 0 ≤ p3 ∧ p2 + p3 ≤ 200) then (
 if xw (fwF a.2.2 p2 p3) = (-1) then (RI 1 [h0, a.2.1, a.2.2])
 else (if pd (LW a.2.2 ∧ 0 ≤ (fwF a.2.2 p2 p3) ∧ (fwF a.2.2 p2 p3) < 8 ∧ 0 ≤ p2 ∧ 0 ≤ p3 ∧ p2 + p3 ≤ 200 ∧ (1 ≤ p3 ∨ p2 = 0)) then (
 if xw (hiF a.2.2 (fwF a.2.2 p2 p3) p2 p3) = (-1) then (RI 0 [h0, (hiO a.2.1 a.2.2 (fwF a.2.2 p2 p3)), a.2.2])
 else (if xin (fwF a.2.2 p2 p3) 11 then (
 k3 ((a.1 + 1), (hiO a.2.1 a.2.2 (fwF a.2.2 p2 p3)), (xset a.2.2 1 (xw (fwF a.2.2 p2 p3)).toNat (hiF a.2.2 (fwF a.2.2 p2 p3) p2 p3)))) else none)) else none)) else none)
set_option maxRecDepth 100000 in
set_option maxHeartbeats 4000000 in
theorem rq_X1_clear_3 (p2 : Int) (p3 : Int) (h0 : Ob) (k3 : XK) (a : Int × Ob × Ob) : rg_X1_clear_3 k3 (en_X1_clear_3 p2 p3 h0 a) = mg_X1_clear_3 p2 p3 h0 (fun b => k3 (en_X1_clear_3 p2 p3 h0 b)) a := rfl
set_option maxRecDepth 100000 in
set_option maxHeartbeats 4000000 in
theorem sg_X1_clear_3 {X : XDyn} {r0 : Rt} (C : XO X mX1_clear) {k3 : XK} (q3 : XS X mX1_clear r0 3 k3) : XS X mX1_clear r0 3 (rg_X1_clear_3 k3) := by
 unfold rg_X1_clear_3
 exact s_iload (pc := 3) C dX1_clear_3 <|
    s_bipush (pc := 5) C dX1_clear_5 (by decide) <|
    s_icmp_ge (pc := 7) C dX1_clear_7 (by decide) (s_aload_n (pc := 61) C dX1_clear_61 rfl <|
    s_aload_n (pc := 62) C dX1_clear_62 rfl <|
    s_iload_n (pc := 63) C dX1_clear_63 rfl <|
    s_iload_n (pc := 64) C dX1_clear_64 rfl <|
    s_callVg (pc := 65) C ct_X1_firstWithin (n := 4) (rk := 1) (mp := [0, 1, 2]) ⟨rfl, by decide, rfl⟩ (ci := 1) rfl rfl (by decide) (by decide) yi_X1_firstWithin (by decide) wd_678 wd_680 wd_15 wd_80 wd_681 dX1_clear_65 <|
    s_iconst (pc := 68) C dX1_clear_68 <|
    s_icmp_ne (pc := 69) C dX1_clear_69 (by decide) (s_iconst (pc := 76) C dX1_clear_76 <|
    s_zreturn (pc := 77) C rfl dX1_clear_77)
    (s_iconst (pc := 72) C dX1_clear_72 <|
    s_goto (pc := 73) C dX1_clear_73 (by decide) <|
    s_zreturn (pc := 77) C rfl dX1_clear_77))
    (s_aload_n (pc := 10) C dX1_clear_10 rfl <|
    s_aload_n (pc := 11) C dX1_clear_11 rfl <|
    s_iload_n (pc := 12) C dX1_clear_12 rfl <|
    s_iload_n (pc := 13) C dX1_clear_13 rfl <|
    s_callVg (pc := 14) C ct_X1_firstWithin (n := 4) (rk := 1) (mp := [0, 1, 2]) ⟨rfl, by decide, rfl⟩ (ci := 1) rfl rfl (by decide) (by decide) yi_X1_firstWithin (by decide) wd_678 wd_680 wd_15 wd_80 wd_681 dX1_clear_14 <|
    s_istore (pc := 17) C dX1_clear_17 <|
    s_iload (pc := 19) C dX1_clear_19 <|
    s_iconst (pc := 21) C dX1_clear_21 <|
    s_icmp_ne (pc := 22) C dX1_clear_22 (by decide) (s_aload_n (pc := 27) C dX1_clear_27 rfl <|
    s_aload_n (pc := 28) C dX1_clear_28 rfl <|
    s_iload (pc := 29) C dX1_clear_29 <|
    s_iload_n (pc := 31) C dX1_clear_31 rfl <|
    s_iload_n (pc := 32) C dX1_clear_32 rfl <|
    s_callVg (pc := 33) C ct_X1_highest (n := 5) (rk := 1) (mp := [0, 1, 2]) ⟨rfl, by decide, rfl⟩ (ci := 1) rfl rfl (by decide) (by decide) yi_X1_highest (by decide) wd_682 wd_603 wd_604 wd_80 wd_605 dX1_clear_33 <|
    s_istore (pc := 36) C dX1_clear_36 <|
    s_iload (pc := 38) C dX1_clear_38 <|
    s_iconst (pc := 40) C dX1_clear_40 <|
    s_icmp_ne (pc := 41) C dX1_clear_41 (by decide) (s_aload_n (pc := 46) C dX1_clear_46 rfl <|
    s_get (pc := 47) C (ci := 3) (kf := 0) rfl inX3 (by decide) wd_100 dX1_clear_47 <|
    s_iload (pc := 50) C dX1_clear_50 <|
    s_iload (pc := 52) C dX1_clear_52 <|
    s_iast (pc := 54) C dX1_clear_54 <|
    s_iinc (pc := 55) C dX1_clear_55 <|
    s_goto (pc := 58) C dX1_clear_58 (by decide) <|
    s_cut q3)
    (s_iconst (pc := 44) C dX1_clear_44 <|
    s_zreturn (pc := 45) C rfl dX1_clear_45))
    (s_iconst (pc := 25) C dX1_clear_25 <|
    s_zreturn (pc := 26) C rfl dX1_clear_26))
noncomputable def rw_X1_clear_3 (f : Nat) : XK := tlp (fun k3 => rg_X1_clear_3 k3) f
noncomputable def lb_X1_clear_3 (p2 : Int) (p3 : Int) (h0 : Ob) (f : Nat) : ((Int × Ob × Ob) → Option Rt) → Int × Ob × Ob → Option Rt := fun k3 => mg_X1_clear_3 p2 p3 h0 k3
noncomputable def md_X1_clear_3 (p2 : Int) (p3 : Int) (h0 : Ob) (f : Nat) : Int × Ob × Ob → Option Rt := tlp (lb_X1_clear_3 p2 p3 h0 f) f
theorem eq_X1_clear_3 (p2 : Int) (p3 : Int) (h0 : Ob) (f : Nat) (a : Int × Ob × Ob) : rw_X1_clear_3 f (en_X1_clear_3 p2 p3 h0 a) = md_X1_clear_3 p2 p3 h0 f a :=
 tlp_enc (en_X1_clear_3 p2 p3 h0) (fun k3 a => (rq_X1_clear_3 p2 p3 h0 k3 a).trans (congrFun (congr (rfl : mg_X1_clear_3 p2 p3 h0 = mg_X1_clear_3 p2 p3 h0) rfl) a)) f a
theorem sd_X1_clear_3 (f : Nat) {X : XDyn} {r0 : Rt} (C : XO X mX1_clear) : XS X mX1_clear r0 3 (rw_X1_clear_3 f) := s_lp (fun k3 q3 => sg_X1_clear_3 C q3) f
noncomputable def rw_X1_clear_0 (f : Nat) : XK := rg_X1_clear_0 (rw_X1_clear_3 f)
noncomputable def md_X1_clear_0 (p2 : Int) (p3 : Int) (h0 : Ob) (f : Nat) : Ob × Ob → Option Rt := mg_X1_clear_0 p2 p3 h0 (md_X1_clear_3 p2 p3 h0 f)
theorem eq_X1_clear_0 (p2 : Int) (p3 : Int) (h0 : Ob) (f : Nat) (a : Ob × Ob) : rw_X1_clear_0 f (en_X1_clear_0 p2 p3 h0 a) = md_X1_clear_0 p2 p3 h0 f a :=
 (rq_X1_clear_0 p2 p3 h0 (rw_X1_clear_3 f) a).trans (congrFun (congr (rfl : mg_X1_clear_0 p2 p3 h0 = mg_X1_clear_0 p2 p3 h0) (funext (eq_X1_clear_3 p2 p3 h0 f))) a)
theorem sd_X1_clear_0 (f : Nat) {X : XDyn} {r0 : Rt} (C : XO X mX1_clear) : XS X mX1_clear r0 0 (rw_X1_clear_0 f) := sg_X1_clear_0 C (sd_X1_clear_3 f C)
theorem ctr_X1_clear (f : Nat) : XCt yX1_clear mX1_clear (xF mX1_clear (rw_X1_clear_0 f)) := xMet (by decide +kernel) rfl (fun _ _ C => sd_X1_clear_0 f C)
theorem eqf_X1_clear (f : Nat) (p2 : Int) (p3 : Int) (h0 : Ob) (h1 : Ob) (h2 : Ob) : xF mX1_clear (rw_X1_clear_0 f) [.inr (.inl (0, 0)), .inr (.inl (2, 0)), .inl p2, .inl p3] [h0, h1, h2] = md_X1_clear_0 p2 p3 h0 f (h1, h2) := eq_X1_clear_0 p2 p3 h0 f (h1, h2)
theorem yi_X1_clear : yX1_clear.cls = RX1 ∧ yX1_clear.cls ≠ "java/lang/invoke/MethodHandle" ∧ yX1_clear.cls ≠ "java/lang/invoke/VarHandle" ∧ (parseMethodDescriptor yX1_clear.desc).map (fun d => d.parameters.length) = some 3 := ⟨rfl, by decide +kernel, by decide +kernel, by decide +kernel⟩
theorem sp_X1_clear (f : Nat) (hf : 1000 ≤ f) (p2 p3 : Int) (h0 h1 h2 : Ob) (hg : pd (LW h2 ∧ 0 ≤ p2 ∧ 0 ≤ p3 ∧ p2 + p3 ≤ 200 ∧ (1 ≤ p3 ∨ p2 = 0)) = true) : md_X1_clear_0 p2 p3 h0 f (h1, h2) = RI (bz (clF h1 h2 p2 p3).1) [h0, (clF h1 h2 p2 p3).2.1, (clF h1 h2 p2 p3).2.2] := by
  obtain ⟨hL, g1, g2, g3, g4⟩ := pd_of hg
  rw [clF_e]
  have key : ∀ (k f' : Nat) (r h : Ob), k ≤ 8 → k < f' → LW h → tlp (lb_X1_clear_3 p2 p3 h0 f) f' ((8 : Int) - k, r, h) = RI (bz (clI p2 p3 k r h).1) [h0, (clI p2 p3 k r h).2.1, (clI p2 p3 k r h).2.2] := by
    intro k
    induction k with
    | zero =>
      intro f' r h _ hf' hL
      cases f' with
      | zero => omega
      | succ f' =>
        rw [tlp_succ]
        simp only [lb_X1_clear_3, mg_X1_clear_3, clI]
        rw [xw_id (x := (8 : Int) - ((0 : Nat) : Int)) (by omega) (by omega), if_pos (by omega), pd_t (show LW h ∧ 0 ≤ p2 ∧ 0 ≤ p3 ∧ p2 + p3 ≤ 200 from ⟨hL, g1, g2, g3⟩), if_pos rfl]
        rcases fw_cases h p2 p3 with e | ⟨b, b1, e, -⟩
        · rw [e, xwm1, if_pos rfl]; rfl
        · rw [e, xw_nat (by omega), if_neg (by omega), decide_eq_false (by omega)]; rfl
    | succ k ih =>
      intro f' r h hk hf' hL
      cases f' with
      | zero => omega
      | succ f' =>
        rw [tlp_succ]
        simp only [lb_X1_clear_3, mg_X1_clear_3, clI]
        rw [xw_id (x := (8 : Int) - ((k + 1 : Nat) : Int)) (by omega) (by omega), if_neg (by omega), pd_t (show LW h ∧ 0 ≤ p2 ∧ 0 ≤ p3 ∧ p2 + p3 ≤ 200 from ⟨hL, g1, g2, g3⟩), if_pos rfl]
        rcases fw_cases h p2 p3 with e | ⟨b, b1, e, b2, b3, b4⟩
        · rw [e, xwm1, if_pos rfl, if_pos rfl]; rfl
        · rw [e, xw_nat (show b < 2147483648 by omega), if_neg (by omega), pd_t (show LW h ∧ 0 ≤ (b : Int) ∧ (b : Int) < 8 ∧ 0 ≤ p2 ∧ 0 ≤ p3 ∧ p2 + p3 ≤ 200 ∧ (1 ≤ p3 ∨ p2 = 0) from ⟨hL, by omega, by omega, g1, g2, g3, g4⟩), if_pos rfl, if_neg (show ¬ ((b : Int) = -1) by omega)]
          rcases hi_cases hL b1 p2 p3 with e2 | ⟨c1, c2, c3⟩
          · rw [e2, xwm1, if_pos rfl, if_pos rfl]; rfl
          · have c0 := c2.1
            rw [xw_id (x := hiF h (b : Int) p2 p3) (by omega) (by omega), if_neg (by omega), xin_nat (by omega) (by omega), if_pos rfl, if_neg (by omega), toNat_nat, show (8 : Int) - ((k + 1 : Nat) : Int) + 1 = (8 : Int) - (k : Int) by omega]
            exact ih f' _ _ (by omega) (by omega) (hL.hi b1 c1 c2)
  exact key 8 f h1 h2 (by omega) (by omega) hL
noncomputable def g_X1_clear : List AV → List Ob → Bool
  | [.inr (.inl (0, 0)), .inr (.inl (2, 0)), .inl p2, .inl p3], [h0, h1, h2] => pd (LW h2 ∧ 0 ≤ p2 ∧ 0 ≤ p3 ∧ p2 + p3 ≤ 200 ∧ (1 ≤ p3 ∨ p2 = 0))
  | _, _ => false
noncomputable def v_X1_clear : List AV → List Ob → Rt
  | [.inr (.inl (0, 0)), .inr (.inl (2, 0)), .inl p2, .inl p3], [h0, h1, h2] => (some (.inl (bz (clF h1 h2 p2 p3).1)), [h0, ((clF h1 h2 p2 p3).2.1), ((clF h1 h2 p2 p3).2.2)])
  | _, _ => (none, [])
theorem ct_X1_clear : XCt yX1_clear mX1_clear (fun as μ => if g_X1_clear as μ then some (v_X1_clear as μ) else none) := (ctr_X1_clear xfu).of (fun as μ r h => by
  split at h
  · rename_i hg
    unfold g_X1_clear at hg
    split at hg
    · rw [← h]
      exact (eqf_X1_clear xfu _ _ _ _ _).trans (sp_X1_clear xfu (xfu_ge (by decide)) _ _ _ _ _ hg)
    · cases hg
  · cases h)
