def PG (P : Ob) : Prop := 0 ≤ P 0 1 ∧ P 0 1 ≤ 12 ∧ 0 ≤ P 0 2 ∧ P 0 2 ≤ 12
theorem fl13 {a : Int} (h1 : 0 ≤ a) (h2 : a ≤ 24) : ∃ j : Nat, j < 13 ∧ flm a = (j : Int) ∧ xw (flm a) = (j : Int) := by
  refine ⟨(a % 13).toNat, by omega, by rw [flm_e]; omega, ?_⟩
  rw [flm_e, xw_id (by omega) (by omega)]
  omega
noncomputable def svK (P : Ob) (i : Int) (k h : Ob) : Ob := if flm (P 0 1 + P 0 2) = i then cpyO k h else k
noncomputable def kpk (P : Ob) (d : Int) (l : List Ob) : Ob := getO l (flm (P 0 1 + P 0 2 + d)).toNat
noncomputable def tkR (P : Ob) : Int := if P 0 2 < 1 then -1 else P 0 2 - 1
noncomputable def tkP (P : Ob) : Ob := if P 0 2 < 1 then P else xset (xset P 0 2 (P 0 2 - 1)) 0 3 0
noncomputable def tkH (P h : Ob) (l : List Ob) : Ob := if P 0 2 < 1 then h else cpyO h (kpk P (-1) l)
noncomputable def mvs (a h : Ob) : Int := xop ((List.range 8).foldl (fun (s : Int) (i : Nat) => if ful a (i : Int) && ful h (i : Int) && !decide (xw (a 1 i) = xw (h 1 i)) then s + 1 else s) 0)
theorem mvs_e (a h : Ob) : mvs a h = (List.range 8).foldl (fun (s : Int) (i : Nat) => if ful a (i : Int) && ful h (i : Int) && !decide (xw (a 1 i) = xw (h 1 i)) then s + 1 else s) 0 := xop_eq _
noncomputable def mvsF (P h : Ob) (l : List Ob) : Int := if P 0 3 = 0 then 0 else mvs (kpk P (-1) l) h
def mvB (a h : Ob) (R : Int → Option Rt) (k : Int × Int → Option Rt) (s : Int × Int) : Option Rt :=
  if xw s.2 ≥ 8 then R s.1
  else if xw (bz (ful a s.2)) = 0 then k (s.1, s.2 + 1)
  else if xw (bz (ful h s.2)) = 0 then k (s.1, s.2 + 1)
  else if xin s.2 11 then (if xin s.2 11 then (if xw (a 1 (xw s.2).toNat) = xw (h 1 (xw s.2).toNat) then k (s.1, s.2 + 1) else k (s.1 + 1, s.2 + 1)) else none) else none
theorem mvB_run (a h : Ob) (R : Int → Option Rt) (f : Nat) (hf : 1000 ≤ f) : tlp (mvB a h R) f (0, 0) = R (mvs a h) := by
  rw [mvs_e]
  refine (loop_fold 8 _ R (fun i s => (s, (i : Int))) (fun _ _ => True) (fun k i s hi _ => ⟨?_, trivial⟩) (fun k s _ => rfl) f 0 (by omega) trivial).1
  simp only [mvB, xw_nat (show i < 2147483648 by omega), bz_0, xin_nat (show i < 11 by omega) (show 11 ≤ 2147483648 by omega), toNat_nat, if_true]
  rw [if_neg (by omega)]
  cases ful a (i : Int)
  · rfl
  · cases ful h (i : Int)
    · rfl
    · by_cases hq : xw (a 1 i) = xw (h 1 i)
      · rw [if_neg (by simp), if_neg (by simp), if_pos hq]
        simp [hq]
      · rw [if_neg (by simp), if_neg (by simp), if_neg hq]
        simp [hq]
theorem dX5_slot_0 : decode cX5_slot 0 = .ok (.aload_n 0, 1) := by decide +kernel
theorem dX5_slot_1 : decode cX5_slot 1 = .ok (.getfield 11, 3) := by decide +kernel
theorem dX5_slot_4 : decode cX5_slot 4 = .ok (.aload_n 0, 1) := by decide +kernel
theorem dX5_slot_5 : decode cX5_slot 5 = .ok (.getfield 26, 3) := by decide +kernel
theorem dX5_slot_8 : decode cX5_slot 8 = .ok (.iload_n 1, 1) := by decide +kernel
theorem dX5_slot_9 : decode cX5_slot 9 = .ok (.iadd, 1) := by decide +kernel
theorem dX5_slot_10 : decode cX5_slot 10 = .ok (.bipush 13, 2) := by decide +kernel
theorem dX5_slot_12 : decode cX5_slot 12 = .ok (.invokestatic 29, 3) := by decide +kernel
theorem dX5_slot_15 : decode cX5_slot 15 = .ok (.aaload, 1) := by decide +kernel
theorem dX5_slot_16 : decode cX5_slot 16 = .ok (.areturn, 1) := by decide +kernel
abbrev mX5_slot : XM := (cX5_slot, 2, RX5, (some (.object "MasterHeap$Heap")), shw_P, 1)
noncomputable def rg_X5_slot_0 : XK :=
 o_aload 0 <|
 o_get shw_P 5 0 <|
 o_aload 0 <|
 o_get shw_P 5 1 <|
 o_iload 1 <|
 o_iadd <|
 o_iconst 13 <|
 o_callSg 2 1 [] g_X12_floorMod v_X12_floorMod <|
 o_aald shw_P [o_areturn,
 o_areturn,
 o_areturn,
 o_areturn,
 o_areturn,
 o_areturn,
 o_areturn,
 o_areturn,
 o_areturn,
 o_areturn,
 o_areturn,
 o_areturn,
 o_areturn]
def en_X5_slot_0 (p1 : Int) (h0 : Ob) (h1 : Ob) (h2 : Ob) (h3 : Ob) (h4 : Ob) (h5 : Ob) (h6 : Ob) (h7 : Ob) (h8 : Ob) (h9 : Ob) (h10 : Ob) (h11 : Ob) (h12 : Ob) (h13 : Ob) (a : Unit) : XSt := ([some (.inr (.inl (0, 0))), some (.inl p1)], [], [h0, h1, h2, h3, h4, h5, h6, h7, h8, h9, h10, h11, h12, h13])
noncomputable def mg_X5_slot_0 (p1 : Int) (h0 : Ob) (h1 : Ob) (h2 : Ob) (h3 : Ob) (h4 : Ob) (h5 : Ob) (h6 : Ob) (h7 : Ob) (h8 : Ob) (h9 : Ob) (h10 : Ob) (h11 : Ob) (h12 : Ob) (h13 : Ob) (a : Unit) : Option Rt :=
 if decide (0 ≤ ((h0 0 1) + p1) ∧ ((h0 0 1) + p1) ≤ 24 ∧ (13 : Int) = 13) then (
 if xw (flm ((h0 0 1) + p1)) = 0 then (RR (1, 0) [h0, h1, h2, h3, h4, h5, h6, h7, h8, h9, h10, h11, h12, h13])
 else if xw (flm ((h0 0 1) + p1)) = 1 then (RR (2, 0) [h0, h1, h2, h3, h4, h5, h6, h7, h8, h9, h10, h11, h12, h13])
 else if xw (flm ((h0 0 1) + p1)) = 2 then (RR (3, 0) [h0, h1, h2, h3, h4, h5, h6, h7, h8, h9, h10, h11, h12, h13])
 else if xw (flm ((h0 0 1) + p1)) = 3 then (RR (4, 0) [h0, h1, h2, h3, h4, h5, h6, h7, h8, h9, h10, h11, h12, h13])
 else if xw (flm ((h0 0 1) + p1)) = 4 then (RR (5, 0) [h0, h1, h2, h3, h4, h5, h6, h7, h8, h9, h10, h11, h12, h13])
 else if xw (flm ((h0 0 1) + p1)) = 5 then (RR (6, 0) [h0, h1, h2, h3, h4, h5, h6, h7, h8, h9, h10, h11, h12, h13])
 else if xw (flm ((h0 0 1) + p1)) = 6 then (RR (7, 0) [h0, h1, h2, h3, h4, h5, h6, h7, h8, h9, h10, h11, h12, h13])
 else if xw (flm ((h0 0 1) + p1)) = 7 then (RR (8, 0) [h0, h1, h2, h3, h4, h5, h6, h7, h8, h9, h10, h11, h12, h13])
 else if xw (flm ((h0 0 1) + p1)) = 8 then (RR (9, 0) [h0, h1, h2, h3, h4, h5, h6, h7, h8, h9, h10, h11, h12, h13])
 else if xw (flm ((h0 0 1) + p1)) = 9 then (RR (10, 0) [h0, h1, h2, h3, h4, h5, h6, h7, h8, h9, h10, h11, h12, h13])
 else if xw (flm ((h0 0 1) + p1)) = 10 then (RR (11, 0) [h0, h1, h2, h3, h4, h5, h6, h7, h8, h9, h10, h11, h12, h13])
 else if xw (flm ((h0 0 1) + p1)) = 11 then (RR (12, 0) [h0, h1, h2, h3, h4, h5, h6, h7, h8, h9, h10, h11, h12, h13])
 else if xw (flm ((h0 0 1) + p1)) = 12 then (RR (13, 0) [h0, h1, h2, h3, h4, h5, h6, h7, h8, h9, h10, h11, h12, h13])
 else none) else none
set_option maxRecDepth 100000 in
set_option maxHeartbeats 4000000 in
theorem rq_X5_slot_0 (p1 : Int) (h0 : Ob) (h1 : Ob) (h2 : Ob) (h3 : Ob) (h4 : Ob) (h5 : Ob) (h6 : Ob) (h7 : Ob) (h8 : Ob) (h9 : Ob) (h10 : Ob) (h11 : Ob) (h12 : Ob) (h13 : Ob) (a : Unit) : rg_X5_slot_0 (en_X5_slot_0 p1 h0 h1 h2 h3 h4 h5 h6 h7 h8 h9 h10 h11 h12 h13 a) = mg_X5_slot_0 p1 h0 h1 h2 h3 h4 h5 h6 h7 h8 h9 h10 h11 h12 h13 a := rfl
set_option maxRecDepth 100000 in
set_option maxHeartbeats 4000000 in
theorem sg_X5_slot_0 {X : XDyn} {r0 : Rt} (C : XO X mX5_slot) : XS X mX5_slot r0 0 (rg_X5_slot_0) := by
 unfold rg_X5_slot_0
 exact s_aload_n (pc := 0) C dX5_slot_0 rfl <|
    s_get (pc := 1) C (ci := 5) (kf := 0) rfl inX5 (by decide) wd_176 dX5_slot_1 <|
    s_aload_n (pc := 4) C dX5_slot_4 rfl <|
    s_get (pc := 5) C (ci := 5) (kf := 1) rfl inX5 (by decide) wd_177 dX5_slot_5 <|
    s_iload_n (pc := 8) C dX5_slot_8 rfl <|
    s_iadd (pc := 9) C dX5_slot_9 <|
    s_bipush (pc := 10) C dX5_slot_10 (by decide) <|
    s_callJg (pc := 12) C ct_X12_floorMod (n := 2) (rk := 1) (mp := []) ⟨rfl, by decide, rfl⟩ (by decide) (by decide) yi_X12_floorMod wd_368 wd_369 wd_82 wd_370 dX5_slot_12 <|
    s_aald (pc := 15) C dX5_slot_15 (List.forall_mem_cons.mpr ⟨s_areturn (pc := 16) C rfl dX5_slot_16, (List.forall_mem_cons.mpr ⟨s_areturn (pc := 16) C rfl dX5_slot_16, (List.forall_mem_cons.mpr ⟨s_areturn (pc := 16) C rfl dX5_slot_16, (List.forall_mem_cons.mpr ⟨s_areturn (pc := 16) C rfl dX5_slot_16, (List.forall_mem_cons.mpr ⟨s_areturn (pc := 16) C rfl dX5_slot_16, (List.forall_mem_cons.mpr ⟨s_areturn (pc := 16) C rfl dX5_slot_16, (List.forall_mem_cons.mpr ⟨s_areturn (pc := 16) C rfl dX5_slot_16, (List.forall_mem_cons.mpr ⟨s_areturn (pc := 16) C rfl dX5_slot_16, (List.forall_mem_cons.mpr ⟨s_areturn (pc := 16) C rfl dX5_slot_16, (List.forall_mem_cons.mpr ⟨s_areturn (pc := 16) C rfl dX5_slot_16, (List.forall_mem_cons.mpr ⟨s_areturn (pc := 16) C rfl dX5_slot_16, (List.forall_mem_cons.mpr ⟨s_areturn (pc := 16) C rfl dX5_slot_16, (List.forall_mem_cons.mpr ⟨s_areturn (pc := 16) C rfl dX5_slot_16, (fun _ z => absurd z List.not_mem_nil)⟩)⟩)⟩)⟩)⟩)⟩)⟩)⟩)⟩)⟩)⟩)⟩)⟩)
noncomputable def rw_X5_slot_0 : XK := rg_X5_slot_0
noncomputable def md_X5_slot_0 (p1 : Int) (h0 : Ob) (h1 : Ob) (h2 : Ob) (h3 : Ob) (h4 : Ob) (h5 : Ob) (h6 : Ob) (h7 : Ob) (h8 : Ob) (h9 : Ob) (h10 : Ob) (h11 : Ob) (h12 : Ob) (h13 : Ob) : Unit → Option Rt := mg_X5_slot_0 p1 h0 h1 h2 h3 h4 h5 h6 h7 h8 h9 h10 h11 h12 h13
theorem eq_X5_slot_0 (p1 : Int) (h0 : Ob) (h1 : Ob) (h2 : Ob) (h3 : Ob) (h4 : Ob) (h5 : Ob) (h6 : Ob) (h7 : Ob) (h8 : Ob) (h9 : Ob) (h10 : Ob) (h11 : Ob) (h12 : Ob) (h13 : Ob) (a : Unit) : rw_X5_slot_0 (en_X5_slot_0 p1 h0 h1 h2 h3 h4 h5 h6 h7 h8 h9 h10 h11 h12 h13 a) = md_X5_slot_0 p1 h0 h1 h2 h3 h4 h5 h6 h7 h8 h9 h10 h11 h12 h13 a :=
 rq_X5_slot_0 p1 h0 h1 h2 h3 h4 h5 h6 h7 h8 h9 h10 h11 h12 h13 a
theorem sd_X5_slot_0 {X : XDyn} {r0 : Rt} (C : XO X mX5_slot) : XS X mX5_slot r0 0 (rw_X5_slot_0) := sg_X5_slot_0 C
theorem ctr_X5_slot : XCt yX5_slot mX5_slot (xF mX5_slot (rw_X5_slot_0)) := xMet (by decide +kernel) rfl (fun _ _ C => sd_X5_slot_0 C)
theorem eqf_X5_slot (p1 : Int) (h0 : Ob) (h1 : Ob) (h2 : Ob) (h3 : Ob) (h4 : Ob) (h5 : Ob) (h6 : Ob) (h7 : Ob) (h8 : Ob) (h9 : Ob) (h10 : Ob) (h11 : Ob) (h12 : Ob) (h13 : Ob) : xF mX5_slot (rw_X5_slot_0) [.inr (.inl (0, 0)), .inl p1] [h0, h1, h2, h3, h4, h5, h6, h7, h8, h9, h10, h11, h12, h13] = md_X5_slot_0 p1 h0 h1 h2 h3 h4 h5 h6 h7 h8 h9 h10 h11 h12 h13 () := eq_X5_slot_0 p1 h0 h1 h2 h3 h4 h5 h6 h7 h8 h9 h10 h11 h12 h13 ()
theorem yi_X5_slot : yX5_slot.cls = RX5 ∧ yX5_slot.cls ≠ "java/lang/invoke/MethodHandle" ∧ yX5_slot.cls ≠ "java/lang/invoke/VarHandle" ∧ (parseMethodDescriptor yX5_slot.desc).map (fun d => d.parameters.length) = some 1 := ⟨rfl, by decide +kernel, by decide +kernel, by decide +kernel⟩
theorem sp_X5_slot (p1 : Int) (h0 h1 h2 h3 h4 h5 h6 h7 h8 h9 h10 h11 h12 h13 : Ob) (hg : decide (0 ≤ h0 0 1 + p1 ∧ h0 0 1 + p1 ≤ 24) = true) : md_X5_slot_0 p1 h0 h1 h2 h3 h4 h5 h6 h7 h8 h9 h10 h11 h12 h13 () = xrr [(1, 0), (2, 0), (3, 0), (4, 0), (5, 0), (6, 0), (7, 0), (8, 0), (9, 0), (10, 0), (11, 0), (12, 0), (13, 0)] (flm (h0 0 1 + p1)) [h0, h1, h2, h3, h4, h5, h6, h7, h8, h9, h10, h11, h12, h13] := by
  obtain ⟨h1', h2'⟩ := of_decide_eq_true hg
  obtain ⟨j, hj, e1, e2⟩ := fl13 h1' h2'
  simp only [md_X5_slot_0, mg_X5_slot_0]
  rw [if_pos (by simp [h1', h2'])]
  unfold xrr
  rw [e2]
  have hc : j = 0 ∨ j = 1 ∨ j = 2 ∨ j = 3 ∨ j = 4 ∨ j = 5 ∨ j = 6 ∨ j = 7 ∨ j = 8 ∨ j = 9 ∨ j = 10 ∨ j = 11 ∨ j = 12 := by omega
  rcases hc with rfl | rfl | rfl | rfl | rfl | rfl | rfl | rfl | rfl | rfl | rfl | rfl | rfl <;> rfl
noncomputable def g_X5_slot : List AV → List Ob → Bool
  | [.inr (.inl (0, 0)), .inl p1], [h0, h1, h2, h3, h4, h5, h6, h7, h8, h9, h10, h11, h12, h13] => decide (0 ≤ h0 0 1 + p1 ∧ h0 0 1 + p1 ≤ 24)
  | _, _ => false
noncomputable def j_X5_slot : List AV → List Ob → Int
  | [.inr (.inl (0, 0)), .inl p1], [h0, h1, h2, h3, h4, h5, h6, h7, h8, h9, h10, h11, h12, h13] => flm (h0 0 1 + p1)
  | _, _ => 0
theorem ct_X5_slot : XCt yX5_slot mX5_slot (xgr g_X5_slot j_X5_slot [(1, 0), (2, 0), (3, 0), (4, 0), (5, 0), (6, 0), (7, 0), (8, 0), (9, 0), (10, 0), (11, 0), (12, 0), (13, 0)]) := (ctr_X5_slot ).of (fun as μ r h => by
  unfold xgr at h
  split at h
  · rename_i hg
    unfold g_X5_slot at hg
    split at hg
    · rw [← h]
      exact (eqf_X5_slot _ _ _ _ _ _ _ _ _ _ _ _ _ _ _).trans (sp_X5_slot _ _ _ _ _ _ _ _ _ _ _ _ _ _ _ hg)
    · cases hg
  · cases h)
theorem dX5_save_0 : decode cX5_save 0 = .ok (.aload_n 0, 1) := by decide +kernel
theorem dX5_save_1 : decode cX5_save 1 = .ok (.aload_n 0, 1) := by decide +kernel
theorem dX5_save_2 : decode cX5_save 2 = .ok (.getfield 18, 3) := by decide +kernel
theorem dX5_save_5 : decode cX5_save 5 = .ok (.invokevirtual 35, 3) := by decide +kernel
theorem dX5_save_8 : decode cX5_save 8 = .ok (.aload_n 1, 1) := by decide +kernel
theorem dX5_save_9 : decode cX5_save 9 = .ok (.invokevirtual 39, 3) := by decide +kernel
theorem dX5_save_12 : decode cX5_save 12 = .ok (.return_, 1) := by decide +kernel
abbrev mX5_save : XM := (cX5_save, 2, RX5, none, shw_PH, 2)
noncomputable def rg_X5_save_0 : XK :=
 o_aload 0 <|
 o_aload 0 <|
 o_get shw_PH 5 2 <|
 o_callVr 2 [0, 1, 2, 3, 4, 5, 6, 7, 8, 9, 10, 11, 12, 13] g_X5_slot j_X5_slot [(1, 0), (2, 0), (3, 0), (4, 0), (5, 0), (6, 0), (7, 0), (8, 0), (9, 0), (10, 0), (11, 0), (12, 0), (13, 0)] [o_aload 1 <|
 o_callV 2 0 [1, 14] f_X3_copyFrom <|
 o_return,
 o_aload 1 <|
 o_callV 2 0 [2, 14] f_X3_copyFrom <|
 o_return,
 o_aload 1 <|
 o_callV 2 0 [3, 14] f_X3_copyFrom <|
 o_return,
 o_aload 1 <|
 o_callV 2 0 [4, 14] f_X3_copyFrom <|
 o_return,
 o_aload 1 <|
 o_callV 2 0 [5, 14] f_X3_copyFrom <|
 o_return,
 o_aload 1 <|
 o_callV 2 0 [6, 14] f_X3_copyFrom <|
 o_return,
 o_aload 1 <|
 o_callV 2 0 [7, 14] f_X3_copyFrom <|
 o_return,
 o_aload 1 <|
 o_callV 2 0 [8, 14] f_X3_copyFrom <|
 o_return,
 o_aload 1 <|
 o_callV 2 0 [9, 14] f_X3_copyFrom <|
 o_return,
 o_aload 1 <|
 o_callV 2 0 [10, 14] f_X3_copyFrom <|
 o_return,
 o_aload 1 <|
 o_callV 2 0 [11, 14] f_X3_copyFrom <|
 o_return,
 o_aload 1 <|
 o_callV 2 0 [12, 14] f_X3_copyFrom <|
 o_return,
 o_aload 1 <|
 o_callV 2 0 [13, 14] f_X3_copyFrom <|
 o_return]
def en_X5_save_0 (h0 : Ob) (h14 : Ob) (a : Ob × Ob × Ob × Ob × Ob × Ob × Ob × Ob × Ob × Ob × Ob × Ob × Ob) : XSt := ([some (.inr (.inl (0, 0))), some (.inr (.inl (14, 0)))], [], [h0, a.1, a.2.1, a.2.2.1, a.2.2.2.1, a.2.2.2.2.1, a.2.2.2.2.2.1, a.2.2.2.2.2.2.1, a.2.2.2.2.2.2.2.1, a.2.2.2.2.2.2.2.2.1, a.2.2.2.2.2.2.2.2.2.1, a.2.2.2.2.2.2.2.2.2.2.1, a.2.2.2.2.2.2.2.2.2.2.2.1, a.2.2.2.2.2.2.2.2.2.2.2.2, h14])
noncomputable def mg_X5_save_0 (h0 : Ob) (h14 : Ob) (a : Ob × Ob × Ob × Ob × Ob × Ob × Ob × Ob × Ob × Ob × Ob × Ob × Ob) : Option Rt :=
 if decide (0 ≤ h0 0 1 + (h0 0 2) ∧ h0 0 1 + (h0 0 2) ≤ 24) then (
 if xw (flm (h0 0 1 + (h0 0 2))) = 0 then (RV [h0, (cpyO a.1 h14), a.2.1, a.2.2.1, a.2.2.2.1, a.2.2.2.2.1, a.2.2.2.2.2.1, a.2.2.2.2.2.2.1, a.2.2.2.2.2.2.2.1, a.2.2.2.2.2.2.2.2.1, a.2.2.2.2.2.2.2.2.2.1, a.2.2.2.2.2.2.2.2.2.2.1, a.2.2.2.2.2.2.2.2.2.2.2.1, a.2.2.2.2.2.2.2.2.2.2.2.2, h14])
 else if xw (flm (h0 0 1 + (h0 0 2))) = 1 then (RV [h0, a.1, (cpyO a.2.1 h14), a.2.2.1, a.2.2.2.1, a.2.2.2.2.1, a.2.2.2.2.2.1, a.2.2.2.2.2.2.1, a.2.2.2.2.2.2.2.1, a.2.2.2.2.2.2.2.2.1, a.2.2.2.2.2.2.2.2.2.1, a.2.2.2.2.2.2.2.2.2.2.1, a.2.2.2.2.2.2.2.2.2.2.2.1, a.2.2.2.2.2.2.2.2.2.2.2.2, h14])
 else if xw (flm (h0 0 1 + (h0 0 2))) = 2 then (RV [h0, a.1, a.2.1, (cpyO a.2.2.1 h14), a.2.2.2.1, a.2.2.2.2.1, a.2.2.2.2.2.1, a.2.2.2.2.2.2.1, a.2.2.2.2.2.2.2.1, a.2.2.2.2.2.2.2.2.1, a.2.2.2.2.2.2.2.2.2.1, a.2.2.2.2.2.2.2.2.2.2.1, a.2.2.2.2.2.2.2.2.2.2.2.1, a.2.2.2.2.2.2.2.2.2.2.2.2, h14])
 else if xw (flm (h0 0 1 + (h0 0 2))) = 3 then (RV [h0, a.1, a.2.1, a.2.2.1, (cpyO a.2.2.2.1 h14), a.2.2.2.2.1, a.2.2.2.2.2.1, a.2.2.2.2.2.2.1, a.2.2.2.2.2.2.2.1, a.2.2.2.2.2.2.2.2.1, a.2.2.2.2.2.2.2.2.2.1, a.2.2.2.2.2.2.2.2.2.2.1, a.2.2.2.2.2.2.2.2.2.2.2.1, a.2.2.2.2.2.2.2.2.2.2.2.2, h14])
 else if xw (flm (h0 0 1 + (h0 0 2))) = 4 then (RV [h0, a.1, a.2.1, a.2.2.1, a.2.2.2.1, (cpyO a.2.2.2.2.1 h14), a.2.2.2.2.2.1, a.2.2.2.2.2.2.1, a.2.2.2.2.2.2.2.1, a.2.2.2.2.2.2.2.2.1, a.2.2.2.2.2.2.2.2.2.1, a.2.2.2.2.2.2.2.2.2.2.1, a.2.2.2.2.2.2.2.2.2.2.2.1, a.2.2.2.2.2.2.2.2.2.2.2.2, h14])
 else if xw (flm (h0 0 1 + (h0 0 2))) = 5 then (RV [h0, a.1, a.2.1, a.2.2.1, a.2.2.2.1, a.2.2.2.2.1, (cpyO a.2.2.2.2.2.1 h14), a.2.2.2.2.2.2.1, a.2.2.2.2.2.2.2.1, a.2.2.2.2.2.2.2.2.1, a.2.2.2.2.2.2.2.2.2.1, a.2.2.2.2.2.2.2.2.2.2.1, a.2.2.2.2.2.2.2.2.2.2.2.1, a.2.2.2.2.2.2.2.2.2.2.2.2, h14])
 else if xw (flm (h0 0 1 + (h0 0 2))) = 6 then (RV [h0, a.1, a.2.1, a.2.2.1, a.2.2.2.1, a.2.2.2.2.1, a.2.2.2.2.2.1, (cpyO a.2.2.2.2.2.2.1 h14), a.2.2.2.2.2.2.2.1, a.2.2.2.2.2.2.2.2.1, a.2.2.2.2.2.2.2.2.2.1, a.2.2.2.2.2.2.2.2.2.2.1, a.2.2.2.2.2.2.2.2.2.2.2.1, a.2.2.2.2.2.2.2.2.2.2.2.2, h14])
 else if xw (flm (h0 0 1 + (h0 0 2))) = 7 then (RV [h0, a.1, a.2.1, a.2.2.1, a.2.2.2.1, a.2.2.2.2.1, a.2.2.2.2.2.1, a.2.2.2.2.2.2.1, (cpyO a.2.2.2.2.2.2.2.1 h14), a.2.2.2.2.2.2.2.2.1, a.2.2.2.2.2.2.2.2.2.1, a.2.2.2.2.2.2.2.2.2.2.1, a.2.2.2.2.2.2.2.2.2.2.2.1, a.2.2.2.2.2.2.2.2.2.2.2.2, h14])
 else if xw (flm (h0 0 1 + (h0 0 2))) = 8 then (RV [h0, a.1, a.2.1, a.2.2.1, a.2.2.2.1, a.2.2.2.2.1, a.2.2.2.2.2.1, a.2.2.2.2.2.2.1, a.2.2.2.2.2.2.2.1, (cpyO a.2.2.2.2.2.2.2.2.1 h14), a.2.2.2.2.2.2.2.2.2.1, a.2.2.2.2.2.2.2.2.2.2.1, a.2.2.2.2.2.2.2.2.2.2.2.1, a.2.2.2.2.2.2.2.2.2.2.2.2, h14])
 else if xw (flm (h0 0 1 + (h0 0 2))) = 9 then (RV [h0, a.1, a.2.1, a.2.2.1, a.2.2.2.1, a.2.2.2.2.1, a.2.2.2.2.2.1, a.2.2.2.2.2.2.1, a.2.2.2.2.2.2.2.1, a.2.2.2.2.2.2.2.2.1, (cpyO a.2.2.2.2.2.2.2.2.2.1 h14), a.2.2.2.2.2.2.2.2.2.2.1, a.2.2.2.2.2.2.2.2.2.2.2.1, a.2.2.2.2.2.2.2.2.2.2.2.2, h14])
 else if xw (flm (h0 0 1 + (h0 0 2))) = 10 then (RV [h0, a.1, a.2.1, a.2.2.1, a.2.2.2.1, a.2.2.2.2.1, a.2.2.2.2.2.1, a.2.2.2.2.2.2.1, a.2.2.2.2.2.2.2.1, a.2.2.2.2.2.2.2.2.1, a.2.2.2.2.2.2.2.2.2.1, (cpyO a.2.2.2.2.2.2.2.2.2.2.1 h14), a.2.2.2.2.2.2.2.2.2.2.2.1, a.2.2.2.2.2.2.2.2.2.2.2.2, h14])
 else if xw (flm (h0 0 1 + (h0 0 2))) = 11 then (RV [h0, a.1, a.2.1, a.2.2.1, a.2.2.2.1, a.2.2.2.2.1, a.2.2.2.2.2.1, a.2.2.2.2.2.2.1, a.2.2.2.2.2.2.2.1, a.2.2.2.2.2.2.2.2.1, a.2.2.2.2.2.2.2.2.2.1, a.2.2.2.2.2.2.2.2.2.2.1, (cpyO a.2.2.2.2.2.2.2.2.2.2.2.1 h14), a.2.2.2.2.2.2.2.2.2.2.2.2, h14])
 else if xw (flm (h0 0 1 + (h0 0 2))) = 12 then (RV [h0, a.1, a.2.1, a.2.2.1, a.2.2.2.1, a.2.2.2.2.1, a.2.2.2.2.2.1, a.2.2.2.2.2.2.1, a.2.2.2.2.2.2.2.1, a.2.2.2.2.2.2.2.2.1, a.2.2.2.2.2.2.2.2.2.1, a.2.2.2.2.2.2.2.2.2.2.1, a.2.2.2.2.2.2.2.2.2.2.2.1, (cpyO a.2.2.2.2.2.2.2.2.2.2.2.2 h14), h14])
 else none) else none
set_option maxRecDepth 100000 in
set_option maxHeartbeats 4000000 in
theorem rq_X5_save_0 (h0 : Ob) (h14 : Ob) (a : Ob × Ob × Ob × Ob × Ob × Ob × Ob × Ob × Ob × Ob × Ob × Ob × Ob) : rg_X5_save_0 (en_X5_save_0 h0 h14 a) = mg_X5_save_0 h0 h14 a := rfl
set_option maxRecDepth 100000 in
set_option maxHeartbeats 4000000 in
theorem sg_X5_save_0 {X : XDyn} {r0 : Rt} (C : XO X mX5_save) : XS X mX5_save r0 0 (rg_X5_save_0) := by
 unfold rg_X5_save_0
 exact s_aload_n (pc := 0) C dX5_save_0 rfl <|
    s_aload_n (pc := 1) C dX5_save_1 rfl <|
    s_get (pc := 2) C (ci := 5) (kf := 2) rfl inX5 (by decide) wd_178 dX5_save_2 <|
    s_callVr (pc := 5) C ct_X5_slot rfl (n := 2) (mp := [0, 1, 2, 3, 4, 5, 6, 7, 8, 9, 10, 11, 12, 13]) ⟨rfl, by decide, rfl⟩ (ci := 5) rfl rfl (by decide) (by decide) yi_X5_slot (by decide) wd_364 wd_366 wd_0 wd_75 wd_367 dX5_save_5 (List.forall_mem_cons.mpr ⟨s_aload_n (pc := 8) C dX5_save_8 rfl <|
    s_callV (pc := 9) C ct_X3_copyFrom (n := 2) (rk := 0) (mp := [1, 14]) ⟨rfl, by decide, rfl⟩ (ci := 3) rfl rfl (by decide) (by decide) yi_X3_copyFrom (by decide) wd_371 wd_372 wd_373 wd_74 wd_374 dX5_save_9 <|
    s_return (pc := 12) C rfl dX5_save_12, (List.forall_mem_cons.mpr ⟨s_aload_n (pc := 8) C dX5_save_8 rfl <|
    s_callV (pc := 9) C ct_X3_copyFrom (n := 2) (rk := 0) (mp := [2, 14]) ⟨rfl, by decide, rfl⟩ (ci := 3) rfl rfl (by decide) (by decide) yi_X3_copyFrom (by decide) wd_371 wd_372 wd_373 wd_74 wd_374 dX5_save_9 <|
    s_return (pc := 12) C rfl dX5_save_12, (List.forall_mem_cons.mpr ⟨s_aload_n (pc := 8) C dX5_save_8 rfl <|
    s_callV (pc := 9) C ct_X3_copyFrom (n := 2) (rk := 0) (mp := [3, 14]) ⟨rfl, by decide, rfl⟩ (ci := 3) rfl rfl (by decide) (by decide) yi_X3_copyFrom (by decide) wd_371 wd_372 wd_373 wd_74 wd_374 dX5_save_9 <|
    s_return (pc := 12) C rfl dX5_save_12, (List.forall_mem_cons.mpr ⟨s_aload_n (pc := 8) C dX5_save_8 rfl <|
    s_callV (pc := 9) C ct_X3_copyFrom (n := 2) (rk := 0) (mp := [4, 14]) ⟨rfl, by decide, rfl⟩ (ci := 3) rfl rfl (by decide) (by decide) yi_X3_copyFrom (by decide) wd_371 wd_372 wd_373 wd_74 wd_374 dX5_save_9 <|
    s_return (pc := 12) C rfl dX5_save_12, (List.forall_mem_cons.mpr ⟨s_aload_n (pc := 8) C dX5_save_8 rfl <|
    s_callV (pc := 9) C ct_X3_copyFrom (n := 2) (rk := 0) (mp := [5, 14]) ⟨rfl, by decide, rfl⟩ (ci := 3) rfl rfl (by decide) (by decide) yi_X3_copyFrom (by decide) wd_371 wd_372 wd_373 wd_74 wd_374 dX5_save_9 <|
    s_return (pc := 12) C rfl dX5_save_12, (List.forall_mem_cons.mpr ⟨s_aload_n (pc := 8) C dX5_save_8 rfl <|
    s_callV (pc := 9) C ct_X3_copyFrom (n := 2) (rk := 0) (mp := [6, 14]) ⟨rfl, by decide, rfl⟩ (ci := 3) rfl rfl (by decide) (by decide) yi_X3_copyFrom (by decide) wd_371 wd_372 wd_373 wd_74 wd_374 dX5_save_9 <|
    s_return (pc := 12) C rfl dX5_save_12, (List.forall_mem_cons.mpr ⟨s_aload_n (pc := 8) C dX5_save_8 rfl <|
    s_callV (pc := 9) C ct_X3_copyFrom (n := 2) (rk := 0) (mp := [7, 14]) ⟨rfl, by decide, rfl⟩ (ci := 3) rfl rfl (by decide) (by decide) yi_X3_copyFrom (by decide) wd_371 wd_372 wd_373 wd_74 wd_374 dX5_save_9 <|
    s_return (pc := 12) C rfl dX5_save_12, (List.forall_mem_cons.mpr ⟨s_aload_n (pc := 8) C dX5_save_8 rfl <|
    s_callV (pc := 9) C ct_X3_copyFrom (n := 2) (rk := 0) (mp := [8, 14]) ⟨rfl, by decide, rfl⟩ (ci := 3) rfl rfl (by decide) (by decide) yi_X3_copyFrom (by decide) wd_371 wd_372 wd_373 wd_74 wd_374 dX5_save_9 <|
    s_return (pc := 12) C rfl dX5_save_12, (List.forall_mem_cons.mpr ⟨s_aload_n (pc := 8) C dX5_save_8 rfl <|
    s_callV (pc := 9) C ct_X3_copyFrom (n := 2) (rk := 0) (mp := [9, 14]) ⟨rfl, by decide, rfl⟩ (ci := 3) rfl rfl (by decide) (by decide) yi_X3_copyFrom (by decide) wd_371 wd_372 wd_373 wd_74 wd_374 dX5_save_9 <|
    s_return (pc := 12) C rfl dX5_save_12, (List.forall_mem_cons.mpr ⟨s_aload_n (pc := 8) C dX5_save_8 rfl <|
    s_callV (pc := 9) C ct_X3_copyFrom (n := 2) (rk := 0) (mp := [10, 14]) ⟨rfl, by decide, rfl⟩ (ci := 3) rfl rfl (by decide) (by decide) yi_X3_copyFrom (by decide) wd_371 wd_372 wd_373 wd_74 wd_374 dX5_save_9 <|
    s_return (pc := 12) C rfl dX5_save_12, (List.forall_mem_cons.mpr ⟨s_aload_n (pc := 8) C dX5_save_8 rfl <|
    s_callV (pc := 9) C ct_X3_copyFrom (n := 2) (rk := 0) (mp := [11, 14]) ⟨rfl, by decide, rfl⟩ (ci := 3) rfl rfl (by decide) (by decide) yi_X3_copyFrom (by decide) wd_371 wd_372 wd_373 wd_74 wd_374 dX5_save_9 <|
    s_return (pc := 12) C rfl dX5_save_12, (List.forall_mem_cons.mpr ⟨s_aload_n (pc := 8) C dX5_save_8 rfl <|
    s_callV (pc := 9) C ct_X3_copyFrom (n := 2) (rk := 0) (mp := [12, 14]) ⟨rfl, by decide, rfl⟩ (ci := 3) rfl rfl (by decide) (by decide) yi_X3_copyFrom (by decide) wd_371 wd_372 wd_373 wd_74 wd_374 dX5_save_9 <|
    s_return (pc := 12) C rfl dX5_save_12, (List.forall_mem_cons.mpr ⟨s_aload_n (pc := 8) C dX5_save_8 rfl <|
    s_callV (pc := 9) C ct_X3_copyFrom (n := 2) (rk := 0) (mp := [13, 14]) ⟨rfl, by decide, rfl⟩ (ci := 3) rfl rfl (by decide) (by decide) yi_X3_copyFrom (by decide) wd_371 wd_372 wd_373 wd_74 wd_374 dX5_save_9 <|
    s_return (pc := 12) C rfl dX5_save_12, (fun _ z => absurd z List.not_mem_nil)⟩)⟩)⟩)⟩)⟩)⟩)⟩)⟩)⟩)⟩)⟩)⟩)⟩)
noncomputable def rw_X5_save_0 : XK := rg_X5_save_0
noncomputable def md_X5_save_0 (h0 : Ob) (h14 : Ob) : Ob × Ob × Ob × Ob × Ob × Ob × Ob × Ob × Ob × Ob × Ob × Ob × Ob → Option Rt := mg_X5_save_0 h0 h14
theorem eq_X5_save_0 (h0 : Ob) (h14 : Ob) (a : Ob × Ob × Ob × Ob × Ob × Ob × Ob × Ob × Ob × Ob × Ob × Ob × Ob) : rw_X5_save_0 (en_X5_save_0 h0 h14 a) = md_X5_save_0 h0 h14 a :=
 rq_X5_save_0 h0 h14 a
theorem sd_X5_save_0 {X : XDyn} {r0 : Rt} (C : XO X mX5_save) : XS X mX5_save r0 0 (rw_X5_save_0) := sg_X5_save_0 C
theorem ctr_X5_save : XCt yX5_save mX5_save (xF mX5_save (rw_X5_save_0)) := xMet (by decide +kernel) rfl (fun _ _ C => sd_X5_save_0 C)
theorem eqf_X5_save (h0 : Ob) (h1 : Ob) (h2 : Ob) (h3 : Ob) (h4 : Ob) (h5 : Ob) (h6 : Ob) (h7 : Ob) (h8 : Ob) (h9 : Ob) (h10 : Ob) (h11 : Ob) (h12 : Ob) (h13 : Ob) (h14 : Ob) : xF mX5_save (rw_X5_save_0) [.inr (.inl (0, 0)), .inr (.inl (14, 0))] [h0, h1, h2, h3, h4, h5, h6, h7, h8, h9, h10, h11, h12, h13, h14] = md_X5_save_0 h0 h14 (h1, h2, h3, h4, h5, h6, h7, h8, h9, h10, h11, h12, h13) := eq_X5_save_0 h0 h14 (h1, h2, h3, h4, h5, h6, h7, h8, h9, h10, h11, h12, h13)
theorem yi_X5_save : yX5_save.cls = RX5 ∧ yX5_save.cls ≠ "java/lang/invoke/MethodHandle" ∧ yX5_save.cls ≠ "java/lang/invoke/VarHandle" ∧ (parseMethodDescriptor yX5_save.desc).map (fun d => d.parameters.length) = some 1 := ⟨rfl, by decide +kernel, by decide +kernel, by decide +kernel⟩
theorem sp_X5_save (h0 h1 h2 h3 h4 h5 h6 h7 h8 h9 h10 h11 h12 h13 h14 : Ob) (hg : pd (PG h0) = true) : md_X5_save_0 h0 h14 (h1, h2, h3, h4, h5, h6, h7, h8, h9, h10, h11, h12, h13) = RV [h0, svK h0 0 h1 h14, svK h0 1 h2 h14, svK h0 2 h3 h14, svK h0 3 h4 h14, svK h0 4 h5 h14, svK h0 5 h6 h14, svK h0 6 h7 h14, svK h0 7 h8 h14, svK h0 8 h9 h14, svK h0 9 h10 h14, svK h0 10 h11 h14, svK h0 11 h12 h14, svK h0 12 h13 h14, h14] := by
  obtain ⟨g1, g2, g3, g4⟩ := pd_of hg
  obtain ⟨j, hj, e1, e2⟩ := fl13 (a := h0 0 1 + h0 0 2) (by omega) (by omega)
  simp only [md_X5_save_0, mg_X5_save_0]
  rw [if_pos (decide_eq_true ⟨by omega, by omega⟩)]
  unfold svK
  rw [e2, e1]
  have hc : j = 0 ∨ j = 1 ∨ j = 2 ∨ j = 3 ∨ j = 4 ∨ j = 5 ∨ j = 6 ∨ j = 7 ∨ j = 8 ∨ j = 9 ∨ j = 10 ∨ j = 11 ∨ j = 12 := by omega
  rcases hc with rfl | rfl | rfl | rfl | rfl | rfl | rfl | rfl | rfl | rfl | rfl | rfl | rfl <;> rfl
noncomputable def g_X5_save : List AV → List Ob → Bool
  | [.inr (.inl (0, 0)), .inr (.inl (14, 0))], [h0, h1, h2, h3, h4, h5, h6, h7, h8, h9, h10, h11, h12, h13, h14] => pd (PG h0)
  | _, _ => false
noncomputable def v_X5_save : List AV → List Ob → Rt
  | [.inr (.inl (0, 0)), .inr (.inl (14, 0))], [h0, h1, h2, h3, h4, h5, h6, h7, h8, h9, h10, h11, h12, h13, h14] => (none, [h0, (svK h0 0 h1 h14), (svK h0 1 h2 h14), (svK h0 2 h3 h14), (svK h0 3 h4 h14), (svK h0 4 h5 h14), (svK h0 5 h6 h14), (svK h0 6 h7 h14), (svK h0 7 h8 h14), (svK h0 8 h9 h14), (svK h0 9 h10 h14), (svK h0 10 h11 h14), (svK h0 11 h12 h14), (svK h0 12 h13 h14), h14])
  | _, _ => (none, [])
theorem ct_X5_save : XCt yX5_save mX5_save (fun as μ => if g_X5_save as μ then some (v_X5_save as μ) else none) := (ctr_X5_save ).of (fun as μ r h => by
  split at h
  · rename_i hg
    unfold g_X5_save at hg
    split at hg
    · rw [← h]
      exact (eqf_X5_save _ _ _ _ _ _ _ _ _ _ _ _ _ _ _).trans (sp_X5_save _ _ _ _ _ _ _ _ _ _ _ _ _ _ _ hg)
    · cases hg
  · cases h)
theorem dX5_putBack_0 : decode cX5_putBack 0 = .ok (.aload_n 1, 1) := by decide +kernel
theorem dX5_putBack_1 : decode cX5_putBack 1 = .ok (.aload_n 0, 1) := by decide +kernel
theorem dX5_putBack_2 : decode cX5_putBack 2 = .ok (.aload_n 0, 1) := by decide +kernel
theorem dX5_putBack_3 : decode cX5_putBack 3 = .ok (.getfield 18, 3) := by decide +kernel
theorem dX5_putBack_6 : decode cX5_putBack 6 = .ok (.invokevirtual 35, 3) := by decide +kernel
theorem dX5_putBack_9 : decode cX5_putBack 9 = .ok (.invokevirtual 39, 3) := by decide +kernel
theorem dX5_putBack_12 : decode cX5_putBack 12 = .ok (.return_, 1) := by decide +kernel
abbrev mX5_putBack : XM := (cX5_putBack, 2, RX5, none, shw_PH, 2)
noncomputable def rg_X5_putBack_0 : XK :=
 o_aload 1 <|
 o_aload 0 <|
 o_aload 0 <|
 o_get shw_PH 5 2 <|
 o_callVr 2 [0, 1, 2, 3, 4, 5, 6, 7, 8, 9, 10, 11, 12, 13] g_X5_slot j_X5_slot [(1, 0), (2, 0), (3, 0), (4, 0), (5, 0), (6, 0), (7, 0), (8, 0), (9, 0), (10, 0), (11, 0), (12, 0), (13, 0)] [o_callV 2 0 [14, 1] f_X3_copyFrom <|
 o_return,
 o_callV 2 0 [14, 2] f_X3_copyFrom <|
 o_return,
 o_callV 2 0 [14, 3] f_X3_copyFrom <|
 o_return,
 o_callV 2 0 [14, 4] f_X3_copyFrom <|
 o_return,
 o_callV 2 0 [14, 5] f_X3_copyFrom <|
 o_return,
 o_callV 2 0 [14, 6] f_X3_copyFrom <|
 o_return,
 o_callV 2 0 [14, 7] f_X3_copyFrom <|
 o_return,
 o_callV 2 0 [14, 8] f_X3_copyFrom <|
 o_return,
 o_callV 2 0 [14, 9] f_X3_copyFrom <|
 o_return,
 o_callV 2 0 [14, 10] f_X3_copyFrom <|
 o_return,
 o_callV 2 0 [14, 11] f_X3_copyFrom <|
 o_return,
 o_callV 2 0 [14, 12] f_X3_copyFrom <|
 o_return,
 o_callV 2 0 [14, 13] f_X3_copyFrom <|
 o_return]
def en_X5_putBack_0 (h0 : Ob) (h1 : Ob) (h2 : Ob) (h3 : Ob) (h4 : Ob) (h5 : Ob) (h6 : Ob) (h7 : Ob) (h8 : Ob) (h9 : Ob) (h10 : Ob) (h11 : Ob) (h12 : Ob) (h13 : Ob) (a : Ob) : XSt := ([some (.inr (.inl (0, 0))), some (.inr (.inl (14, 0)))], [], [h0, h1, h2, h3, h4, h5, h6, h7, h8, h9, h10, h11, h12, h13, a])
noncomputable def mg_X5_putBack_0 (h0 : Ob) (h1 : Ob) (h2 : Ob) (h3 : Ob) (h4 : Ob) (h5 : Ob) (h6 : Ob) (h7 : Ob) (h8 : Ob) (h9 : Ob) (h10 : Ob) (h11 : Ob) (h12 : Ob) (h13 : Ob) (a : Ob) : Option Rt :=
 if decide (0 ≤ h0 0 1 + (h0 0 2) ∧ h0 0 1 + (h0 0 2) ≤ 24) then (
 if xw (flm (h0 0 1 + (h0 0 2))) = 0 then (RV [h0, h1, h2, h3, h4, h5, h6, h7, h8, h9, h10, h11, h12, h13, (cpyO a h1)])
 else if xw (flm (h0 0 1 + (h0 0 2))) = 1 then (RV [h0, h1, h2, h3, h4, h5, h6, h7, h8, h9, h10, h11, h12, h13, (cpyO a h2)])
 else if xw (flm (h0 0 1 + (h0 0 2))) = 2 then (RV [h0, h1, h2, h3, h4, h5, h6, h7, h8, h9, h10, h11, h12, h13, (cpyO a h3)])
 else if xw (flm (h0 0 1 + (h0 0 2))) = 3 then (RV [h0, h1, h2, h3, h4, h5, h6, h7, h8, h9, h10, h11, h12, h13, (cpyO a h4)])
 else if xw (flm (h0 0 1 + (h0 0 2))) = 4 then (RV [h0, h1, h2, h3, h4, h5, h6, h7, h8, h9, h10, h11, h12, h13, (cpyO a h5)])
 else if xw (flm (h0 0 1 + (h0 0 2))) = 5 then (RV [h0, h1, h2, h3, h4, h5, h6, h7, h8, h9, h10, h11, h12, h13, (cpyO a h6)])
 else if xw (flm (h0 0 1 + (h0 0 2))) = 6 then (RV [h0, h1, h2, h3, h4, h5, h6, h7, h8, h9, h10, h11, h12, h13, (cpyO a h7)])
 else if xw (flm (h0 0 1 + (h0 0 2))) = 7 then (RV [h0, h1, h2, h3, h4, h5, h6, h7, h8, h9, h10, h11, h12, h13, (cpyO a h8)])
 else if xw (flm (h0 0 1 + (h0 0 2))) = 8 then (RV [h0, h1, h2, h3, h4, h5, h6, h7, h8, h9, h10, h11, h12, h13, (cpyO a h9)])
 else if xw (flm (h0 0 1 + (h0 0 2))) = 9 then (RV [h0, h1, h2, h3, h4, h5, h6, h7, h8, h9, h10, h11, h12, h13, (cpyO a h10)])
 else if xw (flm (h0 0 1 + (h0 0 2))) = 10 then (RV [h0, h1, h2, h3, h4, h5, h6, h7, h8, h9, h10, h11, h12, h13, (cpyO a h11)])
 else if xw (flm (h0 0 1 + (h0 0 2))) = 11 then (RV [h0, h1, h2, h3, h4, h5, h6, h7, h8, h9, h10, h11, h12, h13, (cpyO a h12)])
 else if xw (flm (h0 0 1 + (h0 0 2))) = 12 then (RV [h0, h1, h2, h3, h4, h5, h6, h7, h8, h9, h10, h11, h12, h13, (cpyO a h13)])
 else none) else none
set_option maxRecDepth 100000 in
set_option maxHeartbeats 4000000 in
theorem rq_X5_putBack_0 (h0 : Ob) (h1 : Ob) (h2 : Ob) (h3 : Ob) (h4 : Ob) (h5 : Ob) (h6 : Ob) (h7 : Ob) (h8 : Ob) (h9 : Ob) (h10 : Ob) (h11 : Ob) (h12 : Ob) (h13 : Ob) (a : Ob) : rg_X5_putBack_0 (en_X5_putBack_0 h0 h1 h2 h3 h4 h5 h6 h7 h8 h9 h10 h11 h12 h13 a) = mg_X5_putBack_0 h0 h1 h2 h3 h4 h5 h6 h7 h8 h9 h10 h11 h12 h13 a := rfl
set_option maxRecDepth 100000 in
set_option maxHeartbeats 4000000 in
theorem sg_X5_putBack_0 {X : XDyn} {r0 : Rt} (C : XO X mX5_putBack) : XS X mX5_putBack r0 0 (rg_X5_putBack_0) := by
 unfold rg_X5_putBack_0
 exact s_aload_n (pc := 0) C dX5_putBack_0 rfl <|
    s_aload_n (pc := 1) C dX5_putBack_1 rfl <|
    s_aload_n (pc := 2) C dX5_putBack_2 rfl <|
    s_get (pc := 3) C (ci := 5) (kf := 2) rfl inX5 (by decide) wd_178 dX5_putBack_3 <|
    s_callVr (pc := 6) C ct_X5_slot rfl (n := 2) (mp := [0, 1, 2, 3, 4, 5, 6, 7, 8, 9, 10, 11, 12, 13]) ⟨rfl, by decide, rfl⟩ (ci := 5) rfl rfl (by decide) (by decide) yi_X5_slot (by decide) wd_364 wd_366 wd_0 wd_75 wd_367 dX5_putBack_6 (List.forall_mem_cons.mpr ⟨s_callV (pc := 9) C ct_X3_copyFrom (n := 2) (rk := 0) (mp := [14, 1]) ⟨rfl, by decide, rfl⟩ (ci := 3) rfl rfl (by decide) (by decide) yi_X3_copyFrom (by decide) wd_371 wd_372 wd_373 wd_74 wd_374 dX5_putBack_9 <|
    s_return (pc := 12) C rfl dX5_putBack_12, (List.forall_mem_cons.mpr ⟨s_callV (pc := 9) C ct_X3_copyFrom (n := 2) (rk := 0) (mp := [14, 2]) ⟨rfl, by decide, rfl⟩ (ci := 3) rfl rfl (by decide) (by decide) yi_X3_copyFrom (by decide) wd_371 wd_372 wd_373 wd_74 wd_374 dX5_putBack_9 <|
    s_return (pc := 12) C rfl dX5_putBack_12, (List.forall_mem_cons.mpr ⟨s_callV (pc := 9) C ct_X3_copyFrom (n := 2) (rk := 0) (mp := [14, 3]) ⟨rfl, by decide, rfl⟩ (ci := 3) rfl rfl (by decide) (by decide) yi_X3_copyFrom (by decide) wd_371 wd_372 wd_373 wd_74 wd_374 dX5_putBack_9 <|
    s_return (pc := 12) C rfl dX5_putBack_12, (List.forall_mem_cons.mpr ⟨s_callV (pc := 9) C ct_X3_copyFrom (n := 2) (rk := 0) (mp := [14, 4]) ⟨rfl, by decide, rfl⟩ (ci := 3) rfl rfl (by decide) (by decide) yi_X3_copyFrom (by decide) wd_371 wd_372 wd_373 wd_74 wd_374 dX5_putBack_9 <|
    s_return (pc := 12) C rfl dX5_putBack_12, (List.forall_mem_cons.mpr ⟨s_callV (pc := 9) C ct_X3_copyFrom (n := 2) (rk := 0) (mp := [14, 5]) ⟨rfl, by decide, rfl⟩ (ci := 3) rfl rfl (by decide) (by decide) yi_X3_copyFrom (by decide) wd_371 wd_372 wd_373 wd_74 wd_374 dX5_putBack_9 <|
    s_return (pc := 12) C rfl dX5_putBack_12, (List.forall_mem_cons.mpr ⟨s_callV (pc := 9) C ct_X3_copyFrom (n := 2) (rk := 0) (mp := [14, 6]) ⟨rfl, by decide, rfl⟩ (ci := 3) rfl rfl (by decide) (by decide) yi_X3_copyFrom (by decide) wd_371 wd_372 wd_373 wd_74 wd_374 dX5_putBack_9 <|
    s_return (pc := 12) C rfl dX5_putBack_12, (List.forall_mem_cons.mpr ⟨s_callV (pc := 9) C ct_X3_copyFrom (n := 2) (rk := 0) (mp := [14, 7]) ⟨rfl, by decide, rfl⟩ (ci := 3) rfl rfl (by decide) (by decide) yi_X3_copyFrom (by decide) wd_371 wd_372 wd_373 wd_74 wd_374 dX5_putBack_9 <|
    s_return (pc := 12) C rfl dX5_putBack_12, (List.forall_mem_cons.mpr ⟨s_callV (pc := 9) C ct_X3_copyFrom (n := 2) (rk := 0) (mp := [14, 8]) ⟨rfl, by decide, rfl⟩ (ci := 3) rfl rfl (by decide) (by decide) yi_X3_copyFrom (by decide) wd_371 wd_372 wd_373 wd_74 wd_374 dX5_putBack_9 <|
    s_return (pc := 12) C rfl dX5_putBack_12, (List.forall_mem_cons.mpr ⟨s_callV (pc := 9) C ct_X3_copyFrom (n := 2) (rk := 0) (mp := [14, 9]) ⟨rfl, by decide, rfl⟩ (ci := 3) rfl rfl (by decide) (by decide) yi_X3_copyFrom (by decide) wd_371 wd_372 wd_373 wd_74 wd_374 dX5_putBack_9 <|
    s_return (pc := 12) C rfl dX5_putBack_12, (List.forall_mem_cons.mpr ⟨s_callV (pc := 9) C ct_X3_copyFrom (n := 2) (rk := 0) (mp := [14, 10]) ⟨rfl, by decide, rfl⟩ (ci := 3) rfl rfl (by decide) (by decide) yi_X3_copyFrom (by decide) wd_371 wd_372 wd_373 wd_74 wd_374 dX5_putBack_9 <|
    s_return (pc := 12) C rfl dX5_putBack_12, (List.forall_mem_cons.mpr ⟨s_callV (pc := 9) C ct_X3_copyFrom (n := 2) (rk := 0) (mp := [14, 11]) ⟨rfl, by decide, rfl⟩ (ci := 3) rfl rfl (by decide) (by decide) yi_X3_copyFrom (by decide) wd_371 wd_372 wd_373 wd_74 wd_374 dX5_putBack_9 <|
    s_return (pc := 12) C rfl dX5_putBack_12, (List.forall_mem_cons.mpr ⟨s_callV (pc := 9) C ct_X3_copyFrom (n := 2) (rk := 0) (mp := [14, 12]) ⟨rfl, by decide, rfl⟩ (ci := 3) rfl rfl (by decide) (by decide) yi_X3_copyFrom (by decide) wd_371 wd_372 wd_373 wd_74 wd_374 dX5_putBack_9 <|
    s_return (pc := 12) C rfl dX5_putBack_12, (List.forall_mem_cons.mpr ⟨s_callV (pc := 9) C ct_X3_copyFrom (n := 2) (rk := 0) (mp := [14, 13]) ⟨rfl, by decide, rfl⟩ (ci := 3) rfl rfl (by decide) (by decide) yi_X3_copyFrom (by decide) wd_371 wd_372 wd_373 wd_74 wd_374 dX5_putBack_9 <|
    s_return (pc := 12) C rfl dX5_putBack_12, (fun _ z => absurd z List.not_mem_nil)⟩)⟩)⟩)⟩)⟩)⟩)⟩)⟩)⟩)⟩)⟩)⟩)⟩)
noncomputable def rw_X5_putBack_0 : XK := rg_X5_putBack_0
noncomputable def md_X5_putBack_0 (h0 : Ob) (h1 : Ob) (h2 : Ob) (h3 : Ob) (h4 : Ob) (h5 : Ob) (h6 : Ob) (h7 : Ob) (h8 : Ob) (h9 : Ob) (h10 : Ob) (h11 : Ob) (h12 : Ob) (h13 : Ob) : Ob → Option Rt := mg_X5_putBack_0 h0 h1 h2 h3 h4 h5 h6 h7 h8 h9 h10 h11 h12 h13
theorem eq_X5_putBack_0 (h0 : Ob) (h1 : Ob) (h2 : Ob) (h3 : Ob) (h4 : Ob) (h5 : Ob) (h6 : Ob) (h7 : Ob) (h8 : Ob) (h9 : Ob) (h10 : Ob) (h11 : Ob) (h12 : Ob) (h13 : Ob) (a : Ob) : rw_X5_putBack_0 (en_X5_putBack_0 h0 h1 h2 h3 h4 h5 h6 h7 h8 h9 h10 h11 h12 h13 a) = md_X5_putBack_0 h0 h1 h2 h3 h4 h5 h6 h7 h8 h9 h10 h11 h12 h13 a :=
 rq_X5_putBack_0 h0 h1 h2 h3 h4 h5 h6 h7 h8 h9 h10 h11 h12 h13 a
theorem sd_X5_putBack_0 {X : XDyn} {r0 : Rt} (C : XO X mX5_putBack) : XS X mX5_putBack r0 0 (rw_X5_putBack_0) := sg_X5_putBack_0 C
theorem ctr_X5_putBack : XCt yX5_putBack mX5_putBack (xF mX5_putBack (rw_X5_putBack_0)) := xMet (by decide +kernel) rfl (fun _ _ C => sd_X5_putBack_0 C)
theorem eqf_X5_putBack (h0 : Ob) (h1 : Ob) (h2 : Ob) (h3 : Ob) (h4 : Ob) (h5 : Ob) (h6 : Ob) (h7 : Ob) (h8 : Ob) (h9 : Ob) (h10 : Ob) (h11 : Ob) (h12 : Ob) (h13 : Ob) (h14 : Ob) : xF mX5_putBack (rw_X5_putBack_0) [.inr (.inl (0, 0)), .inr (.inl (14, 0))] [h0, h1, h2, h3, h4, h5, h6, h7, h8, h9, h10, h11, h12, h13, h14] = md_X5_putBack_0 h0 h1 h2 h3 h4 h5 h6 h7 h8 h9 h10 h11 h12 h13 h14 := eq_X5_putBack_0 h0 h1 h2 h3 h4 h5 h6 h7 h8 h9 h10 h11 h12 h13 h14
theorem yi_X5_putBack : yX5_putBack.cls = RX5 ∧ yX5_putBack.cls ≠ "java/lang/invoke/MethodHandle" ∧ yX5_putBack.cls ≠ "java/lang/invoke/VarHandle" ∧ (parseMethodDescriptor yX5_putBack.desc).map (fun d => d.parameters.length) = some 1 := ⟨rfl, by decide +kernel, by decide +kernel, by decide +kernel⟩
theorem sp_X5_putBack (h0 h1 h2 h3 h4 h5 h6 h7 h8 h9 h10 h11 h12 h13 h14 : Ob) (hg : pd (PG h0) = true) : md_X5_putBack_0 h0 h1 h2 h3 h4 h5 h6 h7 h8 h9 h10 h11 h12 h13 h14 = RV [h0, h1, h2, h3, h4, h5, h6, h7, h8, h9, h10, h11, h12, h13, cpyO h14 (kpk h0 0 [h1, h2, h3, h4, h5, h6, h7, h8, h9, h10, h11, h12, h13])] := by
  obtain ⟨g1, g2, g3, g4⟩ := pd_of hg
  obtain ⟨j, hj, e1, e2⟩ := fl13 (a := h0 0 1 + h0 0 2) (by omega) (by omega)
  simp only [md_X5_putBack_0, mg_X5_putBack_0]
  rw [if_pos (decide_eq_true ⟨by omega, by omega⟩)]
  unfold kpk
  rw [Int.add_zero, e2, e1]
  have hc : j = 0 ∨ j = 1 ∨ j = 2 ∨ j = 3 ∨ j = 4 ∨ j = 5 ∨ j = 6 ∨ j = 7 ∨ j = 8 ∨ j = 9 ∨ j = 10 ∨ j = 11 ∨ j = 12 := by omega
  rcases hc with rfl | rfl | rfl | rfl | rfl | rfl | rfl | rfl | rfl | rfl | rfl | rfl | rfl <;> rfl
noncomputable def g_X5_putBack : List AV → List Ob → Bool
  | [.inr (.inl (0, 0)), .inr (.inl (14, 0))], [h0, h1, h2, h3, h4, h5, h6, h7, h8, h9, h10, h11, h12, h13, h14] => pd (PG h0)
  | _, _ => false
noncomputable def v_X5_putBack : List AV → List Ob → Rt
  | [.inr (.inl (0, 0)), .inr (.inl (14, 0))], [h0, h1, h2, h3, h4, h5, h6, h7, h8, h9, h10, h11, h12, h13, h14] => (none, [h0, h1, h2, h3, h4, h5, h6, h7, h8, h9, h10, h11, h12, h13, (cpyO h14 (kpk h0 0 [h1, h2, h3, h4, h5, h6, h7, h8, h9, h10, h11, h12, h13]))])
  | _, _ => (none, [])
theorem ct_X5_putBack : XCt yX5_putBack mX5_putBack (fun as μ => if g_X5_putBack as μ then some (v_X5_putBack as μ) else none) := (ctr_X5_putBack ).of (fun as μ r h => by
  split at h
  · rename_i hg
    unfold g_X5_putBack at hg
    split at hg
    · rw [← h]
      exact (eqf_X5_putBack _ _ _ _ _ _ _ _ _ _ _ _ _ _ _).trans (sp_X5_putBack _ _ _ _ _ _ _ _ _ _ _ _ _ _ _ hg)
    · cases hg
  · cases h)
theorem dX5_takeBack_0 : decode cX5_takeBack 0 = .ok (.aload_n 0, 1) := by decide +kernel
theorem dX5_takeBack_1 : decode cX5_takeBack 1 = .ok (.getfield 18, 3) := by decide +kernel
theorem dX5_takeBack_4 : decode cX5_takeBack 4 = .ok (.iconst 1, 1) := by decide +kernel
theorem dX5_takeBack_5 : decode cX5_takeBack 5 = .ok (.if_icmp .ge 5, 3) := by decide +kernel
theorem dX5_takeBack_8 : decode cX5_takeBack 8 = .ok (.iconst (-1), 1) := by decide +kernel
theorem dX5_takeBack_9 : decode cX5_takeBack 9 = .ok (.ireturn, 1) := by decide +kernel
theorem dX5_takeBack_10 : decode cX5_takeBack 10 = .ok (.aload_n 0, 1) := by decide +kernel
theorem dX5_takeBack_11 : decode cX5_takeBack 11 = .ok (.dup, 1) := by decide +kernel
theorem dX5_takeBack_12 : decode cX5_takeBack 12 = .ok (.getfield 18, 3) := by decide +kernel
theorem dX5_takeBack_15 : decode cX5_takeBack 15 = .ok (.iconst 1, 1) := by decide +kernel
theorem dX5_takeBack_16 : decode cX5_takeBack 16 = .ok (.isub, 1) := by decide +kernel
theorem dX5_takeBack_17 : decode cX5_takeBack 17 = .ok (.putfield 18, 3) := by decide +kernel
theorem dX5_takeBack_20 : decode cX5_takeBack 20 = .ok (.aload_n 0, 1) := by decide +kernel
theorem dX5_takeBack_21 : decode cX5_takeBack 21 = .ok (.iconst 0, 1) := by decide +kernel
theorem dX5_takeBack_22 : decode cX5_takeBack 22 = .ok (.putfield 22, 3) := by decide +kernel
theorem dX5_takeBack_25 : decode cX5_takeBack 25 = .ok (.aload_n 0, 1) := by decide +kernel
theorem dX5_takeBack_26 : decode cX5_takeBack 26 = .ok (.aload_n 1, 1) := by decide +kernel
theorem dX5_takeBack_27 : decode cX5_takeBack 27 = .ok (.invokevirtual 43, 3) := by decide +kernel
theorem dX5_takeBack_30 : decode cX5_takeBack 30 = .ok (.aload_n 0, 1) := by decide +kernel
theorem dX5_takeBack_31 : decode cX5_takeBack 31 = .ok (.getfield 18, 3) := by decide +kernel
theorem dX5_takeBack_34 : decode cX5_takeBack 34 = .ok (.ireturn, 1) := by decide +kernel
abbrev mX5_takeBack : XM := (cX5_takeBack, 2, RX5, (some .int), shw_PH, 3)
noncomputable def rg_X5_takeBack_0 : XK :=
 o_aload 0 <|
 o_get shw_PH 5 2 <|
 o_iconst 1 <|
 o_icmp_ge (o_aload 0 <|
 o_dup <|
 o_get shw_PH 5 2 <|
 o_iconst 1 <|
 o_isub <|
 o_put shw_PH 5 2 false <|
 o_aload 0 <|
 o_iconst 0 <|
 o_put shw_PH 5 3 true <|
 o_aload 0 <|
 o_aload 1 <|
 o_callVg 2 0 [0, 1, 2, 3, 4, 5, 6, 7, 8, 9, 10, 11, 12, 13, 14] g_X5_putBack v_X5_putBack <|
 o_aload 0 <|
 o_get shw_PH 5 2 <|
 o_ireturn)
 (o_iconst (-1) <|
 o_ireturn)
def en_X5_takeBack_0 (h1 : Ob) (h2 : Ob) (h3 : Ob) (h4 : Ob) (h5 : Ob) (h6 : Ob) (h7 : Ob) (h8 : Ob) (h9 : Ob) (h10 : Ob) (h11 : Ob) (h12 : Ob) (h13 : Ob) (a : Ob × Ob) : XSt := ([some (.inr (.inl (0, 0))), some (.inr (.inl (14, 0)))], [], [a.1, h1, h2, h3, h4, h5, h6, h7, h8, h9, h10, h11, h12, h13, a.2])
noncomputable def mg_X5_takeBack_0 (h1 : Ob) (h2 : Ob) (h3 : Ob) (h4 : Ob) (h5 : Ob) (h6 : Ob) (h7 : Ob) (h8 : Ob) (h9 : Ob) (h10 : Ob) (h11 : Ob) (h12 : Ob) (h13 : Ob) (a : Ob × Ob) : Option Rt :=
 if xw (a.1 0 2) ≥ 1 then (if pd (PG (xset (xset a.1 0 2 ((a.1 0 2) - 1)) 0 3 0)) then (
 RI ((xset (xset a.1 0 2 ((a.1 0 2) - 1)) 0 3 0) 0 2) [(xset (xset a.1 0 2 ((a.1 0 2) - 1)) 0 3 0), h1, h2, h3, h4, h5, h6, h7, h8, h9, h10, h11, h12, h13, (cpyO a.2 (kpk (xset (xset a.1 0 2 ((a.1 0 2) - 1)) 0 3 0) 0 [h1, h2, h3, h4, h5, h6, h7, h8, h9, h10, h11, h12, h13]))]) else none)
 else (RI (-1) [a.1, h1, h2, h3, h4, h5, h6, h7, h8, h9, h10, h11, h12, h13, a.2])
set_option maxRecDepth 100000 in
set_option maxHeartbeats 4000000 in
theorem rq_X5_takeBack_0 (h1 : Ob) (h2 : Ob) (h3 : Ob) (h4 : Ob) (h5 : Ob) (h6 : Ob) (h7 : Ob) (h8 : Ob) (h9 : Ob) (h10 : Ob) (h11 : Ob) (h12 : Ob) (h13 : Ob) (a : Ob × Ob) : rg_X5_takeBack_0 (en_X5_takeBack_0 h1 h2 h3 h4 h5 h6 h7 h8 h9 h10 h11 h12 h13 a) = mg_X5_takeBack_0 h1 h2 h3 h4 h5 h6 h7 h8 h9 h10 h11 h12 h13 a := rfl
set_option maxRecDepth 100000 in
set_option maxHeartbeats 4000000 in
theorem sg_X5_takeBack_0 {X : XDyn} {r0 : Rt} (C : XO X mX5_takeBack) : XS X mX5_takeBack r0 0 (rg_X5_takeBack_0) := by
 unfold rg_X5_takeBack_0
 exact s_aload_n (pc := 0) C dX5_takeBack_0 rfl <|
    s_get (pc := 1) C (ci := 5) (kf := 2) rfl inX5 (by decide) wd_178 dX5_takeBack_1 <|
    s_iconst (pc := 4) C dX5_takeBack_4 <|
    s_icmp_ge (pc := 5) C dX5_takeBack_5 (by decide) (s_aload_n (pc := 10) C dX5_takeBack_10 rfl <|
    s_dup (pc := 11) C dX5_takeBack_11 <|
    s_get (pc := 12) C (ci := 5) (kf := 2) rfl inX5 (by decide) wd_178 dX5_takeBack_12 <|
    s_iconst (pc := 15) C dX5_takeBack_15 <|
    s_isub (pc := 16) C dX5_takeBack_16 <|
    s_put (pc := 17) (z := false) C (ci := 5) (kf := 2) rfl inX5 tyX5_ok nmX5 (by decide) wd_178 rfl rfl dX5_takeBack_17 <|
    s_aload_n (pc := 20) C dX5_takeBack_20 rfl <|
    s_iconst (pc := 21) C dX5_takeBack_21 <|
    s_put (pc := 22) (z := true) C (ci := 5) (kf := 3) rfl inX5 tyX5_ok nmX5 (by decide) wd_180 rfl rfl dX5_takeBack_22 <|
    s_aload_n (pc := 25) C dX5_takeBack_25 rfl <|
    s_aload_n (pc := 26) C dX5_takeBack_26 rfl <|
    s_callVg (pc := 27) C ct_X5_putBack (n := 2) (rk := 0) (mp := [0, 1, 2, 3, 4, 5, 6, 7, 8, 9, 10, 11, 12, 13, 14]) ⟨rfl, by decide, rfl⟩ (ci := 5) rfl rfl (by decide) (by decide) yi_X5_putBack (by decide) wd_718 wd_527 wd_528 wd_75 wd_529 dX5_takeBack_27 <|
    s_aload_n (pc := 30) C dX5_takeBack_30 rfl <|
    s_get (pc := 31) C (ci := 5) (kf := 2) rfl inX5 (by decide) wd_178 dX5_takeBack_31 <|
    s_ireturn (pc := 34) C rfl dX5_takeBack_34)
    (s_iconst (pc := 8) C dX5_takeBack_8 <|
    s_ireturn (pc := 9) C rfl dX5_takeBack_9)
noncomputable def rw_X5_takeBack_0 : XK := rg_X5_takeBack_0
noncomputable def md_X5_takeBack_0 (h1 : Ob) (h2 : Ob) (h3 : Ob) (h4 : Ob) (h5 : Ob) (h6 : Ob) (h7 : Ob) (h8 : Ob) (h9 : Ob) (h10 : Ob) (h11 : Ob) (h12 : Ob) (h13 : Ob) : Ob × Ob → Option Rt := mg_X5_takeBack_0 h1 h2 h3 h4 h5 h6 h7 h8 h9 h10 h11 h12 h13
theorem eq_X5_takeBack_0 (h1 : Ob) (h2 : Ob) (h3 : Ob) (h4 : Ob) (h5 : Ob) (h6 : Ob) (h7 : Ob) (h8 : Ob) (h9 : Ob) (h10 : Ob) (h11 : Ob) (h12 : Ob) (h13 : Ob) (a : Ob × Ob) : rw_X5_takeBack_0 (en_X5_takeBack_0 h1 h2 h3 h4 h5 h6 h7 h8 h9 h10 h11 h12 h13 a) = md_X5_takeBack_0 h1 h2 h3 h4 h5 h6 h7 h8 h9 h10 h11 h12 h13 a :=
 rq_X5_takeBack_0 h1 h2 h3 h4 h5 h6 h7 h8 h9 h10 h11 h12 h13 a
theorem sd_X5_takeBack_0 {X : XDyn} {r0 : Rt} (C : XO X mX5_takeBack) : XS X mX5_takeBack r0 0 (rw_X5_takeBack_0) := sg_X5_takeBack_0 C
theorem ctr_X5_takeBack : XCt yX5_takeBack mX5_takeBack (xF mX5_takeBack (rw_X5_takeBack_0)) := xMet (by decide +kernel) rfl (fun _ _ C => sd_X5_takeBack_0 C)
theorem eqf_X5_takeBack (h0 : Ob) (h1 : Ob) (h2 : Ob) (h3 : Ob) (h4 : Ob) (h5 : Ob) (h6 : Ob) (h7 : Ob) (h8 : Ob) (h9 : Ob) (h10 : Ob) (h11 : Ob) (h12 : Ob) (h13 : Ob) (h14 : Ob) : xF mX5_takeBack (rw_X5_takeBack_0) [.inr (.inl (0, 0)), .inr (.inl (14, 0))] [h0, h1, h2, h3, h4, h5, h6, h7, h8, h9, h10, h11, h12, h13, h14] = md_X5_takeBack_0 h1 h2 h3 h4 h5 h6 h7 h8 h9 h10 h11 h12 h13 (h0, h14) := eq_X5_takeBack_0 h1 h2 h3 h4 h5 h6 h7 h8 h9 h10 h11 h12 h13 (h0, h14)
theorem yi_X5_takeBack : yX5_takeBack.cls = RX5 ∧ yX5_takeBack.cls ≠ "java/lang/invoke/MethodHandle" ∧ yX5_takeBack.cls ≠ "java/lang/invoke/VarHandle" ∧ (parseMethodDescriptor yX5_takeBack.desc).map (fun d => d.parameters.length) = some 1 := ⟨rfl, by decide +kernel, by decide +kernel, by decide +kernel⟩
theorem sp_X5_takeBack (h0 h1 h2 h3 h4 h5 h6 h7 h8 h9 h10 h11 h12 h13 h14 : Ob) (hg : pd (PG h0) = true) : md_X5_takeBack_0 h1 h2 h3 h4 h5 h6 h7 h8 h9 h10 h11 h12 h13 (h0, h14) = RI (tkR h0) [tkP h0, h1, h2, h3, h4, h5, h6, h7, h8, h9, h10, h11, h12, h13, tkH h0 h14 [h1, h2, h3, h4, h5, h6, h7, h8, h9, h10, h11, h12, h13]] := by
  obtain ⟨g1, g2, g3, g4⟩ := pd_of hg
  simp only [md_X5_takeBack_0, mg_X5_takeBack_0]
  unfold tkR tkP tkH
  rw [xw_id (by omega) (by omega)]
  by_cases hc : h0 0 2 < 1
  · rw [if_neg (by omega), if_pos hc, if_pos hc, if_pos hc]
  · rw [if_pos (by omega), if_neg hc, if_neg hc, if_neg hc, if_pos (pd_t ?_)]
    · unfold kpk
      have e1 : (xset (xset h0 0 2 (h0 0 2 - 1)) 0 3 0) 0 1 + (xset (xset h0 0 2 (h0 0 2 - 1)) 0 3 0) 0 2 + 0 = h0 0 1 + h0 0 2 + -1 := by
        simp only [xset]
        simp
        omega
      rw [e1]
      rfl
    · unfold PG
      simp only [xset]
      simp
      omega
noncomputable def g_X5_takeBack : List AV → List Ob → Bool
  | [.inr (.inl (0, 0)), .inr (.inl (14, 0))], [h0, h1, h2, h3, h4, h5, h6, h7, h8, h9, h10, h11, h12, h13, h14] => pd (PG h0)
  | _, _ => false
noncomputable def v_X5_takeBack : List AV → List Ob → Rt
  | [.inr (.inl (0, 0)), .inr (.inl (14, 0))], [h0, h1, h2, h3, h4, h5, h6, h7, h8, h9, h10, h11, h12, h13, h14] => (some (.inl (tkR h0)), [(tkP h0), h1, h2, h3, h4, h5, h6, h7, h8, h9, h10, h11, h12, h13, (tkH h0 h14 [h1, h2, h3, h4, h5, h6, h7, h8, h9, h10, h11, h12, h13])])
  | _, _ => (none, [])
theorem ct_X5_takeBack : XCt yX5_takeBack mX5_takeBack (fun as μ => if g_X5_takeBack as μ then some (v_X5_takeBack as μ) else none) := (ctr_X5_takeBack ).of (fun as μ r h => by
  split at h
  · rename_i hg
    unfold g_X5_takeBack at hg
    split at hg
    · rw [← h]
      exact (eqf_X5_takeBack _ _ _ _ _ _ _ _ _ _ _ _ _ _ _).trans (sp_X5_takeBack _ _ _ _ _ _ _ _ _ _ _ _ _ _ _ hg)
    · cases hg
  · cases h)
theorem dX5_aheadOfLast_0 : decode cX5_aheadOfLast 0 = .ok (.aload_n 0, 1) := by decide +kernel
theorem dX5_aheadOfLast_1 : decode cX5_aheadOfLast 1 = .ok (.aload_n 0, 1) := by decide +kernel
theorem dX5_aheadOfLast_2 : decode cX5_aheadOfLast 2 = .ok (.getfield 18, 3) := by decide +kernel
theorem dX5_aheadOfLast_5 : decode cX5_aheadOfLast 5 = .ok (.iconst 1, 1) := by decide +kernel
theorem dX5_aheadOfLast_6 : decode cX5_aheadOfLast 6 = .ok (.isub, 1) := by decide +kernel
theorem dX5_aheadOfLast_7 : decode cX5_aheadOfLast 7 = .ok (.invokevirtual 35, 3) := by decide +kernel
theorem dX5_aheadOfLast_10 : decode cX5_aheadOfLast 10 = .ok (.areturn, 1) := by decide +kernel
abbrev mX5_aheadOfLast : XM := (cX5_aheadOfLast, 1, RX5, (some (.object "MasterHeap$Heap")), shw_P, 2)
noncomputable def rg_X5_aheadOfLast_0 : XK :=
 o_aload 0 <|
 o_aload 0 <|
 o_get shw_P 5 2 <|
 o_iconst 1 <|
 o_isub <|
 o_callVr 2 [0, 1, 2, 3, 4, 5, 6, 7, 8, 9, 10, 11, 12, 13] g_X5_slot j_X5_slot [(1, 0), (2, 0), (3, 0), (4, 0), (5, 0), (6, 0), (7, 0), (8, 0), (9, 0), (10, 0), (11, 0), (12, 0), (13, 0)] [o_areturn,
 o_areturn,
 o_areturn,
 o_areturn,
 o_areturn,
 o_areturn,
 o_areturn,
 o_areturn,
 o_areturn,
 o_areturn,
 o_areturn,
 o_areturn,
 o_areturn]
def en_X5_aheadOfLast_0 (h0 : Ob) (h1 : Ob) (h2 : Ob) (h3 : Ob) (h4 : Ob) (h5 : Ob) (h6 : Ob) (h7 : Ob) (h8 : Ob) (h9 : Ob) (h10 : Ob) (h11 : Ob) (h12 : Ob) (h13 : Ob) (a : Unit) : XSt := ([some (.inr (.inl (0, 0)))], [], [h0, h1, h2, h3, h4, h5, h6, h7, h8, h9, h10, h11, h12, h13])
noncomputable def mg_X5_aheadOfLast_0 (h0 : Ob) (h1 : Ob) (h2 : Ob) (h3 : Ob) (h4 : Ob) (h5 : Ob) (h6 : Ob) (h7 : Ob) (h8 : Ob) (h9 : Ob) (h10 : Ob) (h11 : Ob) (h12 : Ob) (h13 : Ob) (a : Unit) : Option Rt :=
 if decide (0 ≤ h0 0 1 + ((h0 0 2) - 1) ∧ h0 0 1 + ((h0 0 2) - 1) ≤ 24) then (
 if xw (flm (h0 0 1 + ((h0 0 2) - 1))) = 0 then (RR (1, 0) [h0, h1, h2, h3, h4, h5, h6, h7, h8, h9, h10, h11, h12, h13])
 else if xw (flm (h0 0 1 + ((h0 0 2) - 1))) = 1 then (RR (2, 0) [h0, h1, h2, h3, h4, h5, h6, h7, h8, h9, h10, h11, h12, h13])
 else if xw (flm (h0 0 1 + ((h0 0 2) - 1))) = 2 then (RR (3, 0) [h0, h1, h2, h3, h4, h5, h6, h7, h8, h9, h10, h11, h12, h13])
 else if xw (flm (h0 0 1 + ((h0 0 2) - 1))) = 3 then (RR (4, 0) [h0, h1, h2, h3, h4, h5, h6, h7, h8, h9, h10, h11, h12, h13])
 else if xw (flm (h0 0 1 + ((h0 0 2) - 1))) = 4 then (RR (5, 0) [h0, h1, h2, h3, h4, h5, h6, h7, h8, h9, h10, h11, h12, h13])
 else if xw (flm (h0 0 1 + ((h0 0 2) - 1))) = 5 then (RR (6, 0) [h0, h1, h2, h3, h4, h5, h6, h7, h8, h9, h10, h11, h12, h13])
 else if xw (flm (h0 0 1 + ((h0 0 2) - 1))) = 6 then (RR (7, 0) [h0, h1, h2, h3, h4, h5, h6, h7, h8, h9, h10, h11, h12, h13])
 else if xw (flm (h0 0 1 + ((h0 0 2) - 1))) = 7 then (RR (8, 0) [h0, h1, h2, h3, h4, h5, h6, h7, h8, h9, h10, h11, h12, h13])
 else if xw (flm (h0 0 1 + ((h0 0 2) - 1))) = 8 then (RR (9, 0) [h0, h1, h2, h3, h4, h5, h6, h7, h8, h9, h10, h11, h12, h13])
 else if xw (flm (h0 0 1 + ((h0 0 2) - 1))) = 9 then (RR (10, 0) [h0, h1, h2, h3, h4, h5, h6, h7, h8, h9, h10, h11, h12, h13])
 else if xw (flm (h0 0 1 + ((h0 0 2) - 1))) = 10 then (RR (11, 0) [h0, h1, h2, h3, h4, h5, h6, h7, h8, h9, h10, h11, h12, h13])
 else if xw (flm (h0 0 1 + ((h0 0 2) - 1))) = 11 then (RR (12, 0) [h0, h1, h2, h3, h4, h5, h6, h7, h8, h9, h10, h11, h12, h13])
 else if xw (flm (h0 0 1 + ((h0 0 2) - 1))) = 12 then (RR (13, 0) [h0, h1, h2, h3, h4, h5, h6, h7, h8, h9, h10, h11, h12, h13])
 else none) else none
set_option maxRecDepth 100000 in
set_option maxHeartbeats 4000000 in
theorem rq_X5_aheadOfLast_0 (h0 : Ob) (h1 : Ob) (h2 : Ob) (h3 : Ob) (h4 : Ob) (h5 : Ob) (h6 : Ob) (h7 : Ob) (h8 : Ob) (h9 : Ob) (h10 : Ob) (h11 : Ob) (h12 : Ob) (h13 : Ob) (a : Unit) : rg_X5_aheadOfLast_0 (en_X5_aheadOfLast_0 h0 h1 h2 h3 h4 h5 h6 h7 h8 h9 h10 h11 h12 h13 a) = mg_X5_aheadOfLast_0 h0 h1 h2 h3 h4 h5 h6 h7 h8 h9 h10 h11 h12 h13 a := rfl
set_option maxRecDepth 100000 in
set_option maxHeartbeats 4000000 in
theorem sg_X5_aheadOfLast_0 {X : XDyn} {r0 : Rt} (C : XO X mX5_aheadOfLast) : XS X mX5_aheadOfLast r0 0 (rg_X5_aheadOfLast_0) := by
 unfold rg_X5_aheadOfLast_0
 exact s_aload_n (pc := 0) C dX5_aheadOfLast_0 rfl <|
    s_aload_n (pc := 1) C dX5_aheadOfLast_1 rfl <|
    s_get (pc := 2) C (ci := 5) (kf := 2) rfl inX5 (by decide) wd_178 dX5_aheadOfLast_2 <|
    s_iconst (pc := 5) C dX5_aheadOfLast_5 <|
    s_isub (pc := 6) C dX5_aheadOfLast_6 <|
    s_callVr (pc := 7) C ct_X5_slot rfl (n := 2) (mp := [0, 1, 2, 3, 4, 5, 6, 7, 8, 9, 10, 11, 12, 13]) ⟨rfl, by decide, rfl⟩ (ci := 5) rfl rfl (by decide) (by decide) yi_X5_slot (by decide) wd_364 wd_366 wd_0 wd_75 wd_367 dX5_aheadOfLast_7 (List.forall_mem_cons.mpr ⟨s_areturn (pc := 10) C rfl dX5_aheadOfLast_10, (List.forall_mem_cons.mpr ⟨s_areturn (pc := 10) C rfl dX5_aheadOfLast_10, (List.forall_mem_cons.mpr ⟨s_areturn (pc := 10) C rfl dX5_aheadOfLast_10, (List.forall_mem_cons.mpr ⟨s_areturn (pc := 10) C rfl dX5_aheadOfLast_10, (List.forall_mem_cons.mpr ⟨s_areturn (pc := 10) C rfl dX5_aheadOfLast_10, (List.forall_mem_cons.mpr ⟨s_areturn (pc := 10) C rfl dX5_aheadOfLast_10, (List.forall_mem_cons.mpr ⟨s_areturn (pc := 10) C rfl dX5_aheadOfLast_10, (List.forall_mem_cons.mpr ⟨s_areturn (pc := 10) C rfl dX5_aheadOfLast_10, (List.forall_mem_cons.mpr ⟨s_areturn (pc := 10) C rfl dX5_aheadOfLast_10, (List.forall_mem_cons.mpr ⟨s_areturn (pc := 10) C rfl dX5_aheadOfLast_10, (List.forall_mem_cons.mpr ⟨s_areturn (pc := 10) C rfl dX5_aheadOfLast_10, (List.forall_mem_cons.mpr ⟨s_areturn (pc := 10) C rfl dX5_aheadOfLast_10, (List.forall_mem_cons.mpr ⟨s_areturn (pc := 10) C rfl dX5_aheadOfLast_10, (fun _ z => absurd z List.not_mem_nil)⟩)⟩)⟩)⟩)⟩)⟩)⟩)⟩)⟩)⟩)⟩)⟩)⟩)
noncomputable def rw_X5_aheadOfLast_0 : XK := rg_X5_aheadOfLast_0
noncomputable def md_X5_aheadOfLast_0 (h0 : Ob) (h1 : Ob) (h2 : Ob) (h3 : Ob) (h4 : Ob) (h5 : Ob) (h6 : Ob) (h7 : Ob) (h8 : Ob) (h9 : Ob) (h10 : Ob) (h11 : Ob) (h12 : Ob) (h13 : Ob) : Unit → Option Rt := mg_X5_aheadOfLast_0 h0 h1 h2 h3 h4 h5 h6 h7 h8 h9 h10 h11 h12 h13
theorem eq_X5_aheadOfLast_0 (h0 : Ob) (h1 : Ob) (h2 : Ob) (h3 : Ob) (h4 : Ob) (h5 : Ob) (h6 : Ob) (h7 : Ob) (h8 : Ob) (h9 : Ob) (h10 : Ob) (h11 : Ob) (h12 : Ob) (h13 : Ob) (a : Unit) : rw_X5_aheadOfLast_0 (en_X5_aheadOfLast_0 h0 h1 h2 h3 h4 h5 h6 h7 h8 h9 h10 h11 h12 h13 a) = md_X5_aheadOfLast_0 h0 h1 h2 h3 h4 h5 h6 h7 h8 h9 h10 h11 h12 h13 a :=
 rq_X5_aheadOfLast_0 h0 h1 h2 h3 h4 h5 h6 h7 h8 h9 h10 h11 h12 h13 a
theorem sd_X5_aheadOfLast_0 {X : XDyn} {r0 : Rt} (C : XO X mX5_aheadOfLast) : XS X mX5_aheadOfLast r0 0 (rw_X5_aheadOfLast_0) := sg_X5_aheadOfLast_0 C
theorem ctr_X5_aheadOfLast : XCt yX5_aheadOfLast mX5_aheadOfLast (xF mX5_aheadOfLast (rw_X5_aheadOfLast_0)) := xMet (by decide +kernel) rfl (fun _ _ C => sd_X5_aheadOfLast_0 C)
theorem eqf_X5_aheadOfLast (h0 : Ob) (h1 : Ob) (h2 : Ob) (h3 : Ob) (h4 : Ob) (h5 : Ob) (h6 : Ob) (h7 : Ob) (h8 : Ob) (h9 : Ob) (h10 : Ob) (h11 : Ob) (h12 : Ob) (h13 : Ob) : xF mX5_aheadOfLast (rw_X5_aheadOfLast_0) [.inr (.inl (0, 0))] [h0, h1, h2, h3, h4, h5, h6, h7, h8, h9, h10, h11, h12, h13] = md_X5_aheadOfLast_0 h0 h1 h2 h3 h4 h5 h6 h7 h8 h9 h10 h11 h12 h13 () := eq_X5_aheadOfLast_0 h0 h1 h2 h3 h4 h5 h6 h7 h8 h9 h10 h11 h12 h13 ()
theorem yi_X5_aheadOfLast : yX5_aheadOfLast.cls = RX5 ∧ yX5_aheadOfLast.cls ≠ "java/lang/invoke/MethodHandle" ∧ yX5_aheadOfLast.cls ≠ "java/lang/invoke/VarHandle" ∧ (parseMethodDescriptor yX5_aheadOfLast.desc).map (fun d => d.parameters.length) = some 0 := ⟨rfl, by decide +kernel, by decide +kernel, by decide +kernel⟩
theorem sp_X5_aheadOfLast (h0 h1 h2 h3 h4 h5 h6 h7 h8 h9 h10 h11 h12 h13 : Ob) (hg : pd (PG h0 ∧ 1 ≤ h0 0 2) = true) : md_X5_aheadOfLast_0 h0 h1 h2 h3 h4 h5 h6 h7 h8 h9 h10 h11 h12 h13 () = xrr [(1, 0), (2, 0), (3, 0), (4, 0), (5, 0), (6, 0), (7, 0), (8, 0), (9, 0), (10, 0), (11, 0), (12, 0), (13, 0)] (flm (h0 0 1 + h0 0 2 + -1)) [h0, h1, h2, h3, h4, h5, h6, h7, h8, h9, h10, h11, h12, h13] := by
  obtain ⟨⟨g1, g2, g3, g4⟩, g5⟩ := pd_of hg
  have e0 : h0 0 1 + (h0 0 2 - 1) = h0 0 1 + h0 0 2 + -1 := by omega
  obtain ⟨j, hj, e1, e2⟩ := fl13 (a := h0 0 1 + h0 0 2 + -1) (by omega) (by omega)
  simp only [md_X5_aheadOfLast_0, mg_X5_aheadOfLast_0]
  rw [if_pos (decide_eq_true ⟨by omega, by omega⟩), e0]
  unfold xrr
  rw [e2]
  have hc : j = 0 ∨ j = 1 ∨ j = 2 ∨ j = 3 ∨ j = 4 ∨ j = 5 ∨ j = 6 ∨ j = 7 ∨ j = 8 ∨ j = 9 ∨ j = 10 ∨ j = 11 ∨ j = 12 := by omega
  rcases hc with rfl | rfl | rfl | rfl | rfl | rfl | rfl | rfl | rfl | rfl | rfl | rfl | rfl <;> rfl
noncomputable def g_X5_aheadOfLast : List AV → List Ob → Bool
  | [.inr (.inl (0, 0))], [h0, h1, h2, h3, h4, h5, h6, h7, h8, h9, h10, h11, h12, h13] => pd (PG h0 ∧ 1 ≤ h0 0 2)
  | _, _ => false
noncomputable def j_X5_aheadOfLast : List AV → List Ob → Int
  | [.inr (.inl (0, 0))], [h0, h1, h2, h3, h4, h5, h6, h7, h8, h9, h10, h11, h12, h13] => flm (h0 0 1 + h0 0 2 + -1)
  | _, _ => 0
theorem ct_X5_aheadOfLast : XCt yX5_aheadOfLast mX5_aheadOfLast (xgr g_X5_aheadOfLast j_X5_aheadOfLast [(1, 0), (2, 0), (3, 0), (4, 0), (5, 0), (6, 0), (7, 0), (8, 0), (9, 0), (10, 0), (11, 0), (12, 0), (13, 0)]) := (ctr_X5_aheadOfLast ).of (fun as μ r h => by
  unfold xgr at h
  split at h
  · rename_i hg
    unfold g_X5_aheadOfLast at hg
    split at hg
    · rw [← h]
      exact (eqf_X5_aheadOfLast _ _ _ _ _ _ _ _ _ _ _ _ _ _).trans (sp_X5_aheadOfLast _ _ _ _ _ _ _ _ _ _ _ _ _ _ hg)
    · cases hg
  · cases h)
theorem dX5_movedSince_0 : decode cX5_movedSince 0 = .ok (.aload_n 0, 1) := by decide +kernel
theorem dX5_movedSince_1 : decode cX5_movedSince 1 = .ok (.getfield 22, 3) := by decide +kernel
theorem dX5_movedSince_4 : decode cX5_movedSince 4 = .ok (.ifCond .ne 5, 3) := by decide +kernel
theorem dX5_movedSince_7 : decode cX5_movedSince 7 = .ok (.iconst 0, 1) := by decide +kernel
theorem dX5_movedSince_8 : decode cX5_movedSince 8 = .ok (.ireturn, 1) := by decide +kernel
theorem dX5_movedSince_9 : decode cX5_movedSince 9 = .ok (.aload_n 0, 1) := by decide +kernel
theorem dX5_movedSince_10 : decode cX5_movedSince 10 = .ok (.invokevirtual 46, 3) := by decide +kernel
theorem dX5_movedSince_13 : decode cX5_movedSince 13 = .ok (.astore_n 2, 1) := by decide +kernel
theorem dX5_movedSince_14 : decode cX5_movedSince 14 = .ok (.iconst 0, 1) := by decide +kernel
theorem dX5_movedSince_15 : decode cX5_movedSince 15 = .ok (.istore_n 3, 1) := by decide +kernel
theorem dX5_movedSince_16 : decode cX5_movedSince 16 = .ok (.iconst 0, 1) := by decide +kernel
theorem dX5_movedSince_17 : decode cX5_movedSince 17 = .ok (.istore 4, 2) := by decide +kernel
theorem dX5_movedSince_19 : decode cX5_movedSince 19 = .ok (.iload 4, 2) := by decide +kernel
theorem dX5_movedSince_21 : decode cX5_movedSince 21 = .ok (.bipush 8, 2) := by decide +kernel
theorem dX5_movedSince_23 : decode cX5_movedSince 23 = .ok (.if_icmp .ge 47, 3) := by decide +kernel
theorem dX5_movedSince_26 : decode cX5_movedSince 26 = .ok (.aload_n 2, 1) := by decide +kernel
theorem dX5_movedSince_27 : decode cX5_movedSince 27 = .ok (.iload 4, 2) := by decide +kernel
theorem dX5_movedSince_29 : decode cX5_movedSince 29 = .ok (.invokevirtual 50, 3) := by decide +kernel
theorem dX5_movedSince_32 : decode cX5_movedSince 32 = .ok (.ifCond .eq 32, 3) := by decide +kernel
theorem dX5_movedSince_35 : decode cX5_movedSince 35 = .ok (.aload_n 1, 1) := by decide +kernel
theorem dX5_movedSince_36 : decode cX5_movedSince 36 = .ok (.iload 4, 2) := by decide +kernel
theorem dX5_movedSince_38 : decode cX5_movedSince 38 = .ok (.invokevirtual 50, 3) := by decide +kernel
theorem dX5_movedSince_41 : decode cX5_movedSince 41 = .ok (.ifCond .eq 23, 3) := by decide +kernel
theorem dX5_movedSince_44 : decode cX5_movedSince 44 = .ok (.aload_n 2, 1) := by decide +kernel
theorem dX5_movedSince_45 : decode cX5_movedSince 45 = .ok (.getfield 54, 3) := by decide +kernel
theorem dX5_movedSince_48 : decode cX5_movedSince 48 = .ok (.iload 4, 2) := by decide +kernel
theorem dX5_movedSince_50 : decode cX5_movedSince 50 = .ok (.iaload, 1) := by decide +kernel
theorem dX5_movedSince_51 : decode cX5_movedSince 51 = .ok (.aload_n 1, 1) := by decide +kernel
theorem dX5_movedSince_52 : decode cX5_movedSince 52 = .ok (.getfield 54, 3) := by decide +kernel
theorem dX5_movedSince_55 : decode cX5_movedSince 55 = .ok (.iload 4, 2) := by decide +kernel
theorem dX5_movedSince_57 : decode cX5_movedSince 57 = .ok (.iaload, 1) := by decide +kernel
theorem dX5_movedSince_58 : decode cX5_movedSince 58 = .ok (.if_icmp .eq 6, 3) := by decide +kernel
theorem dX5_movedSince_61 : decode cX5_movedSince 61 = .ok (.iinc 3 1, 3) := by decide +kernel
theorem dX5_movedSince_64 : decode cX5_movedSince 64 = .ok (.iinc 4 1, 3) := by decide +kernel
theorem dX5_movedSince_67 : decode cX5_movedSince 67 = .ok (.goto (-48), 3) := by decide +kernel
theorem dX5_movedSince_70 : decode cX5_movedSince 70 = .ok (.iload_n 3, 1) := by decide +kernel
theorem dX5_movedSince_71 : decode cX5_movedSince 71 = .ok (.ireturn, 1) := by decide +kernel
abbrev mX5_movedSince : XM := (cX5_movedSince, 5, RX5, (some .int), shw_PH, 3)
noncomputable def rg_X5_movedSince_0 (k10019 : XK) (k20019 : XK) (k30019 : XK) (k40019 : XK) (k50019 : XK) (k60019 : XK) (k70019 : XK) (k80019 : XK) (k90019 : XK) (k100019 : XK) (k110019 : XK) (k120019 : XK) (k130019 : XK) : XK :=
 o_aload 0 <|
 o_get shw_PH 5 3 <|
 o_if_ne (o_aload 0 <|
 o_callVr 1 [0, 1, 2, 3, 4, 5, 6, 7, 8, 9, 10, 11, 12, 13] g_X5_aheadOfLast j_X5_aheadOfLast [(1, 0), (2, 0), (3, 0), (4, 0), (5, 0), (6, 0), (7, 0), (8, 0), (9, 0), (10, 0), (11, 0), (12, 0), (13, 0)] [o_astore 2 <|
 o_iconst 0 <|
 o_istore 3 <|
 o_iconst 0 <|
 o_istore 4 <|
 o_cut [0] k10019,
 o_astore 2 <|
 o_iconst 0 <|
 o_istore 3 <|
 o_iconst 0 <|
 o_istore 4 <|
 o_cut [0] k20019,
 o_astore 2 <|
 o_iconst 0 <|
 o_istore 3 <|
 o_iconst 0 <|
 o_istore 4 <|
 o_cut [0] k30019,
 o_astore 2 <|
 o_iconst 0 <|
 o_istore 3 <|
 o_iconst 0 <|
 o_istore 4 <|
 o_cut [0] k40019,
 o_astore 2 <|
 o_iconst 0 <|
 o_istore 3 <|
 o_iconst 0 <|
 o_istore 4 <|
 o_cut [0] k50019,
 o_astore 2 <|
 o_iconst 0 <|
 o_istore 3 <|
 o_iconst 0 <|
 o_istore 4 <|
 o_cut [0] k60019,
 o_astore 2 <|
 o_iconst 0 <|
 o_istore 3 <|
 o_iconst 0 <|
 o_istore 4 <|
 o_cut [0] k70019,
 o_astore 2 <|
 o_iconst 0 <|
 o_istore 3 <|
 o_iconst 0 <|
 o_istore 4 <|
 o_cut [0] k80019,
 o_astore 2 <|
 o_iconst 0 <|
 o_istore 3 <|
 o_iconst 0 <|
 o_istore 4 <|
 o_cut [0] k90019,
 o_astore 2 <|
 o_iconst 0 <|
 o_istore 3 <|
 o_iconst 0 <|
 o_istore 4 <|
 o_cut [0] k100019,
 o_astore 2 <|
 o_iconst 0 <|
 o_istore 3 <|
 o_iconst 0 <|
 o_istore 4 <|
 o_cut [0] k110019,
 o_astore 2 <|
 o_iconst 0 <|
 o_istore 3 <|
 o_iconst 0 <|
 o_istore 4 <|
 o_cut [0] k120019,
 o_astore 2 <|
 o_iconst 0 <|
 o_istore 3 <|
 o_iconst 0 <|
 o_istore 4 <|
 o_cut [0] k130019])
 (o_iconst 0 <|
 o_ireturn)
def en_X5_movedSince_0 (h0 : Ob) (h1 : Ob) (h2 : Ob) (h3 : Ob) (h4 : Ob) (h5 : Ob) (h6 : Ob) (h7 : Ob) (h8 : Ob) (h9 : Ob) (h10 : Ob) (h11 : Ob) (h12 : Ob) (h13 : Ob) (h14 : Ob) (a : Unit) : XSt := ([some (.inr (.inl (0, 0))), some (.inr (.inl (14, 0))), none, none, none], [], [h0, h1, h2, h3, h4, h5, h6, h7, h8, h9, h10, h11, h12, h13, h14])
noncomputable def rg_X5_movedSince_10019 (k10064 : XK) : XK :=
 o_iload 4 <|
 o_iconst 8 <|
 o_icmp_ge (o_iload 3 <|
 o_ireturn)
 (o_aload 2 <|
 o_iload 4 <|
 o_callV 2 1 [1] f_X3_isFull <|
 o_if_eq (o_cut [] k10064)
 (o_aload 1 <|
 o_iload 4 <|
 o_callV 2 1 [14] f_X3_isFull <|
 o_if_eq (o_cut [] k10064)
 (o_aload 2 <|
 o_get shw_PH 3 0 <|
 o_iload 4 <|
 o_iald shw_PH <|
 o_aload 1 <|
 o_get shw_PH 3 0 <|
 o_iload 4 <|
 o_iald shw_PH <|
 o_icmp_eq (o_cut [] k10064)
 (o_iinc 3 1 <|
 o_cut [] k10064))))
def en_X5_movedSince_10019 (h0 : Ob) (h1 : Ob) (h2 : Ob) (h3 : Ob) (h4 : Ob) (h5 : Ob) (h6 : Ob) (h7 : Ob) (h8 : Ob) (h9 : Ob) (h10 : Ob) (h11 : Ob) (h12 : Ob) (h13 : Ob) (h14 : Ob) (a : Int × Int) : XSt := ([none, some (.inr (.inl (14, 0))), some (.inr (.inl (1, 0))), some (.inl a.1), some (.inl a.2)], [], [h0, h1, h2, h3, h4, h5, h6, h7, h8, h9, h10, h11, h12, h13, h14])
noncomputable def rg_X5_movedSince_10064 (k10019 : XK) : XK :=
 o_iinc 4 1 <|
 o_cut [] k10019
def en_X5_movedSince_10064 (h0 : Ob) (h1 : Ob) (h2 : Ob) (h3 : Ob) (h4 : Ob) (h5 : Ob) (h6 : Ob) (h7 : Ob) (h8 : Ob) (h9 : Ob) (h10 : Ob) (h11 : Ob) (h12 : Ob) (h13 : Ob) (h14 : Ob) (a : Int × Int) : XSt := ([none, some (.inr (.inl (14, 0))), some (.inr (.inl (1, 0))), some (.inl a.1), some (.inl a.2)], [], [h0, h1, h2, h3, h4, h5, h6, h7, h8, h9, h10, h11, h12, h13, h14])
noncomputable def rg_X5_movedSince_20019 (k20064 : XK) : XK :=
 o_iload 4 <|
 o_iconst 8 <|
 o_icmp_ge (o_iload 3 <|
 o_ireturn)
 (o_aload 2 <|
 o_iload 4 <|
 o_callV 2 1 [2] f_X3_isFull <|
 o_if_eq (o_cut [] k20064)
 (o_aload 1 <|
 o_iload 4 <|
 o_callV 2 1 [14] f_X3_isFull <|
 o_if_eq (o_cut [] k20064)
 (o_aload 2 <|
 o_get shw_PH 3 0 <|
 o_iload 4 <|
 o_iald shw_PH <|
 o_aload 1 <|
 o_get shw_PH 3 0 <|
 o_iload 4 <|
 o_iald shw_PH <|
 o_icmp_eq (o_cut [] k20064)
 (o_iinc 3 1 <|
 o_cut [] k20064))))
def en_X5_movedSince_20019 (h0 : Ob) (h1 : Ob) (h2 : Ob) (h3 : Ob) (h4 : Ob) (h5 : Ob) (h6 : Ob) (h7 : Ob) (h8 : Ob) (h9 : Ob) (h10 : Ob) (h11 : Ob) (h12 : Ob) (h13 : Ob) (h14 : Ob) (a : Int × Int) : XSt := ([none, some (.inr (.inl (14, 0))), some (.inr (.inl (2, 0))), some (.inl a.1), some (.inl a.2)], [], [h0, h1, h2, h3, h4, h5, h6, h7, h8, h9, h10, h11, h12, h13, h14])
noncomputable def rg_X5_movedSince_20064 (k20019 : XK) : XK :=
 o_iinc 4 1 <|
 o_cut [] k20019
def en_X5_movedSince_20064 (h0 : Ob) (h1 : Ob) (h2 : Ob) (h3 : Ob) (h4 : Ob) (h5 : Ob) (h6 : Ob) (h7 : Ob) (h8 : Ob) (h9 : Ob) (h10 : Ob) (h11 : Ob) (h12 : Ob) (h13 : Ob) (h14 : Ob) (a : Int × Int) : XSt := ([none, some (.inr (.inl (14, 0))), some (.inr (.inl (2, 0))), some (.inl a.1), some (.inl a.2)], [], [h0, h1, h2, h3, h4, h5, h6, h7, h8, h9, h10, h11, h12, h13, h14])
noncomputable def rg_X5_movedSince_30019 (k30064 : XK) : XK :=
 o_iload 4 <|
 o_iconst 8 <|
 o_icmp_ge (o_iload 3 <|
 o_ireturn)
 (o_aload 2 <|
 o_iload 4 <|
 o_callV 2 1 [3] f_X3_isFull <|
 o_if_eq (o_cut [] k30064)
 (o_aload 1 <|
 o_iload 4 <|
 o_callV 2 1 [14] f_X3_isFull <|
 o_if_eq (o_cut [] k30064)
 (o_aload 2 <|
 o_get shw_PH 3 0 <|
 o_iload 4 <|
 o_iald shw_PH <|
 o_aload 1 <|
 o_get shw_PH 3 0 <|
 o_iload 4 <|
 o_iald shw_PH <|
 o_icmp_eq (o_cut [] k30064)
 (o_iinc 3 1 <|
 o_cut [] k30064))))
def en_X5_movedSince_30019 (h0 : Ob) (h1 : Ob) (h2 : Ob) (h3 : Ob) (h4 : Ob) (h5 : Ob) (h6 : Ob) (h7 : Ob) (h8 : Ob) (h9 : Ob) (h10 : Ob) (h11 : Ob) (h12 : Ob) (h13 : Ob) (h14 : Ob) (a : Int × Int) : XSt := ([none, some (.inr (.inl (14, 0))), some (.inr (.inl (3, 0))), some (.inl a.1), some (.inl a.2)], [], [h0, h1, h2, h3, h4, h5, h6, h7, h8, h9, h10, h11, h12, h13, h14])
noncomputable def rg_X5_movedSince_30064 (k30019 : XK) : XK :=
 o_iinc 4 1 <|
 o_cut [] k30019
def en_X5_movedSince_30064 (h0 : Ob) (h1 : Ob) (h2 : Ob) (h3 : Ob) (h4 : Ob) (h5 : Ob) (h6 : Ob) (h7 : Ob) (h8 : Ob) (h9 : Ob) (h10 : Ob) (h11 : Ob) (h12 : Ob) (h13 : Ob) (h14 : Ob) (a : Int × Int) : XSt := ([none, some (.inr (.inl (14, 0))), some (.inr (.inl (3, 0))), some (.inl a.1), some (.inl a.2)], [], [h0, h1, h2, h3, h4, h5, h6, h7, h8, h9, h10, h11, h12, h13, h14])
noncomputable def rg_X5_movedSince_40019 (k40064 : XK) : XK :=
 o_iload 4 <|
 o_iconst 8 <|
 o_icmp_ge (o_iload 3 <|
 o_ireturn)
 (o_aload 2 <|
 o_iload 4 <|
 o_callV 2 1 [4] f_X3_isFull <|
 o_if_eq (o_cut [] k40064)
 (o_aload 1 <|
 o_iload 4 <|
 o_callV 2 1 [14] f_X3_isFull <|
 o_if_eq (o_cut [] k40064)
 (o_aload 2 <|
 o_get shw_PH 3 0 <|
 o_iload 4 <|
 o_iald shw_PH <|
 o_aload 1 <|
 o_get shw_PH 3 0 <|
 o_iload 4 <|
 o_iald shw_PH <|
 o_icmp_eq (o_cut [] k40064)
 (o_iinc 3 1 <|
 o_cut [] k40064))))
def en_X5_movedSince_40019 (h0 : Ob) (h1 : Ob) (h2 : Ob) (h3 : Ob) (h4 : Ob) (h5 : Ob) (h6 : Ob) (h7 : Ob) (h8 : Ob) (h9 : Ob) (h10 : Ob) (h11 : Ob) (h12 : Ob) (h13 : Ob) (h14 : Ob) (a : Int × Int) : XSt := ([none, some (.inr (.inl (14, 0))), some (.inr (.inl (4, 0))), some (.inl a.1), some (.inl a.2)], [], [h0, h1, h2, h3, h4, h5, h6, h7, h8, h9, h10, h11, h12, h13, h14])
noncomputable def rg_X5_movedSince_40064 (k40019 : XK) : XK :=
 o_iinc 4 1 <|
 o_cut [] k40019
def en_X5_movedSince_40064 (h0 : Ob) (h1 : Ob) (h2 : Ob) (h3 : Ob) (h4 : Ob) (h5 : Ob) (h6 : Ob) (h7 : Ob) (h8 : Ob) (h9 : Ob) (h10 : Ob) (h11 : Ob) (h12 : Ob) (h13 : Ob) (h14 : Ob) (a : Int × Int) : XSt := ([none, some (.inr (.inl (14, 0))), some (.inr (.inl (4, 0))), some (.inl a.1), some (.inl a.2)], [], [h0, h1, h2, h3, h4, h5, h6, h7, h8, h9, h10, h11, h12, h13, h14])
noncomputable def rg_X5_movedSince_50019 (k50064 : XK) : XK :=
 o_iload 4 <|
 o_iconst 8 <|
 o_icmp_ge (o_iload 3 <|
 o_ireturn)
 (o_aload 2 <|
 o_iload 4 <|
 o_callV 2 1 [5] f_X3_isFull <|
 o_if_eq (o_cut [] k50064)
 (o_aload 1 <|
 o_iload 4 <|
 o_callV 2 1 [14] f_X3_isFull <|
 o_if_eq (o_cut [] k50064)
 (o_aload 2 <|
 o_get shw_PH 3 0 <|
 o_iload 4 <|
 o_iald shw_PH <|
 o_aload 1 <|
 o_get shw_PH 3 0 <|
 o_iload 4 <|
 o_iald shw_PH <|
 o_icmp_eq (o_cut [] k50064)
 (o_iinc 3 1 <|
 o_cut [] k50064))))
def en_X5_movedSince_50019 (h0 : Ob) (h1 : Ob) (h2 : Ob) (h3 : Ob) (h4 : Ob) (h5 : Ob) (h6 : Ob) (h7 : Ob) (h8 : Ob) (h9 : Ob) (h10 : Ob) (h11 : Ob) (h12 : Ob) (h13 : Ob) (h14 : Ob) (a : Int × Int) : XSt := ([none, some (.inr (.inl (14, 0))), some (.inr (.inl (5, 0))), some (.inl a.1), some (.inl a.2)], [], [h0, h1, h2, h3, h4, h5, h6, h7, h8, h9, h10, h11, h12, h13, h14])
noncomputable def rg_X5_movedSince_50064 (k50019 : XK) : XK :=
 o_iinc 4 1 <|
 o_cut [] k50019
def en_X5_movedSince_50064 (h0 : Ob) (h1 : Ob) (h2 : Ob) (h3 : Ob) (h4 : Ob) (h5 : Ob) (h6 : Ob) (h7 : Ob) (h8 : Ob) (h9 : Ob) (h10 : Ob) (h11 : Ob) (h12 : Ob) (h13 : Ob) (h14 : Ob) (a : Int × Int) : XSt := ([none, some (.inr (.inl (14, 0))), some (.inr (.inl (5, 0))), some (.inl a.1), some (.inl a.2)], [], [h0, h1, h2, h3, h4, h5, h6, h7, h8, h9, h10, h11, h12, h13, h14])
noncomputable def rg_X5_movedSince_60019 (k60064 : XK) : XK :=
 o_iload 4 <|
 o_iconst 8 <|
 o_icmp_ge (o_iload 3 <|
 o_ireturn)
 (o_aload 2 <|
 o_iload 4 <|
 o_callV 2 1 [6] f_X3_isFull <|
 o_if_eq (o_cut [] k60064)
 (o_aload 1 <|
 o_iload 4 <|
 o_callV 2 1 [14] f_X3_isFull <|
 o_if_eq (o_cut [] k60064)
 (o_aload 2 <|
 o_get shw_PH 3 0 <|
 o_iload 4 <|
 o_iald shw_PH <|
 o_aload 1 <|
 o_get shw_PH 3 0 <|
 o_iload 4 <|
 o_iald shw_PH <|
 o_icmp_eq (o_cut [] k60064)
 (o_iinc 3 1 <|
 o_cut [] k60064))))
def en_X5_movedSince_60019 (h0 : Ob) (h1 : Ob) (h2 : Ob) (h3 : Ob) (h4 : Ob) (h5 : Ob) (h6 : Ob) (h7 : Ob) (h8 : Ob) (h9 : Ob) (h10 : Ob) (h11 : Ob) (h12 : Ob) (h13 : Ob) (h14 : Ob) (a : Int × Int) : XSt := ([none, some (.inr (.inl (14, 0))), some (.inr (.inl (6, 0))), some (.inl a.1), some (.inl a.2)], [], [h0, h1, h2, h3, h4, h5, h6, h7, h8, h9, h10, h11, h12, h13, h14])
noncomputable def rg_X5_movedSince_60064 (k60019 : XK) : XK :=
 o_iinc 4 1 <|
 o_cut [] k60019
def en_X5_movedSince_60064 (h0 : Ob) (h1 : Ob) (h2 : Ob) (h3 : Ob) (h4 : Ob) (h5 : Ob) (h6 : Ob) (h7 : Ob) (h8 : Ob) (h9 : Ob) (h10 : Ob) (h11 : Ob) (h12 : Ob) (h13 : Ob) (h14 : Ob) (a : Int × Int) : XSt := ([none, some (.inr (.inl (14, 0))), some (.inr (.inl (6, 0))), some (.inl a.1), some (.inl a.2)], [], [h0, h1, h2, h3, h4, h5, h6, h7, h8, h9, h10, h11, h12, h13, h14])
noncomputable def rg_X5_movedSince_70019 (k70064 : XK) : XK :=
 o_iload 4 <|
 o_iconst 8 <|
 o_icmp_ge (o_iload 3 <|
 o_ireturn)
 (o_aload 2 <|
 o_iload 4 <|
 o_callV 2 1 [7] f_X3_isFull <|
 o_if_eq (o_cut [] k70064)
 (o_aload 1 <|
 o_iload 4 <|
 o_callV 2 1 [14] f_X3_isFull <|
 o_if_eq (o_cut [] k70064)
 (o_aload 2 <|
 o_get shw_PH 3 0 <|
 o_iload 4 <|
 o_iald shw_PH <|
 o_aload 1 <|
 o_get shw_PH 3 0 <|
 o_iload 4 <|
 o_iald shw_PH <|
 o_icmp_eq (o_cut [] k70064)
 (o_iinc 3 1 <|
 o_cut [] k70064))))
def en_X5_movedSince_70019 (h0 : Ob) (h1 : Ob) (h2 : Ob) (h3 : Ob) (h4 : Ob) (h5 : Ob) (h6 : Ob) (h7 : Ob) (h8 : Ob) (h9 : Ob) (h10 : Ob) (h11 : Ob) (h12 : Ob) (h13 : Ob) (h14 : Ob) (a : Int × Int) : XSt := ([none, some (.inr (.inl (14, 0))), some (.inr (.inl (7, 0))), some (.inl a.1), some (.inl a.2)], [], [h0, h1, h2, h3, h4, h5, h6, h7, h8, h9, h10, h11, h12, h13, h14])
noncomputable def rg_X5_movedSince_70064 (k70019 : XK) : XK :=
 o_iinc 4 1 <|
 o_cut [] k70019
def en_X5_movedSince_70064 (h0 : Ob) (h1 : Ob) (h2 : Ob) (h3 : Ob) (h4 : Ob) (h5 : Ob) (h6 : Ob) (h7 : Ob) (h8 : Ob) (h9 : Ob) (h10 : Ob) (h11 : Ob) (h12 : Ob) (h13 : Ob) (h14 : Ob) (a : Int × Int) : XSt := ([none, some (.inr (.inl (14, 0))), some (.inr (.inl (7, 0))), some (.inl a.1), some (.inl a.2)], [], [h0, h1, h2, h3, h4, h5, h6, h7, h8, h9, h10, h11, h12, h13, h14])
noncomputable def rg_X5_movedSince_80019 (k80064 : XK) : XK :=
 o_iload 4 <|
 o_iconst 8 <|
 o_icmp_ge (o_iload 3 <|
 o_ireturn)
 (o_aload 2 <|
 o_iload 4 <|
 o_callV 2 1 [8] f_X3_isFull <|
 o_if_eq (o_cut [] k80064)
 (o_aload 1 <|
 o_iload 4 <|
 o_callV 2 1 [14] f_X3_isFull <|
 o_if_eq (o_cut [] k80064)
 (o_aload 2 <|
 o_get shw_PH 3 0 <|
 o_iload 4 <|
 o_iald shw_PH <|
 o_aload 1 <|
 o_get shw_PH 3 0 <|
 o_iload 4 <|
 o_iald shw_PH <|
 o_icmp_eq (o_cut [] k80064)
 (o_iinc 3 1 <|
 o_cut [] k80064))))
def en_X5_movedSince_80019 (h0 : Ob) (h1 : Ob) (h2 : Ob) (h3 : Ob) (h4 : Ob) (h5 : Ob) (h6 : Ob) (h7 : Ob) (h8 : Ob) (h9 : Ob) (h10 : Ob) (h11 : Ob) (h12 : Ob) (h13 : Ob) (h14 : Ob) (a : Int × Int) : XSt := ([none, some (.inr (.inl (14, 0))), some (.inr (.inl (8, 0))), some (.inl a.1), some (.inl a.2)], [], [h0, h1, h2, h3, h4, h5, h6, h7, h8, h9, h10, h11, h12, h13, h14])
noncomputable def rg_X5_movedSince_80064 (k80019 : XK) : XK :=
 o_iinc 4 1 <|
 o_cut [] k80019
def en_X5_movedSince_80064 (h0 : Ob) (h1 : Ob) (h2 : Ob) (h3 : Ob) (h4 : Ob) (h5 : Ob) (h6 : Ob) (h7 : Ob) (h8 : Ob) (h9 : Ob) (h10 : Ob) (h11 : Ob) (h12 : Ob) (h13 : Ob) (h14 : Ob) (a : Int × Int) : XSt := ([none, some (.inr (.inl (14, 0))), some (.inr (.inl (8, 0))), some (.inl a.1), some (.inl a.2)], [], [h0, h1, h2, h3, h4, h5, h6, h7, h8, h9, h10, h11, h12, h13, h14])
noncomputable def rg_X5_movedSince_90019 (k90064 : XK) : XK :=
 o_iload 4 <|
 o_iconst 8 <|
 o_icmp_ge (o_iload 3 <|
 o_ireturn)
 (o_aload 2 <|
 o_iload 4 <|
 o_callV 2 1 [9] f_X3_isFull <|
 o_if_eq (o_cut [] k90064)
 (o_aload 1 <|
 o_iload 4 <|
 o_callV 2 1 [14] f_X3_isFull <|
 o_if_eq (o_cut [] k90064)
 (o_aload 2 <|
 o_get shw_PH 3 0 <|
 o_iload 4 <|
 o_iald shw_PH <|
 o_aload 1 <|
 o_get shw_PH 3 0 <|
 o_iload 4 <|
 o_iald shw_PH <|
 o_icmp_eq (o_cut [] k90064)
 (o_iinc 3 1 <|
 o_cut [] k90064))))
def en_X5_movedSince_90019 (h0 : Ob) (h1 : Ob) (h2 : Ob) (h3 : Ob) (h4 : Ob) (h5 : Ob) (h6 : Ob) (h7 : Ob) (h8 : Ob) (h9 : Ob) (h10 : Ob) (h11 : Ob) (h12 : Ob) (h13 : Ob) (h14 : Ob) (a : Int × Int) : XSt := ([none, some (.inr (.inl (14, 0))), some (.inr (.inl (9, 0))), some (.inl a.1), some (.inl a.2)], [], [h0, h1, h2, h3, h4, h5, h6, h7, h8, h9, h10, h11, h12, h13, h14])
noncomputable def rg_X5_movedSince_90064 (k90019 : XK) : XK :=
 o_iinc 4 1 <|
 o_cut [] k90019
def en_X5_movedSince_90064 (h0 : Ob) (h1 : Ob) (h2 : Ob) (h3 : Ob) (h4 : Ob) (h5 : Ob) (h6 : Ob) (h7 : Ob) (h8 : Ob) (h9 : Ob) (h10 : Ob) (h11 : Ob) (h12 : Ob) (h13 : Ob) (h14 : Ob) (a : Int × Int) : XSt := ([none, some (.inr (.inl (14, 0))), some (.inr (.inl (9, 0))), some (.inl a.1), some (.inl a.2)], [], [h0, h1, h2, h3, h4, h5, h6, h7, h8, h9, h10, h11, h12, h13, h14])
noncomputable def rg_X5_movedSince_100019 (k100064 : XK) : XK :=
 o_iload 4 <|
 o_iconst 8 <|
 o_icmp_ge (o_iload 3 <|
 o_ireturn)
 (o_aload 2 <|
 o_iload 4 <|
 o_callV 2 1 [10] f_X3_isFull <|
 o_if_eq (o_cut [] k100064)
 (o_aload 1 <|
 o_iload 4 <|
 o_callV 2 1 [14] f_X3_isFull <|
 o_if_eq (o_cut [] k100064)
 (o_aload 2 <|
 o_get shw_PH 3 0 <|
 o_iload 4 <|
 o_iald shw_PH <|
 o_aload 1 <|
 o_get shw_PH 3 0 <|
 o_iload 4 <|
 o_iald shw_PH <|
 o_icmp_eq (o_cut [] k100064)
 (o_iinc 3 1 <|
 o_cut [] k100064))))
def en_X5_movedSince_100019 (h0 : Ob) (h1 : Ob) (h2 : Ob) (h3 : Ob) (h4 : Ob) (h5 : Ob) (h6 : Ob) (h7 : Ob) (h8 : Ob) (h9 : Ob) (h10 : Ob) (h11 : Ob) (h12 : Ob) (h13 : Ob) (h14 : Ob) (a : Int × Int) : XSt := ([none, some (.inr (.inl (14, 0))), some (.inr (.inl (10, 0))), some (.inl a.1), some (.inl a.2)], [], [h0, h1, h2, h3, h4, h5, h6, h7, h8, h9, h10, h11, h12, h13, h14])
noncomputable def rg_X5_movedSince_100064 (k100019 : XK) : XK :=
 o_iinc 4 1 <|
 o_cut [] k100019
def en_X5_movedSince_100064 (h0 : Ob) (h1 : Ob) (h2 : Ob) (h3 : Ob) (h4 : Ob) (h5 : Ob) (h6 : Ob) (h7 : Ob) (h8 : Ob) (h9 : Ob) (h10 : Ob) (h11 : Ob) (h12 : Ob) (h13 : Ob) (h14 : Ob) (a : Int × Int) : XSt := ([none, some (.inr (.inl (14, 0))), some (.inr (.inl (10, 0))), some (.inl a.1), some (.inl a.2)], [], [h0, h1, h2, h3, h4, h5, h6, h7, h8, h9, h10, h11, h12, h13, h14])
noncomputable def rg_X5_movedSince_110019 (k110064 : XK) : XK :=
 o_iload 4 <|
 o_iconst 8 <|
 o_icmp_ge (o_iload 3 <|
 o_ireturn)
 (o_aload 2 <|
 o_iload 4 <|
 o_callV 2 1 [11] f_X3_isFull <|
 o_if_eq (o_cut [] k110064)
 (o_aload 1 <|
 o_iload 4 <|
 o_callV 2 1 [14] f_X3_isFull <|
 o_if_eq (o_cut [] k110064)
 (o_aload 2 <|
 o_get shw_PH 3 0 <|
 o_iload 4 <|
 o_iald shw_PH <|
 o_aload 1 <|
 o_get shw_PH 3 0 <|
 o_iload 4 <|
 o_iald shw_PH <|
 o_icmp_eq (o_cut [] k110064)
 (o_iinc 3 1 <|
 o_cut [] k110064))))
def en_X5_movedSince_110019 (h0 : Ob) (h1 : Ob) (h2 : Ob) (h3 : Ob) (h4 : Ob) (h5 : Ob) (h6 : Ob) (h7 : Ob) (h8 : Ob) (h9 : Ob) (h10 : Ob) (h11 : Ob) (h12 : Ob) (h13 : Ob) (h14 : Ob) (a : Int × Int) : XSt := ([none, some (.inr (.inl (14, 0))), some (.inr (.inl (11, 0))), some (.inl a.1), some (.inl a.2)], [], [h0, h1, h2, h3, h4, h5, h6, h7, h8, h9, h10, h11, h12, h13, h14])
noncomputable def rg_X5_movedSince_110064 (k110019 : XK) : XK :=
 o_iinc 4 1 <|
 o_cut [] k110019
def en_X5_movedSince_110064 (h0 : Ob) (h1 : Ob) (h2 : Ob) (h3 : Ob) (h4 : Ob) (h5 : Ob) (h6 : Ob) (h7 : Ob) (h8 : Ob) (h9 : Ob) (h10 : Ob) (h11 : Ob) (h12 : Ob) (h13 : Ob) (h14 : Ob) (a : Int × Int) : XSt := ([none, some (.inr (.inl (14, 0))), some (.inr (.inl (11, 0))), some (.inl a.1), some (.inl a.2)], [], [h0, h1, h2, h3, h4, h5, h6, h7, h8, h9, h10, h11, h12, h13, h14])
noncomputable def rg_X5_movedSince_120019 (k120064 : XK) : XK :=
 o_iload 4 <|
 o_iconst 8 <|
 o_icmp_ge (o_iload 3 <|
 o_ireturn)
 (o_aload 2 <|
 o_iload 4 <|
 o_callV 2 1 [12] f_X3_isFull <|
 o_if_eq (o_cut [] k120064)
 (o_aload 1 <|
 o_iload 4 <|
 o_callV 2 1 [14] f_X3_isFull <|
 o_if_eq (o_cut [] k120064)
 (o_aload 2 <|
 o_get shw_PH 3 0 <|
 o_iload 4 <|
 o_iald shw_PH <|
 o_aload 1 <|
 o_get shw_PH 3 0 <|
 o_iload 4 <|
 o_iald shw_PH <|
 o_icmp_eq (o_cut [] k120064)
 (o_iinc 3 1 <|
 o_cut [] k120064))))
def en_X5_movedSince_120019 (h0 : Ob) (h1 : Ob) (h2 : Ob) (h3 : Ob) (h4 : Ob) (h5 : Ob) (h6 : Ob) (h7 : Ob) (h8 : Ob) (h9 : Ob) (h10 : Ob) (h11 : Ob) (h12 : Ob) (h13 : Ob) (h14 : Ob) (a : Int × Int) : XSt := ([none, some (.inr (.inl (14, 0))), some (.inr (.inl (12, 0))), some (.inl a.1), some (.inl a.2)], [], [h0, h1, h2, h3, h4, h5, h6, h7, h8, h9, h10, h11, h12, h13, h14])
noncomputable def rg_X5_movedSince_120064 (k120019 : XK) : XK :=
 o_iinc 4 1 <|
 o_cut [] k120019
def en_X5_movedSince_120064 (h0 : Ob) (h1 : Ob) (h2 : Ob) (h3 : Ob) (h4 : Ob) (h5 : Ob) (h6 : Ob) (h7 : Ob) (h8 : Ob) (h9 : Ob) (h10 : Ob) (h11 : Ob) (h12 : Ob) (h13 : Ob) (h14 : Ob) (a : Int × Int) : XSt := ([none, some (.inr (.inl (14, 0))), some (.inr (.inl (12, 0))), some (.inl a.1), some (.inl a.2)], [], [h0, h1, h2, h3, h4, h5, h6, h7, h8, h9, h10, h11, h12, h13, h14])
noncomputable def rg_X5_movedSince_130019 (k130064 : XK) : XK :=
 o_iload 4 <|
 o_iconst 8 <|
 o_icmp_ge (o_iload 3 <|
 o_ireturn)
 (o_aload 2 <|
 o_iload 4 <|
 o_callV 2 1 [13] f_X3_isFull <|
 o_if_eq (o_cut [] k130064)
 (o_aload 1 <|
 o_iload 4 <|
 o_callV 2 1 [14] f_X3_isFull <|
 o_if_eq (o_cut [] k130064)
 (o_aload 2 <|
 o_get shw_PH 3 0 <|
 o_iload 4 <|
 o_iald shw_PH <|
 o_aload 1 <|
 o_get shw_PH 3 0 <|
 o_iload 4 <|
 o_iald shw_PH <|
 o_icmp_eq (o_cut [] k130064)
 (o_iinc 3 1 <|
 o_cut [] k130064))))
def en_X5_movedSince_130019 (h0 : Ob) (h1 : Ob) (h2 : Ob) (h3 : Ob) (h4 : Ob) (h5 : Ob) (h6 : Ob) (h7 : Ob) (h8 : Ob) (h9 : Ob) (h10 : Ob) (h11 : Ob) (h12 : Ob) (h13 : Ob) (h14 : Ob) (a : Int × Int) : XSt := ([none, some (.inr (.inl (14, 0))), some (.inr (.inl (13, 0))), some (.inl a.1), some (.inl a.2)], [], [h0, h1, h2, h3, h4, h5, h6, h7, h8, h9, h10, h11, h12, h13, h14])
noncomputable def rg_X5_movedSince_130064 (k130019 : XK) : XK :=
 o_iinc 4 1 <|
 o_cut [] k130019
def en_X5_movedSince_130064 (h0 : Ob) (h1 : Ob) (h2 : Ob) (h3 : Ob) (h4 : Ob) (h5 : Ob) (h6 : Ob) (h7 : Ob) (h8 : Ob) (h9 : Ob) (h10 : Ob) (h11 : Ob) (h12 : Ob) (h13 : Ob) (h14 : Ob) (a : Int × Int) : XSt := ([none, some (.inr (.inl (14, 0))), some (.inr (.inl (13, 0))), some (.inl a.1), some (.inl a.2)], [], [h0, h1, h2, h3, h4, h5, h6, h7, h8, h9, h10, h11, h12, h13, h14])
noncomputable def mg_X5_movedSince_0 (h0 : Ob) (h1 : Ob) (h2 : Ob) (h3 : Ob) (h4 : Ob) (h5 : Ob) (h6 : Ob) (h7 : Ob) (h8 : Ob) (h9 : Ob) (h10 : Ob) (h11 : Ob) (h12 : Ob) (h13 : Ob) (h14 : Ob) (k10019 : (Int × Int) → Option Rt) (k20019 : (Int × Int) → Option Rt) (k30019 : (Int × Int) → Option Rt) (k40019 : (Int × Int) → Option Rt) (k50019 : (Int × Int) → Option Rt) (k60019 : (Int × Int) → Option Rt) (k70019 : (Int × Int) → Option Rt) (k80019 : (Int × Int) → Option Rt) (k90019 : (Int × Int) → Option Rt) (k100019 : (Int × Int) → Option Rt) (k110019 : (Int × Int) → Option Rt) (k120019 : (Int × Int) → Option Rt) (k130019 : (Int × Int) → Option Rt) (a : Unit) : Option Rt :=
 if xw (h0 0 3) = 0 then (RI 0 [h0, h1, h2, h3, h4, h5, h6, h7, h8, h9, h10, h11, h12, h13, h14])
 else (if pd (PG h0 ∧ 1 ≤ h0 0 2) then (
 if xw (flm (h0 0 1 + h0 0 2 + -1)) = 0 then (k10019 (0, 0))
 else if xw (flm (h0 0 1 + h0 0 2 + -1)) = 1 then (k20019 (0, 0))
 else if xw (flm (h0 0 1 + h0 0 2 + -1)) = 2 then (k30019 (0, 0))
 else if xw (flm (h0 0 1 + h0 0 2 + -1)) = 3 then (k40019 (0, 0))
 else if xw (flm (h0 0 1 + h0 0 2 + -1)) = 4 then (k50019 (0, 0))
 else if xw (flm (h0 0 1 + h0 0 2 + -1)) = 5 then (k60019 (0, 0))
 else if xw (flm (h0 0 1 + h0 0 2 + -1)) = 6 then (k70019 (0, 0))
 else if xw (flm (h0 0 1 + h0 0 2 + -1)) = 7 then (k80019 (0, 0))
 else if xw (flm (h0 0 1 + h0 0 2 + -1)) = 8 then (k90019 (0, 0))
 else if xw (flm (h0 0 1 + h0 0 2 + -1)) = 9 then (k100019 (0, 0))
 else if xw (flm (h0 0 1 + h0 0 2 + -1)) = 10 then (k110019 (0, 0))
 else if xw (flm (h0 0 1 + h0 0 2 + -1)) = 11 then (k120019 (0, 0))
 else if xw (flm (h0 0 1 + h0 0 2 + -1)) = 12 then (k130019 (0, 0))
 else none) else none)
set_option maxRecDepth 100000 in
set_option maxHeartbeats 4000000 in
theorem rq_X5_movedSince_0 (h0 : Ob) (h1 : Ob) (h2 : Ob) (h3 : Ob) (h4 : Ob) (h5 : Ob) (h6 : Ob) (h7 : Ob) (h8 : Ob) (h9 : Ob) (h10 : Ob) (h11 : Ob) (h12 : Ob) (h13 : Ob) (h14 : Ob) (k10019 : XK) (k20019 : XK) (k30019 : XK) (k40019 : XK) (k50019 : XK) (k60019 : XK) (k70019 : XK) (k80019 : XK) (k90019 : XK) (k100019 : XK) (k110019 : XK) (k120019 : XK) (k130019 : XK) (a : Unit) : rg_X5_movedSince_0 k10019 k20019 k30019 k40019 k50019 k60019 k70019 k80019 k90019 k100019 k110019 k120019 k130019 (en_X5_movedSince_0 h0 h1 h2 h3 h4 h5 h6 h7 h8 h9 h10 h11 h12 h13 h14 a) = mg_X5_movedSince_0 h0 h1 h2 h3 h4 h5 h6 h7 h8 h9 h10 h11 h12 h13 h14 (fun b => k10019 (en_X5_movedSince_10019 h0 h1 h2 h3 h4 h5 h6 h7 h8 h9 h10 h11 h12 h13 h14 b)) (fun b => k20019 (en_X5_movedSince_20019 h0 h1 h2 h3 h4 h5 h6 h7 h8 h9 h10 h11 h12 h13 h14 b)) (fun b => k30019 (en_X5_movedSince_30019 h0 h1 h2 h3 h4 h5 h6 h7 h8 h9 h10 h11 h12 h13 h14 b)) (fun b => k40019 (en_X5_movedSince_40019 h0 h1 h2 h3 h4 h5 h6 h7 h8 h9 h10 h11 h12 h13 h14 b)) (fun b => k50019 (en_X5_movedSince_50019 h0 h1 h2 h3 h4 h5 h6 h7 h8 h9 h10 h11 h12 h13 h14 b)) (fun b => k60019 (en_X5_movedSince_60019 h0 h1 h2 h3 h4 h5 h6 h7 h8 h9 h10 h11 h12 h13 h14 b)) (fun b => k70019 (en_X5_movedSince_70019 h0 h1 h2 h3 h4 h5 h6 h7 h8 h9 h10 h11 h12 h13 h14 b)) (fun b => k80019 (en_X5_movedSince_80019 h0 h1 h2 h3 h4 h5 h6 h7 h8 h9 h10 h11 h12 h13 h14 b)) (fun b => k90019 (en_X5_movedSince_90019 h0 h1 h2 h3 h4 h5 h6 h7 h8 h9 h10 h11 h12 h13 h14 b)) (fun b => k100019 (en_X5_movedSince_100019 h0 h1 h2 h3 h4 h5 h6 h7 h8 h9 h10 h11 h12 h13 h14 b)) (fun b => k110019 (en_X5_movedSince_110019 h0 h1 h2 h3 h4 h5 h6 h7 h8 h9 h10 h11 h12 h13 h14 b)) (fun b => k120019 (en_X5_movedSince_120019 h0 h1 h2 h3 h4 h5 h6 h7 h8 h9 h10 h11 h12 h13 h14 b)) (fun b => k130019 (en_X5_movedSince_130019 h0 h1 h2 h3 h4 h5 h6 h7 h8 h9 h10 h11 h12 h13 h14 b)) a := rfl
set_option maxRecDepth 100000 in
set_option maxHeartbeats 4000000 in
theorem sg_X5_movedSince_0 {X : XDyn} {r0 : Rt} (C : XO X mX5_movedSince) {k10019 : XK} (q10019 : XS X mX5_movedSince r0 19 k10019) {k20019 : XK} (q20019 : XS X mX5_movedSince r0 19 k20019) {k30019 : XK} (q30019 : XS X mX5_movedSince r0 19 k30019) {k40019 : XK} (q40019 : XS X mX5_movedSince r0 19 k40019) {k50019 : XK} (q50019 : XS X mX5_movedSince r0 19 k50019) {k60019 : XK} (q60019 : XS X mX5_movedSince r0 19 k60019) {k70019 : XK} (q70019 : XS X mX5_movedSince r0 19 k70019) {k80019 : XK} (q80019 : XS X mX5_movedSince r0 19 k80019) {k90019 : XK} (q90019 : XS X mX5_movedSince r0 19 k90019) {k100019 : XK} (q100019 : XS X mX5_movedSince r0 19 k100019) {k110019 : XK} (q110019 : XS X mX5_movedSince r0 19 k110019) {k120019 : XK} (q120019 : XS X mX5_movedSince r0 19 k120019) {k130019 : XK} (q130019 : XS X mX5_movedSince r0 19 k130019) : XS X mX5_movedSince r0 0 (rg_X5_movedSince_0 k10019 k20019 k30019 k40019 k50019 k60019 k70019 k80019 k90019 k100019 k110019 k120019 k130019) := by
 unfold rg_X5_movedSince_0
 exact s_aload_n (pc := 0) C dX5_movedSince_0 rfl <|
    s_get (pc := 1) C (ci := 5) (kf := 3) rfl inX5 (by decide) wd_180 dX5_movedSince_1 <|
    s_if_ne (pc := 4) C dX5_movedSince_4 (by decide) (s_aload_n (pc := 9) C dX5_movedSince_9 rfl <|
    s_callVr (pc := 10) C ct_X5_aheadOfLast rfl (n := 1) (mp := [0, 1, 2, 3, 4, 5, 6, 7, 8, 9, 10, 11, 12, 13]) ⟨rfl, by decide, rfl⟩ (ci := 5) rfl rfl (by decide) (by decide) yi_X5_aheadOfLast (by decide) wd_701 wd_702 wd_703 wd_75 wd_704 dX5_movedSince_10 (List.forall_mem_cons.mpr ⟨s_astore_n (pc := 13) C dX5_movedSince_13 rfl <|
    s_iconst (pc := 14) C dX5_movedSince_14 <|
    s_istore_n (pc := 15) C dX5_movedSince_15 rfl <|
    s_iconst (pc := 16) C dX5_movedSince_16 <|
    s_istore (pc := 17) C dX5_movedSince_17 <|
    s_cut q10019, (List.forall_mem_cons.mpr ⟨s_astore_n (pc := 13) C dX5_movedSince_13 rfl <|
    s_iconst (pc := 14) C dX5_movedSince_14 <|
    s_istore_n (pc := 15) C dX5_movedSince_15 rfl <|
    s_iconst (pc := 16) C dX5_movedSince_16 <|
    s_istore (pc := 17) C dX5_movedSince_17 <|
    s_cut q20019, (List.forall_mem_cons.mpr ⟨s_astore_n (pc := 13) C dX5_movedSince_13 rfl <|
    s_iconst (pc := 14) C dX5_movedSince_14 <|
    s_istore_n (pc := 15) C dX5_movedSince_15 rfl <|
    s_iconst (pc := 16) C dX5_movedSince_16 <|
    s_istore (pc := 17) C dX5_movedSince_17 <|
    s_cut q30019, (List.forall_mem_cons.mpr ⟨s_astore_n (pc := 13) C dX5_movedSince_13 rfl <|
    s_iconst (pc := 14) C dX5_movedSince_14 <|
    s_istore_n (pc := 15) C dX5_movedSince_15 rfl <|
    s_iconst (pc := 16) C dX5_movedSince_16 <|
    s_istore (pc := 17) C dX5_movedSince_17 <|
    s_cut q40019, (List.forall_mem_cons.mpr ⟨s_astore_n (pc := 13) C dX5_movedSince_13 rfl <|
    s_iconst (pc := 14) C dX5_movedSince_14 <|
    s_istore_n (pc := 15) C dX5_movedSince_15 rfl <|
    s_iconst (pc := 16) C dX5_movedSince_16 <|
    s_istore (pc := 17) C dX5_movedSince_17 <|
    s_cut q50019, (List.forall_mem_cons.mpr ⟨s_astore_n (pc := 13) C dX5_movedSince_13 rfl <|
    s_iconst (pc := 14) C dX5_movedSince_14 <|
    s_istore_n (pc := 15) C dX5_movedSince_15 rfl <|
    s_iconst (pc := 16) C dX5_movedSince_16 <|
    s_istore (pc := 17) C dX5_movedSince_17 <|
    s_cut q60019, (List.forall_mem_cons.mpr ⟨s_astore_n (pc := 13) C dX5_movedSince_13 rfl <|
    s_iconst (pc := 14) C dX5_movedSince_14 <|
    s_istore_n (pc := 15) C dX5_movedSince_15 rfl <|
    s_iconst (pc := 16) C dX5_movedSince_16 <|
    s_istore (pc := 17) C dX5_movedSince_17 <|
    s_cut q70019, (List.forall_mem_cons.mpr ⟨s_astore_n (pc := 13) C dX5_movedSince_13 rfl <|
    s_iconst (pc := 14) C dX5_movedSince_14 <|
    s_istore_n (pc := 15) C dX5_movedSince_15 rfl <|
    s_iconst (pc := 16) C dX5_movedSince_16 <|
    s_istore (pc := 17) C dX5_movedSince_17 <|
    s_cut q80019, (List.forall_mem_cons.mpr ⟨s_astore_n (pc := 13) C dX5_movedSince_13 rfl <|
    s_iconst (pc := 14) C dX5_movedSince_14 <|
    s_istore_n (pc := 15) C dX5_movedSince_15 rfl <|
    s_iconst (pc := 16) C dX5_movedSince_16 <|
    s_istore (pc := 17) C dX5_movedSince_17 <|
    s_cut q90019, (List.forall_mem_cons.mpr ⟨s_astore_n (pc := 13) C dX5_movedSince_13 rfl <|
    s_iconst (pc := 14) C dX5_movedSince_14 <|
    s_istore_n (pc := 15) C dX5_movedSince_15 rfl <|
    s_iconst (pc := 16) C dX5_movedSince_16 <|
    s_istore (pc := 17) C dX5_movedSince_17 <|
    s_cut q100019, (List.forall_mem_cons.mpr ⟨s_astore_n (pc := 13) C dX5_movedSince_13 rfl <|
    s_iconst (pc := 14) C dX5_movedSince_14 <|
    s_istore_n (pc := 15) C dX5_movedSince_15 rfl <|
    s_iconst (pc := 16) C dX5_movedSince_16 <|
    s_istore (pc := 17) C dX5_movedSince_17 <|
    s_cut q110019, (List.forall_mem_cons.mpr ⟨s_astore_n (pc := 13) C dX5_movedSince_13 rfl <|
    s_iconst (pc := 14) C dX5_movedSince_14 <|
    s_istore_n (pc := 15) C dX5_movedSince_15 rfl <|
    s_iconst (pc := 16) C dX5_movedSince_16 <|
    s_istore (pc := 17) C dX5_movedSince_17 <|
    s_cut q120019, (List.forall_mem_cons.mpr ⟨s_astore_n (pc := 13) C dX5_movedSince_13 rfl <|
    s_iconst (pc := 14) C dX5_movedSince_14 <|
    s_istore_n (pc := 15) C dX5_movedSince_15 rfl <|
    s_iconst (pc := 16) C dX5_movedSince_16 <|
    s_istore (pc := 17) C dX5_movedSince_17 <|
    s_cut q130019, (fun _ z => absurd z List.not_mem_nil)⟩)⟩)⟩)⟩)⟩)⟩)⟩)⟩)⟩)⟩)⟩)⟩)⟩))
    (s_iconst (pc := 7) C dX5_movedSince_7 <|
    s_ireturn (pc := 8) C rfl dX5_movedSince_8)
noncomputable def mg_X5_movedSince_10019 (h0 : Ob) (h1 : Ob) (h2 : Ob) (h3 : Ob) (h4 : Ob) (h5 : Ob) (h6 : Ob) (h7 : Ob) (h8 : Ob) (h9 : Ob) (h10 : Ob) (h11 : Ob) (h12 : Ob) (h13 : Ob) (h14 : Ob) (k10064 : (Int × Int) → Option Rt) (a : Int × Int) : Option Rt :=
 if xw a.2 ≥ 8 then (RI a.1 [h0, h1, h2, h3, h4, h5, h6, h7, h8, h9, h10, h11, h12, h13, h14])
 else (if xw (bz (ful h1 a.2)) = 0 then (k10064 (a.1, a.2))
 else (if xw (bz (ful h14 a.2)) = 0 then (k10064 (a.1, a.2))
 else (if xin a.2 11 then (
 if xin a.2 11 then (
 if xw (h1 1 (xw a.2).toNat) = xw (h14 1 (xw a.2).toNat) then (k10064 (a.1, a.2))
 else (k10064 ((a.1 + 1), a.2))) else none) else none)))
set_option maxRecDepth 100000 in
set_option maxHeartbeats 4000000 in
theorem rq_X5_movedSince_10019 (h0 : Ob) (h1 : Ob) (h2 : Ob) (h3 : Ob) (h4 : Ob) (h5 : Ob) (h6 : Ob) (h7 : Ob) (h8 : Ob) (h9 : Ob) (h10 : Ob) (h11 : Ob) (h12 : Ob) (h13 : Ob) (h14 : Ob) (k10064 : XK) (a : Int × Int) : rg_X5_movedSince_10019 k10064 (en_X5_movedSince_10019 h0 h1 h2 h3 h4 h5 h6 h7 h8 h9 h10 h11 h12 h13 h14 a) = mg_X5_movedSince_10019 h0 h1 h2 h3 h4 h5 h6 h7 h8 h9 h10 h11 h12 h13 h14 (fun b => k10064 (en_X5_movedSince_10064 h0 h1 h2 h3 h4 h5 h6 h7 h8 h9 h10 h11 h12 h13 h14 b)) a := rfl
set_option maxRecDepth 100000 in
set_option maxHeartbeats 4000000 in
theorem sg_X5_movedSince_10019 {X : XDyn} {r0 : Rt} (C : XO X mX5_movedSince) {k10064 : XK} (q10064 : XS X mX5_movedSince r0 64 k10064) : XS X mX5_movedSince r0 19 (rg_X5_movedSince_10019 k10064) := by
 unfold rg_X5_movedSince_10019
 exact s_iload (pc := 19) C dX5_movedSince_19 <|
    s_bipush (pc := 21) C dX5_movedSince_21 (by decide) <|
    s_icmp_ge (pc := 23) C dX5_movedSince_23 (by decide) (s_iload_n (pc := 70) C dX5_movedSince_70 rfl <|
    s_ireturn (pc := 71) C rfl dX5_movedSince_71)
    (s_aload_n (pc := 26) C dX5_movedSince_26 rfl <|
    s_iload (pc := 27) C dX5_movedSince_27 <|
    s_callV (pc := 29) C ct_X3_isFull (n := 2) (rk := 1) (mp := [1]) ⟨rfl, by decide, rfl⟩ (ci := 3) rfl rfl (by decide) (by decide) yi_X3_isFull (by decide) wd_705 wd_556 wd_557 wd_74 wd_558 dX5_movedSince_29 <|
    s_if_eq (pc := 32) C dX5_movedSince_32 (by decide) (s_cut q10064)
    (s_aload_n (pc := 35) C dX5_movedSince_35 rfl <|
    s_iload (pc := 36) C dX5_movedSince_36 <|
    s_callV (pc := 38) C ct_X3_isFull (n := 2) (rk := 1) (mp := [14]) ⟨rfl, by decide, rfl⟩ (ci := 3) rfl rfl (by decide) (by decide) yi_X3_isFull (by decide) wd_705 wd_556 wd_557 wd_74 wd_558 dX5_movedSince_38 <|
    s_if_eq (pc := 41) C dX5_movedSince_41 (by decide) (s_cut q10064)
    (s_aload_n (pc := 44) C dX5_movedSince_44 rfl <|
    s_get (pc := 45) C (ci := 3) (kf := 0) rfl inX3 (by decide) wd_103 dX5_movedSince_45 <|
    s_iload (pc := 48) C dX5_movedSince_48 <|
    s_iald (pc := 50) C dX5_movedSince_50 <|
    s_aload_n (pc := 51) C dX5_movedSince_51 rfl <|
    s_get (pc := 52) C (ci := 3) (kf := 0) rfl inX3 (by decide) wd_103 dX5_movedSince_52 <|
    s_iload (pc := 55) C dX5_movedSince_55 <|
    s_iald (pc := 57) C dX5_movedSince_57 <|
    s_icmp_eq (pc := 58) C dX5_movedSince_58 (by decide) (s_cut q10064)
    (s_iinc (pc := 61) C dX5_movedSince_61 <|
    s_cut q10064))))
noncomputable def mg_X5_movedSince_10064 (h0 : Ob) (h1 : Ob) (h2 : Ob) (h3 : Ob) (h4 : Ob) (h5 : Ob) (h6 : Ob) (h7 : Ob) (h8 : Ob) (h9 : Ob) (h10 : Ob) (h11 : Ob) (h12 : Ob) (h13 : Ob) (h14 : Ob) (k10019 : (Int × Int) → Option Rt) (a : Int × Int) : Option Rt :=
 k10019 (a.1, (a.2 + 1))
set_option maxRecDepth 100000 in
set_option maxHeartbeats 4000000 in
theorem rq_X5_movedSince_10064 (h0 : Ob) (h1 : Ob) (h2 : Ob) (h3 : Ob) (h4 : Ob) (h5 : Ob) (h6 : Ob) (h7 : Ob) (h8 : Ob) (h9 : Ob) (h10 : Ob) (h11 : Ob) (h12 : Ob) (h13 : Ob) (h14 : Ob) (k10019 : XK) (a : Int × Int) : rg_X5_movedSince_10064 k10019 (en_X5_movedSince_10064 h0 h1 h2 h3 h4 h5 h6 h7 h8 h9 h10 h11 h12 h13 h14 a) = mg_X5_movedSince_10064 h0 h1 h2 h3 h4 h5 h6 h7 h8 h9 h10 h11 h12 h13 h14 (fun b => k10019 (en_X5_movedSince_10019 h0 h1 h2 h3 h4 h5 h6 h7 h8 h9 h10 h11 h12 h13 h14 b)) a := rfl
set_option maxRecDepth 100000 in
set_option maxHeartbeats 4000000 in
theorem sg_X5_movedSince_10064 {X : XDyn} {r0 : Rt} (C : XO X mX5_movedSince) {k10019 : XK} (q10019 : XS X mX5_movedSince r0 19 k10019) : XS X mX5_movedSince r0 64 (rg_X5_movedSince_10064 k10019) := by
 unfold rg_X5_movedSince_10064
 exact s_iinc (pc := 64) C dX5_movedSince_64 <|
    s_goto (pc := 67) C dX5_movedSince_67 (by decide) <|
    s_cut q10019
noncomputable def mg_X5_movedSince_20019 (h0 : Ob) (h1 : Ob) (h2 : Ob) (h3 : Ob) (h4 : Ob) (h5 : Ob) (h6 : Ob) (h7 : Ob) (h8 : Ob) (h9 : Ob) (h10 : Ob) (h11 : Ob) (h12 : Ob) (h13 : Ob) (h14 : Ob) (k20064 : (Int × Int) → Option Rt) (a : Int × Int) : Option Rt :=
 if xw a.2 ≥ 8 then (RI a.1 [h0, h1, h2, h3, h4, h5, h6, h7, h8, h9, h10, h11, h12, h13, h14])
 else (if xw (bz (ful h2 a.2)) = 0 then (k20064 (a.1, a.2))
 else (if xw (bz (ful h14 a.2)) = 0 then (k20064 (a.1, a.2))
 else (if xin a.2 11 then (
 if xin a.2 11 then (
 if xw (h2 1 (xw a.2).toNat) = xw (h14 1 (xw a.2).toNat) then (k20064 (a.1, a.2))
 else (k20064 ((a.1 + 1), a.2))) else none) else none)))
set_option maxRecDepth 100000 in
set_option maxHeartbeats 4000000 in
theorem rq_X5_movedSince_20019 (h0 : Ob) (h1 : Ob) (h2 : Ob) (h3 : Ob) (h4 : Ob) (h5 : Ob) (h6 : Ob) (h7 : Ob) (h8 : Ob) (h9 : Ob) (h10 : Ob) (h11 : Ob) (h12 : Ob) (h13 : Ob) (h14 : Ob) (k20064 : XK) (a : Int × Int) : rg_X5_movedSince_20019 k20064 (en_X5_movedSince_20019 h0 h1 h2 h3 h4 h5 h6 h7 h8 h9 h10 h11 h12 h13 h14 a) = mg_X5_movedSince_20019 h0 h1 h2 h3 h4 h5 h6 h7 h8 h9 h10 h11 h12 h13 h14 (fun b => k20064 (en_X5_movedSince_20064 h0 h1 h2 h3 h4 h5 h6 h7 h8 h9 h10 h11 h12 h13 h14 b)) a := rfl
set_option maxRecDepth 100000 in
set_option maxHeartbeats 4000000 in
theorem sg_X5_movedSince_20019 {X : XDyn} {r0 : Rt} (C : XO X mX5_movedSince) {k20064 : XK} (q20064 : XS X mX5_movedSince r0 64 k20064) : XS X mX5_movedSince r0 19 (rg_X5_movedSince_20019 k20064) := by
 unfold rg_X5_movedSince_20019
 exact s_iload (pc := 19) C dX5_movedSince_19 <|
    s_bipush (pc := 21) C dX5_movedSince_21 (by decide) <|
    s_icmp_ge (pc := 23) C dX5_movedSince_23 (by decide) (s_iload_n (pc := 70) C dX5_movedSince_70 rfl <|
    s_ireturn (pc := 71) C rfl dX5_movedSince_71)
    (s_aload_n (pc := 26) C dX5_movedSince_26 rfl <|
    s_iload (pc := 27) C dX5_movedSince_27 <|
    s_callV (pc := 29) C ct_X3_isFull (n := 2) (rk := 1) (mp := [2]) ⟨rfl, by decide, rfl⟩ (ci := 3) rfl rfl (by decide) (by decide) yi_X3_isFull (by decide) wd_705 wd_556 wd_557 wd_74 wd_558 dX5_movedSince_29 <|
    s_if_eq (pc := 32) C dX5_movedSince_32 (by decide) (s_cut q20064)
    (s_aload_n (pc := 35) C dX5_movedSince_35 rfl <|
    s_iload (pc := 36) C dX5_movedSince_36 <|
    s_callV (pc := 38) C ct_X3_isFull (n := 2) (rk := 1) (mp := [14]) ⟨rfl, by decide, rfl⟩ (ci := 3) rfl rfl (by decide) (by decide) yi_X3_isFull (by decide) wd_705 wd_556 wd_557 wd_74 wd_558 dX5_movedSince_38 <|
    s_if_eq (pc := 41) C dX5_movedSince_41 (by decide) (s_cut q20064)
    (s_aload_n (pc := 44) C dX5_movedSince_44 rfl <|
    s_get (pc := 45) C (ci := 3) (kf := 0) rfl inX3 (by decide) wd_103 dX5_movedSince_45 <|
    s_iload (pc := 48) C dX5_movedSince_48 <|
    s_iald (pc := 50) C dX5_movedSince_50 <|
    s_aload_n (pc := 51) C dX5_movedSince_51 rfl <|
    s_get (pc := 52) C (ci := 3) (kf := 0) rfl inX3 (by decide) wd_103 dX5_movedSince_52 <|
    s_iload (pc := 55) C dX5_movedSince_55 <|
    s_iald (pc := 57) C dX5_movedSince_57 <|
    s_icmp_eq (pc := 58) C dX5_movedSince_58 (by decide) (s_cut q20064)
    (s_iinc (pc := 61) C dX5_movedSince_61 <|
    s_cut q20064))))
noncomputable def mg_X5_movedSince_20064 (h0 : Ob) (h1 : Ob) (h2 : Ob) (h3 : Ob) (h4 : Ob) (h5 : Ob) (h6 : Ob) (h7 : Ob) (h8 : Ob) (h9 : Ob) (h10 : Ob) (h11 : Ob) (h12 : Ob) (h13 : Ob) (h14 : Ob) (k20019 : (Int × Int) → Option Rt) (a : Int × Int) : Option Rt :=
 k20019 (a.1, (a.2 + 1))
set_option maxRecDepth 100000 in
set_option maxHeartbeats 4000000 in
theorem rq_X5_movedSince_20064 (h0 : Ob) (h1 : Ob) (h2 : Ob) (h3 : Ob) (h4 : Ob) (h5 : Ob) (h6 : Ob) (h7 : Ob) (h8 : Ob) (h9 : Ob) (h10 : Ob) (h11 : Ob) (h12 : Ob) (h13 : Ob) (h14 : Ob) (k20019 : XK) (a : Int × Int) : rg_X5_movedSince_20064 k20019 (en_X5_movedSince_20064 h0 h1 h2 h3 h4 h5 h6 h7 h8 h9 h10 h11 h12 h13 h14 a) = mg_X5_movedSince_20064 h0 h1 h2 h3 h4 h5 h6 h7 h8 h9 h10 h11 h12 h13 h14 (fun b => k20019 (en_X5_movedSince_20019 h0 h1 h2 h3 h4 h5 h6 h7 h8 h9 h10 h11 h12 h13 h14 b)) a := rfl
set_option maxRecDepth 100000 in
set_option maxHeartbeats 4000000 in
theorem sg_X5_movedSince_20064 {X : XDyn} {r0 : Rt} (C : XO X mX5_movedSince) {k20019 : XK} (q20019 : XS X mX5_movedSince r0 19 k20019) : XS X mX5_movedSince r0 64 (rg_X5_movedSince_20064 k20019) := by
 unfold rg_X5_movedSince_20064
 exact s_iinc (pc := 64) C dX5_movedSince_64 <|
    s_goto (pc := 67) C dX5_movedSince_67 (by decide) <|
    s_cut q20019
noncomputable def mg_X5_movedSince_30019 (h0 : Ob) (h1 : Ob) (h2 : Ob) (h3 : Ob) (h4 : Ob) (h5 : Ob) (h6 : Ob) (h7 : Ob) (h8 : Ob) (h9 : Ob) (h10 : Ob) (h11 : Ob) (h12 : Ob) (h13 : Ob) (h14 : Ob) (k30064 : (Int × Int) → Option Rt) (a : Int × Int) : Option Rt :=
 if xw a.2 ≥ 8 then (RI a.1 [h0, h1, h2, h3, h4, h5, h6, h7, h8, h9, h10, h11, h12, h13, h14])
 else (if xw (bz (ful h3 a.2)) = 0 then (k30064 (a.1, a.2))
 else (if xw (bz (ful h14 a.2)) = 0 then (k30064 (a.1, a.2))
 else (if xin a.2 11 then (
 if xin a.2 11 then (
 if xw (h3 1 (xw a.2).toNat) = xw (h14 1 (xw a.2).toNat) then (k30064 (a.1, a.2))
 else (k30064 ((a.1 + 1), a.2))) else none) else none)))
set_option maxRecDepth 100000 in
set_option maxHeartbeats 4000000 in
theorem rq_X5_movedSince_30019 (h0 : Ob) (h1 : Ob) (h2 : Ob) (h3 : Ob) (h4 : Ob) (h5 : Ob) (h6 : Ob) (h7 : Ob) (h8 : Ob) (h9 : Ob) (h10 : Ob) (h11 : Ob) (h12 : Ob) (h13 : Ob) (h14 : Ob) (k30064 : XK) (a : Int × Int) : rg_X5_movedSince_30019 k30064 (en_X5_movedSince_30019 h0 h1 h2 h3 h4 h5 h6 h7 h8 h9 h10 h11 h12 h13 h14 a) = mg_X5_movedSince_30019 h0 h1 h2 h3 h4 h5 h6 h7 h8 h9 h10 h11 h12 h13 h14 (fun b => k30064 (en_X5_movedSince_30064 h0 h1 h2 h3 h4 h5 h6 h7 h8 h9 h10 h11 h12 h13 h14 b)) a := rfl
set_option maxRecDepth 100000 in
set_option maxHeartbeats 4000000 in
theorem sg_X5_movedSince_30019 {X : XDyn} {r0 : Rt} (C : XO X mX5_movedSince) {k30064 : XK} (q30064 : XS X mX5_movedSince r0 64 k30064) : XS X mX5_movedSince r0 19 (rg_X5_movedSince_30019 k30064) := by
 unfold rg_X5_movedSince_30019
 exact s_iload (pc := 19) C dX5_movedSince_19 <|
    s_bipush (pc := 21) C dX5_movedSince_21 (by decide) <|
    s_icmp_ge (pc := 23) C dX5_movedSince_23 (by decide) (s_iload_n (pc := 70) C dX5_movedSince_70 rfl <|
    s_ireturn (pc := 71) C rfl dX5_movedSince_71)
    (s_aload_n (pc := 26) C dX5_movedSince_26 rfl <|
    s_iload (pc := 27) C dX5_movedSince_27 <|
    s_callV (pc := 29) C ct_X3_isFull (n := 2) (rk := 1) (mp := [3]) ⟨rfl, by decide, rfl⟩ (ci := 3) rfl rfl (by decide) (by decide) yi_X3_isFull (by decide) wd_705 wd_556 wd_557 wd_74 wd_558 dX5_movedSince_29 <|
    s_if_eq (pc := 32) C dX5_movedSince_32 (by decide) (s_cut q30064)
    (s_aload_n (pc := 35) C dX5_movedSince_35 rfl <|
    s_iload (pc := 36) C dX5_movedSince_36 <|
    s_callV (pc := 38) C ct_X3_isFull (n := 2) (rk := 1) (mp := [14]) ⟨rfl, by decide, rfl⟩ (ci := 3) rfl rfl (by decide) (by decide) yi_X3_isFull (by decide) wd_705 wd_556 wd_557 wd_74 wd_558 dX5_movedSince_38 <|
    s_if_eq (pc := 41) C dX5_movedSince_41 (by decide) (s_cut q30064)
    (s_aload_n (pc := 44) C dX5_movedSince_44 rfl <|
    s_get (pc := 45) C (ci := 3) (kf := 0) rfl inX3 (by decide) wd_103 dX5_movedSince_45 <|
    s_iload (pc := 48) C dX5_movedSince_48 <|
    s_iald (pc := 50) C dX5_movedSince_50 <|
    s_aload_n (pc := 51) C dX5_movedSince_51 rfl <|
    s_get (pc := 52) C (ci := 3) (kf := 0) rfl inX3 (by decide) wd_103 dX5_movedSince_52 <|
    s_iload (pc := 55) C dX5_movedSince_55 <|
    s_iald (pc := 57) C dX5_movedSince_57 <|
    s_icmp_eq (pc := 58) C dX5_movedSince_58 (by decide) (s_cut q30064)
    (s_iinc (pc := 61) C dX5_movedSince_61 <|
    s_cut q30064))))
noncomputable def mg_X5_movedSince_30064 (h0 : Ob) (h1 : Ob) (h2 : Ob) (h3 : Ob) (h4 : Ob) (h5 : Ob) (h6 : Ob) (h7 : Ob) (h8 : Ob) (h9 : Ob) (h10 : Ob) (h11 : Ob) (h12 : Ob) (h13 : Ob) (h14 : Ob) (k30019 : (Int × Int) → Option Rt) (a : Int × Int) : Option Rt :=
 k30019 (a.1, (a.2 + 1))
set_option maxRecDepth 100000 in
set_option maxHeartbeats 4000000 in
theorem rq_X5_movedSince_30064 (h0 : Ob) (h1 : Ob) (h2 : Ob) (h3 : Ob) (h4 : Ob) (h5 : Ob) (h6 : Ob) (h7 : Ob) (h8 : Ob) (h9 : Ob) (h10 : Ob) (h11 : Ob) (h12 : Ob) (h13 : Ob) (h14 : Ob) (k30019 : XK) (a : Int × Int) : rg_X5_movedSince_30064 k30019 (en_X5_movedSince_30064 h0 h1 h2 h3 h4 h5 h6 h7 h8 h9 h10 h11 h12 h13 h14 a) = mg_X5_movedSince_30064 h0 h1 h2 h3 h4 h5 h6 h7 h8 h9 h10 h11 h12 h13 h14 (fun b => k30019 (en_X5_movedSince_30019 h0 h1 h2 h3 h4 h5 h6 h7 h8 h9 h10 h11 h12 h13 h14 b)) a := rfl
set_option maxRecDepth 100000 in
set_option maxHeartbeats 4000000 in
theorem sg_X5_movedSince_30064 {X : XDyn} {r0 : Rt} (C : XO X mX5_movedSince) {k30019 : XK} (q30019 : XS X mX5_movedSince r0 19 k30019) : XS X mX5_movedSince r0 64 (rg_X5_movedSince_30064 k30019) := by
 unfold rg_X5_movedSince_30064
 exact s_iinc (pc := 64) C dX5_movedSince_64 <|
    s_goto (pc := 67) C dX5_movedSince_67 (by decide) <|
    s_cut q30019
noncomputable def mg_X5_movedSince_40019 (h0 : Ob) (h1 : Ob) (h2 : Ob) (h3 : Ob) (h4 : Ob) (h5 : Ob) (h6 : Ob) (h7 : Ob) (h8 : Ob) (h9 : Ob) (h10 : Ob) (h11 : Ob) (h12 : Ob) (h13 : Ob) (h14 : Ob) (k40064 : (Int × Int) → Option Rt) (a : Int × Int) : Option Rt :=
 if xw a.2 ≥ 8 then (RI a.1 [h0, h1, h2, h3, h4, h5, h6, h7, h8, h9, h10, h11, h12, h13, h14])
 else (if xw (bz (ful h4 a.2)) = 0 then (k40064 (a.1, a.2))
 else (if xw (bz (ful h14 a.2)) = 0 then (k40064 (a.1, a.2))
 else (if xin a.2 11 then (
 if xin a.2 11 then (
 if xw (h4 1 (xw a.2).toNat) = xw (h14 1 (xw a.2).toNat) then (k40064 (a.1, a.2))
 else (k40064 ((a.1 + 1), a.2))) else none) else none)))
set_option maxRecDepth 100000 in
set_option maxHeartbeats 4000000 in
theorem rq_X5_movedSince_40019 (h0 : Ob) (h1 : Ob) (h2 : Ob) (h3 : Ob) (h4 : Ob) (h5 : Ob) (h6 : Ob) (h7 : Ob) (h8 : Ob) (h9 : Ob) (h10 : Ob) (h11 : Ob) (h12 : Ob) (h13 : Ob) (h14 : Ob) (k40064 : XK) (a : Int × Int) : rg_X5_movedSince_40019 k40064 (en_X5_movedSince_40019 h0 h1 h2 h3 h4 h5 h6 h7 h8 h9 h10 h11 h12 h13 h14 a) = mg_X5_movedSince_40019 h0 h1 h2 h3 h4 h5 h6 h7 h8 h9 h10 h11 h12 h13 h14 (fun b => k40064 (en_X5_movedSince_40064 h0 h1 h2 h3 h4 h5 h6 h7 h8 h9 h10 h11 h12 h13 h14 b)) a := rfl
set_option maxRecDepth 100000 in
set_option maxHeartbeats 4000000 in
theorem sg_X5_movedSince_40019 {X : XDyn} {r0 : Rt} (C : XO X mX5_movedSince) {k40064 : XK} (q40064 : XS X mX5_movedSince r0 64 k40064) : XS X mX5_movedSince r0 19 (rg_X5_movedSince_40019 k40064) := by
 unfold rg_X5_movedSince_40019
 exact s_iload (pc := 19) C dX5_movedSince_19 <|
    s_bipush (pc := 21) C dX5_movedSince_21 (by decide) <|
    s_icmp_ge (pc := 23) C dX5_movedSince_23 (by decide) (s_iload_n (pc := 70) C dX5_movedSince_70 rfl <|
    s_ireturn (pc := 71) C rfl dX5_movedSince_71)
    (s_aload_n (pc := 26) C dX5_movedSince_26 rfl <|
    s_iload (pc := 27) C dX5_movedSince_27 <|
    s_callV (pc := 29) C ct_X3_isFull (n := 2) (rk := 1) (mp := [4]) ⟨rfl, by decide, rfl⟩ (ci := 3) rfl rfl (by decide) (by decide) yi_X3_isFull (by decide) wd_705 wd_556 wd_557 wd_74 wd_558 dX5_movedSince_29 <|
    s_if_eq (pc := 32) C dX5_movedSince_32 (by decide) (s_cut q40064)
    (s_aload_n (pc := 35) C dX5_movedSince_35 rfl <|
    s_iload (pc := 36) C dX5_movedSince_36 <|
    s_callV (pc := 38) C ct_X3_isFull (n := 2) (rk := 1) (mp := [14]) ⟨rfl, by decide, rfl⟩ (ci := 3) rfl rfl (by decide) (by decide) yi_X3_isFull (by decide) wd_705 wd_556 wd_557 wd_74 wd_558 dX5_movedSince_38 <|
    s_if_eq (pc := 41) C dX5_movedSince_41 (by decide) (s_cut q40064)
    (s_aload_n (pc := 44) C dX5_movedSince_44 rfl <|
    s_get (pc := 45) C (ci := 3) (kf := 0) rfl inX3 (by decide) wd_103 dX5_movedSince_45 <|
    s_iload (pc := 48) C dX5_movedSince_48 <|
    s_iald (pc := 50) C dX5_movedSince_50 <|
    s_aload_n (pc := 51) C dX5_movedSince_51 rfl <|
    s_get (pc := 52) C (ci := 3) (kf := 0) rfl inX3 (by decide) wd_103 dX5_movedSince_52 <|
    s_iload (pc := 55) C dX5_movedSince_55 <|
    s_iald (pc := 57) C dX5_movedSince_57 <|
    s_icmp_eq (pc := 58) C dX5_movedSince_58 (by decide) (s_cut q40064)
    (s_iinc (pc := 61) C dX5_movedSince_61 <|
    s_cut q40064))))
noncomputable def mg_X5_movedSince_40064 (h0 : Ob) (h1 : Ob) (h2 : Ob) (h3 : Ob) (h4 : Ob) (h5 : Ob) (h6 : Ob) (h7 : Ob) (h8 : Ob) (h9 : Ob) (h10 : Ob) (h11 : Ob) (h12 : Ob) (h13 : Ob) (h14 : Ob) (k40019 : (Int × Int) → Option Rt) (a : Int × Int) : Option Rt :=
 k40019 (a.1, (a.2 + 1))
set_option maxRecDepth 100000 in
set_option maxHeartbeats 4000000 in
theorem rq_X5_movedSince_40064 (h0 : Ob) (h1 : Ob) (h2 : Ob) (h3 : Ob) (h4 : Ob) (h5 : Ob) (h6 : Ob) (h7 : Ob) (h8 : Ob) (h9 : Ob) (h10 : Ob) (h11 : Ob) (h12 : Ob) (h13 : Ob) (h14 : Ob) (k40019 : XK) (a : Int × Int) : rg_X5_movedSince_40064 k40019 (en_X5_movedSince_40064 h0 h1 h2 h3 h4 h5 h6 h7 h8 h9 h10 h11 h12 h13 h14 a) = mg_X5_movedSince_40064 h0 h1 h2 h3 h4 h5 h6 h7 h8 h9 h10 h11 h12 h13 h14 (fun b => k40019 (en_X5_movedSince_40019 h0 h1 h2 h3 h4 h5 h6 h7 h8 h9 h10 h11 h12 h13 h14 b)) a := rfl
set_option maxRecDepth 100000 in
set_option maxHeartbeats 4000000 in
theorem sg_X5_movedSince_40064 {X : XDyn} {r0 : Rt} (C : XO X mX5_movedSince) {k40019 : XK} (q40019 : XS X mX5_movedSince r0 19 k40019) : XS X mX5_movedSince r0 64 (rg_X5_movedSince_40064 k40019) := by
 unfold rg_X5_movedSince_40064
 exact s_iinc (pc := 64) C dX5_movedSince_64 <|
    s_goto (pc := 67) C dX5_movedSince_67 (by decide) <|
    s_cut q40019
noncomputable def mg_X5_movedSince_50019 (h0 : Ob) (h1 : Ob) (h2 : Ob) (h3 : Ob) (h4 : Ob) (h5 : Ob) (h6 : Ob) (h7 : Ob) (h8 : Ob) (h9 : Ob) (h10 : Ob) (h11 : Ob) (h12 : Ob) (h13 : Ob) (h14 : Ob) (k50064 : (Int × Int) → Option Rt) (a : Int × Int) : Option Rt :=
 if xw a.2 ≥ 8 then (RI a.1 [h0, h1, h2, h3, h4, h5, h6, h7, h8, h9, h10, h11, h12, h13, h14])
 else (if xw (bz (ful h5 a.2)) = 0 then (k50064 (a.1, a.2))
 else (if xw (bz (ful h14 a.2)) = 0 then (k50064 (a.1, a.2))
 else (if xin a.2 11 then (
 if xin a.2 11 then (
 if xw (h5 1 (xw a.2).toNat) = xw (h14 1 (xw a.2).toNat) then (k50064 (a.1, a.2))
 else (k50064 ((a.1 + 1), a.2))) else none) else none)))
set_option maxRecDepth 100000 in
set_option maxHeartbeats 4000000 in
theorem rq_X5_movedSince_50019 (h0 : Ob) (h1 : Ob) (h2 : Ob) (h3 : Ob) (h4 : Ob) (h5 : Ob) (h6 : Ob) (h7 : Ob) (h8 : Ob) (h9 : Ob) (h10 : Ob) (h11 : Ob) (h12 : Ob) (h13 : Ob) (h14 : Ob) (k50064 : XK) (a : Int × Int) : rg_X5_movedSince_50019 k50064 (en_X5_movedSince_50019 h0 h1 h2 h3 h4 h5 h6 h7 h8 h9 h10 h11 h12 h13 h14 a) = mg_X5_movedSince_50019 h0 h1 h2 h3 h4 h5 h6 h7 h8 h9 h10 h11 h12 h13 h14 (fun b => k50064 (en_X5_movedSince_50064 h0 h1 h2 h3 h4 h5 h6 h7 h8 h9 h10 h11 h12 h13 h14 b)) a := rfl
set_option maxRecDepth 100000 in
set_option maxHeartbeats 4000000 in
theorem sg_X5_movedSince_50019 {X : XDyn} {r0 : Rt} (C : XO X mX5_movedSince) {k50064 : XK} (q50064 : XS X mX5_movedSince r0 64 k50064) : XS X mX5_movedSince r0 19 (rg_X5_movedSince_50019 k50064) := by
 unfold rg_X5_movedSince_50019
 exact s_iload (pc := 19) C dX5_movedSince_19 <|
    s_bipush (pc := 21) C dX5_movedSince_21 (by decide) <|
    s_icmp_ge (pc := 23) C dX5_movedSince_23 (by decide) (s_iload_n (pc := 70) C dX5_movedSince_70 rfl <|
    s_ireturn (pc := 71) C rfl dX5_movedSince_71)
    (s_aload_n (pc := 26) C dX5_movedSince_26 rfl <|
    s_iload (pc := 27) C dX5_movedSince_27 <|
    s_callV (pc := 29) C ct_X3_isFull (n := 2) (rk := 1) (mp := [5]) ⟨rfl, by decide, rfl⟩ (ci := 3) rfl rfl (by decide) (by decide) yi_X3_isFull (by decide) wd_705 wd_556 wd_557 wd_74 wd_558 dX5_movedSince_29 <|
    s_if_eq (pc := 32) C dX5_movedSince_32 (by decide) (s_cut q50064)
    (s_aload_n (pc := 35) C dX5_movedSince_35 rfl <|
    s_iload (pc := 36) C dX5_movedSince_36 <|
    s_callV (pc := 38) C ct_X3_isFull (n := 2) (rk := 1) (mp := [14]) ⟨rfl, by decide, rfl⟩ (ci := 3) rfl rfl (by decide) (by decide) yi_X3_isFull (by decide) wd_705 wd_556 wd_557 wd_74 wd_558 dX5_movedSince_38 <|
    s_if_eq (pc := 41) C dX5_movedSince_41 (by decide) (s_cut q50064)
    (s_aload_n (pc := 44) C dX5_movedSince_44 rfl <|
    s_get (pc := 45) C (ci := 3) (kf := 0) rfl inX3 (by decide) wd_103 dX5_movedSince_45 <|
    s_iload (pc := 48) C dX5_movedSince_48 <|
    s_iald (pc := 50) C dX5_movedSince_50 <|
    s_aload_n (pc := 51) C dX5_movedSince_51 rfl <|
    s_get (pc := 52) C (ci := 3) (kf := 0) rfl inX3 (by decide) wd_103 dX5_movedSince_52 <|
    s_iload (pc := 55) C dX5_movedSince_55 <|
    s_iald (pc := 57) C dX5_movedSince_57 <|
    s_icmp_eq (pc := 58) C dX5_movedSince_58 (by decide) (s_cut q50064)
    (s_iinc (pc := 61) C dX5_movedSince_61 <|
    s_cut q50064))))
noncomputable def mg_X5_movedSince_50064 (h0 : Ob) (h1 : Ob) (h2 : Ob) (h3 : Ob) (h4 : Ob) (h5 : Ob) (h6 : Ob) (h7 : Ob) (h8 : Ob) (h9 : Ob) (h10 : Ob) (h11 : Ob) (h12 : Ob) (h13 : Ob) (h14 : Ob) (k50019 : (Int × Int) → Option Rt) (a : Int × Int) : Option Rt :=
 k50019 (a.1, (a.2 + 1))
set_option maxRecDepth 100000 in
set_option maxHeartbeats 4000000 in
theorem rq_X5_movedSince_50064 (h0 : Ob) (h1 : Ob) (h2 : Ob) (h3 : Ob) (h4 : Ob) (h5 : Ob) (h6 : Ob) (h7 : Ob) (h8 : Ob) (h9 : Ob) (h10 : Ob) (h11 : Ob) (h12 : Ob) (h13 : Ob) (h14 : Ob) (k50019 : XK) (a : Int × Int) : rg_X5_movedSince_50064 k50019 (en_X5_movedSince_50064 h0 h1 h2 h3 h4 h5 h6 h7 h8 h9 h10 h11 h12 h13 h14 a) = mg_X5_movedSince_50064 h0 h1 h2 h3 h4 h5 h6 h7 h8 h9 h10 h11 h12 h13 h14 (fun b => k50019 (en_X5_movedSince_50019 h0 h1 h2 h3 h4 h5 h6 h7 h8 h9 h10 h11 h12 h13 h14 b)) a := rfl
set_option maxRecDepth 100000 in
set_option maxHeartbeats 4000000 in
theorem sg_X5_movedSince_50064 {X : XDyn} {r0 : Rt} (C : XO X mX5_movedSince) {k50019 : XK} (q50019 : XS X mX5_movedSince r0 19 k50019) : XS X mX5_movedSince r0 64 (rg_X5_movedSince_50064 k50019) := by
 unfold rg_X5_movedSince_50064
 exact s_iinc (pc := 64) C dX5_movedSince_64 <|
    s_goto (pc := 67) C dX5_movedSince_67 (by decide) <|
    s_cut q50019
noncomputable def mg_X5_movedSince_60019 (h0 : Ob) (h1 : Ob) (h2 : Ob) (h3 : Ob) (h4 : Ob) (h5 : Ob) (h6 : Ob) (h7 : Ob) (h8 : Ob) (h9 : Ob) (h10 : Ob) (h11 : Ob) (h12 : Ob) (h13 : Ob) (h14 : Ob) (k60064 : (Int × Int) → Option Rt) (a : Int × Int) : Option Rt :=
 if xw a.2 ≥ 8 then (RI a.1 [h0, h1, h2, h3, h4, h5, h6, h7, h8, h9, h10, h11, h12, h13, h14])
 else (if xw (bz (ful h6 a.2)) = 0 then (k60064 (a.1, a.2))
 else (if xw (bz (ful h14 a.2)) = 0 then (k60064 (a.1, a.2))
 else (if xin a.2 11 then (
 if xin a.2 11 then (
 if xw (h6 1 (xw a.2).toNat) = xw (h14 1 (xw a.2).toNat) then (k60064 (a.1, a.2))
 else (k60064 ((a.1 + 1), a.2))) else none) else none)))
set_option maxRecDepth 100000 in
set_option maxHeartbeats 4000000 in
theorem rq_X5_movedSince_60019 (h0 : Ob) (h1 : Ob) (h2 : Ob) (h3 : Ob) (h4 : Ob) (h5 : Ob) (h6 : Ob) (h7 : Ob) (h8 : Ob) (h9 : Ob) (h10 : Ob) (h11 : Ob) (h12 : Ob) (h13 : Ob) (h14 : Ob) (k60064 : XK) (a : Int × Int) : rg_X5_movedSince_60019 k60064 (en_X5_movedSince_60019 h0 h1 h2 h3 h4 h5 h6 h7 h8 h9 h10 h11 h12 h13 h14 a) = mg_X5_movedSince_60019 h0 h1 h2 h3 h4 h5 h6 h7 h8 h9 h10 h11 h12 h13 h14 (fun b => k60064 (en_X5_movedSince_60064 h0 h1 h2 h3 h4 h5 h6 h7 h8 h9 h10 h11 h12 h13 h14 b)) a := rfl
set_option maxRecDepth 100000 in
set_option maxHeartbeats 4000000 in
theorem sg_X5_movedSince_60019 {X : XDyn} {r0 : Rt} (C : XO X mX5_movedSince) {k60064 : XK} (q60064 : XS X mX5_movedSince r0 64 k60064) : XS X mX5_movedSince r0 19 (rg_X5_movedSince_60019 k60064) := by
 unfold rg_X5_movedSince_60019
 exact s_iload (pc := 19) C dX5_movedSince_19 <|
    s_bipush (pc := 21) C dX5_movedSince_21 (by decide) <|
    s_icmp_ge (pc := 23) C dX5_movedSince_23 (by decide) (s_iload_n (pc := 70) C dX5_movedSince_70 rfl <|
    s_ireturn (pc := 71) C rfl dX5_movedSince_71)
    (s_aload_n (pc := 26) C dX5_movedSince_26 rfl <|
    s_iload (pc := 27) C dX5_movedSince_27 <|
    s_callV (pc := 29) C ct_X3_isFull (n := 2) (rk := 1) (mp := [6]) ⟨rfl, by decide, rfl⟩ (ci := 3) rfl rfl (by decide) (by decide) yi_X3_isFull (by decide) wd_705 wd_556 wd_557 wd_74 wd_558 dX5_movedSince_29 <|
    s_if_eq (pc := 32) C dX5_movedSince_32 (by decide) (s_cut q60064)
    (s_aload_n (pc := 35) C dX5_movedSince_35 rfl <|
    s_iload (pc := 36) C dX5_movedSince_36 <|
    s_callV (pc := 38) C ct_X3_isFull (n := 2) (rk := 1) (mp := [14]) ⟨rfl, by decide, rfl⟩ (ci := 3) rfl rfl (by decide) (by decide) yi_X3_isFull (by decide) wd_705 wd_556 wd_557 wd_74 wd_558 dX5_movedSince_38 <|
    s_if_eq (pc := 41) C dX5_movedSince_41 (by decide) (s_cut q60064)
    (s_aload_n (pc := 44) C dX5_movedSince_44 rfl <|
    s_get (pc := 45) C (ci := 3) (kf := 0) rfl inX3 (by decide) wd_103 dX5_movedSince_45 <|
    s_iload (pc := 48) C dX5_movedSince_48 <|
    s_iald (pc := 50) C dX5_movedSince_50 <|
    s_aload_n (pc := 51) C dX5_movedSince_51 rfl <|
    s_get (pc := 52) C (ci := 3) (kf := 0) rfl inX3 (by decide) wd_103 dX5_movedSince_52 <|
    s_iload (pc := 55) C dX5_movedSince_55 <|
    s_iald (pc := 57) C dX5_movedSince_57 <|
    s_icmp_eq (pc := 58) C dX5_movedSince_58 (by decide) (s_cut q60064)
    (s_iinc (pc := 61) C dX5_movedSince_61 <|
    s_cut q60064))))
noncomputable def mg_X5_movedSince_60064 (h0 : Ob) (h1 : Ob) (h2 : Ob) (h3 : Ob) (h4 : Ob) (h5 : Ob) (h6 : Ob) (h7 : Ob) (h8 : Ob) (h9 : Ob) (h10 : Ob) (h11 : Ob) (h12 : Ob) (h13 : Ob) (h14 : Ob) (k60019 : (Int × Int) → Option Rt) (a : Int × Int) : Option Rt :=
 k60019 (a.1, (a.2 + 1))
set_option maxRecDepth 100000 in
set_option maxHeartbeats 4000000 in
theorem rq_X5_movedSince_60064 (h0 : Ob) (h1 : Ob) (h2 : Ob) (h3 : Ob) (h4 : Ob) (h5 : Ob) (h6 : Ob) (h7 : Ob) (h8 : Ob) (h9 : Ob) (h10 : Ob) (h11 : Ob) (h12 : Ob) (h13 : Ob) (h14 : Ob) (k60019 : XK) (a : Int × Int) : rg_X5_movedSince_60064 k60019 (en_X5_movedSince_60064 h0 h1 h2 h3 h4 h5 h6 h7 h8 h9 h10 h11 h12 h13 h14 a) = mg_X5_movedSince_60064 h0 h1 h2 h3 h4 h5 h6 h7 h8 h9 h10 h11 h12 h13 h14 (fun b => k60019 (en_X5_movedSince_60019 h0 h1 h2 h3 h4 h5 h6 h7 h8 h9 h10 h11 h12 h13 h14 b)) a := rfl
set_option maxRecDepth 100000 in
set_option maxHeartbeats 4000000 in
theorem sg_X5_movedSince_60064 {X : XDyn} {r0 : Rt} (C : XO X mX5_movedSince) {k60019 : XK} (q60019 : XS X mX5_movedSince r0 19 k60019) : XS X mX5_movedSince r0 64 (rg_X5_movedSince_60064 k60019) := by
 unfold rg_X5_movedSince_60064
 exact s_iinc (pc := 64) C dX5_movedSince_64 <|
    s_goto (pc := 67) C dX5_movedSince_67 (by decide) <|
    s_cut q60019
noncomputable def mg_X5_movedSince_70019 (h0 : Ob) (h1 : Ob) (h2 : Ob) (h3 : Ob) (h4 : Ob) (h5 : Ob) (h6 : Ob) (h7 : Ob) (h8 : Ob) (h9 : Ob) (h10 : Ob) (h11 : Ob) (h12 : Ob) (h13 : Ob) (h14 : Ob) (k70064 : (Int × Int) → Option Rt) (a : Int × Int) : Option Rt :=
 if xw a.2 ≥ 8 then (RI a.1 [h0, h1, h2, h3, h4, h5, h6, h7, h8, h9, h10, h11, h12, h13, h14])
 else (if xw (bz (ful h7 a.2)) = 0 then (k70064 (a.1, a.2))
 else (if xw (bz (ful h14 a.2)) = 0 then (k70064 (a.1, a.2))
 else (if xin a.2 11 then (
 if xin a.2 11 then (
 if xw (h7 1 (xw a.2).toNat) = xw (h14 1 (xw a.2).toNat) then (k70064 (a.1, a.2))
 else (k70064 ((a.1 + 1), a.2))) else none) else none)))
set_option maxRecDepth 100000 in
set_option maxHeartbeats 4000000 in
theorem rq_X5_movedSince_70019 (h0 : Ob) (h1 : Ob) (h2 : Ob) (h3 : Ob) (h4 : Ob) (h5 : Ob) (h6 : Ob) (h7 : Ob) (h8 : Ob) (h9 : Ob) (h10 : Ob) (h11 : Ob) (h12 : Ob) (h13 : Ob) (h14 : Ob) (k70064 : XK) (a : Int × Int) : rg_X5_movedSince_70019 k70064 (en_X5_movedSince_70019 h0 h1 h2 h3 h4 h5 h6 h7 h8 h9 h10 h11 h12 h13 h14 a) = mg_X5_movedSince_70019 h0 h1 h2 h3 h4 h5 h6 h7 h8 h9 h10 h11 h12 h13 h14 (fun b => k70064 (en_X5_movedSince_70064 h0 h1 h2 h3 h4 h5 h6 h7 h8 h9 h10 h11 h12 h13 h14 b)) a := rfl
set_option maxRecDepth 100000 in
set_option maxHeartbeats 4000000 in
theorem sg_X5_movedSince_70019 {X : XDyn} {r0 : Rt} (C : XO X mX5_movedSince) {k70064 : XK} (q70064 : XS X mX5_movedSince r0 64 k70064) : XS X mX5_movedSince r0 19 (rg_X5_movedSince_70019 k70064) := by
 unfold rg_X5_movedSince_70019
 exact s_iload (pc := 19) C dX5_movedSince_19 <|
    s_bipush (pc := 21) C dX5_movedSince_21 (by decide) <|
    s_icmp_ge (pc := 23) C dX5_movedSince_23 (by decide) (s_iload_n (pc := 70) C dX5_movedSince_70 rfl <|
    s_ireturn (pc := 71) C rfl dX5_movedSince_71)
    (s_aload_n (pc := 26) C dX5_movedSince_26 rfl <|
    s_iload (pc := 27) C dX5_movedSince_27 <|
    s_callV (pc := 29) C ct_X3_isFull (n := 2) (rk := 1) (mp := [7]) ⟨rfl, by decide, rfl⟩ (ci := 3) rfl rfl (by decide) (by decide) yi_X3_isFull (by decide) wd_705 wd_556 wd_557 wd_74 wd_558 dX5_movedSince_29 <|
    s_if_eq (pc := 32) C dX5_movedSince_32 (by decide) (s_cut q70064)
    (s_aload_n (pc := 35) C dX5_movedSince_35 rfl <|
    s_iload (pc := 36) C dX5_movedSince_36 <|
    s_callV (pc := 38) C ct_X3_isFull (n := 2) (rk := 1) (mp := [14]) ⟨rfl, by decide, rfl⟩ (ci := 3) rfl rfl (by decide) (by decide) yi_X3_isFull (by decide) wd_705 wd_556 wd_557 wd_74 wd_558 dX5_movedSince_38 <|
    s_if_eq (pc := 41) C dX5_movedSince_41 (by decide) (s_cut q70064)
    (s_aload_n (pc := 44) C dX5_movedSince_44 rfl <|
    s_get (pc := 45) C (ci := 3) (kf := 0) rfl inX3 (by decide) wd_103 dX5_movedSince_45 <|
    s_iload (pc := 48) C dX5_movedSince_48 <|
    s_iald (pc := 50) C dX5_movedSince_50 <|
    s_aload_n (pc := 51) C dX5_movedSince_51 rfl <|
    s_get (pc := 52) C (ci := 3) (kf := 0) rfl inX3 (by decide) wd_103 dX5_movedSince_52 <|
    s_iload (pc := 55) C dX5_movedSince_55 <|
    s_iald (pc := 57) C dX5_movedSince_57 <|
    s_icmp_eq (pc := 58) C dX5_movedSince_58 (by decide) (s_cut q70064)
    (s_iinc (pc := 61) C dX5_movedSince_61 <|
    s_cut q70064))))
noncomputable def mg_X5_movedSince_70064 (h0 : Ob) (h1 : Ob) (h2 : Ob) (h3 : Ob) (h4 : Ob) (h5 : Ob) (h6 : Ob) (h7 : Ob) (h8 : Ob) (h9 : Ob) (h10 : Ob) (h11 : Ob) (h12 : Ob) (h13 : Ob) (h14 : Ob) (k70019 : (Int × Int) → Option Rt) (a : Int × Int) : Option Rt :=
 k70019 (a.1, (a.2 + 1))
set_option maxRecDepth 100000 in
set_option maxHeartbeats 4000000 in
theorem rq_X5_movedSince_70064 (h0 : Ob) (h1 : Ob) (h2 : Ob) (h3 : Ob) (h4 : Ob) (h5 : Ob) (h6 : Ob) (h7 : Ob) (h8 : Ob) (h9 : Ob) (h10 : Ob) (h11 : Ob) (h12 : Ob) (h13 : Ob) (h14 : Ob) (k70019 : XK) (a : Int × Int) : rg_X5_movedSince_70064 k70019 (en_X5_movedSince_70064 h0 h1 h2 h3 h4 h5 h6 h7 h8 h9 h10 h11 h12 h13 h14 a) = mg_X5_movedSince_70064 h0 h1 h2 h3 h4 h5 h6 h7 h8 h9 h10 h11 h12 h13 h14 (fun b => k70019 (en_X5_movedSince_70019 h0 h1 h2 h3 h4 h5 h6 h7 h8 h9 h10 h11 h12 h13 h14 b)) a := rfl
set_option maxRecDepth 100000 in
set_option maxHeartbeats 4000000 in
theorem sg_X5_movedSince_70064 {X : XDyn} {r0 : Rt} (C : XO X mX5_movedSince) {k70019 : XK} (q70019 : XS X mX5_movedSince r0 19 k70019) : XS X mX5_movedSince r0 64 (rg_X5_movedSince_70064 k70019) := by
 unfold rg_X5_movedSince_70064
 exact s_iinc (pc := 64) C dX5_movedSince_64 <|
    s_goto (pc := 67) C dX5_movedSince_67 (by decide) <|
    s_cut q70019
noncomputable def mg_X5_movedSince_80019 (h0 : Ob) (h1 : Ob) (h2 : Ob) (h3 : Ob) (h4 : Ob) (h5 : Ob) (h6 : Ob) (h7 : Ob) (h8 : Ob) (h9 : Ob) (h10 : Ob) (h11 : Ob) (h12 : Ob) (h13 : Ob) (h14 : Ob) (k80064 : (Int × Int) → Option Rt) (a : Int × Int) : Option Rt :=
 if xw a.2 ≥ 8 then (RI a.1 [h0, h1, h2, h3, h4, h5, h6, h7, h8, h9, h10, h11, h12, h13, h14])
 else (if xw (bz (ful h8 a.2)) = 0 then (k80064 (a.1, a.2))
 else (if xw (bz (ful h14 a.2)) = 0 then (k80064 (a.1, a.2))
 else (if xin a.2 11 then (
 if xin a.2 11 then (
 if xw (h8 1 (xw a.2).toNat) = xw (h14 1 (xw a.2).toNat) then (k80064 (a.1, a.2))
 else (k80064 ((a.1 + 1), a.2))) else none) else none)))
set_option maxRecDepth 100000 in
set_option maxHeartbeats 4000000 in
theorem rq_X5_movedSince_80019 (h0 : Ob) (h1 : Ob) (h2 : Ob) (h3 : Ob) (h4 : Ob) (h5 : Ob) (h6 : Ob) (h7 : Ob) (h8 : Ob) (h9 : Ob) (h10 : Ob) (h11 : Ob) (h12 : Ob) (h13 : Ob) (h14 : Ob) (k80064 : XK) (a : Int × Int) : rg_X5_movedSince_80019 k80064 (en_X5_movedSince_80019 h0 h1 h2 h3 h4 h5 h6 h7 h8 h9 h10 h11 h12 h13 h14 a) = mg_X5_movedSince_80019 h0 h1 h2 h3 h4 h5 h6 h7 h8 h9 h10 h11 h12 h13 h14 (fun b => k80064 (en_X5_movedSince_80064 h0 h1 h2 h3 h4 h5 h6 h7 h8 h9 h10 h11 h12 h13 h14 b)) a := rfl
set_option maxRecDepth 100000 in
set_option maxHeartbeats 4000000 in
theorem sg_X5_movedSince_80019 {X : XDyn} {r0 : Rt} (C : XO X mX5_movedSince) {k80064 : XK} (q80064 : XS X mX5_movedSince r0 64 k80064) : XS X mX5_movedSince r0 19 (rg_X5_movedSince_80019 k80064) := by
 unfold rg_X5_movedSince_80019
 exact s_iload (pc := 19) C dX5_movedSince_19 <|
    s_bipush (pc := 21) C dX5_movedSince_21 (by decide) <|
    s_icmp_ge (pc := 23) C dX5_movedSince_23 (by decide) (s_iload_n (pc := 70) C dX5_movedSince_70 rfl <|
    s_ireturn (pc := 71) C rfl dX5_movedSince_71)
    (s_aload_n (pc := 26) C dX5_movedSince_26 rfl <|
    s_iload (pc := 27) C dX5_movedSince_27 <|
    s_callV (pc := 29) C ct_X3_isFull (n := 2) (rk := 1) (mp := [8]) ⟨rfl, by decide, rfl⟩ (ci := 3) rfl rfl (by decide) (by decide) yi_X3_isFull (by decide) wd_705 wd_556 wd_557 wd_74 wd_558 dX5_movedSince_29 <|
    s_if_eq (pc := 32) C dX5_movedSince_32 (by decide) (s_cut q80064)
    (s_aload_n (pc := 35) C dX5_movedSince_35 rfl <|
    s_iload (pc := 36) C dX5_movedSince_36 <|
    s_callV (pc := 38) C ct_X3_isFull (n := 2) (rk := 1) (mp := [14]) ⟨rfl, by decide, rfl⟩ (ci := 3) rfl rfl (by decide) (by decide) yi_X3_isFull (by decide) wd_705 wd_556 wd_557 wd_74 wd_558 dX5_movedSince_38 <|
    s_if_eq (pc := 41) C dX5_movedSince_41 (by decide) (s_cut q80064)
    (s_aload_n (pc := 44) C dX5_movedSince_44 rfl <|
    s_get (pc := 45) C (ci := 3) (kf := 0) rfl inX3 (by decide) wd_103 dX5_movedSince_45 <|
    s_iload (pc := 48) C dX5_movedSince_48 <|
    s_iald (pc := 50) C dX5_movedSince_50 <|
    s_aload_n (pc := 51) C dX5_movedSince_51 rfl <|
    s_get (pc := 52) C (ci := 3) (kf := 0) rfl inX3 (by decide) wd_103 dX5_movedSince_52 <|
    s_iload (pc := 55) C dX5_movedSince_55 <|
    s_iald (pc := 57) C dX5_movedSince_57 <|
    s_icmp_eq (pc := 58) C dX5_movedSince_58 (by decide) (s_cut q80064)
    (s_iinc (pc := 61) C dX5_movedSince_61 <|
    s_cut q80064))))
noncomputable def mg_X5_movedSince_80064 (h0 : Ob) (h1 : Ob) (h2 : Ob) (h3 : Ob) (h4 : Ob) (h5 : Ob) (h6 : Ob) (h7 : Ob) (h8 : Ob) (h9 : Ob) (h10 : Ob) (h11 : Ob) (h12 : Ob) (h13 : Ob) (h14 : Ob) (k80019 : (Int × Int) → Option Rt) (a : Int × Int) : Option Rt :=
 k80019 (a.1, (a.2 + 1))
set_option maxRecDepth 100000 in
set_option maxHeartbeats 4000000 in
theorem rq_X5_movedSince_80064 (h0 : Ob) (h1 : Ob) (h2 : Ob) (h3 : Ob) (h4 : Ob) (h5 : Ob) (h6 : Ob) (h7 : Ob) (h8 : Ob) (h9 : Ob) (h10 : Ob) (h11 : Ob) (h12 : Ob) (h13 : Ob) (h14 : Ob) (k80019 : XK) (a : Int × Int) : rg_X5_movedSince_80064 k80019 (en_X5_movedSince_80064 h0 h1 h2 h3 h4 h5 h6 h7 h8 h9 h10 h11 h12 h13 h14 a) = mg_X5_movedSince_80064 h0 h1 h2 h3 h4 h5 h6 h7 h8 h9 h10 h11 h12 h13 h14 (fun b => k80019 (en_X5_movedSince_80019 h0 h1 h2 h3 h4 h5 h6 h7 h8 h9 h10 h11 h12 h13 h14 b)) a := rfl
set_option maxRecDepth 100000 in
set_option maxHeartbeats 4000000 in
theorem sg_X5_movedSince_80064 {X : XDyn} {r0 : Rt} (C : XO X mX5_movedSince) {k80019 : XK} (q80019 : XS X mX5_movedSince r0 19 k80019) : XS X mX5_movedSince r0 64 (rg_X5_movedSince_80064 k80019) := by
 unfold rg_X5_movedSince_80064
 exact s_iinc (pc := 64) C dX5_movedSince_64 <|
    s_goto (pc := 67) C dX5_movedSince_67 (by decide) <|
    s_cut q80019
noncomputable def mg_X5_movedSince_90019 (h0 : Ob) (h1 : Ob) (h2 : Ob) (h3 : Ob) (h4 : Ob) (h5 : Ob) (h6 : Ob) (h7 : Ob) (h8 : Ob) (h9 : Ob) (h10 : Ob) (h11 : Ob) (h12 : Ob) (h13 : Ob) (h14 : Ob) (k90064 : (Int × Int) → Option Rt) (a : Int × Int) : Option Rt :=
 if xw a.2 ≥ 8 then (RI a.1 [h0, h1, h2, h3, h4, h5, h6, h7, h8, h9, h10, h11, h12, h13, h14])
 else (if xw (bz (ful h9 a.2)) = 0 then (k90064 (a.1, a.2))
 else (if xw (bz (ful h14 a.2)) = 0 then (k90064 (a.1, a.2))
 else (if xin a.2 11 then (
 if xin a.2 11 then (
 if xw (h9 1 (xw a.2).toNat) = xw (h14 1 (xw a.2).toNat) then (k90064 (a.1, a.2))
 else (k90064 ((a.1 + 1), a.2))) else none) else none)))
set_option maxRecDepth 100000 in
set_option maxHeartbeats 4000000 in
theorem rq_X5_movedSince_90019 (h0 : Ob) (h1 : Ob) (h2 : Ob) (h3 : Ob) (h4 : Ob) (h5 : Ob) (h6 : Ob) (h7 : Ob) (h8 : Ob) (h9 : Ob) (h10 : Ob) (h11 : Ob) (h12 : Ob) (h13 : Ob) (h14 : Ob) (k90064 : XK) (a : Int × Int) : rg_X5_movedSince_90019 k90064 (en_X5_movedSince_90019 h0 h1 h2 h3 h4 h5 h6 h7 h8 h9 h10 h11 h12 h13 h14 a) = mg_X5_movedSince_90019 h0 h1 h2 h3 h4 h5 h6 h7 h8 h9 h10 h11 h12 h13 h14 (fun b => k90064 (en_X5_movedSince_90064 h0 h1 h2 h3 h4 h5 h6 h7 h8 h9 h10 h11 h12 h13 h14 b)) a := rfl
set_option maxRecDepth 100000 in
set_option maxHeartbeats 4000000 in
theorem sg_X5_movedSince_90019 {X : XDyn} {r0 : Rt} (C : XO X mX5_movedSince) {k90064 : XK} (q90064 : XS X mX5_movedSince r0 64 k90064) : XS X mX5_movedSince r0 19 (rg_X5_movedSince_90019 k90064) := by
 unfold rg_X5_movedSince_90019
 exact s_iload (pc := 19) C dX5_movedSince_19 <|
    s_bipush (pc := 21) C dX5_movedSince_21 (by decide) <|
    s_icmp_ge (pc := 23) C dX5_movedSince_23 (by decide) (s_iload_n (pc := 70) C dX5_movedSince_70 rfl <|
    s_ireturn (pc := 71) C rfl dX5_movedSince_71)
    (s_aload_n (pc := 26) C dX5_movedSince_26 rfl <|
    s_iload (pc := 27) C dX5_movedSince_27 <|
    s_callV (pc := 29) C ct_X3_isFull (n := 2) (rk := 1) (mp := [9]) ⟨rfl, by decide, rfl⟩ (ci := 3) rfl rfl (by decide) (by decide) yi_X3_isFull (by decide) wd_705 wd_556 wd_557 wd_74 wd_558 dX5_movedSince_29 <|
    s_if_eq (pc := 32) C dX5_movedSince_32 (by decide) (s_cut q90064)
    (s_aload_n (pc := 35) C dX5_movedSince_35 rfl <|
    s_iload (pc := 36) C dX5_movedSince_36 <|
    s_callV (pc := 38) C ct_X3_isFull (n := 2) (rk := 1) (mp := [14]) ⟨rfl, by decide, rfl⟩ (ci := 3) rfl rfl (by decide) (by decide) yi_X3_isFull (by decide) wd_705 wd_556 wd_557 wd_74 wd_558 dX5_movedSince_38 <|
    s_if_eq (pc := 41) C dX5_movedSince_41 (by decide) (s_cut q90064)
    (s_aload_n (pc := 44) C dX5_movedSince_44 rfl <|
    s_get (pc := 45) C (ci := 3) (kf := 0) rfl inX3 (by decide) wd_103 dX5_movedSince_45 <|
    s_iload (pc := 48) C dX5_movedSince_48 <|
    s_iald (pc := 50) C dX5_movedSince_50 <|
    s_aload_n (pc := 51) C dX5_movedSince_51 rfl <|
    s_get (pc := 52) C (ci := 3) (kf := 0) rfl inX3 (by decide) wd_103 dX5_movedSince_52 <|
    s_iload (pc := 55) C dX5_movedSince_55 <|
    s_iald (pc := 57) C dX5_movedSince_57 <|
    s_icmp_eq (pc := 58) C dX5_movedSince_58 (by decide) (s_cut q90064)
    (s_iinc (pc := 61) C dX5_movedSince_61 <|
    s_cut q90064))))
noncomputable def mg_X5_movedSince_90064 (h0 : Ob) (h1 : Ob) (h2 : Ob) (h3 : Ob) (h4 : Ob) (h5 : Ob) (h6 : Ob) (h7 : Ob) (h8 : Ob) (h9 : Ob) (h10 : Ob) (h11 : Ob) (h12 : Ob) (h13 : Ob) (h14 : Ob) (k90019 : (Int × Int) → Option Rt) (a : Int × Int) : Option Rt :=
 k90019 (a.1, (a.2 + 1))
set_option maxRecDepth 100000 in
set_option maxHeartbeats 4000000 in
theorem rq_X5_movedSince_90064 (h0 : Ob) (h1 : Ob) (h2 : Ob) (h3 : Ob) (h4 : Ob) (h5 : Ob) (h6 : Ob) (h7 : Ob) (h8 : Ob) (h9 : Ob) (h10 : Ob) (h11 : Ob) (h12 : Ob) (h13 : Ob) (h14 : Ob) (k90019 : XK) (a : Int × Int) : rg_X5_movedSince_90064 k90019 (en_X5_movedSince_90064 h0 h1 h2 h3 h4 h5 h6 h7 h8 h9 h10 h11 h12 h13 h14 a) = mg_X5_movedSince_90064 h0 h1 h2 h3 h4 h5 h6 h7 h8 h9 h10 h11 h12 h13 h14 (fun b => k90019 (en_X5_movedSince_90019 h0 h1 h2 h3 h4 h5 h6 h7 h8 h9 h10 h11 h12 h13 h14 b)) a := rfl
set_option maxRecDepth 100000 in
set_option maxHeartbeats 4000000 in
theorem sg_X5_movedSince_90064 {X : XDyn} {r0 : Rt} (C : XO X mX5_movedSince) {k90019 : XK} (q90019 : XS X mX5_movedSince r0 19 k90019) : XS X mX5_movedSince r0 64 (rg_X5_movedSince_90064 k90019) := by
 unfold rg_X5_movedSince_90064
 exact s_iinc (pc := 64) C dX5_movedSince_64 <|
    s_goto (pc := 67) C dX5_movedSince_67 (by decide) <|
    s_cut q90019
noncomputable def mg_X5_movedSince_100019 (h0 : Ob) (h1 : Ob) (h2 : Ob) (h3 : Ob) (h4 : Ob) (h5 : Ob) (h6 : Ob) (h7 : Ob) (h8 : Ob) (h9 : Ob) (h10 : Ob) (h11 : Ob) (h12 : Ob) (h13 : Ob) (h14 : Ob) (k100064 : (Int × Int) → Option Rt) (a : Int × Int) : Option Rt :=
 if xw a.2 ≥ 8 then (RI a.1 [h0, h1, h2, h3, h4, h5, h6, h7, h8, h9, h10, h11, h12, h13, h14])
 else (if xw (bz (ful h10 a.2)) = 0 then (k100064 (a.1, a.2))
 else (if xw (bz (ful h14 a.2)) = 0 then (k100064 (a.1, a.2))
 else (if xin a.2 11 then (
 if xin a.2 11 then (
 if xw (h10 1 (xw a.2).toNat) = xw (h14 1 (xw a.2).toNat) then (k100064 (a.1, a.2))
 else (k100064 ((a.1 + 1), a.2))) else none) else none)))
set_option maxRecDepth 100000 in
set_option maxHeartbeats 4000000 in
theorem rq_X5_movedSince_100019 (h0 : Ob) (h1 : Ob) (h2 : Ob) (h3 : Ob) (h4 : Ob) (h5 : Ob) (h6 : Ob) (h7 : Ob) (h8 : Ob) (h9 : Ob) (h10 : Ob) (h11 : Ob) (h12 : Ob) (h13 : Ob) (h14 : Ob) (k100064 : XK) (a : Int × Int) : rg_X5_movedSince_100019 k100064 (en_X5_movedSince_100019 h0 h1 h2 h3 h4 h5 h6 h7 h8 h9 h10 h11 h12 h13 h14 a) = mg_X5_movedSince_100019 h0 h1 h2 h3 h4 h5 h6 h7 h8 h9 h10 h11 h12 h13 h14 (fun b => k100064 (en_X5_movedSince_100064 h0 h1 h2 h3 h4 h5 h6 h7 h8 h9 h10 h11 h12 h13 h14 b)) a := rfl
set_option maxRecDepth 100000 in
set_option maxHeartbeats 4000000 in
theorem sg_X5_movedSince_100019 {X : XDyn} {r0 : Rt} (C : XO X mX5_movedSince) {k100064 : XK} (q100064 : XS X mX5_movedSince r0 64 k100064) : XS X mX5_movedSince r0 19 (rg_X5_movedSince_100019 k100064) := by
 unfold rg_X5_movedSince_100019
 exact s_iload (pc := 19) C dX5_movedSince_19 <|
    s_bipush (pc := 21) C dX5_movedSince_21 (by decide) <|
    s_icmp_ge (pc := 23) C dX5_movedSince_23 (by decide) (s_iload_n (pc := 70) C dX5_movedSince_70 rfl <|
    s_ireturn (pc := 71) C rfl dX5_movedSince_71)
    (s_aload_n (pc := 26) C dX5_movedSince_26 rfl <|
    s_iload (pc := 27) C dX5_movedSince_27 <|
    s_callV (pc := 29) C ct_X3_isFull (n := 2) (rk := 1) (mp := [10]) ⟨rfl, by decide, rfl⟩ (ci := 3) rfl rfl (by decide) (by decide) yi_X3_isFull (by decide) wd_705 wd_556 wd_557 wd_74 wd_558 dX5_movedSince_29 <|
    s_if_eq (pc := 32) C dX5_movedSince_32 (by decide) (s_cut q100064)
    (s_aload_n (pc := 35) C dX5_movedSince_35 rfl <|
    s_iload (pc := 36) C dX5_movedSince_36 <|
    s_callV (pc := 38) C ct_X3_isFull (n := 2) (rk := 1) (mp := [14]) ⟨rfl, by decide, rfl⟩ (ci := 3) rfl rfl (by decide) (by decide) yi_X3_isFull (by decide) wd_705 wd_556 wd_557 wd_74 wd_558 dX5_movedSince_38 <|
    s_if_eq (pc := 41) C dX5_movedSince_41 (by decide) (s_cut q100064)
    (s_aload_n (pc := 44) C dX5_movedSince_44 rfl <|
    s_get (pc := 45) C (ci := 3) (kf := 0) rfl inX3 (by decide) wd_103 dX5_movedSince_45 <|
    s_iload (pc := 48) C dX5_movedSince_48 <|
    s_iald (pc := 50) C dX5_movedSince_50 <|
    s_aload_n (pc := 51) C dX5_movedSince_51 rfl <|
    s_get (pc := 52) C (ci := 3) (kf := 0) rfl inX3 (by decide) wd_103 dX5_movedSince_52 <|
    s_iload (pc := 55) C dX5_movedSince_55 <|
    s_iald (pc := 57) C dX5_movedSince_57 <|
    s_icmp_eq (pc := 58) C dX5_movedSince_58 (by decide) (s_cut q100064)
    (s_iinc (pc := 61) C dX5_movedSince_61 <|
    s_cut q100064))))
noncomputable def mg_X5_movedSince_100064 (h0 : Ob) (h1 : Ob) (h2 : Ob) (h3 : Ob) (h4 : Ob) (h5 : Ob) (h6 : Ob) (h7 : Ob) (h8 : Ob) (h9 : Ob) (h10 : Ob) (h11 : Ob) (h12 : Ob) (h13 : Ob) (h14 : Ob) (k100019 : (Int × Int) → Option Rt) (a : Int × Int) : Option Rt :=
 k100019 (a.1, (a.2 + 1))
set_option maxRecDepth 100000 in
set_option maxHeartbeats 4000000 in
theorem rq_X5_movedSince_100064 (h0 : Ob) (h1 : Ob) (h2 : Ob) (h3 : Ob) (h4 : Ob) (h5 : Ob) (h6 : Ob) (h7 : Ob) (h8 : Ob) (h9 : Ob) (h10 : Ob) (h11 : Ob) (h12 : Ob) (h13 : Ob) (h14 : Ob) (k100019 : XK) (a : Int × Int) : rg_X5_movedSince_100064 k100019 (en_X5_movedSince_100064 h0 h1 h2 h3 h4 h5 h6 h7 h8 h9 h10 h11 h12 h13 h14 a) = mg_X5_movedSince_100064 h0 h1 h2 h3 h4 h5 h6 h7 h8 h9 h10 h11 h12 h13 h14 (fun b => k100019 (en_X5_movedSince_100019 h0 h1 h2 h3 h4 h5 h6 h7 h8 h9 h10 h11 h12 h13 h14 b)) a := rfl
set_option maxRecDepth 100000 in
set_option maxHeartbeats 4000000 in
theorem sg_X5_movedSince_100064 {X : XDyn} {r0 : Rt} (C : XO X mX5_movedSince) {k100019 : XK} (q100019 : XS X mX5_movedSince r0 19 k100019) : XS X mX5_movedSince r0 64 (rg_X5_movedSince_100064 k100019) := by
 unfold rg_X5_movedSince_100064
 exact s_iinc (pc := 64) C dX5_movedSince_64 <|
    s_goto (pc := 67) C dX5_movedSince_67 (by decide) <|
    s_cut q100019
noncomputable def mg_X5_movedSince_110019 (h0 : Ob) (h1 : Ob) (h2 : Ob) (h3 : Ob) (h4 : Ob) (h5 : Ob) (h6 : Ob) (h7 : Ob) (h8 : Ob) (h9 : Ob) (h10 : Ob) (h11 : Ob) (h12 : Ob) (h13 : Ob) (h14 : Ob) (k110064 : (Int × Int) → Option Rt) (a : Int × Int) : Option Rt :=
 if xw a.2 ≥ 8 then (RI a.1 [h0, h1, h2, h3, h4, h5, h6, h7, h8, h9, h10, h11, h12, h13, h14])
 else (if xw (bz (ful h11 a.2)) = 0 then (k110064 (a.1, a.2))
 else (if xw (bz (ful h14 a.2)) = 0 then (k110064 (a.1, a.2))
 else (if xin a.2 11 then (
 if xin a.2 11 then (
 if xw (h11 1 (xw a.2).toNat) = xw (h14 1 (xw a.2).toNat) then (k110064 (a.1, a.2))
 else (k110064 ((a.1 + 1), a.2))) else none) else none)))
set_option maxRecDepth 100000 in
set_option maxHeartbeats 4000000 in
theorem rq_X5_movedSince_110019 (h0 : Ob) (h1 : Ob) (h2 : Ob) (h3 : Ob) (h4 : Ob) (h5 : Ob) (h6 : Ob) (h7 : Ob) (h8 : Ob) (h9 : Ob) (h10 : Ob) (h11 : Ob) (h12 : Ob) (h13 : Ob) (h14 : Ob) (k110064 : XK) (a : Int × Int) : rg_X5_movedSince_110019 k110064 (en_X5_movedSince_110019 h0 h1 h2 h3 h4 h5 h6 h7 h8 h9 h10 h11 h12 h13 h14 a) = mg_X5_movedSince_110019 h0 h1 h2 h3 h4 h5 h6 h7 h8 h9 h10 h11 h12 h13 h14 (fun b => k110064 (en_X5_movedSince_110064 h0 h1 h2 h3 h4 h5 h6 h7 h8 h9 h10 h11 h12 h13 h14 b)) a := rfl
set_option maxRecDepth 100000 in
set_option maxHeartbeats 4000000 in
theorem sg_X5_movedSince_110019 {X : XDyn} {r0 : Rt} (C : XO X mX5_movedSince) {k110064 : XK} (q110064 : XS X mX5_movedSince r0 64 k110064) : XS X mX5_movedSince r0 19 (rg_X5_movedSince_110019 k110064) := by
 unfold rg_X5_movedSince_110019
 exact s_iload (pc := 19) C dX5_movedSince_19 <|
    s_bipush (pc := 21) C dX5_movedSince_21 (by decide) <|
    s_icmp_ge (pc := 23) C dX5_movedSince_23 (by decide) (s_iload_n (pc := 70) C dX5_movedSince_70 rfl <|
    s_ireturn (pc := 71) C rfl dX5_movedSince_71)
    (s_aload_n (pc := 26) C dX5_movedSince_26 rfl <|
    s_iload (pc := 27) C dX5_movedSince_27 <|
    s_callV (pc := 29) C ct_X3_isFull (n := 2) (rk := 1) (mp := [11]) ⟨rfl, by decide, rfl⟩ (ci := 3) rfl rfl (by decide) (by decide) yi_X3_isFull (by decide) wd_705 wd_556 wd_557 wd_74 wd_558 dX5_movedSince_29 <|
    s_if_eq (pc := 32) C dX5_movedSince_32 (by decide) (s_cut q110064)
    (s_aload_n (pc := 35) C dX5_movedSince_35 rfl <|
    s_iload (pc := 36) C dX5_movedSince_36 <|
    s_callV (pc := 38) C ct_X3_isFull (n := 2) (rk := 1) (mp := [14]) ⟨rfl, by decide, rfl⟩ (ci := 3) rfl rfl (by decide) (by decide) yi_X3_isFull (by decide) wd_705 wd_556 wd_557 wd_74 wd_558 dX5_movedSince_38 <|
    s_if_eq (pc := 41) C dX5_movedSince_41 (by decide) (s_cut q110064)
    (s_aload_n (pc := 44) C dX5_movedSince_44 rfl <|
    s_get (pc := 45) C (ci := 3) (kf := 0) rfl inX3 (by decide) wd_103 dX5_movedSince_45 <|
    s_iload (pc := 48) C dX5_movedSince_48 <|
    s_iald (pc := 50) C dX5_movedSince_50 <|
    s_aload_n (pc := 51) C dX5_movedSince_51 rfl <|
    s_get (pc := 52) C (ci := 3) (kf := 0) rfl inX3 (by decide) wd_103 dX5_movedSince_52 <|
    s_iload (pc := 55) C dX5_movedSince_55 <|
    s_iald (pc := 57) C dX5_movedSince_57 <|
    s_icmp_eq (pc := 58) C dX5_movedSince_58 (by decide) (s_cut q110064)
    (s_iinc (pc := 61) C dX5_movedSince_61 <|
    s_cut q110064))))
noncomputable def mg_X5_movedSince_110064 (h0 : Ob) (h1 : Ob) (h2 : Ob) (h3 : Ob) (h4 : Ob) (h5 : Ob) (h6 : Ob) (h7 : Ob) (h8 : Ob) (h9 : Ob) (h10 : Ob) (h11 : Ob) (h12 : Ob) (h13 : Ob) (h14 : Ob) (k110019 : (Int × Int) → Option Rt) (a : Int × Int) : Option Rt :=
 k110019 (a.1, (a.2 + 1))
set_option maxRecDepth 100000 in
set_option maxHeartbeats 4000000 in
theorem rq_X5_movedSince_110064 (h0 : Ob) (h1 : Ob) (h2 : Ob) (h3 : Ob) (h4 : Ob) (h5 : Ob) (h6 : Ob) (h7 : Ob) (h8 : Ob) (h9 : Ob) (h10 : Ob) (h11 : Ob) (h12 : Ob) (h13 : Ob) (h14 : Ob) (k110019 : XK) (a : Int × Int) : rg_X5_movedSince_110064 k110019 (en_X5_movedSince_110064 h0 h1 h2 h3 h4 h5 h6 h7 h8 h9 h10 h11 h12 h13 h14 a) = mg_X5_movedSince_110064 h0 h1 h2 h3 h4 h5 h6 h7 h8 h9 h10 h11 h12 h13 h14 (fun b => k110019 (en_X5_movedSince_110019 h0 h1 h2 h3 h4 h5 h6 h7 h8 h9 h10 h11 h12 h13 h14 b)) a := rfl
set_option maxRecDepth 100000 in
set_option maxHeartbeats 4000000 in
theorem sg_X5_movedSince_110064 {X : XDyn} {r0 : Rt} (C : XO X mX5_movedSince) {k110019 : XK} (q110019 : XS X mX5_movedSince r0 19 k110019) : XS X mX5_movedSince r0 64 (rg_X5_movedSince_110064 k110019) := by
 unfold rg_X5_movedSince_110064
 exact s_iinc (pc := 64) C dX5_movedSince_64 <|
    s_goto (pc := 67) C dX5_movedSince_67 (by decide) <|
    s_cut q110019
noncomputable def mg_X5_movedSince_120019 (h0 : Ob) (h1 : Ob) (h2 : Ob) (h3 : Ob) (h4 : Ob) (h5 : Ob) (h6 : Ob) (h7 : Ob) (h8 : Ob) (h9 : Ob) (h10 : Ob) (h11 : Ob) (h12 : Ob) (h13 : Ob) (h14 : Ob) (k120064 : (Int × Int) → Option Rt) (a : Int × Int) : Option Rt :=
 if xw a.2 ≥ 8 then (RI a.1 [h0, h1, h2, h3, h4, h5, h6, h7, h8, h9, h10, h11, h12, h13, h14])
 else (if xw (bz (ful h12 a.2)) = 0 then (k120064 (a.1, a.2))
 else (if xw (bz (ful h14 a.2)) = 0 then (k120064 (a.1, a.2))
 else (if xin a.2 11 then (
 if xin a.2 11 then (
 if xw (h12 1 (xw a.2).toNat) = xw (h14 1 (xw a.2).toNat) then (k120064 (a.1, a.2))
 else (k120064 ((a.1 + 1), a.2))) else none) else none)))
set_option maxRecDepth 100000 in
set_option maxHeartbeats 4000000 in
theorem rq_X5_movedSince_120019 (h0 : Ob) (h1 : Ob) (h2 : Ob) (h3 : Ob) (h4 : Ob) (h5 : Ob) (h6 : Ob) (h7 : Ob) (h8 : Ob) (h9 : Ob) (h10 : Ob) (h11 : Ob) (h12 : Ob) (h13 : Ob) (h14 : Ob) (k120064 : XK) (a : Int × Int) : rg_X5_movedSince_120019 k120064 (en_X5_movedSince_120019 h0 h1 h2 h3 h4 h5 h6 h7 h8 h9 h10 h11 h12 h13 h14 a) = mg_X5_movedSince_120019 h0 h1 h2 h3 h4 h5 h6 h7 h8 h9 h10 h11 h12 h13 h14 (fun b => k120064 (en_X5_movedSince_120064 h0 h1 h2 h3 h4 h5 h6 h7 h8 h9 h10 h11 h12 h13 h14 b)) a := rfl
set_option maxRecDepth 100000 in
set_option maxHeartbeats 4000000 in
theorem sg_X5_movedSince_120019 {X : XDyn} {r0 : Rt} (C : XO X mX5_movedSince) {k120064 : XK} (q120064 : XS X mX5_movedSince r0 64 k120064) : XS X mX5_movedSince r0 19 (rg_X5_movedSince_120019 k120064) := by
 unfold rg_X5_movedSince_120019
 exact s_iload (pc := 19) C dX5_movedSince_19 <|
    s_bipush (pc := 21) C dX5_movedSince_21 (by decide) <|
    s_icmp_ge (pc := 23) C dX5_movedSince_23 (by decide) (s_iload_n (pc := 70) C dX5_movedSince_70 rfl <|
    s_ireturn (pc := 71) C rfl dX5_movedSince_71)
    (s_aload_n (pc := 26) C dX5_movedSince_26 rfl <|
    s_iload (pc := 27) C dX5_movedSince_27 <|
    s_callV (pc := 29) C ct_X3_isFull (n := 2) (rk := 1) (mp := [12]) ⟨rfl, by decide, rfl⟩ (ci := 3) rfl rfl (by decide) (by decide) yi_X3_isFull (by decide) wd_705 wd_556 wd_557 wd_74 wd_558 dX5_movedSince_29 <|
    s_if_eq (pc := 32) C dX5_movedSince_32 (by decide) (s_cut q120064)
    (s_aload_n (pc := 35) C dX5_movedSince_35 rfl <|
    s_iload (pc := 36) C dX5_movedSince_36 <|
    s_callV (pc := 38) C ct_X3_isFull (n := 2) (rk := 1) (mp := [14]) ⟨rfl, by decide, rfl⟩ (ci := 3) rfl rfl (by decide) (by decide) yi_X3_isFull (by decide) wd_705 wd_556 wd_557 wd_74 wd_558 dX5_movedSince_38 <|
    s_if_eq (pc := 41) C dX5_movedSince_41 (by decide) (s_cut q120064)
    (s_aload_n (pc := 44) C dX5_movedSince_44 rfl <|
    s_get (pc := 45) C (ci := 3) (kf := 0) rfl inX3 (by decide) wd_103 dX5_movedSince_45 <|
    s_iload (pc := 48) C dX5_movedSince_48 <|
    s_iald (pc := 50) C dX5_movedSince_50 <|
    s_aload_n (pc := 51) C dX5_movedSince_51 rfl <|
    s_get (pc := 52) C (ci := 3) (kf := 0) rfl inX3 (by decide) wd_103 dX5_movedSince_52 <|
    s_iload (pc := 55) C dX5_movedSince_55 <|
    s_iald (pc := 57) C dX5_movedSince_57 <|
    s_icmp_eq (pc := 58) C dX5_movedSince_58 (by decide) (s_cut q120064)
    (s_iinc (pc := 61) C dX5_movedSince_61 <|
    s_cut q120064))))
noncomputable def mg_X5_movedSince_120064 (h0 : Ob) (h1 : Ob) (h2 : Ob) (h3 : Ob) (h4 : Ob) (h5 : Ob) (h6 : Ob) (h7 : Ob) (h8 : Ob) (h9 : Ob) (h10 : Ob) (h11 : Ob) (h12 : Ob) (h13 : Ob) (h14 : Ob) (k120019 : (Int × Int) → Option Rt) (a : Int × Int) : Option Rt :=
 k120019 (a.1, (a.2 + 1))
set_option maxRecDepth 100000 in
set_option maxHeartbeats 4000000 in
theorem rq_X5_movedSince_120064 (h0 : Ob) (h1 : Ob) (h2 : Ob) (h3 : Ob) (h4 : Ob) (h5 : Ob) (h6 : Ob) (h7 : Ob) (h8 : Ob) (h9 : Ob) (h10 : Ob) (h11 : Ob) (h12 : Ob) (h13 : Ob) (h14 : Ob) (k120019 : XK) (a : Int × Int) : rg_X5_movedSince_120064 k120019 (en_X5_movedSince_120064 h0 h1 h2 h3 h4 h5 h6 h7 h8 h9 h10 h11 h12 h13 h14 a) = mg_X5_movedSince_120064 h0 h1 h2 h3 h4 h5 h6 h7 h8 h9 h10 h11 h12 h13 h14 (fun b => k120019 (en_X5_movedSince_120019 h0 h1 h2 h3 h4 h5 h6 h7 h8 h9 h10 h11 h12 h13 h14 b)) a := rfl
set_option maxRecDepth 100000 in
set_option maxHeartbeats 4000000 in
theorem sg_X5_movedSince_120064 {X : XDyn} {r0 : Rt} (C : XO X mX5_movedSince) {k120019 : XK} (q120019 : XS X mX5_movedSince r0 19 k120019) : XS X mX5_movedSince r0 64 (rg_X5_movedSince_120064 k120019) := by
 unfold rg_X5_movedSince_120064
 exact s_iinc (pc := 64) C dX5_movedSince_64 <|
    s_goto (pc := 67) C dX5_movedSince_67 (by decide) <|
    s_cut q120019
noncomputable def mg_X5_movedSince_130019 (h0 : Ob) (h1 : Ob) (h2 : Ob) (h3 : Ob) (h4 : Ob) (h5 : Ob) (h6 : Ob) (h7 : Ob) (h8 : Ob) (h9 : Ob) (h10 : Ob) (h11 : Ob) (h12 : Ob) (h13 : Ob) (h14 : Ob) (k130064 : (Int × Int) → Option Rt) (a : Int × Int) : Option Rt :=
 if xw a.2 ≥ 8 then (RI a.1 [h0, h1, h2, h3, h4, h5, h6, h7, h8, h9, h10, h11, h12, h13, h14])
 else (if xw (bz (ful h13 a.2)) = 0 then (k130064 (a.1, a.2))
 else (if xw (bz (ful h14 a.2)) = 0 then (k130064 (a.1, a.2))
 else (if xin a.2 11 then (
 if xin a.2 11 then (
 if xw (h13 1 (xw a.2).toNat) = xw (h14 1 (xw a.2).toNat) then (k130064 (a.1, a.2))
 else (k130064 ((a.1 + 1), a.2))) else none) else none)))
set_option maxRecDepth 100000 in
set_option maxHeartbeats 4000000 in
theorem rq_X5_movedSince_130019 (h0 : Ob) (h1 : Ob) (h2 : Ob) (h3 : Ob) (h4 : Ob) (h5 : Ob) (h6 : Ob) (h7 : Ob) (h8 : Ob) (h9 : Ob) (h10 : Ob) (h11 : Ob) (h12 : Ob) (h13 : Ob) (h14 : Ob) (k130064 : XK) (a : Int × Int) : rg_X5_movedSince_130019 k130064 (en_X5_movedSince_130019 h0 h1 h2 h3 h4 h5 h6 h7 h8 h9 h10 h11 h12 h13 h14 a) = mg_X5_movedSince_130019 h0 h1 h2 h3 h4 h5 h6 h7 h8 h9 h10 h11 h12 h13 h14 (fun b => k130064 (en_X5_movedSince_130064 h0 h1 h2 h3 h4 h5 h6 h7 h8 h9 h10 h11 h12 h13 h14 b)) a := rfl
set_option maxRecDepth 100000 in
set_option maxHeartbeats 4000000 in
theorem sg_X5_movedSince_130019 {X : XDyn} {r0 : Rt} (C : XO X mX5_movedSince) {k130064 : XK} (q130064 : XS X mX5_movedSince r0 64 k130064) : XS X mX5_movedSince r0 19 (rg_X5_movedSince_130019 k130064) := by
 unfold rg_X5_movedSince_130019
 exact s_iload (pc := 19) C dX5_movedSince_19 <|
    s_bipush (pc := 21) C dX5_movedSince_21 (by decide) <|
    s_icmp_ge (pc := 23) C dX5_movedSince_23 (by decide) (s_iload_n (pc := 70) C dX5_movedSince_70 rfl <|
    s_ireturn (pc := 71) C rfl dX5_movedSince_71)
    (s_aload_n (pc := 26) C dX5_movedSince_26 rfl <|
    s_iload (pc := 27) C dX5_movedSince_27 <|
    s_callV (pc := 29) C ct_X3_isFull (n := 2) (rk := 1) (mp := [13]) ⟨rfl, by decide, rfl⟩ (ci := 3) rfl rfl (by decide) (by decide) yi_X3_isFull (by decide) wd_705 wd_556 wd_557 wd_74 wd_558 dX5_movedSince_29 <|
    s_if_eq (pc := 32) C dX5_movedSince_32 (by decide) (s_cut q130064)
    (s_aload_n (pc := 35) C dX5_movedSince_35 rfl <|
    s_iload (pc := 36) C dX5_movedSince_36 <|
    s_callV (pc := 38) C ct_X3_isFull (n := 2) (rk := 1) (mp := [14]) ⟨rfl, by decide, rfl⟩ (ci := 3) rfl rfl (by decide) (by decide) yi_X3_isFull (by decide) wd_705 wd_556 wd_557 wd_74 wd_558 dX5_movedSince_38 <|
    s_if_eq (pc := 41) C dX5_movedSince_41 (by decide) (s_cut q130064)
    (s_aload_n (pc := 44) C dX5_movedSince_44 rfl <|
    s_get (pc := 45) C (ci := 3) (kf := 0) rfl inX3 (by decide) wd_103 dX5_movedSince_45 <|
    s_iload (pc := 48) C dX5_movedSince_48 <|
    s_iald (pc := 50) C dX5_movedSince_50 <|
    s_aload_n (pc := 51) C dX5_movedSince_51 rfl <|
    s_get (pc := 52) C (ci := 3) (kf := 0) rfl inX3 (by decide) wd_103 dX5_movedSince_52 <|
    s_iload (pc := 55) C dX5_movedSince_55 <|
    s_iald (pc := 57) C dX5_movedSince_57 <|
    s_icmp_eq (pc := 58) C dX5_movedSince_58 (by decide) (s_cut q130064)
    (s_iinc (pc := 61) C dX5_movedSince_61 <|
    s_cut q130064))))
noncomputable def mg_X5_movedSince_130064 (h0 : Ob) (h1 : Ob) (h2 : Ob) (h3 : Ob) (h4 : Ob) (h5 : Ob) (h6 : Ob) (h7 : Ob) (h8 : Ob) (h9 : Ob) (h10 : Ob) (h11 : Ob) (h12 : Ob) (h13 : Ob) (h14 : Ob) (k130019 : (Int × Int) → Option Rt) (a : Int × Int) : Option Rt :=
 k130019 (a.1, (a.2 + 1))
set_option maxRecDepth 100000 in
set_option maxHeartbeats 4000000 in
theorem rq_X5_movedSince_130064 (h0 : Ob) (h1 : Ob) (h2 : Ob) (h3 : Ob) (h4 : Ob) (h5 : Ob) (h6 : Ob) (h7 : Ob) (h8 : Ob) (h9 : Ob) (h10 : Ob) (h11 : Ob) (h12 : Ob) (h13 : Ob) (h14 : Ob) (k130019 : XK) (a : Int × Int) : rg_X5_movedSince_130064 k130019 (en_X5_movedSince_130064 h0 h1 h2 h3 h4 h5 h6 h7 h8 h9 h10 h11 h12 h13 h14 a) = mg_X5_movedSince_130064 h0 h1 h2 h3 h4 h5 h6 h7 h8 h9 h10 h11 h12 h13 h14 (fun b => k130019 (en_X5_movedSince_130019 h0 h1 h2 h3 h4 h5 h6 h7 h8 h9 h10 h11 h12 h13 h14 b)) a := rfl
set_option maxRecDepth 100000 in
set_option maxHeartbeats 4000000 in
theorem sg_X5_movedSince_130064 {X : XDyn} {r0 : Rt} (C : XO X mX5_movedSince) {k130019 : XK} (q130019 : XS X mX5_movedSince r0 19 k130019) : XS X mX5_movedSince r0 64 (rg_X5_movedSince_130064 k130019) := by
 unfold rg_X5_movedSince_130064
 exact s_iinc (pc := 64) C dX5_movedSince_64 <|
    s_goto (pc := 67) C dX5_movedSince_67 (by decide) <|
    s_cut q130019
noncomputable def rw_X5_movedSince_10064 (f : Nat) (k10019 : XK) : XK := rg_X5_movedSince_10064 k10019
noncomputable def md_X5_movedSince_10064 (h0 : Ob) (h1 : Ob) (h2 : Ob) (h3 : Ob) (h4 : Ob) (h5 : Ob) (h6 : Ob) (h7 : Ob) (h8 : Ob) (h9 : Ob) (h10 : Ob) (h11 : Ob) (h12 : Ob) (h13 : Ob) (h14 : Ob) (f : Nat) (k10019 : (Int × Int) → Option Rt) : Int × Int → Option Rt := mg_X5_movedSince_10064 h0 h1 h2 h3 h4 h5 h6 h7 h8 h9 h10 h11 h12 h13 h14 k10019
theorem eq_X5_movedSince_10064 (h0 : Ob) (h1 : Ob) (h2 : Ob) (h3 : Ob) (h4 : Ob) (h5 : Ob) (h6 : Ob) (h7 : Ob) (h8 : Ob) (h9 : Ob) (h10 : Ob) (h11 : Ob) (h12 : Ob) (h13 : Ob) (h14 : Ob) (f : Nat) (k10019 : XK) (a : Int × Int) : rw_X5_movedSince_10064 f k10019 (en_X5_movedSince_10064 h0 h1 h2 h3 h4 h5 h6 h7 h8 h9 h10 h11 h12 h13 h14 a) = md_X5_movedSince_10064 h0 h1 h2 h3 h4 h5 h6 h7 h8 h9 h10 h11 h12 h13 h14 f (fun b => k10019 (en_X5_movedSince_10019 h0 h1 h2 h3 h4 h5 h6 h7 h8 h9 h10 h11 h12 h13 h14 b)) a :=
 (rq_X5_movedSince_10064 h0 h1 h2 h3 h4 h5 h6 h7 h8 h9 h10 h11 h12 h13 h14 k10019 a).trans (congrFun (congr (rfl : mg_X5_movedSince_10064 h0 h1 h2 h3 h4 h5 h6 h7 h8 h9 h10 h11 h12 h13 h14 = mg_X5_movedSince_10064 h0 h1 h2 h3 h4 h5 h6 h7 h8 h9 h10 h11 h12 h13 h14) rfl) a)
theorem sd_X5_movedSince_10064 (f : Nat) {X : XDyn} {r0 : Rt} (C : XO X mX5_movedSince) {k10019 : XK} (q10019 : XS X mX5_movedSince r0 19 k10019) : XS X mX5_movedSince r0 64 (rw_X5_movedSince_10064 f k10019) := sg_X5_movedSince_10064 C q10019
noncomputable def rw_X5_movedSince_10019 (f : Nat) : XK := tlp (fun k10019 => rg_X5_movedSince_10019 (rw_X5_movedSince_10064 f k10019)) f
noncomputable def lb_X5_movedSince_10019 (h0 : Ob) (h1 : Ob) (h2 : Ob) (h3 : Ob) (h4 : Ob) (h5 : Ob) (h6 : Ob) (h7 : Ob) (h8 : Ob) (h9 : Ob) (h10 : Ob) (h11 : Ob) (h12 : Ob) (h13 : Ob) (h14 : Ob) (f : Nat) : ((Int × Int) → Option Rt) → Int × Int → Option Rt := fun k10019 => mg_X5_movedSince_10019 h0 h1 h2 h3 h4 h5 h6 h7 h8 h9 h10 h11 h12 h13 h14 (md_X5_movedSince_10064 h0 h1 h2 h3 h4 h5 h6 h7 h8 h9 h10 h11 h12 h13 h14 f k10019)
noncomputable def md_X5_movedSince_10019 (h0 : Ob) (h1 : Ob) (h2 : Ob) (h3 : Ob) (h4 : Ob) (h5 : Ob) (h6 : Ob) (h7 : Ob) (h8 : Ob) (h9 : Ob) (h10 : Ob) (h11 : Ob) (h12 : Ob) (h13 : Ob) (h14 : Ob) (f : Nat) : Int × Int → Option Rt := tlp (lb_X5_movedSince_10019 h0 h1 h2 h3 h4 h5 h6 h7 h8 h9 h10 h11 h12 h13 h14 f) f
theorem eq_X5_movedSince_10019 (h0 : Ob) (h1 : Ob) (h2 : Ob) (h3 : Ob) (h4 : Ob) (h5 : Ob) (h6 : Ob) (h7 : Ob) (h8 : Ob) (h9 : Ob) (h10 : Ob) (h11 : Ob) (h12 : Ob) (h13 : Ob) (h14 : Ob) (f : Nat) (a : Int × Int) : rw_X5_movedSince_10019 f (en_X5_movedSince_10019 h0 h1 h2 h3 h4 h5 h6 h7 h8 h9 h10 h11 h12 h13 h14 a) = md_X5_movedSince_10019 h0 h1 h2 h3 h4 h5 h6 h7 h8 h9 h10 h11 h12 h13 h14 f a :=
 tlp_enc (en_X5_movedSince_10019 h0 h1 h2 h3 h4 h5 h6 h7 h8 h9 h10 h11 h12 h13 h14) (fun k10019 a => (rq_X5_movedSince_10019 h0 h1 h2 h3 h4 h5 h6 h7 h8 h9 h10 h11 h12 h13 h14 (rw_X5_movedSince_10064 f k10019) a).trans (congrFun (congr (rfl : mg_X5_movedSince_10019 h0 h1 h2 h3 h4 h5 h6 h7 h8 h9 h10 h11 h12 h13 h14 = mg_X5_movedSince_10019 h0 h1 h2 h3 h4 h5 h6 h7 h8 h9 h10 h11 h12 h13 h14) (funext (eq_X5_movedSince_10064 h0 h1 h2 h3 h4 h5 h6 h7 h8 h9 h10 h11 h12 h13 h14 f k10019))) a)) f a
theorem sd_X5_movedSince_10019 (f : Nat) {X : XDyn} {r0 : Rt} (C : XO X mX5_movedSince) : XS X mX5_movedSince r0 19 (rw_X5_movedSince_10019 f) := s_lp (fun k10019 q10019 => sg_X5_movedSince_10019 C (sd_X5_movedSince_10064 f C q10019)) f
noncomputable def rw_X5_movedSince_20064 (f : Nat) (k20019 : XK) : XK := rg_X5_movedSince_20064 k20019
noncomputable def md_X5_movedSince_20064 (h0 : Ob) (h1 : Ob) (h2 : Ob) (h3 : Ob) (h4 : Ob) (h5 : Ob) (h6 : Ob) (h7 : Ob) (h8 : Ob) (h9 : Ob) (h10 : Ob) (h11 : Ob) (h12 : Ob) (h13 : Ob) (h14 : Ob) (f : Nat) (k20019 : (Int × Int) → Option Rt) : Int × Int → Option Rt := mg_X5_movedSince_20064 h0 h1 h2 h3 h4 h5 h6 h7 h8 h9 h10 h11 h12 h13 h14 k20019
theorem eq_X5_movedSince_20064 (h0 : Ob) (h1 : Ob) (h2 : Ob) (h3 : Ob) (h4 : Ob) (h5 : Ob) (h6 : Ob) (h7 : Ob) (h8 : Ob) (h9 : Ob) (h10 : Ob) (h11 : Ob) (h12 : Ob) (h13 : Ob) (h14 : Ob) (f : Nat) (k20019 : XK) (a : Int × Int) : rw_X5_movedSince_20064 f k20019 (en_X5_movedSince_20064 h0 h1 h2 h3 h4 h5 h6 h7 h8 h9 h10 h11 h12 h13 h14 a) = md_X5_movedSince_20064 h0 h1 h2 h3 h4 h5 h6 h7 h8 h9 h10 h11 h12 h13 h14 f (fun b => k20019 (en_X5_movedSince_20019 h0 h1 h2 h3 h4 h5 h6 h7 h8 h9 h10 h11 h12 h13 h14 b)) a :=
 (rq_X5_movedSince_20064 h0 h1 h2 h3 h4 h5 h6 h7 h8 h9 h10 h11 h12 h13 h14 k20019 a).trans (congrFun (congr (rfl : mg_X5_movedSince_20064 h0 h1 h2 h3 h4 h5 h6 h7 h8 h9 h10 h11 h12 h13 h14 = mg_X5_movedSince_20064 h0 h1 h2 h3 h4 h5 h6 h7 h8 h9 h10 h11 h12 h13 h14) rfl) a)
theorem sd_X5_movedSince_20064 (f : Nat) {X : XDyn} {r0 : Rt} (C : XO X mX5_movedSince) {k20019 : XK} (q20019 : XS X mX5_movedSince r0 19 k20019) : XS X mX5_movedSince r0 64 (rw_X5_movedSince_20064 f k20019) := sg_X5_movedSince_20064 C q20019
noncomputable def rw_X5_movedSince_20019 (f : Nat) : XK := tlp (fun k20019 => rg_X5_movedSince_20019 (rw_X5_movedSince_20064 f k20019)) f
noncomputable def lb_X5_movedSince_20019 (h0 : Ob) (h1 : Ob) (h2 : Ob) (h3 : Ob) (h4 : Ob) (h5 : Ob) (h6 : Ob) (h7 : Ob) (h8 : Ob) (h9 : Ob) (h10 : Ob) (h11 : Ob) (h12 : Ob) (h13 : Ob) (h14 : Ob) (f : Nat) : ((Int × Int) → Option Rt) → Int × Int → Option Rt := fun k20019 => mg_X5_movedSince_20019 h0 h1 h2 h3 h4 h5 h6 h7 h8 h9 h10 h11 h12 h13 h14 (md_X5_movedSince_20064 h0 h1 h2 h3 h4 h5 h6 h7 h8 h9 h10 h11 h12 h13 h14 f k20019)
noncomputable def md_X5_movedSince_20019 (h0 : Ob) (h1 : Ob) (h2 : Ob) (h3 : Ob) (h4 : Ob) (h5 : Ob) (h6 : Ob) (h7 : Ob) (h8 : Ob) (h9 : Ob) (h10 : Ob) (h11 : Ob) (h12 : Ob) (h13 : Ob) (h14 : Ob) (f : Nat) : Int × Int → Option Rt := tlp (lb_X5_movedSince_20019 h0 h1 h2 h3 h4 h5 h6 h7 h8 h9 h10 h11 h12 h13 h14 f) f
theorem eq_X5_movedSince_20019 (h0 : Ob) (h1 : Ob) (h2 : Ob) (h3 : Ob) (h4 : Ob) (h5 : Ob) (h6 : Ob) (h7 : Ob) (h8 : Ob) (h9 : Ob) (h10 : Ob) (h11 : Ob) (h12 : Ob) (h13 : Ob) (h14 : Ob) (f : Nat) (a : Int × Int) : rw_X5_movedSince_20019 f (en_X5_movedSince_20019 h0 h1 h2 h3 h4 h5 h6 h7 h8 h9 h10 h11 h12 h13 h14 a) = md_X5_movedSince_20019 h0 h1 h2 h3 h4 h5 h6 h7 h8 h9 h10 h11 h12 h13 h14 f a :=
 tlp_enc (en_X5_movedSince_20019 h0 h1 h2 h3 h4 h5 h6 h7 h8 h9 h10 h11 h12 h13 h14) (fun k20019 a => (rq_X5_movedSince_20019 h0 h1 h2 h3 h4 h5 h6 h7 h8 h9 h10 h11 h12 h13 h14 (rw_X5_movedSince_20064 f k20019) a).trans (congrFun (congr (rfl : mg_X5_movedSince_20019 h0 h1 h2 h3 h4 h5 h6 h7 h8 h9 h10 h11 h12 h13 h14 = mg_X5_movedSince_20019 h0 h1 h2 h3 h4 h5 h6 h7 h8 h9 h10 h11 h12 h13 h14) (funext (eq_X5_movedSince_20064 h0 h1 h2 h3 h4 h5 h6 h7 h8 h9 h10 h11 h12 h13 h14 f k20019))) a)) f a
theorem sd_X5_movedSince_20019 (f : Nat) {X : XDyn} {r0 : Rt} (C : XO X mX5_movedSince) : XS X mX5_movedSince r0 19 (rw_X5_movedSince_20019 f) := s_lp (fun k20019 q20019 => sg_X5_movedSince_20019 C (sd_X5_movedSince_20064 f C q20019)) f
noncomputable def rw_X5_movedSince_30064 (f : Nat) (k30019 : XK) : XK := rg_X5_movedSince_30064 k30019
noncomputable def md_X5_movedSince_30064 (h0 : Ob) (h1 : Ob) (h2 : Ob) (h3 : Ob) (h4 : Ob) (h5 : Ob) (h6 : Ob) (h7 : Ob) (h8 : Ob) (h9 : Ob) (h10 : Ob) (h11 : Ob) (h12 : Ob) (h13 : Ob) (h14 : Ob) (f : Nat) (k30019 : (Int × Int) → Option Rt) : Int × Int → Option Rt := mg_X5_movedSince_30064 h0 h1 h2 h3 h4 h5 h6 h7 h8 h9 h10 h11 h12 h13 h14 k30019
theorem eq_X5_movedSince_30064 (h0 : Ob) (h1 : Ob) (h2 : Ob) (h3 : Ob) (h4 : Ob) (h5 : Ob) (h6 : Ob) (h7 : Ob) (h8 : Ob) (h9 : Ob) (h10 : Ob) (h11 : Ob) (h12 : Ob) (h13 : Ob) (h14 : Ob) (f : Nat) (k30019 : XK) (a : Int × Int) : rw_X5_movedSince_30064 f k30019 (en_X5_movedSince_30064 h0 h1 h2 h3 h4 h5 h6 h7 h8 h9 h10 h11 h12 h13 h14 a) = md_X5_movedSince_30064 h0 h1 h2 h3 h4 h5 h6 h7 h8 h9 h10 h11 h12 h13 h14 f (fun b => k30019 (en_X5_movedSince_30019 h0 h1 h2 h3 h4 h5 h6 h7 h8 h9 h10 h11 h12 h13 h14 b)) a :=
 (rq_X5_movedSince_30064 h0 h1 h2 h3 h4 h5 h6 h7 h8 h9 h10 h11 h12 h13 h14 k30019 a).trans (congrFun (congr (rfl : mg_X5_movedSince_30064 h0 h1 h2 h3 h4 h5 h6 h7 h8 h9 h10 h11 h12 h13 h14 = mg_X5_movedSince_30064 h0 h1 h2 h3 h4 h5 h6 h7 h8 h9 h10 h11 h12 h13 h14) rfl) a)
theorem sd_X5_movedSince_30064 (f : Nat) {X : XDyn} {r0 : Rt} (C : XO X mX5_movedSince) {k30019 : XK} (q30019 : XS X mX5_movedSince r0 19 k30019) : XS X mX5_movedSince r0 64 (rw_X5_movedSince_30064 f k30019) := sg_X5_movedSince_30064 C q30019
noncomputable def rw_X5_movedSince_30019 (f : Nat) : XK := tlp (fun k30019 => rg_X5_movedSince_30019 (rw_X5_movedSince_30064 f k30019)) f
noncomputable def lb_X5_movedSince_30019 (h0 : Ob) (h1 : Ob) (h2 : Ob) (h3 : Ob) (h4 : Ob) (h5 : Ob) (h6 : Ob) (h7 : Ob) (h8 : Ob) (h9 : Ob) (h10 : Ob) (h11 : Ob) (h12 : Ob) (h13 : Ob) (h14 : Ob) (f : Nat) : ((Int × Int) → Option Rt) → Int × Int → Option Rt := fun k30019 => mg_X5_movedSince_30019 h0 h1 h2 h3 h4 h5 h6 h7 h8 h9 h10 h11 h12 h13 h14 (md_X5_movedSince_30064 h0 h1 h2 h3 h4 h5 h6 h7 h8 h9 h10 h11 h12 h13 h14 f k30019)
noncomputable def md_X5_movedSince_30019 (h0 : Ob) (h1 : Ob) (h2 : Ob) (h3 : Ob) (h4 : Ob) (h5 : Ob) (h6 : Ob) (h7 : Ob) (h8 : Ob) (h9 : Ob) (h10 : Ob) (h11 : Ob) (h12 : Ob) (h13 : Ob) (h14 : Ob) (f : Nat) : Int × Int → Option Rt := tlp (lb_X5_movedSince_30019 h0 h1 h2 h3 h4 h5 h6 h7 h8 h9 h10 h11 h12 h13 h14 f) f
theorem eq_X5_movedSince_30019 (h0 : Ob) (h1 : Ob) (h2 : Ob) (h3 : Ob) (h4 : Ob) (h5 : Ob) (h6 : Ob) (h7 : Ob) (h8 : Ob) (h9 : Ob) (h10 : Ob) (h11 : Ob) (h12 : Ob) (h13 : Ob) (h14 : Ob) (f : Nat) (a : Int × Int) : rw_X5_movedSince_30019 f (en_X5_movedSince_30019 h0 h1 h2 h3 h4 h5 h6 h7 h8 h9 h10 h11 h12 h13 h14 a) = md_X5_movedSince_30019 h0 h1 h2 h3 h4 h5 h6 h7 h8 h9 h10 h11 h12 h13 h14 f a :=
 tlp_enc (en_X5_movedSince_30019 h0 h1 h2 h3 h4 h5 h6 h7 h8 h9 h10 h11 h12 h13 h14) (fun k30019 a => (rq_X5_movedSince_30019 h0 h1 h2 h3 h4 h5 h6 h7 h8 h9 h10 h11 h12 h13 h14 (rw_X5_movedSince_30064 f k30019) a).trans (congrFun (congr (rfl : mg_X5_movedSince_30019 h0 h1 h2 h3 h4 h5 h6 h7 h8 h9 h10 h11 h12 h13 h14 = mg_X5_movedSince_30019 h0 h1 h2 h3 h4 h5 h6 h7 h8 h9 h10 h11 h12 h13 h14) (funext (eq_X5_movedSince_30064 h0 h1 h2 h3 h4 h5 h6 h7 h8 h9 h10 h11 h12 h13 h14 f k30019))) a)) f a
theorem sd_X5_movedSince_30019 (f : Nat) {X : XDyn} {r0 : Rt} (C : XO X mX5_movedSince) : XS X mX5_movedSince r0 19 (rw_X5_movedSince_30019 f) := s_lp (fun k30019 q30019 => sg_X5_movedSince_30019 C (sd_X5_movedSince_30064 f C q30019)) f
noncomputable def rw_X5_movedSince_40064 (f : Nat) (k40019 : XK) : XK := rg_X5_movedSince_40064 k40019
noncomputable def md_X5_movedSince_40064 (h0 : Ob) (h1 : Ob) (h2 : Ob) (h3 : Ob) (h4 : Ob) (h5 : Ob) (h6 : Ob) (h7 : Ob) (h8 : Ob) (h9 : Ob) (h10 : Ob) (h11 : Ob) (h12 : Ob) (h13 : Ob) (h14 : Ob) (f : Nat) (k40019 : (Int × Int) → Option Rt) : Int × Int → Option Rt := mg_X5_movedSince_40064 h0 h1 h2 h3 h4 h5 h6 h7 h8 h9 h10 h11 h12 h13 h14 k40019
theorem eq_X5_movedSince_40064 (h0 : Ob) (h1 : Ob) (h2 : Ob) (h3 : Ob) (h4 : Ob) (h5 : Ob) (h6 : Ob) (h7 : Ob) (h8 : Ob) (h9 : Ob) (h10 : Ob) (h11 : Ob) (h12 : Ob) (h13 : Ob) (h14 : Ob) (f : Nat) (k40019 : XK) (a : Int × Int) : rw_X5_movedSince_40064 f k40019 (en_X5_movedSince_40064 h0 h1 h2 h3 h4 h5 h6 h7 h8 h9 h10 h11 h12 h13 h14 a) = md_X5_movedSince_40064 h0 h1 h2 h3 h4 h5 h6 h7 h8 h9 h10 h11 h12 h13 h14 f (fun b => k40019 (en_X5_movedSince_40019 h0 h1 h2 h3 h4 h5 h6 h7 h8 h9 h10 h11 h12 h13 h14 b)) a :=
 (rq_X5_movedSince_40064 h0 h1 h2 h3 h4 h5 h6 h7 h8 h9 h10 h11 h12 h13 h14 k40019 a).trans (congrFun (congr (rfl : mg_X5_movedSince_40064 h0 h1 h2 h3 h4 h5 h6 h7 h8 h9 h10 h11 h12 h13 h14 = mg_X5_movedSince_40064 h0 h1 h2 h3 h4 h5 h6 h7 h8 h9 h10 h11 h12 h13 h14) rfl) a)
theorem sd_X5_movedSince_40064 (f : Nat) {X : XDyn} {r0 : Rt} (C : XO X mX5_movedSince) {k40019 : XK} (q40019 : XS X mX5_movedSince r0 19 k40019) : XS X mX5_movedSince r0 64 (rw_X5_movedSince_40064 f k40019) := sg_X5_movedSince_40064 C q40019
noncomputable def rw_X5_movedSince_40019 (f : Nat) : XK := tlp (fun k40019 => rg_X5_movedSince_40019 (rw_X5_movedSince_40064 f k40019)) f
noncomputable def lb_X5_movedSince_40019 (h0 : Ob) (h1 : Ob) (h2 : Ob) (h3 : Ob) (h4 : Ob) (h5 : Ob) (h6 : Ob) (h7 : Ob) (h8 : Ob) (h9 : Ob) (h10 : Ob) (h11 : Ob) (h12 : Ob) (h13 : Ob) (h14 : Ob) (f : Nat) : ((Int × Int) → Option Rt) → Int × Int → Option Rt := fun k40019 => mg_X5_movedSince_40019 h0 h1 h2 h3 h4 h5 h6 h7 h8 h9 h10 h11 h12 h13 h14 (md_X5_movedSince_40064 h0 h1 h2 h3 h4 h5 h6 h7 h8 h9 h10 h11 h12 h13 h14 f k40019)
noncomputable def md_X5_movedSince_40019 (h0 : Ob) (h1 : Ob) (h2 : Ob) (h3 : Ob) (h4 : Ob) (h5 : Ob) (h6 : Ob) (h7 : Ob) (h8 : Ob) (h9 : Ob) (h10 : Ob) (h11 : Ob) (h12 : Ob) (h13 : Ob) (h14 : Ob) (f : Nat) : Int × Int → Option Rt := tlp (lb_X5_movedSince_40019 h0 h1 h2 h3 h4 h5 h6 h7 h8 h9 h10 h11 h12 h13 h14 f) f
theorem eq_X5_movedSince_40019 (h0 : Ob) (h1 : Ob) (h2 : Ob) (h3 : Ob) (h4 : Ob) (h5 : Ob) (h6 : Ob) (h7 : Ob) (h8 : Ob) (h9 : Ob) (h10 : Ob) (h11 : Ob) (h12 : Ob) (h13 : Ob) (h14 : Ob) (f : Nat) (a : Int × Int) : rw_X5_movedSince_40019 f (en_X5_movedSince_40019 h0 h1 h2 h3 h4 h5 h6 h7 h8 h9 h10 h11 h12 h13 h14 a) = md_X5_movedSince_40019 h0 h1 h2 h3 h4 h5 h6 h7 h8 h9 h10 h11 h12 h13 h14 f a :=
 tlp_enc (en_X5_movedSince_40019 h0 h1 h2 h3 h4 h5 h6 h7 h8 h9 h10 h11 h12 h13 h14) (fun k40019 a => (rq_X5_movedSince_40019 h0 h1 h2 h3 h4 h5 h6 h7 h8 h9 h10 h11 h12 h13 h14 (rw_X5_movedSince_40064 f k40019) a).trans (congrFun (congr (rfl : mg_X5_movedSince_40019 h0 h1 h2 h3 h4 h5 h6 h7 h8 h9 h10 h11 h12 h13 h14 = mg_X5_movedSince_40019 h0 h1 h2 h3 h4 h5 h6 h7 h8 h9 h10 h11 h12 h13 h14) (funext (eq_X5_movedSince_40064 h0 h1 h2 h3 h4 h5 h6 h7 h8 h9 h10 h11 h12 h13 h14 f k40019))) a)) f a
theorem sd_X5_movedSince_40019 (f : Nat) {X : XDyn} {r0 : Rt} (C : XO X mX5_movedSince) : XS X mX5_movedSince r0 19 (rw_X5_movedSince_40019 f) := s_lp (fun k40019 q40019 => sg_X5_movedSince_40019 C (sd_X5_movedSince_40064 f C q40019)) f
noncomputable def rw_X5_movedSince_50064 (f : Nat) (k50019 : XK) : XK := rg_X5_movedSince_50064 k50019
noncomputable def md_X5_movedSince_50064 (h0 : Ob) (h1 : Ob) (h2 : Ob) (h3 : Ob) (h4 : Ob) (h5 : Ob) (h6 : Ob) (h7 : Ob) (h8 : Ob) (h9 : Ob) (h10 : Ob) (h11 : Ob) (h12 : Ob) (h13 : Ob) (h14 : Ob) (f : Nat) (k50019 : (Int × Int) → Option Rt) : Int × Int → Option Rt := mg_X5_movedSince_50064 h0 h1 h2 h3 h4 h5 h6 h7 h8 h9 h10 h11 h12 h13 h14 k50019
theorem eq_X5_movedSince_50064 (h0 : Ob) (h1 : Ob) (h2 : Ob) (h3 : Ob) (h4 : Ob) (h5 : Ob) (h6 : Ob) (h7 : Ob) (h8 : Ob) (h9 : Ob) (h10 : Ob) (h11 : Ob) (h12 : Ob) (h13 : Ob) (h14 : Ob) (f : Nat) (k50019 : XK) (a : Int × Int) : rw_X5_movedSince_50064 f k50019 (en_X5_movedSince_50064 h0 h1 h2 h3 h4 h5 h6 h7 h8 h9 h10 h11 h12 h13 h14 a) = md_X5_movedSince_50064 h0 h1 h2 h3 h4 h5 h6 h7 h8 h9 h10 h11 h12 h13 h14 f (fun b => k50019 (en_X5_movedSince_50019 h0 h1 h2 h3 h4 h5 h6 h7 h8 h9 h10 h11 h12 h13 h14 b)) a :=
 (rq_X5_movedSince_50064 h0 h1 h2 h3 h4 h5 h6 h7 h8 h9 h10 h11 h12 h13 h14 k50019 a).trans (congrFun (congr (rfl : mg_X5_movedSince_50064 h0 h1 h2 h3 h4 h5 h6 h7 h8 h9 h10 h11 h12 h13 h14 = mg_X5_movedSince_50064 h0 h1 h2 h3 h4 h5 h6 h7 h8 h9 h10 h11 h12 h13 h14) rfl) a)
theorem sd_X5_movedSince_50064 (f : Nat) {X : XDyn} {r0 : Rt} (C : XO X mX5_movedSince) {k50019 : XK} (q50019 : XS X mX5_movedSince r0 19 k50019) : XS X mX5_movedSince r0 64 (rw_X5_movedSince_50064 f k50019) := sg_X5_movedSince_50064 C q50019
noncomputable def rw_X5_movedSince_50019 (f : Nat) : XK := tlp (fun k50019 => rg_X5_movedSince_50019 (rw_X5_movedSince_50064 f k50019)) f
noncomputable def lb_X5_movedSince_50019 (h0 : Ob) (h1 : Ob) (h2 : Ob) (h3 : Ob) (h4 : Ob) (h5 : Ob) (h6 : Ob) (h7 : Ob) (h8 : Ob) (h9 : Ob) (h10 : Ob) (h11 : Ob) (h12 : Ob) (h13 : Ob) (h14 : Ob) (f : Nat) : ((Int × Int) → Option Rt) → Int × Int → Option Rt := fun k50019 => mg_X5_movedSince_50019 h0 h1 h2 h3 h4 h5 h6 h7 h8 h9 h10 h11 h12 h13 h14 (md_X5_movedSince_50064 h0 h1 h2 h3 h4 h5 h6 h7 h8 h9 h10 h11 h12 h13 h14 f k50019)
noncomputable def md_X5_movedSince_50019 (h0 : Ob) (h1 : Ob) (h2 : Ob) (h3 : Ob) (h4 : Ob) (h5 : Ob) (h6 : Ob) (h7 : Ob) (h8 : Ob) (h9 : Ob) (h10 : Ob) (h11 : Ob) (h12 : Ob) (h13 : Ob) (h14 : Ob) (f : Nat) : Int × Int → Option Rt := tlp (lb_X5_movedSince_50019 h0 h1 h2 h3 h4 h5 h6 h7 h8 h9 h10 h11 h12 h13 h14 f) f
theorem eq_X5_movedSince_50019 (h0 : Ob) (h1 : Ob) (h2 : Ob) (h3 : Ob) (h4 : Ob) (h5 : Ob) (h6 : Ob) (h7 : Ob) (h8 : Ob) (h9 : Ob) (h10 : Ob) (h11 : Ob) (h12 : Ob) (h13 : Ob) (h14 : Ob) (f : Nat) (a : Int × Int) : rw_X5_movedSince_50019 f (en_X5_movedSince_50019 h0 h1 h2 h3 h4 h5 h6 h7 h8 h9 h10 h11 h12 h13 h14 a) = md_X5_movedSince_50019 h0 h1 h2 h3 h4 h5 h6 h7 h8 h9 h10 h11 h12 h13 h14 f a :=
 tlp_enc (en_X5_movedSince_50019 h0 h1 h2 h3 h4 h5 h6 h7 h8 h9 h10 h11 h12 h13 h14) (fun k50019 a => (rq_X5_movedSince_50019 h0 h1 h2 h3 h4 h5 h6 h7 h8 h9 h10 h11 h12 h13 h14 (rw_X5_movedSince_50064 f k50019) a).trans (congrFun (congr (rfl : mg_X5_movedSince_50019 h0 h1 h2 h3 h4 h5 h6 h7 h8 h9 h10 h11 h12 h13 h14 = mg_X5_movedSince_50019 h0 h1 h2 h3 h4 h5 h6 h7 h8 h9 h10 h11 h12 h13 h14) (funext (eq_X5_movedSince_50064 h0 h1 h2 h3 h4 h5 h6 h7 h8 h9 h10 h11 h12 h13 h14 f k50019))) a)) f a
theorem sd_X5_movedSince_50019 (f : Nat) {X : XDyn} {r0 : Rt} (C : XO X mX5_movedSince) : XS X mX5_movedSince r0 19 (rw_X5_movedSince_50019 f) := s_lp (fun k50019 q50019 => sg_X5_movedSince_50019 C (sd_X5_movedSince_50064 f C q50019)) f
noncomputable def rw_X5_movedSince_60064 (f : Nat) (k60019 : XK) : XK := rg_X5_movedSince_60064 k60019
noncomputable def md_X5_movedSince_60064 (h0 : Ob) (h1 : Ob) (h2 : Ob) (h3 : Ob) (h4 : Ob) (h5 : Ob) (h6 : Ob) (h7 : Ob) (h8 : Ob) (h9 : Ob) (h10 : Ob) (h11 : Ob) (h12 : Ob) (h13 : Ob) (h14 : Ob) (f : Nat) (k60019 : (Int × Int) → Option Rt) : Int × Int → Option Rt := mg_X5_movedSince_60064 h0 h1 h2 h3 h4 h5 h6 h7 h8 h9 h10 h11 h12 h13 h14 k60019
theorem eq_X5_movedSince_60064 (h0 : Ob) (h1 : Ob) (h2 : Ob) (h3 : Ob) (h4 : Ob) (h5 : Ob) (h6 : Ob) (h7 : Ob) (h8 : Ob) (h9 : Ob) (h10 : Ob) (h11 : Ob) (h12 : Ob) (h13 : Ob) (h14 : Ob) (f : Nat) (k60019 : XK) (a : Int × Int) : rw_X5_movedSince_60064 f k60019 (en_X5_movedSince_60064 h0 h1 h2 h3 h4 h5 h6 h7 h8 h9 h10 h11 h12 h13 h14 a) = md_X5_movedSince_60064 h0 h1 h2 h3 h4 h5 h6 h7 h8 h9 h10 h11 h12 h13 h14 f (fun b => k60019 (en_X5_movedSince_60019 h0 h1 h2 h3 h4 h5 h6 h7 h8 h9 h10 h11 h12 h13 h14 b)) a :=
 (rq_X5_movedSince_60064 h0 h1 h2 h3 h4 h5 h6 h7 h8 h9 h10 h11 h12 h13 h14 k60019 a).trans (congrFun (congr (rfl : mg_X5_movedSince_60064 h0 h1 h2 h3 h4 h5 h6 h7 h8 h9 h10 h11 h12 h13 h14 = mg_X5_movedSince_60064 h0 h1 h2 h3 h4 h5 h6 h7 h8 h9 h10 h11 h12 h13 h14) rfl) a)
theorem sd_X5_movedSince_60064 (f : Nat) {X : XDyn} {r0 : Rt} (C : XO X mX5_movedSince) {k60019 : XK} (q60019 : XS X mX5_movedSince r0 19 k60019) : XS X mX5_movedSince r0 64 (rw_X5_movedSince_60064 f k60019) := sg_X5_movedSince_60064 C q60019
noncomputable def rw_X5_movedSince_60019 (f : Nat) : XK := tlp (fun k60019 => rg_X5_movedSince_60019 (rw_X5_movedSince_60064 f k60019)) f
noncomputable def lb_X5_movedSince_60019 (h0 : Ob) (h1 : Ob) (h2 : Ob) (h3 : Ob) (h4 : Ob) (h5 : Ob) (h6 : Ob) (h7 : Ob) (h8 : Ob) (h9 : Ob) (h10 : Ob) (h11 : Ob) (h12 : Ob) (h13 : Ob) (h14 : Ob) (f : Nat) : ((Int × Int) → Option Rt) → Int × Int → Option Rt := fun k60019 => mg_X5_movedSince_60019 h0 h1 h2 h3 h4 h5 h6 h7 h8 h9 h10 h11 h12 h13 h14 (md_X5_movedSince_60064 h0 h1 h2 h3 h4 h5 h6 h7 h8 h9 h10 h11 h12 h13 h14 f k60019)
noncomputable def md_X5_movedSince_60019 (h0 : Ob) (h1 : Ob) (h2 : Ob) (h3 : Ob) (h4 : Ob) (h5 : Ob) (h6 : Ob) (h7 : Ob) (h8 : Ob) (h9 : Ob) (h10 : Ob) (h11 : Ob) (h12 : Ob) (h13 : Ob) (h14 : Ob) (f : Nat) : Int × Int → Option Rt := tlp (lb_X5_movedSince_60019 h0 h1 h2 h3 h4 h5 h6 h7 h8 h9 h10 h11 h12 h13 h14 f) f
theorem eq_X5_movedSince_60019 (h0 : Ob) (h1 : Ob) (h2 : Ob) (h3 : Ob) (h4 : Ob) (h5 : Ob) (h6 : Ob) (h7 : Ob) (h8 : Ob) (h9 : Ob) (h10 : Ob) (h11 : Ob) (h12 : Ob) (h13 : Ob) (h14 : Ob) (f : Nat) (a : Int × Int) : rw_X5_movedSince_60019 f (en_X5_movedSince_60019 h0 h1 h2 h3 h4 h5 h6 h7 h8 h9 h10 h11 h12 h13 h14 a) = md_X5_movedSince_60019 h0 h1 h2 h3 h4 h5 h6 h7 h8 h9 h10 h11 h12 h13 h14 f a :=
 tlp_enc (en_X5_movedSince_60019 h0 h1 h2 h3 h4 h5 h6 h7 h8 h9 h10 h11 h12 h13 h14) (fun k60019 a => (rq_X5_movedSince_60019 h0 h1 h2 h3 h4 h5 h6 h7 h8 h9 h10 h11 h12 h13 h14 (rw_X5_movedSince_60064 f k60019) a).trans (congrFun (congr (rfl : mg_X5_movedSince_60019 h0 h1 h2 h3 h4 h5 h6 h7 h8 h9 h10 h11 h12 h13 h14 = mg_X5_movedSince_60019 h0 h1 h2 h3 h4 h5 h6 h7 h8 h9 h10 h11 h12 h13 h14) (funext (eq_X5_movedSince_60064 h0 h1 h2 h3 h4 h5 h6 h7 h8 h9 h10 h11 h12 h13 h14 f k60019))) a)) f a
theorem sd_X5_movedSince_60019 (f : Nat) {X : XDyn} {r0 : Rt} (C : XO X mX5_movedSince) : XS X mX5_movedSince r0 19 (rw_X5_movedSince_60019 f) := s_lp (fun k60019 q60019 => sg_X5_movedSince_60019 C (sd_X5_movedSince_60064 f C q60019)) f
noncomputable def rw_X5_movedSince_70064 (f : Nat) (k70019 : XK) : XK := rg_X5_movedSince_70064 k70019
noncomputable def md_X5_movedSince_70064 (h0 : Ob) (h1 : Ob) (h2 : Ob) (h3 : Ob) (h4 : Ob) (h5 : Ob) (h6 : Ob) (h7 : Ob) (h8 : Ob) (h9 : Ob) (h10 : Ob) (h11 : Ob) (h12 : Ob) (h13 : Ob) (h14 : Ob) (f : Nat) (k70019 : (Int × Int) → Option Rt) : Int × Int → Option Rt := mg_X5_movedSince_70064 h0 h1 h2 h3 h4 h5 h6 h7 h8 h9 h10 h11 h12 h13 h14 k70019
theorem eq_X5_movedSince_70064 (h0 : Ob) (h1 : Ob) (h2 : Ob) (h3 : Ob) (h4 : Ob) (h5 : Ob) (h6 : Ob) (h7 : Ob) (h8 : Ob) (h9 : Ob) (h10 : Ob) (h11 : Ob) (h12 : Ob) (h13 : Ob) (h14 : Ob) (f : Nat) (k70019 : XK) (a : Int × Int) : rw_X5_movedSince_70064 f k70019 (en_X5_movedSince_70064 h0 h1 h2 h3 h4 h5 h6 h7 h8 h9 h10 h11 h12 h13 h14 a) = md_X5_movedSince_70064 h0 h1 h2 h3 h4 h5 h6 h7 h8 h9 h10 h11 h12 h13 h14 f (fun b => k70019 (en_X5_movedSince_70019 h0 h1 h2 h3 h4 h5 h6 h7 h8 h9 h10 h11 h12 h13 h14 b)) a :=
 (rq_X5_movedSince_70064 h0 h1 h2 h3 h4 h5 h6 h7 h8 h9 h10 h11 h12 h13 h14 k70019 a).trans (congrFun (congr (rfl : mg_X5_movedSince_70064 h0 h1 h2 h3 h4 h5 h6 h7 h8 h9 h10 h11 h12 h13 h14 = mg_X5_movedSince_70064 h0 h1 h2 h3 h4 h5 h6 h7 h8 h9 h10 h11 h12 h13 h14) rfl) a)
theorem sd_X5_movedSince_70064 (f : Nat) {X : XDyn} {r0 : Rt} (C : XO X mX5_movedSince) {k70019 : XK} (q70019 : XS X mX5_movedSince r0 19 k70019) : XS X mX5_movedSince r0 64 (rw_X5_movedSince_70064 f k70019) := sg_X5_movedSince_70064 C q70019
noncomputable def rw_X5_movedSince_70019 (f : Nat) : XK := tlp (fun k70019 => rg_X5_movedSince_70019 (rw_X5_movedSince_70064 f k70019)) f
noncomputable def lb_X5_movedSince_70019 (h0 : Ob) (h1 : Ob) (h2 : Ob) (h3 : Ob) (h4 : Ob) (h5 : Ob) (h6 : Ob) (h7 : Ob) (h8 : Ob) (h9 : Ob) (h10 : Ob) (h11 : Ob) (h12 : Ob) (h13 : Ob) (h14 : Ob) (f : Nat) : ((Int × Int) → Option Rt) → Int × Int → Option Rt := fun k70019 => mg_X5_movedSince_70019 h0 h1 h2 h3 h4 h5 h6 h7 h8 h9 h10 h11 h12 h13 h14 (md_X5_movedSince_70064 h0 h1 h2 h3 h4 h5 h6 h7 h8 h9 h10 h11 h12 h13 h14 f k70019)
noncomputable def md_X5_movedSince_70019 (h0 : Ob) (h1 : Ob) (h2 : Ob) (h3 : Ob) (h4 : Ob) (h5 : Ob) (h6 : Ob) (h7 : Ob) (h8 : Ob) (h9 : Ob) (h10 : Ob) (h11 : Ob) (h12 : Ob) (h13 : Ob) (h14 : Ob) (f : Nat) : Int × Int → Option Rt := tlp (lb_X5_movedSince_70019 h0 h1 h2 h3 h4 h5 h6 h7 h8 h9 h10 h11 h12 h13 h14 f) f
theorem eq_X5_movedSince_70019 (h0 : Ob) (h1 : Ob) (h2 : Ob) (h3 : Ob) (h4 : Ob) (h5 : Ob) (h6 : Ob) (h7 : Ob) (h8 : Ob) (h9 : Ob) (h10 : Ob) (h11 : Ob) (h12 : Ob) (h13 : Ob) (h14 : Ob) (f : Nat) (a : Int × Int) : rw_X5_movedSince_70019 f (en_X5_movedSince_70019 h0 h1 h2 h3 h4 h5 h6 h7 h8 h9 h10 h11 h12 h13 h14 a) = md_X5_movedSince_70019 h0 h1 h2 h3 h4 h5 h6 h7 h8 h9 h10 h11 h12 h13 h14 f a :=
 tlp_enc (en_X5_movedSince_70019 h0 h1 h2 h3 h4 h5 h6 h7 h8 h9 h10 h11 h12 h13 h14) (fun k70019 a => (rq_X5_movedSince_70019 h0 h1 h2 h3 h4 h5 h6 h7 h8 h9 h10 h11 h12 h13 h14 (rw_X5_movedSince_70064 f k70019) a).trans (congrFun (congr (rfl : mg_X5_movedSince_70019 h0 h1 h2 h3 h4 h5 h6 h7 h8 h9 h10 h11 h12 h13 h14 = mg_X5_movedSince_70019 h0 h1 h2 h3 h4 h5 h6 h7 h8 h9 h10 h11 h12 h13 h14) (funext (eq_X5_movedSince_70064 h0 h1 h2 h3 h4 h5 h6 h7 h8 h9 h10 h11 h12 h13 h14 f k70019))) a)) f a
theorem sd_X5_movedSince_70019 (f : Nat) {X : XDyn} {r0 : Rt} (C : XO X mX5_movedSince) : XS X mX5_movedSince r0 19 (rw_X5_movedSince_70019 f) := s_lp (fun k70019 q70019 => sg_X5_movedSince_70019 C (sd_X5_movedSince_70064 f C q70019)) f
noncomputable def rw_X5_movedSince_80064 (f : Nat) (k80019 : XK) : XK := rg_X5_movedSince_80064 k80019
noncomputable def md_X5_movedSince_80064 (h0 : Ob) (h1 : Ob) (h2 : Ob) (h3 : Ob) (h4 : Ob) (h5 : Ob) (h6 : Ob) (h7 : Ob) (h8 : Ob) (h9 : Ob) (h10 : Ob) (h11 : Ob) (h12 : Ob) (h13 : Ob) (h14 : Ob) (f : Nat) (k80019 : (Int × Int) → Option Rt) : Int × Int → Option Rt := mg_X5_movedSince_80064 h0 h1 h2 h3 h4 h5 h6 h7 h8 h9 h10 h11 h12 h13 h14 k80019
theorem eq_X5_movedSince_80064 (h0 : Ob) (h1 : Ob) (h2 : Ob) (h3 : Ob) (h4 : Ob) (h5 : Ob) (h6 : Ob) (h7 : Ob) (h8 : Ob) (h9 : Ob) (h10 : Ob) (h11 : Ob) (h12 : Ob) (h13 : Ob) (h14 : Ob) (f : Nat) (k80019 : XK) (a : Int × Int) : rw_X5_movedSince_80064 f k80019 (en_X5_movedSince_80064 h0 h1 h2 h3 h4 h5 h6 h7 h8 h9 h10 h11 h12 h13 h14 a) = md_X5_movedSince_80064 h0 h1 h2 h3 h4 h5 h6 h7 h8 h9 h10 h11 h12 h13 h14 f (fun b => k80019 (en_X5_movedSince_80019 h0 h1 h2 h3 h4 h5 h6 h7 h8 h9 h10 h11 h12 h13 h14 b)) a :=
 (rq_X5_movedSince_80064 h0 h1 h2 h3 h4 h5 h6 h7 h8 h9 h10 h11 h12 h13 h14 k80019 a).trans (congrFun (congr (rfl : mg_X5_movedSince_80064 h0 h1 h2 h3 h4 h5 h6 h7 h8 h9 h10 h11 h12 h13 h14 = mg_X5_movedSince_80064 h0 h1 h2 h3 h4 h5 h6 h7 h8 h9 h10 h11 h12 h13 h14) rfl) a)
theorem sd_X5_movedSince_80064 (f : Nat) {X : XDyn} {r0 : Rt} (C : XO X mX5_movedSince) {k80019 : XK} (q80019 : XS X mX5_movedSince r0 19 k80019) : XS X mX5_movedSince r0 64 (rw_X5_movedSince_80064 f k80019) := sg_X5_movedSince_80064 C q80019
noncomputable def rw_X5_movedSince_80019 (f : Nat) : XK := tlp (fun k80019 => rg_X5_movedSince_80019 (rw_X5_movedSince_80064 f k80019)) f
noncomputable def lb_X5_movedSince_80019 (h0 : Ob) (h1 : Ob) (h2 : Ob) (h3 : Ob) (h4 : Ob) (h5 : Ob) (h6 : Ob) (h7 : Ob) (h8 : Ob) (h9 : Ob) (h10 : Ob) (h11 : Ob) (h12 : Ob) (h13 : Ob) (h14 : Ob) (f : Nat) : ((Int × Int) → Option Rt) → Int × Int → Option Rt := fun k80019 => mg_X5_movedSince_80019 h0 h1 h2 h3 h4 h5 h6 h7 h8 h9 h10 h11 h12 h13 h14 (md_X5_movedSince_80064 h0 h1 h2 h3 h4 h5 h6 h7 h8 h9 h10 h11 h12 h13 h14 f k80019)
noncomputable def md_X5_movedSince_80019 (h0 : Ob) (h1 : Ob) (h2 : Ob) (h3 : Ob) (h4 : Ob) (h5 : Ob) (h6 : Ob) (h7 : Ob) (h8 : Ob) (h9 : Ob) (h10 : Ob) (h11 : Ob) (h12 : Ob) (h13 : Ob) (h14 : Ob) (f : Nat) : Int × Int → Option Rt := tlp (lb_X5_movedSince_80019 h0 h1 h2 h3 h4 h5 h6 h7 h8 h9 h10 h11 h12 h13 h14 f) f
theorem eq_X5_movedSince_80019 (h0 : Ob) (h1 : Ob) (h2 : Ob) (h3 : Ob) (h4 : Ob) (h5 : Ob) (h6 : Ob) (h7 : Ob) (h8 : Ob) (h9 : Ob) (h10 : Ob) (h11 : Ob) (h12 : Ob) (h13 : Ob) (h14 : Ob) (f : Nat) (a : Int × Int) : rw_X5_movedSince_80019 f (en_X5_movedSince_80019 h0 h1 h2 h3 h4 h5 h6 h7 h8 h9 h10 h11 h12 h13 h14 a) = md_X5_movedSince_80019 h0 h1 h2 h3 h4 h5 h6 h7 h8 h9 h10 h11 h12 h13 h14 f a :=
 tlp_enc (en_X5_movedSince_80019 h0 h1 h2 h3 h4 h5 h6 h7 h8 h9 h10 h11 h12 h13 h14) (fun k80019 a => (rq_X5_movedSince_80019 h0 h1 h2 h3 h4 h5 h6 h7 h8 h9 h10 h11 h12 h13 h14 (rw_X5_movedSince_80064 f k80019) a).trans (congrFun (congr (rfl : mg_X5_movedSince_80019 h0 h1 h2 h3 h4 h5 h6 h7 h8 h9 h10 h11 h12 h13 h14 = mg_X5_movedSince_80019 h0 h1 h2 h3 h4 h5 h6 h7 h8 h9 h10 h11 h12 h13 h14) (funext (eq_X5_movedSince_80064 h0 h1 h2 h3 h4 h5 h6 h7 h8 h9 h10 h11 h12 h13 h14 f k80019))) a)) f a
theorem sd_X5_movedSince_80019 (f : Nat) {X : XDyn} {r0 : Rt} (C : XO X mX5_movedSince) : XS X mX5_movedSince r0 19 (rw_X5_movedSince_80019 f) := s_lp (fun k80019 q80019 => sg_X5_movedSince_80019 C (sd_X5_movedSince_80064 f C q80019)) f
noncomputable def rw_X5_movedSince_90064 (f : Nat) (k90019 : XK) : XK := rg_X5_movedSince_90064 k90019
noncomputable def md_X5_movedSince_90064 (h0 : Ob) (h1 : Ob) (h2 : Ob) (h3 : Ob) (h4 : Ob) (h5 : Ob) (h6 : Ob) (h7 : Ob) (h8 : Ob) (h9 : Ob) (h10 : Ob) (h11 : Ob) (h12 : Ob) (h13 : Ob) (h14 : Ob) (f : Nat) (k90019 : (Int × Int) → Option Rt) : Int × Int → Option Rt := mg_X5_movedSince_90064 h0 h1 h2 h3 h4 h5 h6 h7 h8 h9 h10 h11 h12 h13 h14 k90019
theorem eq_X5_movedSince_90064 (h0 : Ob) (h1 : Ob) (h2 : Ob) (h3 : Ob) (h4 : Ob) (h5 : Ob) (h6 : Ob) (h7 : Ob) (h8 : Ob) (h9 : Ob) (h10 : Ob) (h11 : Ob) (h12 : Ob) (h13 : Ob) (h14 : Ob) (f : Nat) (k90019 : XK) (a : Int × Int) : rw_X5_movedSince_90064 f k90019 (en_X5_movedSince_90064 h0 h1 h2 h3 h4 h5 h6 h7 h8 h9 h10 h11 h12 h13 h14 a) = md_X5_movedSince_90064 h0 h1 h2 h3 h4 h5 h6 h7 h8 h9 h10 h11 h12 h13 h14 f (fun b => k90019 (en_X5_movedSince_90019 h0 h1 h2 h3 h4 h5 h6 h7 h8 h9 h10 h11 h12 h13 h14 b)) a :=
 (rq_X5_movedSince_90064 h0 h1 h2 h3 h4 h5 h6 h7 h8 h9 h10 h11 h12 h13 h14 k90019 a).trans (congrFun (congr (rfl : mg_X5_movedSince_90064 h0 h1 h2 h3 h4 h5 h6 h7 h8 h9 h10 h11 h12 h13 h14 = mg_X5_movedSince_90064 h0 h1 h2 h3 h4 h5 h6 h7 h8 h9 h10 h11 h12 h13 h14) rfl) a)
theorem sd_X5_movedSince_90064 (f : Nat) {X : XDyn} {r0 : Rt} (C : XO X mX5_movedSince) {k90019 : XK} (q90019 : XS X mX5_movedSince r0 19 k90019) : XS X mX5_movedSince r0 64 (rw_X5_movedSince_90064 f k90019) := sg_X5_movedSince_90064 C q90019
noncomputable def rw_X5_movedSince_90019 (f : Nat) : XK := tlp (fun k90019 => rg_X5_movedSince_90019 (rw_X5_movedSince_90064 f k90019)) f
noncomputable def lb_X5_movedSince_90019 (h0 : Ob) (h1 : Ob) (h2 : Ob) (h3 : Ob) (h4 : Ob) (h5 : Ob) (h6 : Ob) (h7 : Ob) (h8 : Ob) (h9 : Ob) (h10 : Ob) (h11 : Ob) (h12 : Ob) (h13 : Ob) (h14 : Ob) (f : Nat) : ((Int × Int) → Option Rt) → Int × Int → Option Rt := fun k90019 => mg_X5_movedSince_90019 h0 h1 h2 h3 h4 h5 h6 h7 h8 h9 h10 h11 h12 h13 h14 (md_X5_movedSince_90064 h0 h1 h2 h3 h4 h5 h6 h7 h8 h9 h10 h11 h12 h13 h14 f k90019)
noncomputable def md_X5_movedSince_90019 (h0 : Ob) (h1 : Ob) (h2 : Ob) (h3 : Ob) (h4 : Ob) (h5 : Ob) (h6 : Ob) (h7 : Ob) (h8 : Ob) (h9 : Ob) (h10 : Ob) (h11 : Ob) (h12 : Ob) (h13 : Ob) (h14 : Ob) (f : Nat) : Int × Int → Option Rt := tlp (lb_X5_movedSince_90019 h0 h1 h2 h3 h4 h5 h6 h7 h8 h9 h10 h11 h12 h13 h14 f) f
theorem eq_X5_movedSince_90019 (h0 : Ob) (h1 : Ob) (h2 : Ob) (h3 : Ob) (h4 : Ob) (h5 : Ob) (h6 : Ob) (h7 : Ob) (h8 : Ob) (h9 : Ob) (h10 : Ob) (h11 : Ob) (h12 : Ob) (h13 : Ob) (h14 : Ob) (f : Nat) (a : Int × Int) : rw_X5_movedSince_90019 f (en_X5_movedSince_90019 h0 h1 h2 h3 h4 h5 h6 h7 h8 h9 h10 h11 h12 h13 h14 a) = md_X5_movedSince_90019 h0 h1 h2 h3 h4 h5 h6 h7 h8 h9 h10 h11 h12 h13 h14 f a :=
 tlp_enc (en_X5_movedSince_90019 h0 h1 h2 h3 h4 h5 h6 h7 h8 h9 h10 h11 h12 h13 h14) (fun k90019 a => (rq_X5_movedSince_90019 h0 h1 h2 h3 h4 h5 h6 h7 h8 h9 h10 h11 h12 h13 h14 (rw_X5_movedSince_90064 f k90019) a).trans (congrFun (congr (rfl : mg_X5_movedSince_90019 h0 h1 h2 h3 h4 h5 h6 h7 h8 h9 h10 h11 h12 h13 h14 = mg_X5_movedSince_90019 h0 h1 h2 h3 h4 h5 h6 h7 h8 h9 h10 h11 h12 h13 h14) (funext (eq_X5_movedSince_90064 h0 h1 h2 h3 h4 h5 h6 h7 h8 h9 h10 h11 h12 h13 h14 f k90019))) a)) f a
theorem sd_X5_movedSince_90019 (f : Nat) {X : XDyn} {r0 : Rt} (C : XO X mX5_movedSince) : XS X mX5_movedSince r0 19 (rw_X5_movedSince_90019 f) := s_lp (fun k90019 q90019 => sg_X5_movedSince_90019 C (sd_X5_movedSince_90064 f C q90019)) f
noncomputable def rw_X5_movedSince_100064 (f : Nat) (k100019 : XK) : XK := rg_X5_movedSince_100064 k100019
noncomputable def md_X5_movedSince_100064 (h0 : Ob) (h1 : Ob) (h2 : Ob) (h3 : Ob) (h4 : Ob) (h5 : Ob) (h6 : Ob) (h7 : Ob) (h8 : Ob) (h9 : Ob) (h10 : Ob) (h11 : Ob) (h12 : Ob) (h13 : Ob) (h14 : Ob) (f : Nat) (k100019 : (Int × Int) → Option Rt) : Int × Int → Option Rt := mg_X5_movedSince_100064 h0 h1 h2 h3 h4 h5 h6 h7 h8 h9 h10 h11 h12 h13 h14 k100019
theorem eq_X5_movedSince_100064 (h0 : Ob) (h1 : Ob) (h2 : Ob) (h3 : Ob) (h4 : Ob) (h5 : Ob) (h6 : Ob) (h7 : Ob) (h8 : Ob) (h9 : Ob) (h10 : Ob) (h11 : Ob) (h12 : Ob) (h13 : Ob) (h14 : Ob) (f : Nat) (k100019 : XK) (a : Int × Int) : rw_X5_movedSince_100064 f k100019 (en_X5_movedSince_100064 h0 h1 h2 h3 h4 h5 h6 h7 h8 h9 h10 h11 h12 h13 h14 a) = md_X5_movedSince_100064 h0 h1 h2 h3 h4 h5 h6 h7 h8 h9 h10 h11 h12 h13 h14 f (fun b => k100019 (en_X5_movedSince_100019 h0 h1 h2 h3 h4 h5 h6 h7 h8 h9 h10 h11 h12 h13 h14 b)) a :=
 (rq_X5_movedSince_100064 h0 h1 h2 h3 h4 h5 h6 h7 h8 h9 h10 h11 h12 h13 h14 k100019 a).trans (congrFun (congr (rfl : mg_X5_movedSince_100064 h0 h1 h2 h3 h4 h5 h6 h7 h8 h9 h10 h11 h12 h13 h14 = mg_X5_movedSince_100064 h0 h1 h2 h3 h4 h5 h6 h7 h8 h9 h10 h11 h12 h13 h14) rfl) a)
theorem sd_X5_movedSince_100064 (f : Nat) {X : XDyn} {r0 : Rt} (C : XO X mX5_movedSince) {k100019 : XK} (q100019 : XS X mX5_movedSince r0 19 k100019) : XS X mX5_movedSince r0 64 (rw_X5_movedSince_100064 f k100019) := sg_X5_movedSince_100064 C q100019
noncomputable def rw_X5_movedSince_100019 (f : Nat) : XK := tlp (fun k100019 => rg_X5_movedSince_100019 (rw_X5_movedSince_100064 f k100019)) f
noncomputable def lb_X5_movedSince_100019 (h0 : Ob) (h1 : Ob) (h2 : Ob) (h3 : Ob) (h4 : Ob) (h5 : Ob) (h6 : Ob) (h7 : Ob) (h8 : Ob) (h9 : Ob) (h10 : Ob) (h11 : Ob) (h12 : Ob) (h13 : Ob) (h14 : Ob) (f : Nat) : ((Int × Int) → Option Rt) → Int × Int → Option Rt := fun k100019 => mg_X5_movedSince_100019 h0 h1 h2 h3 h4 h5 h6 h7 h8 h9 h10 h11 h12 h13 h14 (md_X5_movedSince_100064 h0 h1 h2 h3 h4 h5 h6 h7 h8 h9 h10 h11 h12 h13 h14 f k100019)
noncomputable def md_X5_movedSince_100019 (h0 : Ob) (h1 : Ob) (h2 : Ob) (h3 : Ob) (h4 : Ob) (h5 : Ob) (h6 : Ob) (h7 : Ob) (h8 : Ob) (h9 : Ob) (h10 : Ob) (h11 : Ob) (h12 : Ob) (h13 : Ob) (h14 : Ob) (f : Nat) : Int × Int → Option Rt := tlp (lb_X5_movedSince_100019 h0 h1 h2 h3 h4 h5 h6 h7 h8 h9 h10 h11 h12 h13 h14 f) f
theorem eq_X5_movedSince_100019 (h0 : Ob) (h1 : Ob) (h2 : Ob) (h3 : Ob) (h4 : Ob) (h5 : Ob) (h6 : Ob) (h7 : Ob) (h8 : Ob) (h9 : Ob) (h10 : Ob) (h11 : Ob) (h12 : Ob) (h13 : Ob) (h14 : Ob) (f : Nat) (a : Int × Int) : rw_X5_movedSince_100019 f (en_X5_movedSince_100019 h0 h1 h2 h3 h4 h5 h6 h7 h8 h9 h10 h11 h12 h13 h14 a) = md_X5_movedSince_100019 h0 h1 h2 h3 h4 h5 h6 h7 h8 h9 h10 h11 h12 h13 h14 f a :=
 tlp_enc (en_X5_movedSince_100019 h0 h1 h2 h3 h4 h5 h6 h7 h8 h9 h10 h11 h12 h13 h14) (fun k100019 a => (rq_X5_movedSince_100019 h0 h1 h2 h3 h4 h5 h6 h7 h8 h9 h10 h11 h12 h13 h14 (rw_X5_movedSince_100064 f k100019) a).trans (congrFun (congr (rfl : mg_X5_movedSince_100019 h0 h1 h2 h3 h4 h5 h6 h7 h8 h9 h10 h11 h12 h13 h14 = mg_X5_movedSince_100019 h0 h1 h2 h3 h4 h5 h6 h7 h8 h9 h10 h11 h12 h13 h14) (funext (eq_X5_movedSince_100064 h0 h1 h2 h3 h4 h5 h6 h7 h8 h9 h10 h11 h12 h13 h14 f k100019))) a)) f a
theorem sd_X5_movedSince_100019 (f : Nat) {X : XDyn} {r0 : Rt} (C : XO X mX5_movedSince) : XS X mX5_movedSince r0 19 (rw_X5_movedSince_100019 f) := s_lp (fun k100019 q100019 => sg_X5_movedSince_100019 C (sd_X5_movedSince_100064 f C q100019)) f
noncomputable def rw_X5_movedSince_110064 (f : Nat) (k110019 : XK) : XK := rg_X5_movedSince_110064 k110019
noncomputable def md_X5_movedSince_110064 (h0 : Ob) (h1 : Ob) (h2 : Ob) (h3 : Ob) (h4 : Ob) (h5 : Ob) (h6 : Ob) (h7 : Ob) (h8 : Ob) (h9 : Ob) (h10 : Ob) (h11 : Ob) (h12 : Ob) (h13 : Ob) (h14 : Ob) (f : Nat) (k110019 : (Int × Int) → Option Rt) : Int × Int → Option Rt := mg_X5_movedSince_110064 h0 h1 h2 h3 h4 h5 h6 h7 h8 h9 h10 h11 h12 h13 h14 k110019
theorem eq_X5_movedSince_110064 (h0 : Ob) (h1 : Ob) (h2 : Ob) (h3 : Ob) (h4 : Ob) (h5 : Ob) (h6 : Ob) (h7 : Ob) (h8 : Ob) (h9 : Ob) (h10 : Ob) (h11 : Ob) (h12 : Ob) (h13 : Ob) (h14 : Ob) (f : Nat) (k110019 : XK) (a : Int × Int) : rw_X5_movedSince_110064 f k110019 (en_X5_movedSince_110064 h0 h1 h2 h3 h4 h5 h6 h7 h8 h9 h10 h11 h12 h13 h14 a) = md_X5_movedSince_110064 h0 h1 h2 h3 h4 h5 h6 h7 h8 h9 h10 h11 h12 h13 h14 f (fun b => k110019 (en_X5_movedSince_110019 h0 h1 h2 h3 h4 h5 h6 h7 h8 h9 h10 h11 h12 h13 h14 b)) a :=
 (rq_X5_movedSince_110064 h0 h1 h2 h3 h4 h5 h6 h7 h8 h9 h10 h11 h12 h13 h14 k110019 a).trans (congrFun (congr (rfl : mg_X5_movedSince_110064 h0 h1 h2 h3 h4 h5 h6 h7 h8 h9 h10 h11 h12 h13 h14 = mg_X5_movedSince_110064 h0 h1 h2 h3 h4 h5 h6 h7 h8 h9 h10 h11 h12 h13 h14) rfl) a)
theorem sd_X5_movedSince_110064 (f : Nat) {X : XDyn} {r0 : Rt} (C : XO X mX5_movedSince) {k110019 : XK} (q110019 : XS X mX5_movedSince r0 19 k110019) : XS X mX5_movedSince r0 64 (rw_X5_movedSince_110064 f k110019) := sg_X5_movedSince_110064 C q110019
noncomputable def rw_X5_movedSince_110019 (f : Nat) : XK := tlp (fun k110019 => rg_X5_movedSince_110019 (rw_X5_movedSince_110064 f k110019)) f
noncomputable def lb_X5_movedSince_110019 (h0 : Ob) (h1 : Ob) (h2 : Ob) (h3 : Ob) (h4 : Ob) (h5 : Ob) (h6 : Ob) (h7 : Ob) (h8 : Ob) (h9 : Ob) (h10 : Ob) (h11 : Ob) (h12 : Ob) (h13 : Ob) (h14 : Ob) (f : Nat) : ((Int × Int) → Option Rt) → Int × Int → Option Rt := fun k110019 => mg_X5_movedSince_110019 h0 h1 h2 h3 h4 h5 h6 h7 h8 h9 h10 h11 h12 h13 h14 (md_X5_movedSince_110064 h0 h1 h2 h3 h4 h5 h6 h7 h8 h9 h10 h11 h12 h13 h14 f k110019)
noncomputable def md_X5_movedSince_110019 (h0 : Ob) (h1 : Ob) (h2 : Ob) (h3 : Ob) (h4 : Ob) (h5 : Ob) (h6 : Ob) (h7 : Ob) (h8 : Ob) (h9 : Ob) (h10 : Ob) (h11 : Ob) (h12 : Ob) (h13 : Ob) (h14 : Ob) (f : Nat) : Int × Int → Option Rt := tlp (lb_X5_movedSince_110019 h0 h1 h2 h3 h4 h5 h6 h7 h8 h9 h10 h11 h12 h13 h14 f) f
theorem eq_X5_movedSince_110019 (h0 : Ob) (h1 : Ob) (h2 : Ob) (h3 : Ob) (h4 : Ob) (h5 : Ob) (h6 : Ob) (h7 : Ob) (h8 : Ob) (h9 : Ob) (h10 : Ob) (h11 : Ob) (h12 : Ob) (h13 : Ob) (h14 : Ob) (f : Nat) (a : Int × Int) : rw_X5_movedSince_110019 f (en_X5_movedSince_110019 h0 h1 h2 h3 h4 h5 h6 h7 h8 h9 h10 h11 h12 h13 h14 a) = md_X5_movedSince_110019 h0 h1 h2 h3 h4 h5 h6 h7 h8 h9 h10 h11 h12 h13 h14 f a :=
 tlp_enc (en_X5_movedSince_110019 h0 h1 h2 h3 h4 h5 h6 h7 h8 h9 h10 h11 h12 h13 h14) (fun k110019 a => (rq_X5_movedSince_110019 h0 h1 h2 h3 h4 h5 h6 h7 h8 h9 h10 h11 h12 h13 h14 (rw_X5_movedSince_110064 f k110019) a).trans (congrFun (congr (rfl : mg_X5_movedSince_110019 h0 h1 h2 h3 h4 h5 h6 h7 h8 h9 h10 h11 h12 h13 h14 = mg_X5_movedSince_110019 h0 h1 h2 h3 h4 h5 h6 h7 h8 h9 h10 h11 h12 h13 h14) (funext (eq_X5_movedSince_110064 h0 h1 h2 h3 h4 h5 h6 h7 h8 h9 h10 h11 h12 h13 h14 f k110019))) a)) f a
theorem sd_X5_movedSince_110019 (f : Nat) {X : XDyn} {r0 : Rt} (C : XO X mX5_movedSince) : XS X mX5_movedSince r0 19 (rw_X5_movedSince_110019 f) := s_lp (fun k110019 q110019 => sg_X5_movedSince_110019 C (sd_X5_movedSince_110064 f C q110019)) f
noncomputable def rw_X5_movedSince_120064 (f : Nat) (k120019 : XK) : XK := rg_X5_movedSince_120064 k120019
noncomputable def md_X5_movedSince_120064 (h0 : Ob) (h1 : Ob) (h2 : Ob) (h3 : Ob) (h4 : Ob) (h5 : Ob) (h6 : Ob) (h7 : Ob) (h8 : Ob) (h9 : Ob) (h10 : Ob) (h11 : Ob) (h12 : Ob) (h13 : Ob) (h14 : Ob) (f : Nat) (k120019 : (Int × Int) → Option Rt) : Int × Int → Option Rt := mg_X5_movedSince_120064 h0 h1 h2 h3 h4 h5 h6 h7 h8 h9 h10 h11 h12 h13 h14 k120019
theorem eq_X5_movedSince_120064 (h0 : Ob) (h1 : Ob) (h2 : Ob) (h3 : Ob) (h4 : Ob) (h5 : Ob) (h6 : Ob) (h7 : Ob) (h8 : Ob) (h9 : Ob) (h10 : Ob) (h11 : Ob) (h12 : Ob) (h13 : Ob) (h14 : Ob) (f : Nat) (k120019 : XK) (a : Int × Int) : rw_X5_movedSince_120064 f k120019 (en_X5_movedSince_120064 h0 h1 h2 h3 h4 h5 h6 h7 h8 h9 h10 h11 h12 h13 h14 a) = md_X5_movedSince_120064 h0 h1 h2 h3 h4 h5 h6 h7 h8 h9 h10 h11 h12 h13 h14 f (fun b => k120019 (en_X5_movedSince_120019 h0 h1 h2 h3 h4 h5 h6 h7 h8 h9 h10 h11 h12 h13 h14 b)) a :=
 (rq_X5_movedSince_120064 h0 h1 h2 h3 h4 h5 h6 h7 h8 h9 h10 h11 h12 h13 h14 k120019 a).trans (congrFun (congr (rfl : mg_X5_movedSince_120064 h0 h1 h2 h3 h4 h5 h6 h7 h8 h9 h10 h11 h12 h13 h14 = mg_X5_movedSince_120064 h0 h1 h2 h3 h4 h5 h6 h7 h8 h9 h10 h11 h12 h13 h14) rfl) a)
theorem sd_X5_movedSince_120064 (f : Nat) {X : XDyn} {r0 : Rt} (C : XO X mX5_movedSince) {k120019 : XK} (q120019 : XS X mX5_movedSince r0 19 k120019) : XS X mX5_movedSince r0 64 (rw_X5_movedSince_120064 f k120019) := sg_X5_movedSince_120064 C q120019
noncomputable def rw_X5_movedSince_120019 (f : Nat) : XK := tlp (fun k120019 => rg_X5_movedSince_120019 (rw_X5_movedSince_120064 f k120019)) f
noncomputable def lb_X5_movedSince_120019 (h0 : Ob) (h1 : Ob) (h2 : Ob) (h3 : Ob) (h4 : Ob) (h5 : Ob) (h6 : Ob) (h7 : Ob) (h8 : Ob) (h9 : Ob) (h10 : Ob) (h11 : Ob) (h12 : Ob) (h13 : Ob) (h14 : Ob) (f : Nat) : ((Int × Int) → Option Rt) → Int × Int → Option Rt := fun k120019 => mg_X5_movedSince_120019 h0 h1 h2 h3 h4 h5 h6 h7 h8 h9 h10 h11 h12 h13 h14 (md_X5_movedSince_120064 h0 h1 h2 h3 h4 h5 h6 h7 h8 h9 h10 h11 h12 h13 h14 f k120019)
noncomputable def md_X5_movedSince_120019 (h0 : Ob) (h1 : Ob) (h2 : Ob) (h3 : Ob) (h4 : Ob) (h5 : Ob) (h6 : Ob) (h7 : Ob) (h8 : Ob) (h9 : Ob) (h10 : Ob) (h11 : Ob) (h12 : Ob) (h13 : Ob) (h14 : Ob) (f : Nat) : Int × Int → Option Rt := tlp (lb_X5_movedSince_120019 h0 h1 h2 h3 h4 h5 h6 h7 h8 h9 h10 h11 h12 h13 h14 f) f
theorem eq_X5_movedSince_120019 (h0 : Ob) (h1 : Ob) (h2 : Ob) (h3 : Ob) (h4 : Ob) (h5 : Ob) (h6 : Ob) (h7 : Ob) (h8 : Ob) (h9 : Ob) (h10 : Ob) (h11 : Ob) (h12 : Ob) (h13 : Ob) (h14 : Ob) (f : Nat) (a : Int × Int) : rw_X5_movedSince_120019 f (en_X5_movedSince_120019 h0 h1 h2 h3 h4 h5 h6 h7 h8 h9 h10 h11 h12 h13 h14 a) = md_X5_movedSince_120019 h0 h1 h2 h3 h4 h5 h6 h7 h8 h9 h10 h11 h12 h13 h14 f a :=
 tlp_enc (en_X5_movedSince_120019 h0 h1 h2 h3 h4 h5 h6 h7 h8 h9 h10 h11 h12 h13 h14) (fun k120019 a => (rq_X5_movedSince_120019 h0 h1 h2 h3 h4 h5 h6 h7 h8 h9 h10 h11 h12 h13 h14 (rw_X5_movedSince_120064 f k120019) a).trans (congrFun (congr (rfl : mg_X5_movedSince_120019 h0 h1 h2 h3 h4 h5 h6 h7 h8 h9 h10 h11 h12 h13 h14 = mg_X5_movedSince_120019 h0 h1 h2 h3 h4 h5 h6 h7 h8 h9 h10 h11 h12 h13 h14) (funext (eq_X5_movedSince_120064 h0 h1 h2 h3 h4 h5 h6 h7 h8 h9 h10 h11 h12 h13 h14 f k120019))) a)) f a
theorem sd_X5_movedSince_120019 (f : Nat) {X : XDyn} {r0 : Rt} (C : XO X mX5_movedSince) : XS X mX5_movedSince r0 19 (rw_X5_movedSince_120019 f) := s_lp (fun k120019 q120019 => sg_X5_movedSince_120019 C (sd_X5_movedSince_120064 f C q120019)) f
noncomputable def rw_X5_movedSince_130064 (f : Nat) (k130019 : XK) : XK := rg_X5_movedSince_130064 k130019
noncomputable def md_X5_movedSince_130064 (h0 : Ob) (h1 : Ob) (h2 : Ob) (h3 : Ob) (h4 : Ob) (h5 : Ob) (h6 : Ob) (h7 : Ob) (h8 : Ob) (h9 : Ob) (h10 : Ob) (h11 : Ob) (h12 : Ob) (h13 : Ob) (h14 : Ob) (f : Nat) (k130019 : (Int × Int) → Option Rt) : Int × Int → Option Rt := mg_X5_movedSince_130064 h0 h1 h2 h3 h4 h5 h6 h7 h8 h9 h10 h11 h12 h13 h14 k130019
theorem eq_X5_movedSince_130064 (h0 : Ob) (h1 : Ob) (h2 : Ob) (h3 : Ob) (h4 : Ob) (h5 : Ob) (h6 : Ob) (h7 : Ob) (h8 : Ob) (h9 : Ob) (h10 : Ob) (h11 : Ob) (h12 : Ob) (h13 : Ob) (h14 : Ob) (f : Nat) (k130019 : XK) (a : Int × Int) : rw_X5_movedSince_130064 f k130019 (en_X5_movedSince_130064 h0 h1 h2 h3 h4 h5 h6 h7 h8 h9 h10 h11 h12 h13 h14 a) = md_X5_movedSince_130064 h0 h1 h2 h3 h4 h5 h6 h7 h8 h9 h10 h11 h12 h13 h14 f (fun b => k130019 (en_X5_movedSince_130019 h0 h1 h2 h3 h4 h5 h6 h7 h8 h9 h10 h11 h12 h13 h14 b)) a :=
 (rq_X5_movedSince_130064 h0 h1 h2 h3 h4 h5 h6 h7 h8 h9 h10 h11 h12 h13 h14 k130019 a).trans (congrFun (congr (rfl : mg_X5_movedSince_130064 h0 h1 h2 h3 h4 h5 h6 h7 h8 h9 h10 h11 h12 h13 h14 = mg_X5_movedSince_130064 h0 h1 h2 h3 h4 h5 h6 h7 h8 h9 h10 h11 h12 h13 h14) rfl) a)
theorem sd_X5_movedSince_130064 (f : Nat) {X : XDyn} {r0 : Rt} (C : XO X mX5_movedSince) {k130019 : XK} (q130019 : XS X mX5_movedSince r0 19 k130019) : XS X mX5_movedSince r0 64 (rw_X5_movedSince_130064 f k130019) := sg_X5_movedSince_130064 C q130019
noncomputable def rw_X5_movedSince_130019 (f : Nat) : XK := tlp (fun k130019 => rg_X5_movedSince_130019 (rw_X5_movedSince_130064 f k130019)) f
noncomputable def lb_X5_movedSince_130019 (h0 : Ob) (h1 : Ob) (h2 : Ob) (h3 : Ob) (h4 : Ob) (h5 : Ob) (h6 : Ob) (h7 : Ob) (h8 : Ob) (h9 : Ob) (h10 : Ob) (h11 : Ob) (h12 : Ob) (h13 : Ob) (h14 : Ob) (f : Nat) : ((Int × Int) → Option Rt) → Int × Int → Option Rt := fun k130019 => mg_X5_movedSince_130019 h0 h1 h2 h3 h4 h5 h6 h7 h8 h9 h10 h11 h12 h13 h14 (md_X5_movedSince_130064 h0 h1 h2 h3 h4 h5 h6 h7 h8 h9 h10 h11 h12 h13 h14 f k130019)
noncomputable def md_X5_movedSince_130019 (h0 : Ob) (h1 : Ob) (h2 : Ob) (h3 : Ob) (h4 : Ob) (h5 : Ob) (h6 : Ob) (h7 : Ob) (h8 : Ob) (h9 : Ob) (h10 : Ob) (h11 : Ob) (h12 : Ob) (h13 : Ob) (h14 : Ob) (f : Nat) : Int × Int → Option Rt := tlp (lb_X5_movedSince_130019 h0 h1 h2 h3 h4 h5 h6 h7 h8 h9 h10 h11 h12 h13 h14 f) f
theorem eq_X5_movedSince_130019 (h0 : Ob) (h1 : Ob) (h2 : Ob) (h3 : Ob) (h4 : Ob) (h5 : Ob) (h6 : Ob) (h7 : Ob) (h8 : Ob) (h9 : Ob) (h10 : Ob) (h11 : Ob) (h12 : Ob) (h13 : Ob) (h14 : Ob) (f : Nat) (a : Int × Int) : rw_X5_movedSince_130019 f (en_X5_movedSince_130019 h0 h1 h2 h3 h4 h5 h6 h7 h8 h9 h10 h11 h12 h13 h14 a) = md_X5_movedSince_130019 h0 h1 h2 h3 h4 h5 h6 h7 h8 h9 h10 h11 h12 h13 h14 f a :=
 tlp_enc (en_X5_movedSince_130019 h0 h1 h2 h3 h4 h5 h6 h7 h8 h9 h10 h11 h12 h13 h14) (fun k130019 a => (rq_X5_movedSince_130019 h0 h1 h2 h3 h4 h5 h6 h7 h8 h9 h10 h11 h12 h13 h14 (rw_X5_movedSince_130064 f k130019) a).trans (congrFun (congr (rfl : mg_X5_movedSince_130019 h0 h1 h2 h3 h4 h5 h6 h7 h8 h9 h10 h11 h12 h13 h14 = mg_X5_movedSince_130019 h0 h1 h2 h3 h4 h5 h6 h7 h8 h9 h10 h11 h12 h13 h14) (funext (eq_X5_movedSince_130064 h0 h1 h2 h3 h4 h5 h6 h7 h8 h9 h10 h11 h12 h13 h14 f k130019))) a)) f a
theorem sd_X5_movedSince_130019 (f : Nat) {X : XDyn} {r0 : Rt} (C : XO X mX5_movedSince) : XS X mX5_movedSince r0 19 (rw_X5_movedSince_130019 f) := s_lp (fun k130019 q130019 => sg_X5_movedSince_130019 C (sd_X5_movedSince_130064 f C q130019)) f
noncomputable def rw_X5_movedSince_0 (f : Nat) : XK := rg_X5_movedSince_0 (rw_X5_movedSince_10019 f) (rw_X5_movedSince_20019 f) (rw_X5_movedSince_30019 f) (rw_X5_movedSince_40019 f) (rw_X5_movedSince_50019 f) (rw_X5_movedSince_60019 f) (rw_X5_movedSince_70019 f) (rw_X5_movedSince_80019 f) (rw_X5_movedSince_90019 f) (rw_X5_movedSince_100019 f) (rw_X5_movedSince_110019 f) (rw_X5_movedSince_120019 f) (rw_X5_movedSince_130019 f)
noncomputable def md_X5_movedSince_0 (h0 : Ob) (h1 : Ob) (h2 : Ob) (h3 : Ob) (h4 : Ob) (h5 : Ob) (h6 : Ob) (h7 : Ob) (h8 : Ob) (h9 : Ob) (h10 : Ob) (h11 : Ob) (h12 : Ob) (h13 : Ob) (h14 : Ob) (f : Nat) : Unit → Option Rt := mg_X5_movedSince_0 h0 h1 h2 h3 h4 h5 h6 h7 h8 h9 h10 h11 h12 h13 h14 (md_X5_movedSince_10019 h0 h1 h2 h3 h4 h5 h6 h7 h8 h9 h10 h11 h12 h13 h14 f) (md_X5_movedSince_20019 h0 h1 h2 h3 h4 h5 h6 h7 h8 h9 h10 h11 h12 h13 h14 f) (md_X5_movedSince_30019 h0 h1 h2 h3 h4 h5 h6 h7 h8 h9 h10 h11 h12 h13 h14 f) (md_X5_movedSince_40019 h0 h1 h2 h3 h4 h5 h6 h7 h8 h9 h10 h11 h12 h13 h14 f) (md_X5_movedSince_50019 h0 h1 h2 h3 h4 h5 h6 h7 h8 h9 h10 h11 h12 h13 h14 f) (md_X5_movedSince_60019 h0 h1 h2 h3 h4 h5 h6 h7 h8 h9 h10 h11 h12 h13 h14 f) (md_X5_movedSince_70019 h0 h1 h2 h3 h4 h5 h6 h7 h8 h9 h10 h11 h12 h13 h14 f) (md_X5_movedSince_80019 h0 h1 h2 h3 h4 h5 h6 h7 h8 h9 h10 h11 h12 h13 h14 f) (md_X5_movedSince_90019 h0 h1 h2 h3 h4 h5 h6 h7 h8 h9 h10 h11 h12 h13 h14 f) (md_X5_movedSince_100019 h0 h1 h2 h3 h4 h5 h6 h7 h8 h9 h10 h11 h12 h13 h14 f) (md_X5_movedSince_110019 h0 h1 h2 h3 h4 h5 h6 h7 h8 h9 h10 h11 h12 h13 h14 f) (md_X5_movedSince_120019 h0 h1 h2 h3 h4 h5 h6 h7 h8 h9 h10 h11 h12 h13 h14 f) (md_X5_movedSince_130019 h0 h1 h2 h3 h4 h5 h6 h7 h8 h9 h10 h11 h12 h13 h14 f)
theorem eq_X5_movedSince_0 (h0 : Ob) (h1 : Ob) (h2 : Ob) (h3 : Ob) (h4 : Ob) (h5 : Ob) (h6 : Ob) (h7 : Ob) (h8 : Ob) (h9 : Ob) (h10 : Ob) (h11 : Ob) (h12 : Ob) (h13 : Ob) (h14 : Ob) (f : Nat) (a : Unit) : rw_X5_movedSince_0 f (en_X5_movedSince_0 h0 h1 h2 h3 h4 h5 h6 h7 h8 h9 h10 h11 h12 h13 h14 a) = md_X5_movedSince_0 h0 h1 h2 h3 h4 h5 h6 h7 h8 h9 h10 h11 h12 h13 h14 f a :=
 (rq_X5_movedSince_0 h0 h1 h2 h3 h4 h5 h6 h7 h8 h9 h10 h11 h12 h13 h14 (rw_X5_movedSince_10019 f) (rw_X5_movedSince_20019 f) (rw_X5_movedSince_30019 f) (rw_X5_movedSince_40019 f) (rw_X5_movedSince_50019 f) (rw_X5_movedSince_60019 f) (rw_X5_movedSince_70019 f) (rw_X5_movedSince_80019 f) (rw_X5_movedSince_90019 f) (rw_X5_movedSince_100019 f) (rw_X5_movedSince_110019 f) (rw_X5_movedSince_120019 f) (rw_X5_movedSince_130019 f) a).trans (congrFun (congr (congr (congr (congr (congr (congr (congr (congr (congr (congr (congr (congr (congr (rfl : mg_X5_movedSince_0 h0 h1 h2 h3 h4 h5 h6 h7 h8 h9 h10 h11 h12 h13 h14 = mg_X5_movedSince_0 h0 h1 h2 h3 h4 h5 h6 h7 h8 h9 h10 h11 h12 h13 h14) (funext (eq_X5_movedSince_10019 h0 h1 h2 h3 h4 h5 h6 h7 h8 h9 h10 h11 h12 h13 h14 f))) (funext (eq_X5_movedSince_20019 h0 h1 h2 h3 h4 h5 h6 h7 h8 h9 h10 h11 h12 h13 h14 f))) (funext (eq_X5_movedSince_30019 h0 h1 h2 h3 h4 h5 h6 h7 h8 h9 h10 h11 h12 h13 h14 f))) (funext (eq_X5_movedSince_40019 h0 h1 h2 h3 h4 h5 h6 h7 h8 h9 h10 h11 h12 h13 h14 f))) (funext (eq_X5_movedSince_50019 h0 h1 h2 h3 h4 h5 h6 h7 h8 h9 h10 h11 h12 h13 h14 f))) (funext (eq_X5_movedSince_60019 h0 h1 h2 h3 h4 h5 h6 h7 h8 h9 h10 h11 h12 h13 h14 f))) (funext (eq_X5_movedSince_70019 h0 h1 h2 h3 h4 h5 h6 h7 h8 h9 h10 h11 h12 h13 h14 f))) (funext (eq_X5_movedSince_80019 h0 h1 h2 h3 h4 h5 h6 h7 h8 h9 h10 h11 h12 h13 h14 f))) (funext (eq_X5_movedSince_90019 h0 h1 h2 h3 h4 h5 h6 h7 h8 h9 h10 h11 h12 h13 h14 f))) (funext (eq_X5_movedSince_100019 h0 h1 h2 h3 h4 h5 h6 h7 h8 h9 h10 h11 h12 h13 h14 f))) (funext (eq_X5_movedSince_110019 h0 h1 h2 h3 h4 h5 h6 h7 h8 h9 h10 h11 h12 h13 h14 f))) (funext (eq_X5_movedSince_120019 h0 h1 h2 h3 h4 h5 h6 h7 h8 h9 h10 h11 h12 h13 h14 f))) (funext (eq_X5_movedSince_130019 h0 h1 h2 h3 h4 h5 h6 h7 h8 h9 h10 h11 h12 h13 h14 f))) a)
theorem sd_X5_movedSince_0 (f : Nat) {X : XDyn} {r0 : Rt} (C : XO X mX5_movedSince) : XS X mX5_movedSince r0 0 (rw_X5_movedSince_0 f) := sg_X5_movedSince_0 C (sd_X5_movedSince_10019 f C) (sd_X5_movedSince_20019 f C) (sd_X5_movedSince_30019 f C) (sd_X5_movedSince_40019 f C) (sd_X5_movedSince_50019 f C) (sd_X5_movedSince_60019 f C) (sd_X5_movedSince_70019 f C) (sd_X5_movedSince_80019 f C) (sd_X5_movedSince_90019 f C) (sd_X5_movedSince_100019 f C) (sd_X5_movedSince_110019 f C) (sd_X5_movedSince_120019 f C) (sd_X5_movedSince_130019 f C)
theorem ctr_X5_movedSince (f : Nat) : XCt yX5_movedSince mX5_movedSince (xF mX5_movedSince (rw_X5_movedSince_0 f)) := xMet (by decide +kernel) rfl (fun _ _ C => sd_X5_movedSince_0 f C)
theorem eqf_X5_movedSince (f : Nat) (h0 : Ob) (h1 : Ob) (h2 : Ob) (h3 : Ob) (h4 : Ob) (h5 : Ob) (h6 : Ob) (h7 : Ob) (h8 : Ob) (h9 : Ob) (h10 : Ob) (h11 : Ob) (h12 : Ob) (h13 : Ob) (h14 : Ob) : xF mX5_movedSince (rw_X5_movedSince_0 f) [.inr (.inl (0, 0)), .inr (.inl (14, 0))] [h0, h1, h2, h3, h4, h5, h6, h7, h8, h9, h10, h11, h12, h13, h14] = md_X5_movedSince_0 h0 h1 h2 h3 h4 h5 h6 h7 h8 h9 h10 h11 h12 h13 h14 f () := eq_X5_movedSince_0 h0 h1 h2 h3 h4 h5 h6 h7 h8 h9 h10 h11 h12 h13 h14 f ()
theorem yi_X5_movedSince : yX5_movedSince.cls = RX5 ∧ yX5_movedSince.cls ≠ "java/lang/invoke/MethodHandle" ∧ yX5_movedSince.cls ≠ "java/lang/invoke/VarHandle" ∧ (parseMethodDescriptor yX5_movedSince.desc).map (fun d => d.parameters.length) = some 1 := ⟨rfl, by decide +kernel, by decide +kernel, by decide +kernel⟩
theorem sp_X5_movedSince (f : Nat) (hf : 1000 ≤ f) (h0 h1 h2 h3 h4 h5 h6 h7 h8 h9 h10 h11 h12 h13 h14 : Ob) (hg : pd (PG h0 ∧ (h0 0 3 = 0 ∨ h0 0 3 = 1 ∧ 1 ≤ h0 0 2)) = true) : md_X5_movedSince_0 h0 h1 h2 h3 h4 h5 h6 h7 h8 h9 h10 h11 h12 h13 h14 f () = RI (mvsF h0 h14 [h1, h2, h3, h4, h5, h6, h7, h8, h9, h10, h11, h12, h13]) [h0, h1, h2, h3, h4, h5, h6, h7, h8, h9, h10, h11, h12, h13, h14] := by
  obtain ⟨⟨g1, g2, g3, g4⟩, g5⟩ := pd_of hg
  unfold md_X5_movedSince_0 mg_X5_movedSince_0 mvsF
  rcases g5 with g5 | ⟨g5, g6⟩
  · rw [if_pos (by rw [g5]; rfl), if_pos g5]
  · rw [if_neg (show ¬ xw (h0 0 3) = 0 by rw [g5]; decide), if_neg (show ¬ h0 0 3 = 0 by omega), if_pos (pd_t (p := PG h0 ∧ 1 ≤ h0 0 2) ⟨⟨g1, g2, g3, g4⟩, g6⟩)]
    obtain ⟨j, hj, e1, e2⟩ := fl13 (a := h0 0 1 + h0 0 2 + -1) (by omega) (by omega)
    unfold kpk
    rw [e2, e1]
    have hc : j = 0 ∨ j = 1 ∨ j = 2 ∨ j = 3 ∨ j = 4 ∨ j = 5 ∨ j = 6 ∨ j = 7 ∨ j = 8 ∨ j = 9 ∨ j = 10 ∨ j = 11 ∨ j = 12 := by omega
    rcases hc with rfl | rfl | rfl | rfl | rfl | rfl | rfl | rfl | rfl | rfl | rfl | rfl | rfl
    · exact mvB_run h1 h14 (fun r => RI r [h0, h1, h2, h3, h4, h5, h6, h7, h8, h9, h10, h11, h12, h13, h14]) f hf
    · exact mvB_run h2 h14 (fun r => RI r [h0, h1, h2, h3, h4, h5, h6, h7, h8, h9, h10, h11, h12, h13, h14]) f hf
    · exact mvB_run h3 h14 (fun r => RI r [h0, h1, h2, h3, h4, h5, h6, h7, h8, h9, h10, h11, h12, h13, h14]) f hf
    · exact mvB_run h4 h14 (fun r => RI r [h0, h1, h2, h3, h4, h5, h6, h7, h8, h9, h10, h11, h12, h13, h14]) f hf
    · exact mvB_run h5 h14 (fun r => RI r [h0, h1, h2, h3, h4, h5, h6, h7, h8, h9, h10, h11, h12, h13, h14]) f hf
    · exact mvB_run h6 h14 (fun r => RI r [h0, h1, h2, h3, h4, h5, h6, h7, h8, h9, h10, h11, h12, h13, h14]) f hf
    · exact mvB_run h7 h14 (fun r => RI r [h0, h1, h2, h3, h4, h5, h6, h7, h8, h9, h10, h11, h12, h13, h14]) f hf
    · exact mvB_run h8 h14 (fun r => RI r [h0, h1, h2, h3, h4, h5, h6, h7, h8, h9, h10, h11, h12, h13, h14]) f hf
    · exact mvB_run h9 h14 (fun r => RI r [h0, h1, h2, h3, h4, h5, h6, h7, h8, h9, h10, h11, h12, h13, h14]) f hf
    · exact mvB_run h10 h14 (fun r => RI r [h0, h1, h2, h3, h4, h5, h6, h7, h8, h9, h10, h11, h12, h13, h14]) f hf
    · exact mvB_run h11 h14 (fun r => RI r [h0, h1, h2, h3, h4, h5, h6, h7, h8, h9, h10, h11, h12, h13, h14]) f hf
    · exact mvB_run h12 h14 (fun r => RI r [h0, h1, h2, h3, h4, h5, h6, h7, h8, h9, h10, h11, h12, h13, h14]) f hf
    · exact mvB_run h13 h14 (fun r => RI r [h0, h1, h2, h3, h4, h5, h6, h7, h8, h9, h10, h11, h12, h13, h14]) f hf
noncomputable def g_X5_movedSince : List AV → List Ob → Bool
  | [.inr (.inl (0, 0)), .inr (.inl (14, 0))], [h0, h1, h2, h3, h4, h5, h6, h7, h8, h9, h10, h11, h12, h13, h14] => pd (PG h0 ∧ (h0 0 3 = 0 ∨ h0 0 3 = 1 ∧ 1 ≤ h0 0 2))
  | _, _ => false
noncomputable def v_X5_movedSince : List AV → List Ob → Rt
  | [.inr (.inl (0, 0)), .inr (.inl (14, 0))], [h0, h1, h2, h3, h4, h5, h6, h7, h8, h9, h10, h11, h12, h13, h14] => (some (.inl (mvsF h0 h14 [h1, h2, h3, h4, h5, h6, h7, h8, h9, h10, h11, h12, h13])), [h0, h1, h2, h3, h4, h5, h6, h7, h8, h9, h10, h11, h12, h13, h14])
  | _, _ => (none, [])
theorem ct_X5_movedSince : XCt yX5_movedSince mX5_movedSince (fun as μ => if g_X5_movedSince as μ then some (v_X5_movedSince as μ) else none) := (ctr_X5_movedSince xfu).of (fun as μ r h => by
  split at h
  · rename_i hg
    unfold g_X5_movedSince at hg
    split at hg
    · rw [← h]
      exact (eqf_X5_movedSince xfu _ _ _ _ _ _ _ _ _ _ _ _ _ _ _).trans (sp_X5_movedSince xfu (xfu_ge (by decide)) _ _ _ _ _ _ _ _ _ _ _ _ _ _ _ hg)
    · cases hg
  · cases h)
