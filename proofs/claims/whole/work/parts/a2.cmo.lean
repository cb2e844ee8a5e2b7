set_option maxHeartbeats 4000000 in
set_option maxRecDepth 100000 in
theorem nw_X8 : XNw yX8_init cX8_init 1 8 [.null, .null, .null, .int 0, .int 0, .null, .null, .null, .int 0, .null, .null, .int 0, .null, .null, .null, .null, .null, .null, .null, .int 0, .int 0, .int 0, .null, .int 0, .int 0] shw_8 [bgM ob0 64 64] 1 16 22878 := by
  intro l D g h0 sz
  refine Met.ofW (cc := cX8_init) (maxL := 1) (ret := none) (by decide) rfl ?_
  intro p e s m args below meth c s₁ B hml hv
  obtain ⟨rfl, hsz, hKS, hAO, hP⟩ := hv
  have hx := B.exec
  have hb := B.bytes
  have hr := B.returns
  have hts0 := atoms_spec (ws := xws yX8_init cX8_init 1 none) B.pre
  have hts : ∀ w ∈ BIG, w.before ([Value.ref h0].toArray) s = true := fun w hw => hts0 w (List.mem_cons_of_mem _ hw)
  have hown : s.vm.findClass RX8 = some m.cls := findClass_of_methodNamed B.named
  have hlocks := B.notSynchronized
  have hin0 : meth.name = "<init>" := (name_of_methodNamed B.named B.method).1
  subst hsz
  have hl := lv_entry ([.ref h0]) (n := 1) (Nat.le_of_ble_eq_true rfl)
  rw [lg_entry_eq]
  generalize (lg_sl ([.ref h0]) ++ List.replicate (1 - (lg_sl ([.ref h0])).length) Slot.unset).toArray = ls at hl ⊢
  have hl : lv_has ls 1 [(0, .ref h0)] := hl
  have hl0 := lv_at hl 0 rfl
  have C : CX p s m ([Value.ref h0].toArray) meth c cX8_init 1 RX8 D g (fun q => q = h0 ∨ s.heap.size ≤ q) := ⟨hx, hb, hml, hown, hts, hKS, hAO, fun q hq => Or.inr hq, hr, hlocks, hin0⟩
  have hB0 : BS D g (fun q => q = h0 ∨ s.heap.size ≤ q) shw_8 8 h0 s.heap (fun _ _ => h0) [] [.null, .null, .null, .int 0, .int 0, .null, .null, .null, .int 0, .null, .null, .int 0, .null, .null, .null, .null, .null, .null, .null, .int 0, .int 0, .int 0, .null, .int 0, .int 0] s.heap [] := ⟨hP, bs_one (Or.inl rfl), va_S.rf⟩
  refine lv_aload_n hx hb dX8_init_0 rfl hl0 ?_
  refine W.objInit hx hb hown (hts _ wd_866) (hts _ wd_91) (hts _ wd_92) rfl (by rw [hml]; exact hl.1) rfl dX8_init_1 (Nat.le_of_ble_eq_true rfl) (Nat.le_of_ble_eq_true rfl) ?_
  refine W.eq (g2 := F0 m 4 ls []) rfl ?_
  refine stA (kf := 0) (n := 735) (t := 0) (j := 1) (len := 3) (nI := 735) (atype := .int) (aty := .int) C hB0 hl0 rfl inX8 tyX8_ok nmX8 (by decide) wd_871 rfl rfl (fun _ => rfl) (fun _ => rfl) (Nat.le_of_ble_eq_true rfl) wc_166 rfl (Or.inl ⟨rfl, rfl⟩) rfl (by decide +kernel) dX8_init_4 (Or.inr ⟨rfl, 735, dX8_init_5, by decide⟩) dX8_init_8 dX8_init_10 (by decide) (by decide) (Nat.le_of_ble_eq_true rfl) (Nat.le_of_ble_eq_true rfl) (Nat.le_of_ble_eq_true rfl) (fun q1 H1 locs1 hB1 => ?_)
  have hB1 : BS D g (fun q => q = h0 ∨ s.heap.size ≤ q) shw_8 8 h0 s.heap _ _ [.ref q1, .null, .null, .int 0, .int 0, .null, .null, .null, .int 0, .null, .null, .int 0, .null, .null, .null, .null, .null, .null, .null, .int 0, .int 0, .int 0, .null, .int 0, .int 0] H1 locs1 := hB1
  refine stA (kf := 1) (n := 735) (t := 0) (j := 2) (len := 3) (nI := 735) (atype := .int) (aty := .int) C hB1 hl0 rfl inX8 tyX8_ok nmX8 (by decide) wd_872 rfl rfl (fun _ => rfl) (fun _ => rfl) (Nat.le_of_ble_eq_true rfl) wc_166 rfl (Or.inl ⟨rfl, rfl⟩) rfl (by decide +kernel) dX8_init_13 (Or.inr ⟨rfl, 735, dX8_init_14, by decide⟩) dX8_init_17 dX8_init_19 (by decide) (by decide) (Nat.le_of_ble_eq_true rfl) (Nat.le_of_ble_eq_true rfl) (Nat.le_of_ble_eq_true rfl) (fun q2 H2 locs2 hB2 => ?_)
  have hB2 : BS D g (fun q => q = h0 ∨ s.heap.size ≤ q) shw_8 8 h0 s.heap _ _ [.ref q1, .ref q2, .null, .int 0, .int 0, .null, .null, .null, .int 0, .null, .null, .int 0, .null, .null, .null, .null, .null, .null, .null, .int 0, .int 0, .int 0, .null, .int 0, .int 0] H2 locs2 := hB2
  refine stA (kf := 2) (n := 8820) (t := 0) (j := 3) (len := 3) (nI := 8820) (atype := .int) (aty := .int) C hB2 hl0 rfl inX8 tyX8_ok nmX8 (by decide) wd_873 rfl rfl (fun _ => rfl) (fun _ => rfl) (Nat.le_of_ble_eq_true rfl) wc_166 rfl (Or.inl ⟨rfl, rfl⟩) rfl (by decide +kernel) dX8_init_22 (Or.inr ⟨rfl, 8820, dX8_init_23, by decide⟩) dX8_init_26 dX8_init_28 (by decide) (by decide) (Nat.le_of_ble_eq_true rfl) (Nat.le_of_ble_eq_true rfl) (Nat.le_of_ble_eq_true rfl) (fun q3 H3 locs3 hB3 => ?_)
  have hB3 : BS D g (fun q => q = h0 ∨ s.heap.size ≤ q) shw_8 8 h0 s.heap _ _ [.ref q1, .ref q2, .ref q3, .int 0, .int 0, .null, .null, .null, .int 0, .null, .null, .int 0, .null, .null, .null, .null, .null, .null, .null, .int 0, .int 0, .int 0, .null, .int 0, .int 0] H3 locs3 := hB3
  refine stA (kf := 5) (n := 200) (t := 0) (j := 4) (len := 3) (nI := 200) (atype := .int) (aty := .int) C hB3 hl0 rfl inX8 tyX8_ok nmX8 (by decide) wd_876 rfl rfl (fun _ => rfl) (fun _ => rfl) (Nat.le_of_ble_eq_true rfl) wc_166 rfl (Or.inl ⟨rfl, rfl⟩) rfl (by decide +kernel) dX8_init_31 (Or.inr ⟨rfl, 200, dX8_init_32, by decide⟩) dX8_init_35 dX8_init_37 (by decide) (by decide) (Nat.le_of_ble_eq_true rfl) (Nat.le_of_ble_eq_true rfl) (Nat.le_of_ble_eq_true rfl) (fun q4 H4 locs4 hB4 => ?_)
  have hB4 : BS D g (fun q => q = h0 ∨ s.heap.size ≤ q) shw_8 8 h0 s.heap _ _ [.ref q1, .ref q2, .ref q3, .int 0, .int 0, .ref q4, .null, .null, .int 0, .null, .null, .int 0, .null, .null, .null, .null, .null, .null, .null, .int 0, .int 0, .int 0, .null, .int 0, .int 0] H4 locs4 := hB4
  refine stA (kf := 6) (n := 16) (t := 0) (j := 5) (len := 2) (nI := 16) (atype := .int) (aty := .int) C hB4 hl0 rfl inX8 tyX8_ok nmX8 (by decide) wd_877 rfl rfl (fun _ => rfl) (fun _ => rfl) (Nat.le_of_ble_eq_true rfl) wc_166 rfl (Or.inl ⟨rfl, rfl⟩) rfl (by decide +kernel) dX8_init_40 (Or.inl ⟨rfl, 16, dX8_init_41, by decide⟩) dX8_init_43 dX8_init_45 (by decide) (by decide) (Nat.le_of_ble_eq_true rfl) (Nat.le_of_ble_eq_true rfl) (Nat.le_of_ble_eq_true rfl) (fun q5 H5 locs5 hB5 => ?_)
  have hB5 : BS D g (fun q => q = h0 ∨ s.heap.size ≤ q) shw_8 8 h0 s.heap _ _ [.ref q1, .ref q2, .ref q3, .int 0, .int 0, .ref q4, .ref q5, .null, .int 0, .null, .null, .int 0, .null, .null, .null, .null, .null, .null, .null, .int 0, .int 0, .int 0, .null, .int 0, .int 0] H5 locs5 := hB5
  refine stA (kf := 7) (n := 16) (t := 0) (j := 6) (len := 2) (nI := 16) (atype := .int) (aty := .int) C hB5 hl0 rfl inX8 tyX8_ok nmX8 (by decide) wd_878 rfl rfl (fun _ => rfl) (fun _ => rfl) (Nat.le_of_ble_eq_true rfl) wc_166 rfl (Or.inl ⟨rfl, rfl⟩) rfl (by decide +kernel) dX8_init_48 (Or.inl ⟨rfl, 16, dX8_init_49, by decide⟩) dX8_init_51 dX8_init_53 (by decide) (by decide) (Nat.le_of_ble_eq_true rfl) (Nat.le_of_ble_eq_true rfl) (Nat.le_of_ble_eq_true rfl) (fun q6 H6 locs6 hB6 => ?_)
  have hB6 : BS D g (fun q => q = h0 ∨ s.heap.size ≤ q) shw_8 8 h0 s.heap _ _ [.ref q1, .ref q2, .ref q3, .int 0, .int 0, .ref q4, .ref q5, .ref q6, .int 0, .null, .null, .int 0, .null, .null, .null, .null, .null, .null, .null, .int 0, .int 0, .int 0, .null, .int 0, .int 0] H6 locs6 := hB6
  refine stA (kf := 9) (n := 8) (t := 0) (j := 7) (len := 2) (nI := 8) (atype := .int) (aty := .int) C hB6 hl0 rfl inX8 tyX8_ok nmX8 (by decide) wd_880 rfl rfl (fun _ => rfl) (fun _ => rfl) (Nat.le_of_ble_eq_true rfl) wc_166 rfl (Or.inl ⟨rfl, rfl⟩) rfl (by decide +kernel) dX8_init_56 (Or.inl ⟨rfl, 8, dX8_init_57, by decide⟩) dX8_init_59 dX8_init_61 (by decide) (by decide) (Nat.le_of_ble_eq_true rfl) (Nat.le_of_ble_eq_true rfl) (Nat.le_of_ble_eq_true rfl) (fun q7 H7 locs7 hB7 => ?_)
  have hB7 : BS D g (fun q => q = h0 ∨ s.heap.size ≤ q) shw_8 8 h0 s.heap _ _ [.ref q1, .ref q2, .ref q3, .int 0, .int 0, .ref q4, .ref q5, .ref q6, .int 0, .ref q7, .null, .int 0, .null, .null, .null, .null, .null, .null, .null, .int 0, .int 0, .int 0, .null, .int 0, .int 0] H7 locs7 := hB7
  refine stA (kf := 10) (n := 8) (t := 0) (j := 8) (len := 2) (nI := 8) (atype := .int) (aty := .int) C hB7 hl0 rfl inX8 tyX8_ok nmX8 (by decide) wd_881 rfl rfl (fun _ => rfl) (fun _ => rfl) (Nat.le_of_ble_eq_true rfl) wc_166 rfl (Or.inl ⟨rfl, rfl⟩) rfl (by decide +kernel) dX8_init_64 (Or.inl ⟨rfl, 8, dX8_init_65, by decide⟩) dX8_init_67 dX8_init_69 (by decide) (by decide) (Nat.le_of_ble_eq_true rfl) (Nat.le_of_ble_eq_true rfl) (Nat.le_of_ble_eq_true rfl) (fun q8 H8 locs8 hB8 => ?_)
  have hB8 : BS D g (fun q => q = h0 ∨ s.heap.size ≤ q) shw_8 8 h0 s.heap _ _ [.ref q1, .ref q2, .ref q3, .int 0, .int 0, .ref q4, .ref q5, .ref q6, .int 0, .ref q7, .ref q8, .int 0, .null, .null, .null, .null, .null, .null, .null, .int 0, .int 0, .int 0, .null, .int 0, .int 0] H8 locs8 := hB8
  refine stA (kf := 12) (n := 12) (t := 0) (j := 9) (len := 2) (nI := 12) (atype := .int) (aty := .int) C hB8 hl0 rfl inX8 tyX8_ok nmX8 (by decide) wd_883 rfl rfl (fun _ => rfl) (fun _ => rfl) (Nat.le_of_ble_eq_true rfl) wc_166 rfl (Or.inl ⟨rfl, rfl⟩) rfl (by decide +kernel) dX8_init_72 (Or.inl ⟨rfl, 12, dX8_init_73, by decide⟩) dX8_init_75 dX8_init_77 (by decide) (by decide) (Nat.le_of_ble_eq_true rfl) (Nat.le_of_ble_eq_true rfl) (Nat.le_of_ble_eq_true rfl) (fun q9 H9 locs9 hB9 => ?_)
  have hB9 : BS D g (fun q => q = h0 ∨ s.heap.size ≤ q) shw_8 8 h0 s.heap _ _ [.ref q1, .ref q2, .ref q3, .int 0, .int 0, .ref q4, .ref q5, .ref q6, .int 0, .ref q7, .ref q8, .int 0, .ref q9, .null, .null, .null, .null, .null, .null, .int 0, .int 0, .int 0, .null, .int 0, .int 0] H9 locs9 := hB9
  refine stA (kf := 13) (n := 4096) (t := 0) (j := 10) (len := 3) (nI := 4096) (atype := .int) (aty := .int) C hB9 hl0 rfl inX8 tyX8_ok nmX8 (by decide) wd_884 rfl rfl (fun _ => rfl) (fun _ => rfl) (Nat.le_of_ble_eq_true rfl) wc_166 rfl (Or.inl ⟨rfl, rfl⟩) rfl (by decide +kernel) dX8_init_80 (Or.inr ⟨rfl, 4096, dX8_init_81, by decide⟩) dX8_init_84 dX8_init_86 (by decide) (by decide) (Nat.le_of_ble_eq_true rfl) (Nat.le_of_ble_eq_true rfl) (Nat.le_of_ble_eq_true rfl) (fun q10 H10 locs10 hB10 => ?_)
  have hB10 : BS D g (fun q => q = h0 ∨ s.heap.size ≤ q) shw_8 8 h0 s.heap _ _ [.ref q1, .ref q2, .ref q3, .int 0, .int 0, .ref q4, .ref q5, .ref q6, .int 0, .ref q7, .ref q8, .int 0, .ref q9, .ref q10, .null, .null, .null, .null, .null, .int 0, .int 0, .int 0, .null, .int 0, .int 0] H10 locs10 := hB10
  refine stA (kf := 14) (n := 4096) (t := 1) (j := 11) (len := 3) (nI := 4096) (atype := .boolean) (aty := .boolean) C hB10 hl0 rfl inX8 tyX8_ok nmX8 (by decide) wd_885 rfl rfl (fun _ => rfl) (fun _ => rfl) (Nat.le_of_ble_eq_true rfl) wc_947 rfl (Or.inr ⟨rfl, rfl⟩) rfl (by decide +kernel) dX8_init_89 (Or.inr ⟨rfl, 4096, dX8_init_90, by decide⟩) dX8_init_93 dX8_init_95 (by decide) (by decide) (Nat.le_of_ble_eq_true rfl) (Nat.le_of_ble_eq_true rfl) (Nat.le_of_ble_eq_true rfl) (fun q11 H11 locs11 hB11 => ?_)
  have hB11 : BS D g (fun q => q = h0 ∨ s.heap.size ≤ q) shw_8 8 h0 s.heap _ _ [.ref q1, .ref q2, .ref q3, .int 0, .int 0, .ref q4, .ref q5, .ref q6, .int 0, .ref q7, .ref q8, .int 0, .ref q9, .ref q10, .ref q11, .null, .null, .null, .null, .int 0, .int 0, .int 0, .null, .int 0, .int 0] H11 locs11 := hB11
  refine stA (kf := 15) (n := 4096) (t := 1) (j := 12) (len := 3) (nI := 4096) (atype := .boolean) (aty := .boolean) C hB11 hl0 rfl inX8 tyX8_ok nmX8 (by decide) wd_886 rfl rfl (fun _ => rfl) (fun _ => rfl) (Nat.le_of_ble_eq_true rfl) wc_947 rfl (Or.inr ⟨rfl, rfl⟩) rfl (by decide +kernel) dX8_init_98 (Or.inr ⟨rfl, 4096, dX8_init_99, by decide⟩) dX8_init_102 dX8_init_104 (by decide) (by decide) (Nat.le_of_ble_eq_true rfl) (Nat.le_of_ble_eq_true rfl) (Nat.le_of_ble_eq_true rfl) (fun q12 H12 locs12 hB12 => ?_)
  have hB12 : BS D g (fun q => q = h0 ∨ s.heap.size ≤ q) shw_8 8 h0 s.heap _ _ [.ref q1, .ref q2, .ref q3, .int 0, .int 0, .ref q4, .ref q5, .ref q6, .int 0, .ref q7, .ref q8, .int 0, .ref q9, .ref q10, .ref q11, .ref q12, .null, .null, .null, .int 0, .int 0, .int 0, .null, .int 0, .int 0] H12 locs12 := hB12
  refine stA (kf := 16) (n := 8) (t := 0) (j := 13) (len := 2) (nI := 8) (atype := .int) (aty := .int) C hB12 hl0 rfl inX8 tyX8_ok nmX8 (by decide) wd_887 rfl rfl (fun _ => rfl) (fun _ => rfl) (Nat.le_of_ble_eq_true rfl) wc_166 rfl (Or.inl ⟨rfl, rfl⟩) rfl (by decide +kernel) dX8_init_107 (Or.inl ⟨rfl, 8, dX8_init_108, by decide⟩) dX8_init_110 dX8_init_112 (by decide) (by decide) (Nat.le_of_ble_eq_true rfl) (Nat.le_of_ble_eq_true rfl) (Nat.le_of_ble_eq_true rfl) (fun q13 H13 locs13 hB13 => ?_)
  have hB13 : BS D g (fun q => q = h0 ∨ s.heap.size ≤ q) shw_8 8 h0 s.heap _ _ [.ref q1, .ref q2, .ref q3, .int 0, .int 0, .ref q4, .ref q5, .ref q6, .int 0, .ref q7, .ref q8, .int 0, .ref q9, .ref q10, .ref q11, .ref q12, .ref q13, .null, .null, .int 0, .int 0, .int 0, .null, .int 0, .int 0] H13 locs13 := hB13
  refine stA (kf := 17) (n := 8) (t := 0) (j := 14) (len := 2) (nI := 8) (atype := .int) (aty := .int) C hB13 hl0 rfl inX8 tyX8_ok nmX8 (by decide) wd_888 rfl rfl (fun _ => rfl) (fun _ => rfl) (Nat.le_of_ble_eq_true rfl) wc_166 rfl (Or.inl ⟨rfl, rfl⟩) rfl (by decide +kernel) dX8_init_115 (Or.inl ⟨rfl, 8, dX8_init_116, by decide⟩) dX8_init_118 dX8_init_120 (by decide) (by decide) (Nat.le_of_ble_eq_true rfl) (Nat.le_of_ble_eq_true rfl) (Nat.le_of_ble_eq_true rfl) (fun q14 H14 locs14 hB14 => ?_)
  have hB14 : BS D g (fun q => q = h0 ∨ s.heap.size ≤ q) shw_8 8 h0 s.heap _ _ [.ref q1, .ref q2, .ref q3, .int 0, .int 0, .ref q4, .ref q5, .ref q6, .int 0, .ref q7, .ref q8, .int 0, .ref q9, .ref q10, .ref q11, .ref q12, .ref q13, .ref q14, .null, .int 0, .int 0, .int 0, .null, .int 0, .int 0] H14 locs14 := hB14
  refine stA (kf := 18) (n := 16) (t := 0) (j := 15) (len := 2) (nI := 16) (atype := .int) (aty := .int) C hB14 hl0 rfl inX8 tyX8_ok nmX8 (by decide) wd_889 rfl rfl (fun _ => rfl) (fun _ => rfl) (Nat.le_of_ble_eq_true rfl) wc_166 rfl (Or.inl ⟨rfl, rfl⟩) rfl (by decide +kernel) dX8_init_123 (Or.inl ⟨rfl, 16, dX8_init_124, by decide⟩) dX8_init_126 dX8_init_128 (by decide) (by decide) (Nat.le_of_ble_eq_true rfl) (Nat.le_of_ble_eq_true rfl) (Nat.le_of_ble_eq_true rfl) (fun q15 H15 locs15 hB15 => ?_)
  have hB15 : BS D g (fun q => q = h0 ∨ s.heap.size ≤ q) shw_8 8 h0 s.heap _ _ [.ref q1, .ref q2, .ref q3, .int 0, .int 0, .ref q4, .ref q5, .ref q6, .int 0, .ref q7, .ref q8, .int 0, .ref q9, .ref q10, .ref q11, .ref q12, .ref q13, .ref q14, .ref q15, .int 0, .int 0, .int 0, .null, .int 0, .int 0] H15 locs15 := hB15
  refine stA (kf := 22) (n := 8) (t := 0) (j := 16) (len := 2) (nI := 8) (atype := .int) (aty := .int) C hB15 hl0 rfl inX8 tyX8_ok nmX8 (by decide) wd_893 rfl rfl (fun _ => rfl) (fun _ => rfl) (Nat.le_of_ble_eq_true rfl) wc_166 rfl (Or.inl ⟨rfl, rfl⟩) rfl (by decide +kernel) dX8_init_131 (Or.inl ⟨rfl, 8, dX8_init_132, by decide⟩) dX8_init_134 dX8_init_136 (by decide) (by decide) (Nat.le_of_ble_eq_true rfl) (Nat.le_of_ble_eq_true rfl) (Nat.le_of_ble_eq_true rfl) (fun q16 H16 locs16 hB16 => ?_)
  have hB16 : BS D g (fun q => q = h0 ∨ s.heap.size ≤ q) shw_8 8 h0 s.heap _ _ [.ref q1, .ref q2, .ref q3, .int 0, .int 0, .ref q4, .ref q5, .ref q6, .int 0, .ref q7, .ref q8, .int 0, .ref q9, .ref q10, .ref q11, .ref q12, .ref q13, .ref q14, .ref q15, .int 0, .int 0, .int 0, .ref q16, .int 0, .int 0] H16 locs16 := hB16
  obtain ⟨z1, z2, z3⟩ := bs_XP hB16 rfl rfl (by
    apply List.ext_getElem?
    intro k
    rw [List.getElem?_mapIdx]
    match k with
    | 0 => rfl
    | 1 => rfl
    | 2 => rfl
    | 3 => rfl
    | 4 => rfl
    | 5 => rfl
    | 6 => rfl
    | 7 => rfl
    | 8 => rfl
    | 9 => rfl
    | 10 => rfl
    | 11 => rfl
    | 12 => rfl
    | 13 => rfl
    | 14 => rfl
    | 15 => rfl
    | 16 => rfl
    | 17 => rfl
    | 18 => rfl
    | 19 => rfl
    | 20 => rfl
    | 21 => rfl
    | 22 => rfl
    | 23 => rfl
    | 24 => rfl
    | k + 25 => rfl) (by decide +kernel)
  refine W.widen (k := 16) (n := 22878) (Nat.le_of_ble_eq_true rfl) (Nat.le_of_ble_eq_true rfl) ?_
  have hS7 := hB16.2.2
  refine lv_aload_n hx hb dX8_init_139 rfl hl0 ?_
  refine lv_bipush (v := xI 64) hx hb dX8_init_140 (by decide) ?_
  refine lv_bipush (v := xI 64) hx hb dX8_init_142 (by decide) ?_
  refine xcV (ci := 8) (as := [.inl 64, .inl 64]) (μ := [ob0]) (r := (none, [bgM ob0 64 64])) (rest := []) hx hb hml hown hts hKS hl.1 ct_X8_begins rfl rfl rfl (XP_zero 1 z1) z2 rfl hS7 (fun q hq => by
    rcases hq with ⟨i, j, ps, hps, rfl⟩ | hq
    · exact z3 i j ps hps
    · exact Or.inr (Nat.le_trans hS7.1 hq)) (Nat.le_of_ble_eq_true rfl) (Nat.le_of_ble_eq_true rfl) yi_X8_begins (hts _ wd_867) rfl wd_869 wd_18 wd_81 wd_870 rfl (Nat.le_of_ble_eq_true rfl) dX8_init_144 (Nat.le_of_ble_eq_true rfl) (Nat.le_of_ble_eq_true rfl) (fun H8 locs8 hP8 hz8 hk8 hS8 => ?_)
  exact W.vret hx hb hr (fun t ht hW => ⟨rfl, ⟨_, rfl, by rw [ht]; exact hP8, z2, fun i j ps hps hne => (z3 i j ps hps).resolve_left (fun v => hne (z2 i j 0 0 ps _ hps rfl v))⟩, hS8.F ht⟩) hS8.2.2 dX8_init_147
