theorem dX6_init_0 : decode cX6_init 0 = .ok (.aload_n 0, 1) := by decide +kernel
theorem dX6_init_1 : decode cX6_init 1 = .ok (.invokespecial 3, 3) := by decide +kernel
theorem dX6_init_4 : decode cX6_init 4 = .ok (.aload_n 0, 1) := by decide +kernel
theorem dX6_init_5 : decode cX6_init 5 = .ok (.bipush 12, 2) := by decide +kernel
theorem dX6_init_7 : decode cX6_init 7 = .ok (.newarray .int, 2) := by decide +kernel
theorem dX6_init_9 : decode cX6_init 9 = .ok (.putfield 9, 3) := by decide +kernel
theorem dX6_init_12 : decode cX6_init 12 = .ok (.aload_n 0, 1) := by decide +kernel
theorem dX6_init_13 : decode cX6_init 13 = .ok (.bipush 12, 2) := by decide +kernel
theorem dX6_init_15 : decode cX6_init 15 = .ok (.newarray .int, 2) := by decide +kernel
theorem dX6_init_17 : decode cX6_init 17 = .ok (.putfield 15, 3) := by decide +kernel
theorem dX6_init_20 : decode cX6_init 20 = .ok (.return_, 1) := by decide +kernel
set_option maxHeartbeats 4000000 in
set_option maxRecDepth 100000 in
theorem nw_X6 : XNw yX6_init cX6_init 1 6 [.null, .null, .int 0] shw_6 [] 1 2 24 := by
  intro l D g h0 sz
  refine Met.ofW (cc := cX6_init) (maxL := 1) (ret := none) (by decide) rfl ?_
  intro p e s m args below meth c s₁ B hml hv
  obtain ⟨rfl, hsz, hKS, hAO, hP⟩ := hv
  have hx := B.exec
  have hb := B.bytes
  have hr := B.returns
  have hts0 := atoms_spec (ws := xws yX6_init cX6_init 1 none) B.pre
  have hts : ∀ w ∈ BIG, w.before ([Value.ref h0].toArray) s = true := fun w hw => hts0 w (List.mem_cons_of_mem _ hw)
  have hown : s.vm.findClass RX6 = some m.cls := findClass_of_methodNamed B.named
  have hlocks := B.notSynchronized
  have hin0 : meth.name = "<init>" := (name_of_methodNamed B.named B.method).1
  subst hsz
  have hl := lv_entry ([.ref h0]) (n := 1) (Nat.le_of_ble_eq_true rfl)
  rw [lg_entry_eq]
  generalize (lg_sl ([.ref h0]) ++ List.replicate (1 - (lg_sl ([.ref h0])).length) Slot.unset).toArray = ls at hl ⊢
  have hl : lv_has ls 1 [(0, .ref h0)] := hl
  have hl0 := lv_at hl 0 rfl
  have C : CX p s m ([Value.ref h0].toArray) meth c cX6_init 1 RX6 D g (fun q => q = h0 ∨ s.heap.size ≤ q) := ⟨hx, hb, hml, hown, hts, hKS, hAO, fun q hq => Or.inr hq, hr, hlocks, hin0⟩
  have hB0 : BS D g (fun q => q = h0 ∨ s.heap.size ≤ q) shw_6 6 h0 s.heap (fun _ _ => h0) [] [.null, .null, .int 0] s.heap [] := ⟨hP, bs_one (Or.inl rfl), va_S.rf⟩
  refine lv_aload_n hx hb dX6_init_0 rfl hl0 ?_
  refine W.objInit hx hb hown (hts _ wd_196) (hts _ wd_91) (hts _ wd_92) rfl (by rw [hml]; exact hl.1) rfl dX6_init_1 (Nat.le_of_ble_eq_true rfl) (Nat.le_of_ble_eq_true rfl) ?_
  refine W.eq (g2 := F0 m 4 ls []) rfl ?_
  refine stA (kf := 0) (n := 12) (t := 0) (j := 1) (len := 2) (nI := 12) (atype := .int) (aty := .int) C hB0 hl0 rfl inX6 tyX6_ok nmX6 (by decide) wd_197 rfl rfl (fun _ => rfl) (fun _ => rfl) (Nat.le_of_ble_eq_true rfl) wc_166 rfl (Or.inl ⟨rfl, rfl⟩) rfl (by decide) dX6_init_4 (Or.inl ⟨rfl, 12, dX6_init_5, by decide⟩) dX6_init_7 dX6_init_9 (by decide) (by decide) (Nat.le_of_ble_eq_true rfl) (Nat.le_of_ble_eq_true rfl) (Nat.le_of_ble_eq_true rfl) (fun q1 H1 locs1 hB1 => ?_)
  refine stA (kf := 1) (n := 12) (t := 0) (j := 2) (len := 2) (nI := 12) (atype := .int) (aty := .int) C hB1 hl0 rfl inX6 tyX6_ok nmX6 (by decide) wd_200 rfl rfl (fun _ => rfl) (fun _ => rfl) (Nat.le_of_ble_eq_true rfl) wc_166 rfl (Or.inl ⟨rfl, rfl⟩) rfl (by decide) dX6_init_12 (Or.inl ⟨rfl, 12, dX6_init_13, by decide⟩) dX6_init_15 dX6_init_17 (by decide) (by decide) (Nat.le_of_ble_eq_true rfl) (Nat.le_of_ble_eq_true rfl) (Nat.le_of_ble_eq_true rfl) (fun q2 H2 locs2 hB2 => ?_)
  obtain ⟨z1, z2, z3⟩ := bs_XP hB2 rfl rfl rfl (by decide)
  refine W.widen (k := 2) (n := 24) (Nat.le_of_ble_eq_true rfl) (Nat.le_of_ble_eq_true rfl) ?_
  exact W.vret hx hb hr (fun t ht hW => ⟨rfl, ⟨_, rfl, by rw [ht]; exact z1, z2, fun i j ps hps hne => (z3 i j ps hps).resolve_left (fun v => hne (z2 i j 0 0 ps _ hps rfl v))⟩, hB2.2.2.F ht⟩) hB2.2.2.2.2 dX6_init_20
theorem dX4_init_0 : decode cX4_init 0 = .ok (.aload_n 0, 1) := by decide +kernel
theorem dX4_init_1 : decode cX4_init 1 = .ok (.invokespecial 3, 3) := by decide +kernel
theorem dX4_init_4 : decode cX4_init 4 = .ok (.aload_n 0, 1) := by decide +kernel
theorem dX4_init_5 : decode cX4_init 5 = .ok (.bipush 11, 2) := by decide +kernel
theorem dX4_init_7 : decode cX4_init 7 = .ok (.newarray .int, 2) := by decide +kernel
theorem dX4_init_9 : decode cX4_init 9 = .ok (.putfield 9, 3) := by decide +kernel
theorem dX4_init_12 : decode cX4_init 12 = .ok (.aload_n 0, 1) := by decide +kernel
theorem dX4_init_13 : decode cX4_init 13 = .ok (.sipush 2048, 3) := by decide +kernel
theorem dX4_init_16 : decode cX4_init 16 = .ok (.newarray .int, 2) := by decide +kernel
theorem dX4_init_18 : decode cX4_init 18 = .ok (.putfield 15, 3) := by decide +kernel
theorem dX4_init_21 : decode cX4_init 21 = .ok (.return_, 1) := by decide +kernel
set_option maxHeartbeats 4000000 in
set_option maxRecDepth 100000 in
theorem nw_X4 : XNw yX4_init cX4_init 1 4 [.null, .null, .int 0, .int 0, .int 0] shw_4 [] 1 2 2059 := by
  intro l D g h0 sz
  refine Met.ofW (cc := cX4_init) (maxL := 1) (ret := none) (by decide) rfl ?_
  intro p e s m args below meth c s₁ B hml hv
  obtain ⟨rfl, hsz, hKS, hAO, hP⟩ := hv
  have hx := B.exec
  have hb := B.bytes
  have hr := B.returns
  have hts0 := atoms_spec (ws := xws yX4_init cX4_init 1 none) B.pre
  have hts : ∀ w ∈ BIG, w.before ([Value.ref h0].toArray) s = true := fun w hw => hts0 w (List.mem_cons_of_mem _ hw)
  have hown : s.vm.findClass RX4 = some m.cls := findClass_of_methodNamed B.named
  have hlocks := B.notSynchronized
  have hin0 : meth.name = "<init>" := (name_of_methodNamed B.named B.method).1
  subst hsz
  have hl := lv_entry ([.ref h0]) (n := 1) (Nat.le_of_ble_eq_true rfl)
  rw [lg_entry_eq]
  generalize (lg_sl ([.ref h0]) ++ List.replicate (1 - (lg_sl ([.ref h0])).length) Slot.unset).toArray = ls at hl ⊢
  have hl : lv_has ls 1 [(0, .ref h0)] := hl
  have hl0 := lv_at hl 0 rfl
  have C : CX p s m ([Value.ref h0].toArray) meth c cX4_init 1 RX4 D g (fun q => q = h0 ∨ s.heap.size ≤ q) := ⟨hx, hb, hml, hown, hts, hKS, hAO, fun q hq => Or.inr hq, hr, hlocks, hin0⟩
  have hB0 : BS D g (fun q => q = h0 ∨ s.heap.size ≤ q) shw_4 4 h0 s.heap (fun _ _ => h0) [] [.null, .null, .int 0, .int 0, .int 0] s.heap [] := ⟨hP, bs_one (Or.inl rfl), va_S.rf⟩
  refine lv_aload_n hx hb dX4_init_0 rfl hl0 ?_
  refine W.objInit hx hb hown (hts _ wd_219) (hts _ wd_91) (hts _ wd_92) rfl (by rw [hml]; exact hl.1) rfl dX4_init_1 (Nat.le_of_ble_eq_true rfl) (Nat.le_of_ble_eq_true rfl) ?_
  refine W.eq (g2 := F0 m 4 ls []) rfl ?_
  refine stA (kf := 0) (n := 11) (t := 0) (j := 1) (len := 2) (nI := 11) (atype := .int) (aty := .int) C hB0 hl0 rfl inX4 tyX4_ok nmX4 (by decide) wd_220 rfl rfl (fun _ => rfl) (fun _ => rfl) (Nat.le_of_ble_eq_true rfl) wc_166 rfl (Or.inl ⟨rfl, rfl⟩) rfl (by decide) dX4_init_4 (Or.inl ⟨rfl, 11, dX4_init_5, by decide⟩) dX4_init_7 dX4_init_9 (by decide) (by decide) (Nat.le_of_ble_eq_true rfl) (Nat.le_of_ble_eq_true rfl) (Nat.le_of_ble_eq_true rfl) (fun q1 H1 locs1 hB1 => ?_)
  refine stA (kf := 1) (n := 2048) (t := 0) (j := 2) (len := 3) (nI := 2048) (atype := .int) (aty := .int) C hB1 hl0 rfl inX4 tyX4_ok nmX4 (by decide) wd_221 rfl rfl (fun _ => rfl) (fun _ => rfl) (Nat.le_of_ble_eq_true rfl) wc_166 rfl (Or.inl ⟨rfl, rfl⟩) rfl (by decide) dX4_init_12 (Or.inr ⟨rfl, 2048, dX4_init_13, by decide⟩) dX4_init_16 dX4_init_18 (by decide) (by decide) (Nat.le_of_ble_eq_true rfl) (Nat.le_of_ble_eq_true rfl) (Nat.le_of_ble_eq_true rfl) (fun q2 H2 locs2 hB2 => ?_)
  obtain ⟨z1, z2, z3⟩ := bs_XP hB2 rfl rfl rfl (by decide)
  refine W.widen (k := 2) (n := 2059) (Nat.le_of_ble_eq_true rfl) (Nat.le_of_ble_eq_true rfl) ?_
  exact W.vret hx hb hr (fun t ht hW => ⟨rfl, ⟨_, rfl, by rw [ht]; exact z1, z2, fun i j ps hps hne => (z3 i j ps hps).resolve_left (fun v => hne (z2 i j 0 0 ps _ hps rfl v))⟩, hB2.2.2.F ht⟩) hB2.2.2.2.2 dX4_init_21
theorem dX3_init_0 : decode cX3_init 0 = .ok (.aload_n 0, 1) := by decide +kernel
theorem dX3_init_1 : decode cX3_init 1 = .ok (.invokespecial 3, 3) := by decide +kernel
theorem dX3_init_4 : decode cX3_init 4 = .ok (.aload_n 0, 1) := by decide +kernel
theorem dX3_init_5 : decode cX3_init 5 = .ok (.bipush 11, 2) := by decide +kernel
theorem dX3_init_7 : decode cX3_init 7 = .ok (.newarray .int, 2) := by decide +kernel
theorem dX3_init_9 : decode cX3_init 9 = .ok (.putfield 9, 3) := by decide +kernel
theorem dX3_init_12 : decode cX3_init 12 = .ok (.aload_n 0, 1) := by decide +kernel
theorem dX3_init_13 : decode cX3_init 13 = .ok (.bipush 11, 2) := by decide +kernel
theorem dX3_init_15 : decode cX3_init 15 = .ok (.newarray .int, 2) := by decide +kernel
theorem dX3_init_17 : decode cX3_init 17 = .ok (.putfield 15, 3) := by decide +kernel
theorem dX3_init_20 : decode cX3_init 20 = .ok (.aload_n 0, 1) := by decide +kernel
theorem dX3_init_21 : decode cX3_init 21 = .ok (.sipush 660, 3) := by decide +kernel
theorem dX3_init_24 : decode cX3_init 24 = .ok (.newarray .int, 2) := by decide +kernel
theorem dX3_init_26 : decode cX3_init 26 = .ok (.putfield 18, 3) := by decide +kernel
theorem dX3_init_29 : decode cX3_init 29 = .ok (.aload_n 0, 1) := by decide +kernel
theorem dX3_init_30 : decode cX3_init 30 = .ok (.bipush 8, 2) := by decide +kernel
theorem dX3_init_32 : decode cX3_init 32 = .ok (.newarray .int, 2) := by decide +kernel
theorem dX3_init_34 : decode cX3_init 34 = .ok (.putfield 21, 3) := by decide +kernel
theorem dX3_init_37 : decode cX3_init 37 = .ok (.aload_n 0, 1) := by decide +kernel
theorem dX3_init_38 : decode cX3_init 38 = .ok (.bipush 8, 2) := by decide +kernel
theorem dX3_init_40 : decode cX3_init 40 = .ok (.newarray .int, 2) := by decide +kernel
theorem dX3_init_42 : decode cX3_init 42 = .ok (.putfield 24, 3) := by decide +kernel
theorem dX3_init_45 : decode cX3_init 45 = .ok (.aload_n 0, 1) := by decide +kernel
theorem dX3_init_46 : decode cX3_init 46 = .ok (.bipush 8, 2) := by decide +kernel
theorem dX3_init_48 : decode cX3_init 48 = .ok (.newarray .int, 2) := by decide +kernel
theorem dX3_init_50 : decode cX3_init 50 = .ok (.putfield 27, 3) := by decide +kernel
theorem dX3_init_53 : decode cX3_init 53 = .ok (.aload_n 0, 1) := by decide +kernel
theorem dX3_init_54 : decode cX3_init 54 = .ok (.bipush 8, 2) := by decide +kernel
theorem dX3_init_56 : decode cX3_init 56 = .ok (.newarray .int, 2) := by decide +kernel
theorem dX3_init_58 : decode cX3_init 58 = .ok (.putfield 30, 3) := by decide +kernel
theorem dX3_init_61 : decode cX3_init 61 = .ok (.return_, 1) := by decide +kernel
set_option maxHeartbeats 4000000 in
set_option maxRecDepth 100000 in
theorem nw_X3 : XNw yX3_init cX3_init 1 3 [.null, .null, .null, .null, .null, .null, .null, .int 0, .int 0, .int 0, .int 0, .int 0, .int 0, .int 0] shw_3 [] 1 7 714 := by
  intro l D g h0 sz
  refine Met.ofW (cc := cX3_init) (maxL := 1) (ret := none) (by decide) rfl ?_
  intro p e s m args below meth c s₁ B hml hv
  obtain ⟨rfl, hsz, hKS, hAO, hP⟩ := hv
  have hx := B.exec
  have hb := B.bytes
  have hr := B.returns
  have hts0 := atoms_spec (ws := xws yX3_init cX3_init 1 none) B.pre
  have hts : ∀ w ∈ BIG, w.before ([Value.ref h0].toArray) s = true := fun w hw => hts0 w (List.mem_cons_of_mem _ hw)
  have hown : s.vm.findClass RX3 = some m.cls := findClass_of_methodNamed B.named
  have hlocks := B.notSynchronized
  have hin0 : meth.name = "<init>" := (name_of_methodNamed B.named B.method).1
  subst hsz
  have hl := lv_entry ([.ref h0]) (n := 1) (Nat.le_of_ble_eq_true rfl)
  rw [lg_entry_eq]
  generalize (lg_sl ([.ref h0]) ++ List.replicate (1 - (lg_sl ([.ref h0])).length) Slot.unset).toArray = ls at hl ⊢
  have hl : lv_has ls 1 [(0, .ref h0)] := hl
  have hl0 := lv_at hl 0 rfl
  have C : CX p s m ([Value.ref h0].toArray) meth c cX3_init 1 RX3 D g (fun q => q = h0 ∨ s.heap.size ≤ q) := ⟨hx, hb, hml, hown, hts, hKS, hAO, fun q hq => Or.inr hq, hr, hlocks, hin0⟩
  have hB0 : BS D g (fun q => q = h0 ∨ s.heap.size ≤ q) shw_3 3 h0 s.heap (fun _ _ => h0) [] [.null, .null, .null, .null, .null, .null, .null, .int 0, .int 0, .int 0, .int 0, .int 0, .int 0, .int 0] s.heap [] := ⟨hP, bs_one (Or.inl rfl), va_S.rf⟩
  refine lv_aload_n hx hb dX3_init_0 rfl hl0 ?_
  refine W.objInit hx hb hown (hts _ wd_98) (hts _ wd_91) (hts _ wd_92) rfl (by rw [hml]; exact hl.1) rfl dX3_init_1 (Nat.le_of_ble_eq_true rfl) (Nat.le_of_ble_eq_true rfl) ?_
  refine W.eq (g2 := F0 m 4 ls []) rfl ?_
  refine stA (kf := 0) (n := 11) (t := 0) (j := 1) (len := 2) (nI := 11) (atype := .int) (aty := .int) C hB0 hl0 rfl inX3 tyX3_ok nmX3 (by decide) wd_99 rfl rfl (fun _ => rfl) (fun _ => rfl) (Nat.le_of_ble_eq_true rfl) wc_166 rfl (Or.inl ⟨rfl, rfl⟩) rfl (by decide) dX3_init_4 (Or.inl ⟨rfl, 11, dX3_init_5, by decide⟩) dX3_init_7 dX3_init_9 (by decide) (by decide) (Nat.le_of_ble_eq_true rfl) (Nat.le_of_ble_eq_true rfl) (Nat.le_of_ble_eq_true rfl) (fun q1 H1 locs1 hB1 => ?_)
  refine stA (kf := 1) (n := 11) (t := 0) (j := 2) (len := 2) (nI := 11) (atype := .int) (aty := .int) C hB1 hl0 rfl inX3 tyX3_ok nmX3 (by decide) wd_105 rfl rfl (fun _ => rfl) (fun _ => rfl) (Nat.le_of_ble_eq_true rfl) wc_166 rfl (Or.inl ⟨rfl, rfl⟩) rfl (by decide) dX3_init_12 (Or.inl ⟨rfl, 11, dX3_init_13, by decide⟩) dX3_init_15 dX3_init_17 (by decide) (by decide) (Nat.le_of_ble_eq_true rfl) (Nat.le_of_ble_eq_true rfl) (Nat.le_of_ble_eq_true rfl) (fun q2 H2 locs2 hB2 => ?_)
  refine stA (kf := 2) (n := 660) (t := 0) (j := 3) (len := 3) (nI := 660) (atype := .int) (aty := .int) C hB2 hl0 rfl inX3 tyX3_ok nmX3 (by decide) wd_111 rfl rfl (fun _ => rfl) (fun _ => rfl) (Nat.le_of_ble_eq_true rfl) wc_166 rfl (Or.inl ⟨rfl, rfl⟩) rfl (by decide) dX3_init_20 (Or.inr ⟨rfl, 660, dX3_init_21, by decide⟩) dX3_init_24 dX3_init_26 (by decide) (by decide) (Nat.le_of_ble_eq_true rfl) (Nat.le_of_ble_eq_true rfl) (Nat.le_of_ble_eq_true rfl) (fun q3 H3 locs3 hB3 => ?_)
  refine stA (kf := 3) (n := 8) (t := 0) (j := 4) (len := 2) (nI := 8) (atype := .int) (aty := .int) C hB3 hl0 rfl inX3 tyX3_ok nmX3 (by decide) wd_112 rfl rfl (fun _ => rfl) (fun _ => rfl) (Nat.le_of_ble_eq_true rfl) wc_166 rfl (Or.inl ⟨rfl, rfl⟩) rfl (by decide) dX3_init_29 (Or.inl ⟨rfl, 8, dX3_init_30, by decide⟩) dX3_init_32 dX3_init_34 (by decide) (by decide) (Nat.le_of_ble_eq_true rfl) (Nat.le_of_ble_eq_true rfl) (Nat.le_of_ble_eq_true rfl) (fun q4 H4 locs4 hB4 => ?_)
  refine stA (kf := 4) (n := 8) (t := 0) (j := 5) (len := 2) (nI := 8) (atype := .int) (aty := .int) C hB4 hl0 rfl inX3 tyX3_ok nmX3 (by decide) wd_114 rfl rfl (fun _ => rfl) (fun _ => rfl) (Nat.le_of_ble_eq_true rfl) wc_166 rfl (Or.inl ⟨rfl, rfl⟩) rfl (by decide) dX3_init_37 (Or.inl ⟨rfl, 8, dX3_init_38, by decide⟩) dX3_init_40 dX3_init_42 (by decide) (by decide) (Nat.le_of_ble_eq_true rfl) (Nat.le_of_ble_eq_true rfl) (Nat.le_of_ble_eq_true rfl) (fun q5 H5 locs5 hB5 => ?_)
  refine stA (kf := 5) (n := 8) (t := 0) (j := 6) (len := 2) (nI := 8) (atype := .int) (aty := .int) C hB5 hl0 rfl inX3 tyX3_ok nmX3 (by decide) wd_117 rfl rfl (fun _ => rfl) (fun _ => rfl) (Nat.le_of_ble_eq_true rfl) wc_166 rfl (Or.inl ⟨rfl, rfl⟩) rfl (by decide) dX3_init_45 (Or.inl ⟨rfl, 8, dX3_init_46, by decide⟩) dX3_init_48 dX3_init_50 (by decide) (by decide) (Nat.le_of_ble_eq_true rfl) (Nat.le_of_ble_eq_true rfl) (Nat.le_of_ble_eq_true rfl) (fun q6 H6 locs6 hB6 => ?_)
  refine stA (kf := 6) (n := 8) (t := 0) (j := 7) (len := 2) (nI := 8) (atype := .int) (aty := .int) C hB6 hl0 rfl inX3 tyX3_ok nmX3 (by decide) wd_119 rfl rfl (fun _ => rfl) (fun _ => rfl) (Nat.le_of_ble_eq_true rfl) wc_166 rfl (Or.inl ⟨rfl, rfl⟩) rfl (by decide) dX3_init_53 (Or.inl ⟨rfl, 8, dX3_init_54, by decide⟩) dX3_init_56 dX3_init_58 (by decide) (by decide) (Nat.le_of_ble_eq_true rfl) (Nat.le_of_ble_eq_true rfl) (Nat.le_of_ble_eq_true rfl) (fun q7 H7 locs7 hB7 => ?_)
  obtain ⟨z1, z2, z3⟩ := bs_XP hB7 rfl rfl rfl (by decide)
  refine W.widen (k := 7) (n := 714) (Nat.le_of_ble_eq_true rfl) (Nat.le_of_ble_eq_true rfl) ?_
  exact W.vret hx hb hr (fun t ht hW => ⟨rfl, ⟨_, rfl, by rw [ht]; exact z1, z2, fun i j ps hps hne => (z3 i j ps hps).resolve_left (fun v => hne (z2 i j 0 0 ps _ hps rfl v))⟩, hB7.2.2.F ht⟩) hB7.2.2.2.2 dX3_init_61
theorem dX0_init_0 : decode cX0_init 0 = .ok (.aload_n 0, 1) := by decide +kernel
theorem dX0_init_1 : decode cX0_init 1 = .ok (.invokespecial 3, 3) := by decide +kernel
theorem dX0_init_4 : decode cX0_init 4 = .ok (.aload_n 0, 1) := by decide +kernel
theorem dX0_init_5 : decode cX0_init 5 = .ok (.new 9, 3) := by decide +kernel
theorem dX0_init_8 : decode cX0_init 8 = .ok (.dup, 1) := by decide +kernel
theorem dX0_init_9 : decode cX0_init 9 = .ok (.invokespecial 11, 3) := by decide +kernel
theorem dX0_init_12 : decode cX0_init 12 = .ok (.putfield 12, 3) := by decide +kernel
theorem dX0_init_15 : decode cX0_init 15 = .ok (.aload_n 0, 1) := by decide +kernel
theorem dX0_init_16 : decode cX0_init 16 = .ok (.new 18, 3) := by decide +kernel
theorem dX0_init_19 : decode cX0_init 19 = .ok (.dup, 1) := by decide +kernel
theorem dX0_init_20 : decode cX0_init 20 = .ok (.invokespecial 20, 3) := by decide +kernel
theorem dX0_init_23 : decode cX0_init 23 = .ok (.putfield 21, 3) := by decide +kernel
theorem dX0_init_26 : decode cX0_init 26 = .ok (.aload_n 0, 1) := by decide +kernel
theorem dX0_init_27 : decode cX0_init 27 = .ok (.bipush 8, 2) := by decide +kernel
theorem dX0_init_29 : decode cX0_init 29 = .ok (.newarray .int, 2) := by decide +kernel
theorem dX0_init_31 : decode cX0_init 31 = .ok (.putfield 25, 3) := by decide +kernel
theorem dX0_init_34 : decode cX0_init 34 = .ok (.aload_n 0, 1) := by decide +kernel
theorem dX0_init_35 : decode cX0_init 35 = .ok (.bipush 8, 2) := by decide +kernel
theorem dX0_init_37 : decode cX0_init 37 = .ok (.newarray .int, 2) := by decide +kernel
theorem dX0_init_39 : decode cX0_init 39 = .ok (.putfield 29, 3) := by decide +kernel
theorem dX0_init_42 : decode cX0_init 42 = .ok (.aload_n 0, 1) := by decide +kernel
theorem dX0_init_43 : decode cX0_init 43 = .ok (.bipush 8, 2) := by decide +kernel
theorem dX0_init_45 : decode cX0_init 45 = .ok (.newarray .int, 2) := by decide +kernel
theorem dX0_init_47 : decode cX0_init 47 = .ok (.putfield 32, 3) := by decide +kernel
theorem dX0_init_50 : decode cX0_init 50 = .ok (.aload_n 0, 1) := by decide +kernel
theorem dX0_init_51 : decode cX0_init 51 = .ok (.bipush 8, 2) := by decide +kernel
theorem dX0_init_53 : decode cX0_init 53 = .ok (.newarray .int, 2) := by decide +kernel
theorem dX0_init_55 : decode cX0_init 55 = .ok (.putfield 35, 3) := by decide +kernel
theorem dX0_init_58 : decode cX0_init 58 = .ok (.aload_n 0, 1) := by decide +kernel
theorem dX0_init_59 : decode cX0_init 59 = .ok (.bipush 12, 2) := by decide +kernel
theorem dX0_init_61 : decode cX0_init 61 = .ok (.newarray .int, 2) := by decide +kernel
theorem dX0_init_63 : decode cX0_init 63 = .ok (.putfield 38, 3) := by decide +kernel
theorem dX0_init_66 : decode cX0_init 66 = .ok (.return_, 1) := by decide +kernel
set_option maxHeartbeats 4000000 in
set_option maxRecDepth 100000 in
theorem nw_X0 : XNw yX0_init cX0_init 1 0 [.null, .null, .null, .null, .null, .null, .null, .int 0] shw_0_6_4 [] 2 11 2135 := by
  intro l D g h0 sz
  refine Met.ofW (cc := cX0_init) (maxL := 1) (ret := none) (by decide) rfl ?_
  intro p e s m args below meth c s₁ B hml hv
  obtain ⟨rfl, hsz, hKS, hAO, hP⟩ := hv
  have hx := B.exec
  have hb := B.bytes
  have hr := B.returns
  have hts0 := atoms_spec (ws := xws yX0_init cX0_init 1 none) B.pre
  have hts : ∀ w ∈ BIG, w.before ([Value.ref h0].toArray) s = true := fun w hw => hts0 w (List.mem_cons_of_mem _ hw)
  have hown : s.vm.findClass RX0 = some m.cls := findClass_of_methodNamed B.named
  have hlocks := B.notSynchronized
  have hin0 : meth.name = "<init>" := (name_of_methodNamed B.named B.method).1
  subst hsz
  have hl := lv_entry ([.ref h0]) (n := 1) (Nat.le_of_ble_eq_true rfl)
  rw [lg_entry_eq]
  generalize (lg_sl ([.ref h0]) ++ List.replicate (1 - (lg_sl ([.ref h0])).length) Slot.unset).toArray = ls at hl ⊢
  have hl : lv_has ls 1 [(0, .ref h0)] := hl
  have hl0 := lv_at hl 0 rfl
  have C : CX p s m ([Value.ref h0].toArray) meth c cX0_init 1 RX0 D g (fun q => q = h0 ∨ s.heap.size ≤ q) := ⟨hx, hb, hml, hown, hts, hKS, hAO, fun q hq => Or.inr hq, hr, hlocks, hin0⟩
  have hB0 : BS D g (fun q => q = h0 ∨ s.heap.size ≤ q) shw_0_6_4 0 h0 s.heap (fun _ _ => h0) [] [.null, .null, .null, .null, .null, .null, .null, .int 0] s.heap [] := ⟨hP, bs_one (Or.inl rfl), va_S.rf⟩
  refine lv_aload_n hx hb dX0_init_0 rfl hl0 ?_
  refine W.objInit hx hb hown (hts _ wd_247) (hts _ wd_91) (hts _ wd_92) rfl (by rw [hml]; exact hl.1) rfl dX0_init_1 (Nat.le_of_ble_eq_true rfl) (Nat.le_of_ble_eq_true rfl) ?_
  refine W.eq (g2 := F0 m 4 ls []) rfl ?_
  refine stB (kf := 0) (mp := [1]) C hB0 hl0 hl.1 rfl inX0 tyX0_ok nmX0 (by decide) wd_252 rfl rfl (fun _ => rfl) (fun _ => rfl) (Nat.le_of_ble_eq_true rfl) rfl inX6 tyX6_ok fsX6 wc_248 wc_192 wd_76 nw_X6 (Or.inr ⟨_, wd_249⟩) wd_76 wd_194 wd_195 rfl (by decide +kernel) (Nat.le_of_ble_eq_true rfl) (Nat.le_of_ble_eq_true rfl) ⟨rfl, by decide, rfl⟩ (by decide) (by decide) dX0_init_4 dX0_init_5 dX0_init_8 dX0_init_9 dX0_init_12 (Nat.le_of_ble_eq_true rfl) (Nat.le_of_ble_eq_true rfl) (fun ad1 H1 locs1 hB1 => ?_)
  refine stB (kf := 1) (mp := [2]) C hB1 hl0 hl.1 rfl inX0 tyX0_ok nmX0 (by decide) wd_253 rfl rfl (fun _ => rfl) (fun _ => rfl) (Nat.le_of_ble_eq_true rfl) rfl inX4 tyX4_ok fsX4 wc_250 wc_215 wd_77 nw_X4 (Or.inr ⟨_, wd_251⟩) wd_77 wd_217 wd_218 rfl (by decide +kernel) (Nat.le_of_ble_eq_true rfl) (Nat.le_of_ble_eq_true rfl) ⟨rfl, by decide, rfl⟩ (by decide) (by decide) dX0_init_15 dX0_init_16 dX0_init_19 dX0_init_20 dX0_init_23 (Nat.le_of_ble_eq_true rfl) (Nat.le_of_ble_eq_true rfl) (fun ad2 H2 locs2 hB2 => ?_)
  refine stA (kf := 2) (n := 8) (t := 0) (j := 1) (len := 2) (nI := 8) (atype := .int) (aty := .int) C hB2 hl0 rfl inX0 tyX0_ok nmX0 (by decide) wd_254 rfl rfl (fun _ => rfl) (fun _ => rfl) (Nat.le_of_ble_eq_true rfl) wc_166 rfl (Or.inl ⟨rfl, rfl⟩) rfl (by decide) dX0_init_26 (Or.inl ⟨rfl, 8, dX0_init_27, by decide⟩) dX0_init_29 dX0_init_31 (by decide) (by decide) (Nat.le_of_ble_eq_true rfl) (Nat.le_of_ble_eq_true rfl) (Nat.le_of_ble_eq_true rfl) (fun q3 H3 locs3 hB3 => ?_)
  refine stA (kf := 3) (n := 8) (t := 0) (j := 2) (len := 2) (nI := 8) (atype := .int) (aty := .int) C hB3 hl0 rfl inX0 tyX0_ok nmX0 (by decide) wd_255 rfl rfl (fun _ => rfl) (fun _ => rfl) (Nat.le_of_ble_eq_true rfl) wc_166 rfl (Or.inl ⟨rfl, rfl⟩) rfl (by decide) dX0_init_34 (Or.inl ⟨rfl, 8, dX0_init_35, by decide⟩) dX0_init_37 dX0_init_39 (by decide) (by decide) (Nat.le_of_ble_eq_true rfl) (Nat.le_of_ble_eq_true rfl) (Nat.le_of_ble_eq_true rfl) (fun q4 H4 locs4 hB4 => ?_)
  refine stA (kf := 4) (n := 8) (t := 0) (j := 3) (len := 2) (nI := 8) (atype := .int) (aty := .int) C hB4 hl0 rfl inX0 tyX0_ok nmX0 (by decide) wd_256 rfl rfl (fun _ => rfl) (fun _ => rfl) (Nat.le_of_ble_eq_true rfl) wc_166 rfl (Or.inl ⟨rfl, rfl⟩) rfl (by decide) dX0_init_42 (Or.inl ⟨rfl, 8, dX0_init_43, by decide⟩) dX0_init_45 dX0_init_47 (by decide) (by decide) (Nat.le_of_ble_eq_true rfl) (Nat.le_of_ble_eq_true rfl) (Nat.le_of_ble_eq_true rfl) (fun q5 H5 locs5 hB5 => ?_)
  refine stA (kf := 5) (n := 8) (t := 0) (j := 4) (len := 2) (nI := 8) (atype := .int) (aty := .int) C hB5 hl0 rfl inX0 tyX0_ok nmX0 (by decide) wd_257 rfl rfl (fun _ => rfl) (fun _ => rfl) (Nat.le_of_ble_eq_true rfl) wc_166 rfl (Or.inl ⟨rfl, rfl⟩) rfl (by decide) dX0_init_50 (Or.inl ⟨rfl, 8, dX0_init_51, by decide⟩) dX0_init_53 dX0_init_55 (by decide) (by decide) (Nat.le_of_ble_eq_true rfl) (Nat.le_of_ble_eq_true rfl) (Nat.le_of_ble_eq_true rfl) (fun q6 H6 locs6 hB6 => ?_)
  refine stA (kf := 6) (n := 12) (t := 0) (j := 5) (len := 2) (nI := 12) (atype := .int) (aty := .int) C hB6 hl0 rfl inX0 tyX0_ok nmX0 (by decide) wd_258 rfl rfl (fun _ => rfl) (fun _ => rfl) (Nat.le_of_ble_eq_true rfl) wc_166 rfl (Or.inl ⟨rfl, rfl⟩) rfl (by decide) dX0_init_58 (Or.inl ⟨rfl, 12, dX0_init_59, by decide⟩) dX0_init_61 dX0_init_63 (by decide) (by decide) (Nat.le_of_ble_eq_true rfl) (Nat.le_of_ble_eq_true rfl) (Nat.le_of_ble_eq_true rfl) (fun q7 H7 locs7 hB7 => ?_)
  obtain ⟨z1, z2, z3⟩ := bs_XP hB7 rfl rfl rfl (by decide)
  refine W.widen (k := 11) (n := 2135) (Nat.le_of_ble_eq_true rfl) (Nat.le_of_ble_eq_true rfl) ?_
  exact W.vret hx hb hr (fun t ht hW => ⟨rfl, ⟨_, rfl, by rw [ht]; exact z1, z2, fun i j ps hps hne => (z3 i j ps hps).resolve_left (fun v => hne (z2 i j 0 0 ps _ hps rfl v))⟩, hB7.2.2.F ht⟩) hB7.2.2.2.2 dX0_init_66
theorem dX1_init_0 : decode cX1_init 0 = .ok (.aload_n 0, 1) := by decide +kernel
theorem dX1_init_1 : decode cX1_init 1 = .ok (.invokespecial 3, 3) := by decide +kernel
theorem dX1_init_4 : decode cX1_init 4 = .ok (.aload_n 0, 1) := by decide +kernel
theorem dX1_init_5 : decode cX1_init 5 = .ok (.new 9, 3) := by decide +kernel
theorem dX1_init_8 : decode cX1_init 8 = .ok (.dup, 1) := by decide +kernel
theorem dX1_init_9 : decode cX1_init 9 = .ok (.invokespecial 11, 3) := by decide +kernel
theorem dX1_init_12 : decode cX1_init 12 = .ok (.putfield 12, 3) := by decide +kernel
theorem dX1_init_15 : decode cX1_init 15 = .ok (.aload_n 0, 1) := by decide +kernel
theorem dX1_init_16 : decode cX1_init 16 = .ok (.bipush 11, 2) := by decide +kernel
theorem dX1_init_18 : decode cX1_init 18 = .ok (.newarray .int, 2) := by decide +kernel
theorem dX1_init_20 : decode cX1_init 20 = .ok (.putfield 18, 3) := by decide +kernel
theorem dX1_init_23 : decode cX1_init 23 = .ok (.return_, 1) := by decide +kernel
set_option maxHeartbeats 4000000 in
set_option maxRecDepth 100000 in
theorem nw_X1 : XNw yX1_init cX1_init 1 1 [.null, .null] shw_1_6 [] 2 4 38 := by
  intro l D g h0 sz
  refine Met.ofW (cc := cX1_init) (maxL := 1) (ret := none) (by decide) rfl ?_
  intro p e s m args below meth c s₁ B hml hv
  obtain ⟨rfl, hsz, hKS, hAO, hP⟩ := hv
  have hx := B.exec
  have hb := B.bytes
  have hr := B.returns
  have hts0 := atoms_spec (ws := xws yX1_init cX1_init 1 none) B.pre
  have hts : ∀ w ∈ BIG, w.before ([Value.ref h0].toArray) s = true := fun w hw => hts0 w (List.mem_cons_of_mem _ hw)
  have hown : s.vm.findClass RX1 = some m.cls := findClass_of_methodNamed B.named
  have hlocks := B.notSynchronized
  have hin0 : meth.name = "<init>" := (name_of_methodNamed B.named B.method).1
  subst hsz
  have hl := lv_entry ([.ref h0]) (n := 1) (Nat.le_of_ble_eq_true rfl)
  rw [lg_entry_eq]
  generalize (lg_sl ([.ref h0]) ++ List.replicate (1 - (lg_sl ([.ref h0])).length) Slot.unset).toArray = ls at hl ⊢
  have hl : lv_has ls 1 [(0, .ref h0)] := hl
  have hl0 := lv_at hl 0 rfl
  have C : CX p s m ([Value.ref h0].toArray) meth c cX1_init 1 RX1 D g (fun q => q = h0 ∨ s.heap.size ≤ q) := ⟨hx, hb, hml, hown, hts, hKS, hAO, fun q hq => Or.inr hq, hr, hlocks, hin0⟩
  have hB0 : BS D g (fun q => q = h0 ∨ s.heap.size ≤ q) shw_1_6 1 h0 s.heap (fun _ _ => h0) [] [.null, .null] s.heap [] := ⟨hP, bs_one (Or.inl rfl), va_S.rf⟩
  refine lv_aload_n hx hb dX1_init_0 rfl hl0 ?_
  refine W.objInit hx hb hown (hts _ wd_298) (hts _ wd_91) (hts _ wd_92) rfl (by rw [hml]; exact hl.1) rfl dX1_init_1 (Nat.le_of_ble_eq_true rfl) (Nat.le_of_ble_eq_true rfl) ?_
  refine W.eq (g2 := F0 m 4 ls []) rfl ?_
  refine stB (kf := 0) (mp := [1]) C hB0 hl0 hl.1 rfl inX1 tyX1_ok nmX1 (by decide) wd_301 rfl rfl (fun _ => rfl) (fun _ => rfl) (Nat.le_of_ble_eq_true rfl) rfl inX6 tyX6_ok fsX6 wc_299 wc_192 wd_76 nw_X6 (Or.inr ⟨_, wd_300⟩) wd_76 wd_194 wd_195 rfl (by decide +kernel) (Nat.le_of_ble_eq_true rfl) (Nat.le_of_ble_eq_true rfl) ⟨rfl, by decide, rfl⟩ (by decide) (by decide) dX1_init_4 dX1_init_5 dX1_init_8 dX1_init_9 dX1_init_12 (Nat.le_of_ble_eq_true rfl) (Nat.le_of_ble_eq_true rfl) (fun ad1 H1 locs1 hB1 => ?_)
  refine stA (kf := 1) (n := 11) (t := 0) (j := 1) (len := 2) (nI := 11) (atype := .int) (aty := .int) C hB1 hl0 rfl inX1 tyX1_ok nmX1 (by decide) wd_302 rfl rfl (fun _ => rfl) (fun _ => rfl) (Nat.le_of_ble_eq_true rfl) wc_166 rfl (Or.inl ⟨rfl, rfl⟩) rfl (by decide) dX1_init_15 (Or.inl ⟨rfl, 11, dX1_init_16, by decide⟩) dX1_init_18 dX1_init_20 (by decide) (by decide) (Nat.le_of_ble_eq_true rfl) (Nat.le_of_ble_eq_true rfl) (Nat.le_of_ble_eq_true rfl) (fun q2 H2 locs2 hB2 => ?_)
  obtain ⟨z1, z2, z3⟩ := bs_XP hB2 rfl rfl rfl (by decide)
  refine W.widen (k := 4) (n := 38) (Nat.le_of_ble_eq_true rfl) (Nat.le_of_ble_eq_true rfl) ?_
  exact W.vret hx hb hr (fun t ht hW => ⟨rfl, ⟨_, rfl, by rw [ht]; exact z1, z2, fun i j ps hps hne => (z3 i j ps hps).resolve_left (fun v => hne (z2 i j 0 0 ps _ hps rfl v))⟩, hB2.2.2.F ht⟩) hB2.2.2.2.2 dX1_init_23
theorem dX2_init_0 : decode cX2_init 0 = .ok (.aload_n 0, 1) := by decide +kernel
theorem dX2_init_1 : decode cX2_init 1 = .ok (.invokespecial 3, 3) := by decide +kernel
theorem dX2_init_4 : decode cX2_init 4 = .ok (.aload_n 0, 1) := by decide +kernel
theorem dX2_init_5 : decode cX2_init 5 = .ok (.new 9, 3) := by decide +kernel
theorem dX2_init_8 : decode cX2_init 8 = .ok (.dup, 1) := by decide +kernel
theorem dX2_init_9 : decode cX2_init 9 = .ok (.invokespecial 11, 3) := by decide +kernel
theorem dX2_init_12 : decode cX2_init 12 = .ok (.putfield 12, 3) := by decide +kernel
theorem dX2_init_15 : decode cX2_init 15 = .ok (.return_, 1) := by decide +kernel
set_option maxHeartbeats 4000000 in
set_option maxRecDepth 100000 in
theorem nw_X2 : XNw yX2_init cX2_init 1 2 [.null, .int 0, .int 0, .int 0] shw_2_0_6_4 [] 3 12 2143 := by
  intro l D g h0 sz
  refine Met.ofW (cc := cX2_init) (maxL := 1) (ret := none) (by decide) rfl ?_
  intro p e s m args below meth c s₁ B hml hv
  obtain ⟨rfl, hsz, hKS, hAO, hP⟩ := hv
  have hx := B.exec
  have hb := B.bytes
  have hr := B.returns
  have hts0 := atoms_spec (ws := xws yX2_init cX2_init 1 none) B.pre
  have hts : ∀ w ∈ BIG, w.before ([Value.ref h0].toArray) s = true := fun w hw => hts0 w (List.mem_cons_of_mem _ hw)
  have hown : s.vm.findClass RX2 = some m.cls := findClass_of_methodNamed B.named
  have hlocks := B.notSynchronized
  have hin0 : meth.name = "<init>" := (name_of_methodNamed B.named B.method).1
  subst hsz
  have hl := lv_entry ([.ref h0]) (n := 1) (Nat.le_of_ble_eq_true rfl)
  rw [lg_entry_eq]
  generalize (lg_sl ([.ref h0]) ++ List.replicate (1 - (lg_sl ([.ref h0])).length) Slot.unset).toArray = ls at hl ⊢
  have hl : lv_has ls 1 [(0, .ref h0)] := hl
  have hl0 := lv_at hl 0 rfl
  have C : CX p s m ([Value.ref h0].toArray) meth c cX2_init 1 RX2 D g (fun q => q = h0 ∨ s.heap.size ≤ q) := ⟨hx, hb, hml, hown, hts, hKS, hAO, fun q hq => Or.inr hq, hr, hlocks, hin0⟩
  have hB0 : BS D g (fun q => q = h0 ∨ s.heap.size ≤ q) shw_2_0_6_4 2 h0 s.heap (fun _ _ => h0) [] [.null, .int 0, .int 0, .int 0] s.heap [] := ⟨hP, bs_one (Or.inl rfl), va_S.rf⟩
  refine lv_aload_n hx hb dX2_init_0 rfl hl0 ?_
  refine W.objInit hx hb hown (hts _ wd_241) (hts _ wd_91) (hts _ wd_92) rfl (by rw [hml]; exact hl.1) rfl dX2_init_1 (Nat.le_of_ble_eq_true rfl) (Nat.le_of_ble_eq_true rfl) ?_
  refine W.eq (g2 := F0 m 4 ls []) rfl ?_
  refine stB (kf := 0) (mp := [1, 2, 3]) C hB0 hl0 hl.1 rfl inX2 tyX2_ok nmX2 (by decide) wd_277 rfl rfl (fun _ => rfl) (fun _ => rfl) (Nat.le_of_ble_eq_true rfl) rfl inX0 tyX0_ok fsX0 wc_242 wc_243 wd_79 nw_X0 (Or.inr ⟨_, wd_244⟩) wd_79 wd_245 wd_246 rfl (by decide +kernel) (Nat.le_of_ble_eq_true rfl) (Nat.le_of_ble_eq_true rfl) ⟨rfl, by decide, rfl⟩ (by decide) (by decide) dX2_init_4 dX2_init_5 dX2_init_8 dX2_init_9 dX2_init_12 (Nat.le_of_ble_eq_true rfl) (Nat.le_of_ble_eq_true rfl) (fun ad1 H1 locs1 hB1 => ?_)
  obtain ⟨z1, z2, z3⟩ := bs_XP hB1 rfl rfl rfl (by decide)
  refine W.widen (k := 12) (n := 2143) (Nat.le_of_ble_eq_true rfl) (Nat.le_of_ble_eq_true rfl) ?_
  exact W.vret hx hb hr (fun t ht hW => ⟨rfl, ⟨_, rfl, by rw [ht]; exact z1, z2, fun i j ps hps hne => (z3 i j ps hps).resolve_left (fun v => hne (z2 i j 0 0 ps _ hps rfl v))⟩, hB1.2.2.F ht⟩) hB1.2.2.2.2 dX2_init_15
