theorem dX5_init_0 : decode cX5_init 0 = .ok (.aload_n 0, 1) := by decide +kernel
theorem dX5_init_1 : decode cX5_init 1 = .ok (.invokespecial 3, 3) := by decide +kernel
theorem dX5_init_4 : decode cX5_init 4 = .ok (.aload_n 0, 1) := by decide +kernel
theorem dX5_init_5 : decode cX5_init 5 = .ok (.bipush 13, 2) := by decide +kernel
theorem dX5_init_7 : decode cX5_init 7 = .ok (.anewarray 9, 3) := by decide +kernel
theorem dX5_init_10 : decode cX5_init 10 = .ok (.putfield 11, 3) := by decide +kernel
theorem dX5_init_13 : decode cX5_init 13 = .ok (.iconst 0, 1) := by decide +kernel
theorem dX5_init_14 : decode cX5_init 14 = .ok (.istore_n 1, 1) := by decide +kernel
theorem dX5_init_15 : decode cX5_init 15 = .ok (.iload_n 1, 1) := by decide +kernel
theorem dX5_init_16 : decode cX5_init 16 = .ok (.aload_n 0, 1) := by decide +kernel
theorem dX5_init_17 : decode cX5_init 17 = .ok (.getfield 11, 3) := by decide +kernel
theorem dX5_init_20 : decode cX5_init 20 = .ok (.arraylength, 1) := by decide +kernel
theorem dX5_init_21 : decode cX5_init 21 = .ok (.if_icmp .ge 22, 3) := by decide +kernel
theorem dX5_init_24 : decode cX5_init 24 = .ok (.aload_n 0, 1) := by decide +kernel
theorem dX5_init_25 : decode cX5_init 25 = .ok (.getfield 11, 3) := by decide +kernel
theorem dX5_init_28 : decode cX5_init 28 = .ok (.iload_n 1, 1) := by decide +kernel
theorem dX5_init_29 : decode cX5_init 29 = .ok (.new 9, 3) := by decide +kernel
theorem dX5_init_32 : decode cX5_init 32 = .ok (.dup, 1) := by decide +kernel
theorem dX5_init_33 : decode cX5_init 33 = .ok (.invokespecial 17, 3) := by decide +kernel
theorem dX5_init_36 : decode cX5_init 36 = .ok (.aastore, 1) := by decide +kernel
theorem dX5_init_37 : decode cX5_init 37 = .ok (.iinc 1 1, 3) := by decide +kernel
theorem dX5_init_40 : decode cX5_init 40 = .ok (.goto (-25), 3) := by decide +kernel
theorem dX5_init_43 : decode cX5_init 43 = .ok (.return_, 1) := by decide +kernel
def SP (i : Nat) : List (Nat × Nat) := (List.range i).flatMap fun k => keysOf [k + 1] shw_3
theorem SP_succ (i : Nat) : SP (i + 1) = SP i ++ keysOf [i + 1] shw_3 := by
  unfold SP
  rw [List.range_succ, List.flatMap_append]
  simp
def fP (ad : Nat → Nat → Nat) (i : Nat) : Nat → Option Nat := fun k => if k < i then some (ad (k + 1) 0) else none
theorem fitP : ∀ i, i < 13 → xfit [i + 1] shw_P shw_3 ∧ okB shw_P (SP i) [i + 1] = true := fun i hi => match i, hi with
  | 0, _ => ⟨⟨rfl, by decide, rfl⟩, by decide +kernel⟩
  | 1, _ => ⟨⟨rfl, by decide, rfl⟩, by decide +kernel⟩
  | 2, _ => ⟨⟨rfl, by decide, rfl⟩, by decide +kernel⟩
  | 3, _ => ⟨⟨rfl, by decide, rfl⟩, by decide +kernel⟩
  | 4, _ => ⟨⟨rfl, by decide, rfl⟩, by decide +kernel⟩
  | 5, _ => ⟨⟨rfl, by decide, rfl⟩, by decide +kernel⟩
  | 6, _ => ⟨⟨rfl, by decide, rfl⟩, by decide +kernel⟩
  | 7, _ => ⟨⟨rfl, by decide, rfl⟩, by decide +kernel⟩
  | 8, _ => ⟨⟨rfl, by decide, rfl⟩, by decide +kernel⟩
  | 9, _ => ⟨⟨rfl, by decide, rfl⟩, by decide +kernel⟩
  | 10, _ => ⟨⟨rfl, by decide, rfl⟩, by decide +kernel⟩
  | 11, _ => ⟨⟨rfl, by decide, rfl⟩, by decide +kernel⟩
  | 12, _ => ⟨⟨rfl, by decide, rfl⟩, by decide +kernel⟩
  | i + 13, hi => absurd hi (by omega)
theorem clo3 : clo shw_3 = true := by decide +kernel
abbrev cellP (qa : Nat) : va_E := .inr (5, [.ref qa, .int 0, .int 0, .int 0])
abbrev arrP (g : xG3) (f : Nat → Option Nat) : va_E := .inl (g.2.2, 13, .inr (.inr (.inr (.inr f))))
set_option maxHeartbeats 4000000 in
set_option maxRecDepth 100000 in
theorem pastLoop {p : Program} {l : Launch} {e : Env} {R : Room} {s : State} {m : MethodId} {args : Array Value} {below : List Frame} {meth : Method} {c : Code} {D : va_G} {g : xG3} {A : Nat → Prop} {Q : State → Prop} {h0 qa : Nat} (C : CX p s m args meth c cX5_init 2 RX5 D g A) (hRc : 105 ≤ R.cells) (hRs : 9477 ≤ R.slots) (hRf : 2 ≤ R.frames) (hRl : 128 ≤ R.locals)
    (kk : ∀ (H : Heap) (locs : List Loc) (ls : Array Slot) (ad : Nat → Nat → Nat), ad 0 0 = h0 → ad 0 1 = qa → va_P D classes ((h0, cellP qa) :: (qa, arrP g (fP ad 13)) :: bwl g ad shw_P (SP 13)) H → va_D A ((h0, cellP qa) :: (qa, arrP g (fP ad 13)) :: bwl g ad shw_P (SP 13)) → va_S A s.heap H locs → W p l e R s m args below meth c H locs 105 9477 Q (F0 m 43 ls [])) :
    ∀ (d i : Nat), i + d = 13 → ∀ (H : Heap) (locs : List Loc) (ls : Array Slot) (ad : Nat → Nat → Nat), ad 0 0 = h0 → ad 0 1 = qa → va_P D classes ((h0, cellP qa) :: (qa, arrP g (fP ad i)) :: bwl g ad shw_P (SP i)) H → va_D A ((h0, cellP qa) :: (qa, arrP g (fP ad i)) :: bwl g ad shw_P (SP i)) → va_S A s.heap H locs → lv_has ls 2 [(1, .int (nI i)), (0, .ref h0)] → W p l e R s m args below meth c H locs (1 + 8 * i) (13 + 728 * i) Q (F0 m 15 ls []) := by
  obtain ⟨hx, hb, hml, hown, hts, hKS, hAO, hA, hr, hlk, hnm0⟩ := C
  intro d
  induction d with
  | zero =>
    intro i hi H locs ls ad a0 a1 hP hD hS hl
    have hi : i = 13 := by omega
    subst hi
    refine lv_iload_n hx hb dX5_init_15 rfl (lv_at hl 0 rfl) ?_
    refine lv_aload_n hx hb dX5_init_16 rfl (lv_at hl 1 rfl) ?_
    refine va_get (v := .ref qa) hx hb hts inX5 hown hKS.1 hP 0 (fs := [.ref qa, .int 0, .int 0, .int 0]) rfl rfl 0 (by decide) (hts _ wd_176) (fun _ z => z) rfl dX5_init_17 ?_
    refine va_alen hx hb hKS.1 hP 1 2 (cA := g.2.2) (x := (13, .inr (.inr (.inr (.inr (fP ad 13)))))) rfl (ty := .object RX3) rfl (v := nI 13) rfl dX5_init_20 ?_
    refine lv_icmp_ge (tgt := 43) hx hb dX5_init_21 (by decide) (fun _ => ?_) (fun hlt => absurd (nI_le (Nat.le_refl 13) (by decide)) hlt)
    exact kk H locs ls ad a0 a1 hP hD hS
  | succ d ih =>
    intro i hi H locs ls ad a0 a1 hP hD hS hl
    have hi13 : i < 13 := by omega
    refine lv_iload_n hx hb dX5_init_15 rfl (lv_at hl 0 rfl) ?_
    refine lv_aload_n hx hb dX5_init_16 rfl (lv_at hl 1 rfl) ?_
    refine va_get (v := .ref qa) hx hb hts inX5 hown hKS.1 hP 0 (fs := [.ref qa, .int 0, .int 0, .int 0]) rfl rfl 0 (by decide) (hts _ wd_176) (fun _ z => z) rfl dX5_init_17 ?_
    refine va_alen hx hb hKS.1 hP 1 2 (cA := g.2.2) (x := (13, .inr (.inr (.inr (.inr (fP ad i)))))) rfl (ty := .object RX3) rfl (v := nI 13) rfl dX5_init_20 ?_
    refine lv_icmp_ge (tgt := 43) hx hb dX5_init_21 (by decide) (fun hge => absurd hge (nI_ge hi13 (by decide))) (fun _ => ?_)
    refine lv_aload_n hx hb dX5_init_24 rfl (lv_at hl 1 rfl) ?_
    refine va_get (v := .ref qa) hx hb hts inX5 hown hKS.1 hP 0 (fs := [.ref qa, .int 0, .int 0, .int 0]) rfl rfl 0 (by decide) (hts _ wd_176) (fun _ z => z) rfl dX5_init_25 ?_
    refine lv_iload_n hx hb dX5_init_28 rfl (lv_at hl 0 rfl) ?_
    refine va_new (ci := 3) (fs := [.null, .null, .null, .null, .null, .null, .null, .int 0, .int 0, .int 0, .int 0, .int 0, .int 0, .int 0]) (C := RX3) (T := TX3) (N := 14) hx hb hts inX3 tyX3 tyX3_ok hown (hts _ wc_173) (hts _ wc_94) (hts _ wd_74) hKS.1 hP hD hS hA rfl fsX3 (by omega) (by omega) dX5_init_29 (fun q H1 hP1 hD1 hS1 => ?_)
    refine lv_dup hx hb dX5_init_32 rfl ?_
    have hlast : (((h0, cellP qa) :: (qa, arrP g (fP ad i)) :: bwl g ad shw_P (SP i)) ++ [(q, Sum.inr (3, [.null, .null, .null, .null, .null, .null, .null, .int 0, .int 0, .int 0, .int 0, .int 0, .int 0, .int 0]))])[((h0, cellP qa) :: (qa, arrP g (fP ad i)) :: bwl g ad shw_P (SP i)).length]? = some (q, Sum.inr (3, [.null, .null, .null, .null, .null, .null, .null, .int 0, .int 0, .int 0, .int 0, .int 0, .int 0, .int 0])) := by rw [List.getElem?_append_right (Nat.le_refl _), Nat.sub_self]; rfl
    have hPq : va_P D classes [(q, Sum.inr (3, [.null, .null, .null, .null, .null, .null, .null, .int 0, .int 0, .int 0, .int 0, .int 0, .int 0, .int 0]))] H1 := fun k x hx => by
      cases k with
      | zero =>
        cases hx
        exact hP1 _ _ hlast
      | succ k => simp at hx
    have hAq : A q := hD1.2 _ _ hlast
    refine ngo (nrun (rest := [.ref q, .int (nI i), .ref qa]) hx hb hml hown hts hKS hAO hl.1 nw_X3 hPq (Or.inr ⟨_, wd_175⟩) wd_74 wd_96 wd_97 rfl (by decide +kernel) (by omega) (by omega) (Nat.le_of_ble_eq_true rfl) dX5_init_33 (by omega) (by omega)) hS1 hAq hA (fun H2 locs2 adc g1 g2 g3 g4 g5 g6 hS2 => ?_)
    obtain ⟨hP2, hD2⟩ := njoin hP1 hD1 hS1.1 hA g1 g2 g3 g4 g6
    have hnew : (((h0, cellP qa) :: (qa, arrP g (fP ad i)) :: bwl g ad shw_P (SP i)) ++ xwl g adc shw_3 [])[((h0, cellP qa) :: (qa, arrP g (fP ad i)) :: bwl g ad shw_P (SP i)).length]? = some (adc 0 0, xcell g adc (getO [] 0 0) ((part shw_3 0 0).getD (.inl (0, 0)))) := by rw [List.getElem?_append_right (Nat.le_refl _), Nat.sub_self]; rfl
    rw [← g1]
    refine va_astq hx hb hKS.1 hP2 hD2 hS2 1 2 _ 3 (cA := g.2.2) (r := (RX3, TX3, 14)) (n := 13) (f := fP ad i) rfl rfl hnew rfl (nI_in hi13 (by decide)) dX5_init_36 (fun H3 locs3 hP3 hD3 hS3 => ?_)
    refine lv_iinc (v := nI (i + 1)) (lv' := [(1, .int (nI (i + 1))), (0, .ref h0)]) hx hb dX5_init_37 hl (k := 0) rfl (by rw [nI_succ]; rfl) (by decide) rfl (fun ls hl => ?_)
    refine lv_goto (tgt := 15) hx hb dX5_init_40 (by decide) ?_
    obtain ⟨hfit, hok⟩ := fitP i hi13
    have hbw : bwl g ad shw_P (SP i) ++ xwl g adc shw_3 [] = bwl g (adB ad [i + 1] adc) shw_P (SP (i + 1)) := by rw [SP_succ, bwl_app, bwl_B hok, bwl_child hfit clo3]
    have hf : va_up (fP ad i) (nI i).toNatClampNeg (some (adc 0 0)) = fP (adB ad [i + 1] adc) (i + 1) := by
      funext k
      rw [nI_clamp (by omega)]
      unfold va_up fP
      by_cases h1 : k = i
      · rw [if_pos h1, if_pos (by omega), h1]
        have : adB ad [i + 1] adc (i + 1) 0 = adc 0 0 := by
          unfold adB idx
          rw [if_pos rfl]
        rw [this]
      · rw [if_neg h1]
        by_cases h2 : k < i
        · have : adB ad [i + 1] adc (k + 1) 0 = ad (k + 1) 0 := by
            unfold adB idx
            rw [if_neg (by omega)]
            rfl
          rw [if_pos h2, if_pos (by omega), this]
        · rw [if_neg h2, if_neg (by omega)]
    have a0' : adB ad [i + 1] adc 0 0 = h0 := by
      unfold adB idx
      rw [if_neg (by omega)]
      exact a0
    have a1' : adB ad [i + 1] adc 0 1 = qa := by
      unfold adB idx
      rw [if_neg (by omega)]
      exact a1
    have hcs : 1 + 8 * i + 1 + 7 = 1 + 8 * (i + 1) := by omega
    have hsl : 13 + 728 * i + 14 + 714 = 13 + 728 * (i + 1) := by omega
    rw [hcs, hsl]
    refine ih (i + 1) (by omega) H3 locs3 ls _ a0' a1' ?_ ?_ hS3 hl
    · rw [← hbw, ← hf]; exact hP3
    · rw [← hbw, ← hf]; exact hD3
set_option maxHeartbeats 4000000 in
set_option maxRecDepth 100000 in
theorem nw_X5 : XNw yX5_init cX5_init 2 5 [.null, .int 0, .int 0, .int 0] shw_P [] 2 105 9477 := by
  intro l D g h0 sz
  refine Met.ofW (cc := cX5_init) (maxL := 2) (ret := none) (by decide) rfl ?_
  intro p e s m args below meth c s₁ B hml hv
  obtain ⟨rfl, hsz, hKS, hAO, hP⟩ := hv
  have hx := B.exec
  have hb := B.bytes
  have hr := B.returns
  have hts0 := atoms_spec (ws := xws yX5_init cX5_init 2 none) B.pre
  have hts : ∀ w ∈ BIG, w.before ([Value.ref h0].toArray) s = true := fun w hw => hts0 w (List.mem_cons_of_mem _ hw)
  have hown : s.vm.findClass RX5 = some m.cls := findClass_of_methodNamed B.named
  have hlocks := B.notSynchronized
  have hin0 : meth.name = "<init>" := (name_of_methodNamed B.named B.method).1
  subst hsz
  have hl := lv_entry ([.ref h0]) (n := 2) (Nat.le_of_ble_eq_true rfl)
  rw [lg_entry_eq]
  generalize (lg_sl ([.ref h0]) ++ List.replicate (2 - (lg_sl ([.ref h0])).length) Slot.unset).toArray = ls at hl ⊢
  have hl : lv_has ls 2 [(0, .ref h0)] := hl
  have hl0 := lv_at hl 0 rfl
  have C : CX p s m ([Value.ref h0].toArray) meth c cX5_init 2 RX5 D g (fun q => q = h0 ∨ s.heap.size ≤ q) := ⟨hx, hb, hml, hown, hts, hKS, hAO, fun q hq => Or.inr hq, hr, hlocks, hin0⟩
  have hB0 : BS D g (fun q => q = h0 ∨ s.heap.size ≤ q) shw_P 5 h0 s.heap (fun _ _ => h0) [] [.null, .int 0, .int 0, .int 0] s.heap [] := ⟨hP, bs_one (Or.inl rfl), va_S.rf⟩
  refine lv_aload_n hx hb dX5_init_0 rfl hl0 ?_
  refine W.objInit hx hb hown (hts _ wd_172) (hts _ wd_91) (hts _ wd_92) rfl (by rw [hml]; exact hl.1) rfl dX5_init_1 (Nat.le_of_ble_eq_true rfl) (Nat.le_of_ble_eq_true rfl) ?_
  refine W.eq (g2 := F0 m 4 ls []) rfl ?_
  refine lv_aload_n hx hb dX5_init_4 rfl hl0 ?_
  refine lv_bipush (v := 13) hx hb dX5_init_5 (by decide) ?_
  refine va_newq hx hb hown (hts _ wc_173) hAO hKS.1 hP (bs_one (A := fun q => q = h0 ∨ s.heap.size ≤ q) (Or.inl rfl)) va_S.rf (fun q hq => Or.inr hq) (n := 13) (N' := 13) (by decide) (by decide) (Nat.le_of_ble_eq_true rfl) (Nat.le_of_ble_eq_true rfl) (Nat.le_of_ble_eq_true rfl) dX5_init_7 (fun qa cA H1 hK1 hP1 hD1 hS1 => ?_)
  have hcA : cA = g.2.2 := by
    obtain ⟨-, -, -, -, -, h1⟩ := (hK1.2 3 (cA, .object RX3) rfl).2
    obtain ⟨-, -, -, -, -, h2⟩ := (hKS.1.2 2 (g.2.2, .object RX3) rfl).2
    exact Option.some.inj (h1.symm.trans h2)
  subst hcA
  refine va_putF (v := .ref qa) (ty := tyX5 0) hx hb hts inX5 tyX5 tyX5_ok nmX5 hown hKS.1 hP1 hD1 hS1 0 (fs := [.null, .int 0, .int 0, .int 0]) rfl rfl 0 (by decide) (hts _ wd_176) (fun _ z => z) rfl hin0 rfl (tyX5_ok 0 (by decide)) rfl rfl (by decide) dX5_init_10 (fun H2 locs2 hP2 hD2 hS2 => ?_)
  refine lv_iconst (v := nI 0) hx hb dX5_init_13 (by decide) ?_
  refine lv_istore_n (lv' := [(1, .int (nI 0)), (0, .ref h0)]) hx hb dX5_init_14 rfl hl (by decide) rfl (fun ls hl => ?_)
  refine pastLoop C (qa := qa) (h0 := h0) (Nat.le_of_ble_eq_true rfl) (Nat.le_of_ble_eq_true rfl) (Nat.le_of_ble_eq_true rfl) (Nat.le_of_ble_eq_true rfl) (fun H3 locs3 ls3 ad a0 a1 hP3 hD3 hS3 => ?_) 13 0 rfl H2 locs2 ls (adA (fun _ _ => h0) 1 qa) rfl rfl hP2 hD2 hS2 hl
  have hrs : arrP g (fP ad 13) = xcell g ad (fun _ => 0) (ps0 shw_P (0, 1)) := by
    have hf : fP ad 13 = fun k => (nth [(1, 0), (2, 0), (3, 0), (4, 0), (5, 0), (6, 0), (7, 0), (8, 0), (9, 0), (10, 0), (11, 0), (12, 0), (13, 0)] k).map (fun q => ad q.1 q.2) := by
      funext k
      match k with
      | 0 => rfl
      | 1 => rfl
      | 2 => rfl
      | 3 => rfl
      | 4 => rfl
      | 5 => rfl
      | 6 => rfl
      | 7 => rfl
      | 8 => rfl
      | 9 => rfl
      | 10 => rfl
      | 11 => rfl
      | 12 => rfl
      | k + 13 =>
        unfold fP
        rw [if_neg (by omega)]
        rfl
    show Sum.inl (g.2.2, 13, Sum.inr (Sum.inr (Sum.inr (Sum.inr (fP ad 13))))) = _
    rw [hf]
    rfl
  have hlist : (qa, arrP g (fP ad 13)) :: bwl g ad shw_P (SP 13) = bwl g ad shw_P ((0, 1) :: SP 13) := by
    show _ = (ad 0 1, xcell g ad (fun _ => 0) (ps0 shw_P (0, 1))) :: bwl g ad shw_P (SP 13)
    rw [a1, hrs]
  rw [hlist] at hP3 hD3
  have hB : BS D g (fun q => q = h0 ∨ s.heap.size ≤ q) shw_P 5 h0 s.heap ad ((0, 1) :: SP 13) [.ref qa, .int 0, .int 0, .int 0] H3 locs3 := ⟨hP3, hD3, hS3⟩
  obtain ⟨z1, z2, z3⟩ := bs_XP hB rfl a0 (by show _ = [Value.ref (ad 0 1), .int (xI 0), .int (xI 0), .int (xI 0)]; rw [a1]; rfl) (by decide +kernel)
  exact W.vret hx hb hr (fun t ht hW => ⟨rfl, ⟨_, a0, by rw [ht]; exact z1, z2, fun i j ps hps hne => (z3 i j ps hps).resolve_left (fun v => hne (z2 i j 0 0 ps _ hps rfl (v.trans a0.symm)))⟩, hS3.F ht⟩) hS3.2.2 dX5_init_43
