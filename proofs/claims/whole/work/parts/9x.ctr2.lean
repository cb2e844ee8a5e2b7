section Ctr
variable {p : Program} {l : Launch} {e : Env} {R : Room} {s : State} {m : MethodId} {args : Array Value} {below : List Frame} {meth : Method} {c : Code} {cc : ByteArray} {nL : Nat} {own : String} {D : va_G} {g : xG3} {A : Nat → Prop} {H : Heap} {locs : List Loc} {cells slots : Nat} {Q : State → Prop} {pc : Nat} {ls : Array Slot} {sh : List (List PS)} {ci h0 : Nat} {ad : Nat → Nat → Nat} {S : List (Nat × Nat)} {vs : List Value}
/-- a row of numbers is made, and put into a field -/
theorem stA {Cn : String} {T : u_T} {N : Nat} {ty0 : Nat → FieldType} {kf n index t j len : Nat} {nI : Int32} {atype : ArrayType} {aty : FieldType}
    (C : CX p s m args meth c cc nL own D g A) (hB : BS D g A sh ci h0 s.heap ad S vs H locs) (hl0 : ls[0]? = some (.val (.ref h0)))
    (hc : classes[ci]? = some (Cn, T, N)) (hin : ∀ w ∈ u_ws Cn T N, w ∈ BIG) (hty : ∀ k, k < N → parseFieldDescriptor (T k).2.2.1 = some (ty0 k)) (hnm : ∀ a, a < N → ∀ b, b < N → a ≠ b → (T a).2.1 ≠ (T b).2.1) (hkf : kf < N) (hlink : Cond.fieldLink own index (T kf).1 (T kf).2.1 (T kf).2.2.1 ∈ BIG) (hfin : (T kf).2.2.2 = true) (hdecl : (T kf).1 = own) (hnar : ∀ q : Nat, narrow (ty0 kf) (.ref q) = .ref q) (hfits : ∀ q : Nat, fits (ty0 kf) (.ref q) = true) (hvl : kf < vs.length)
    (harr : Cond.arrayClass aty ∈ BIG) (hat : newarray.typeOf atype = aty) (hkind : (t = 0 ∧ aty = .int) ∨ (t = 1 ∧ aty = .boolean)) (hps : part sh 0 j = some (.inl (t, n))) (hok : okA sh S j = true)
    (hd0 : decode cc pc = .ok (.aload_n 0, 1)) (hd1 : (len = 2 ∧ ∃ v : Int, decode cc (pc + 1) = .ok (.bipush v, 2) ∧ (Int8.ofInt v).toInt32 = nI) ∨ (len = 3 ∧ ∃ v : Int, decode cc (pc + 1) = .ok (.sipush v, 3) ∧ (Int16.ofInt v).toInt32 = nI)) (hd2 : decode cc (pc + 1 + len) = .ok (.newarray atype, 2)) (hd3 : decode cc (pc + 1 + len + 2) = .ok (.putfield index, 3))
    (hn0 : ¬ nI < 0) (hnN : nI.toNatClampNeg = n) (hbytes : n * componentBytes aty ≤ 536870912) (hcells : cells + 1 ≤ R.cells) (hslots : slots + n ≤ R.slots)
    (kk : ∀ (q : Nat) (H1 : Heap) (locs1 : List Loc), BS D g A sh ci h0 s.heap (adA ad j q) (S ++ [(0, j)]) (vs.set kf (.ref q)) H1 locs1 → W p l e R s m args below meth c H1 locs1 (cells + 1) (slots + n) Q (F0 m (pc + 1 + len + 2 + 3) ls [])) :
    W p l e R s m args below meth c H locs cells slots Q (F0 m pc ls []) := by
  obtain ⟨hx, hb, hml, hown, hts, hKS, hAO, hA, hr, hlk, hnm0⟩ := C
  obtain ⟨hP, hD, hS⟩ := hB
  refine lv_aload_n hx hb hd0 rfl hl0 ?_
  have main : W p l e R s m args below meth c H locs cells slots Q (F0 m (pc + 1 + len) ls [.int nI, .ref h0]) := by
    refine va_newa (atype := atype) (ty := aty) hx hb (hts _ (by rw [hat]; exact harr)) hat hKS.1 hP hD hS hA (n := nI) (N' := n) (a0 := (n, .inl (fun _ => 0))) ?_ hn0 hnN hbytes hcells hslots hd2 (fun q cA H1 hK1 hP1 hD1 hS1 => ?_)
    · intro cA
      rcases hkind with ⟨-, rfl⟩ | ⟨-, rfl⟩ <;> rfl
    · have hcA : cA = if t = 0 then g.1 else g.2.1 := by
        have h1 := (hK1.2 3 (cA, aty) rfl).2
        rcases hkind with ⟨rfl, rfl⟩ | ⟨rfl, rfl⟩
        · have h2 := (hKS.1.2 0 (g.1, .int) rfl).2
          exact Option.some.inj (h1.symm.trans h2)
        · have h2 := (hKS.1.2 1 (g.2.1, .boolean) rfl).2
          exact Option.some.inj (h1.symm.trans h2)
      have hl : bwl g ad sh S ++ [(q, Sum.inl (cA, n, Sum.inl (fun _ => 0)))] = bwl g (adA ad j q) sh (S ++ [(0, j)]) := by
        rw [bwl_app, bwl_A hok]
        congr 1
        have e1 : adA ad j q 0 j = q := by unfold adA; rw [if_pos ⟨rfl, rfl⟩]
        have e2 : ps0 sh (0, j) = .inl (t, n) := by unfold ps0; rw [hps]; rfl
        show _ = [(adA ad j q 0 j, xcell g (adA ad j q) (fun _ => 0) (ps0 sh (0, j)))]
        rw [e1, e2, hcA]
        rfl
      refine va_putF (v := .ref q) (ty := ty0 kf) hx hb hts hin ty0 hty hnm hown hKS.1 hP1 hD1 hS1 0 (fs := vs) rfl hc kf hkf (hts _ hlink) (fun _ z => z) hfin hnm0 hdecl (hty kf hkf) (hnar q) (hfits q) hvl hd3 (fun H2 locs2 hP2 hD2 hS2 => ?_)
      refine kk q H2 locs2 ⟨?_, ?_, hS2⟩
      · rw [← hl]; exact hP2
      · rw [← hl]; exact hD2
  rcases hd1 with ⟨rfl, v, h1, h2⟩ | ⟨rfl, v, h1, h2⟩
  · exact lv_bipush hx hb h1 h2 main
  · exact lv_sipush hx hb h1 h2 main
theorem ngo {shc : List (List PS)} {μ : List Ob} {q mc ms : Nat} {rest st0 : List Value} {a : Array Value} {H0 : Heap}
    (hr : va_Run p l e R s m args below meth c H locs cells slots mc ms (F0 m pc ls st0) rest (xNQ D g shc μ q H.size a) (fun x => x = q ∨ H.size ≤ x)) (hS : va_S A H0 H locs) (hAq : A q) (hA : ∀ x, H0.size ≤ x → A x)
    (kk : ∀ (H1 : Heap) (locs1 : List Loc) (adc : Nat → Nat → Nat), adc 0 0 = q → XP D g adc shc μ H1 → XI adc shc → (∀ i j ps, part shc i j = some ps → ¬ (i = 0 ∧ j = 0) → H.size ≤ adc i j) → H.size ≤ H1.size → (∀ x : Nat, x < H.size → x ≠ q → H1[x]? = H[x]?) → va_S A H0 H1 locs1 → W p l e R s m args below meth c H1 locs1 (cells + mc) (slots + ms) Q (F0 m (pc + 3) ls rest)) :
    W p l e R s m args below meth c H locs cells slots Q (F0 m pc ls st0) := by
  intro T hT X
  obtain ⟨v, st₀, t, T', L, h0, X', hL, e1, e2, ⟨hv, ⟨adc, g1, g2, g3, g4⟩, hz, hk⟩, st⟩ := hr T hT X
  cases hv
  rw [h0] at hz hk
  have hk' : ∀ x : Nat, x < H.size → x ≠ q → t.heap[x]? = H[x]? := fun x h1 h2 => hk x h1 (fun z => by
    rcases z with z | z
    · exact h2 z
    · omega)
  have hAA : ∀ x, (x = q ∨ H.size ≤ x) → A x := fun x z => by
    rcases z with rfl | z
    · exact hAq
    · exact hA x (Nat.le_trans hS.1 z)
  obtain ⟨t2, a1, b1⟩ := kk T'.heap (locs ++ L) adc g1 (by rw [e1]; exact g2) g3 g4 (by rw [e1]; exact hz) (fun x h1 h2 => by rw [e1]; exact hk' x h1 h2)
    ⟨Nat.le_trans hS.1 (by rw [e1]; exact hz), fun x h1 h2 => by rw [e1, hk x (Nat.lt_of_lt_of_le h1 hS.1) (fun z => h2 (hAA x z))]; exact hS.2.1 x h1 h2, fun x hx => by
      rcases List.mem_append.mp hx with h | h
      · exact hS.2.2 x h
      · exact hAA _ (hL x h)⟩ T' rfl X'
  exact ⟨t2, st t2 a1, b1⟩
/-- the call of a constructor -/
theorem nrun {shc : List (List PS)} {μ : List Ob} {q mc ms d maxL cj ii : Nat} {y : MethodName} {bytes : ByteArray} {fsj : List Value} {rest : List Value}
    (hx : p.tables.exec = Jvm.exec) (hb : c.code = cc) (hml : c.maxLocals = nL) (hown : s.vm.findClass own = some m.cls) (hts : ∀ w ∈ BIG, w.before args s = true) (hKS : KS D g s) (hAO : va_AO RX3 s) (hlsz : ls.size = nL)
    (hM : XNw y bytes maxL cj fsj shc μ d mc ms) (hP : va_P D classes [(q, .inr (cj, fsj))] H)
    (hlk : (Cond.methodLink own ii y).before args s = true ∨ ∃ host, Cond.methodLinkNest own ii y host ∈ NST) (hini : Cond.initialized y.cls ∈ BIG) (hinst : Cond.instanceMethod y ∈ BIG) (hcode : Cond.code y bytes maxL none ∈ BIG) (hname : y.name = "<init>") (hyd : y.cls ≠ "java/lang/invoke/MethodHandle" ∧ y.cls ≠ "java/lang/invoke/VarHandle" ∧ (parseMethodDescriptor y.desc).map (fun d => d.parameters.length) = some 0)
    (hfr : d + 1 ≤ R.frames) (hlo : 8 + (maxL + 11) + 64 * d ≤ R.locals) (hcat : (rest.map fun v => v.category).sum ≤ 8) (hd : decode cc pc = .ok (.invokespecial ii, 3)) (hcells : cells + mc ≤ R.cells) (hslots : slots + ms ≤ R.slots) :
    va_Run p l e R s m args below meth c H locs cells slots mc ms (F0 m pc ls (.ref q :: rest)) rest (xNQ D g shc μ q H.size #[.ref q]) (fun x => x = q ∨ H.size ≤ x) := by
  have hgood : GoodIn BIG (xws y bytes maxL none) := goodBIG (fun w hw => by
    rcases List.mem_cons.mp hw with rfl | hw
    · exact hcode
    · exact hw)
  have hpre : ∀ U : State, U.heap = H → s.WarmedH U.vm → xPN D g cj fsj q H.size (([Value.ref q] : List Value).toArray) U := fun U hU hW => ⟨rfl, by rw [hU], KS.warm hW hKS, va_AO.moved hW.alike hAO, by rw [hU]; exact hP⟩
  rcases hlk with hlk | ⟨host, hlk⟩
  · exact va_runI (As := []) (rest := rest) (n := 0) (own := own) (index := ii) ⟨hx, hb, hml, hown, hts⟩ (hM l D g q H.size) (cwI 0 hts hgood rfl rfl rfl (hts _ hini) hlk (hts _ hinst) hname hyd ⟨hfr, hlo⟩) ⟨xPN_blind, hpre⟩ rfl rfl hlsz rfl (lv_room hcat) hd ⟨hcells, hslots⟩
  · exact va_runIN (As := []) (rest := rest) (n := 0) (own := own) (index := ii) (host := host) ⟨hx, hb, hml, hown, hts⟩ (hM l D g q H.size) ⟨va_cnB 0 hts hgood rfl rfl rfl (hKS.2 _ hlk) (hts _ hini) hyd ⟨hfr, hlo⟩, hname, hts _ hinst⟩ ⟨xPN_blind, hpre⟩ rfl rfl hlsz rfl (lv_room hcat) hd ⟨hcells, hslots⟩
/-- behind the call of a constructor: what there was, and its world -/
theorem njoin {shc : List (List PS)} {adc : Nat → Nat → Nat} {q : Nat} {ws : va_W} {ce : va_E} {H1 H2 H0 : Heap} (hP1 : va_P D classes (ws ++ [(q, ce)]) H1) (hD1 : va_D A (ws ++ [(q, ce)])) (hS1 : H0.size ≤ H1.size) (hA : ∀ x, H0.size ≤ x → A x) (h0 : adc 0 0 = q) (hX : XP D g adc shc [] H2) (hI : XI adc shc) (hge : ∀ i j ps, part shc i j = some ps → ¬ (i = 0 ∧ j = 0) → H1.size ≤ adc i j) (hk : ∀ x : Nat, x < H1.size → x ≠ q → H2[x]? = H1[x]?) : va_P D classes (ws ++ xwl g adc shc []) H2 ∧ va_D A (ws ++ xwl g adc shc []) := by
  have hlast : (ws ++ [(q, ce)])[ws.length]? = some (q, ce) := by rw [List.getElem?_append_right (Nat.le_refl _), Nat.sub_self]; rfl
  have hold : ∀ (k : Nat) (x : Nat × va_E), ws[k]? = some x → (ws ++ [(q, ce)])[k]? = some x ∧ x.1 < H1.size ∧ x.1 ≠ q := fun k x hk => by
    have hkl := (List.getElem?_eq_some_iff.mp hk).1
    have h1 : (ws ++ [(q, ce)])[k]? = some x := by rw [List.getElem?_append_left hkl]; exact hk
    refine ⟨h1, (hP1 k x h1).lt, fun z => ?_⟩
    have := hD1.1 k ws.length x (q, ce) h1 hlast z
    omega
  have hAq : A q := hD1.2 _ _ hlast
  have hnew : ∀ i j ps, part shc i j = some ps → adc i j = q ∨ H1.size ≤ adc i j := fun i j ps hps => by
    by_cases z : i = 0 ∧ j = 0
    · left
      rw [z.1, z.2, h0]
    · exact Or.inr (hge i j ps hps z)
  refine ⟨va_P.app (fun k x hx => ?_) hX.wl, va_D.app ⟨fun i j x y hi hj hxy => hD1.1 i j x y (hold i x hi).1 (hold j y hj).1 hxy, fun k x hx => hD1.2 k x (hold k x hx).1⟩ (hI.wl (fun i j ps hps => ?_)) (fun i j x y hx hy hxy => ?_)⟩
  · obtain ⟨h1, h2, h3⟩ := hold k x hx
    exact (hP1 k x h1).kept (hk x.1 h2 h3)
  · rcases hnew i j ps hps with z | z
    · rw [z]; exact hAq
    · exact hA _ (Nat.le_trans hS1 z)
  · obtain ⟨h1, h2, h3⟩ := hold i x hx
    simp only [xwl, List.getElem?_map] at hy
    cases hk : (xkeys shc)[j]? with
    | none => rw [hk] at hy; cases hy
    | some z =>
      rw [hk] at hy
      cases hy
      obtain ⟨ps, hps⟩ := xkeys_mem.mp (List.mem_of_getElem? hk)
      dsimp only at hxy
      rcases hnew z.1 z.2 ps hps with w | w
      · exact h3 (hxy.trans w)
      · omega
/-- an object is made, and put into a field -/
theorem stB {Cn : String} {T : u_T} {N : Nat} {ty0 : Nat → FieldType} {kf index ix ii cj Nj mc ms d maxL : Nat} {Cj : String} {Tj : u_T} {tyj : Nat → FieldType} {fsj : List Value} {shc : List (List PS)} {mp : List Nat} {y : MethodName} {bytes : ByteArray}
    (C : CX p s m args meth c cc nL own D g A) (hB : BS D g A sh ci h0 s.heap ad S vs H locs) (hl0 : ls[0]? = some (.val (.ref h0))) (hlsz : ls.size = nL)
    (hc : classes[ci]? = some (Cn, T, N)) (hin : ∀ w ∈ u_ws Cn T N, w ∈ BIG) (hty : ∀ k, k < N → parseFieldDescriptor (T k).2.2.1 = some (ty0 k)) (hnm : ∀ a, a < N → ∀ b, b < N → a ≠ b → (T a).2.1 ≠ (T b).2.1) (hkf : kf < N) (hlink : Cond.fieldLink own index (T kf).1 (T kf).2.1 (T kf).2.2.1 ∈ BIG) (hfin : (T kf).2.2.2 = true) (hdecl : (T kf).1 = own) (hnar : ∀ q : Nat, narrow (ty0 kf) (.ref q) = .ref q) (hfits : ∀ q : Nat, fits (ty0 kf) (.ref q) = true) (hvl : kf < vs.length)
    (hcj : classes[cj]? = some (Cj, Tj, Nj)) (hinj : ∀ w ∈ u_ws Cj Tj Nj, w ∈ BIG) (htyj : ∀ k, k < Nj → parseFieldDescriptor (Tj k).2.2.1 = some (tyj k)) (hfsj : ∀ j, j < Nj → defaultValue (tyj j) = vp_V fsj j) (hclk : Cond.classLink own ix Cj ∈ BIG) (hins : Cond.instantiable Cj Nj ∈ BIG) (hinj2 : Cond.initialized Cj ∈ BIG)
    (hM : XNw y bytes maxL cj fsj shc [] d mc ms) (hlk : Cond.methodLink own ii y ∈ BIG ∨ ∃ host, Cond.methodLinkNest own ii y host ∈ NST) (hini : Cond.initialized y.cls ∈ BIG) (hinst : Cond.instanceMethod y ∈ BIG) (hcode : Cond.code y bytes maxL none ∈ BIG) (hname : y.name = "<init>") (hyd : y.cls ≠ "java/lang/invoke/MethodHandle" ∧ y.cls ≠ "java/lang/invoke/VarHandle" ∧ (parseMethodDescriptor y.desc).map (fun d => d.parameters.length) = some 0)
    (hfr : d + 1 ≤ R.frames) (hlo : 8 + (maxL + 11) + 64 * d ≤ R.locals) (hfit : xfit mp sh shc) (hclo : clo shc = true) (hok : okB sh S mp = true)
    (hd0 : decode cc pc = .ok (.aload_n 0, 1)) (hd1 : decode cc (pc + 1) = .ok (.new ix, 3)) (hd2 : decode cc (pc + 4) = .ok (.dup, 1)) (hd3 : decode cc (pc + 5) = .ok (.invokespecial ii, 3)) (hd4 : decode cc (pc + 8) = .ok (.putfield index, 3))
    (hcells : cells + 1 + mc ≤ R.cells) (hslots : slots + Nj + ms ≤ R.slots)
    (kk : ∀ (adc : Nat → Nat → Nat) (H1 : Heap) (locs1 : List Loc), BS D g A sh ci h0 s.heap (adB ad mp adc) (S ++ keysOf mp shc) (vs.set kf (.ref (adc 0 0))) H1 locs1 → W p l e R s m args below meth c H1 locs1 (cells + 1 + mc) (slots + Nj + ms) Q (F0 m (pc + 11) ls [])) :
    W p l e R s m args below meth c H locs cells slots Q (F0 m pc ls []) := by
  obtain ⟨hx, hb, hml, hown, hts, hKS, hAO, hA, hr, hlk0, hnm0⟩ := C
  obtain ⟨hP, hD, hS⟩ := hB
  refine lv_aload_n hx hb hd0 rfl hl0 ?_
  refine va_new (ci := cj) (fs := fsj) (C := Cj) (T := Tj) (N := Nj) hx hb hts hinj tyj htyj hown (hts _ hclk) (hts _ hins) (hts _ hinj2) hKS.1 hP hD hS hA hcj hfsj (by omega) (by omega) hd1 (fun q H1 hP1 hD1 hS1 => ?_)
  refine lv_dup hx hb hd2 rfl ?_
  have hPq : va_P D classes [(q, .inr (cj, fsj))] H1 := fun k x hx => by
    cases k with
    | zero =>
      cases hx
      exact hP1 ((h0, Sum.inr (ci, vs)) :: bwl g ad sh S).length _ (by rw [List.getElem?_append_right (Nat.le_refl _), Nat.sub_self]; rfl)
    | succ k => simp at hx
  have hAq : A q := hD1.2 ((h0, Sum.inr (ci, vs)) :: bwl g ad sh S).length (q, .inr (cj, fsj)) (by rw [List.getElem?_append_right (Nat.le_refl _), Nat.sub_self]; rfl)
  refine ngo (nrun (rest := [.ref q, .ref h0]) hx hb hml hown hts hKS hAO hlsz hM hPq (hlk.imp (fun z => hts _ z) id) hini hinst hcode hname hyd hfr hlo (Nat.le_of_ble_eq_true rfl) hd3 hcells hslots) hS1 hAq hA (fun H2 locs2 adc g1 g2 g3 g4 g5 g6 hS2 => ?_)
  obtain ⟨hP2, hD2⟩ := njoin hP1 hD1 hS1.1 hA g1 g2 g3 g4 g6
  refine va_putF (v := .ref q) (ty := ty0 kf) hx hb hts hin ty0 hty hnm hown hKS.1 hP2 hD2 hS2 0 (fs := vs) rfl hc kf hkf (hts _ hlink) (fun _ z => z) hfin hnm0 hdecl (hty kf hkf) (hnar q) (hfits q) hvl hd4 (fun H3 locs3 hP3 hD3 hS3 => ?_)
  have hl : bwl g ad sh S ++ xwl g adc shc [] = bwl g (adB ad mp adc) sh (S ++ keysOf mp shc) := by rw [bwl_app, bwl_B hok, bwl_child hfit hclo]
  refine kk adc H3 locs3 ⟨?_, ?_, hS3⟩
  · rw [← hl, g1]; exact hP3
  · rw [← hl, g1]; exact hD3
/-- a method is called, on a whole world -/
theorem xcV {y : MethodName} {Mc : XM} {F : List AV → List Ob → Option Rt} {index N : Nat} {Cn : String} {T : u_T} {fs : List (Option (Nat × Nat))} {as : List AV} {μ : List Ob} {r : Rt} {H0 : Heap} {rest st0 : List Value}
    (hx : p.tables.exec = Jvm.exec) (hb : c.code = cc) (hml : c.maxLocals = nL) (hown : s.vm.findClass own = some m.cls) (hts : ∀ w ∈ BIG, w.before args s = true) (hKS : KS D g s) (hlsz : ls.size = nL)
    (hF : XCt y Mc F) (hFr : F (.inr (.inl (0, 0)) :: as) μ = some r) (hc : classes[ci]? = some (Cn, T, N)) (h00 : part Mc.2.2.2.2.1 0 0 = some (.inr (.inl (ci, fs))))
    (hP : XP D g ad Mc.2.2.2.2.1 μ H) (hI : XI ad Mc.2.2.2.2.1) (hμ : μ.length = Mc.2.2.2.2.1.length) (hS : va_S A H0 H locs) (hA : ∀ q, xA ad Mc.2.2.2.2.1 H.size q → A q)
    (hfr : Mc.2.2.2.2.2 + 1 ≤ R.frames) (hlo : 8 + (Mc.2.1 + 11) + 64 * Mc.2.2.2.2.2 ≤ R.locals)
    (hy : y.cls = Cn ∧ y.cls ≠ "java/lang/invoke/MethodHandle" ∧ y.cls ≠ "java/lang/invoke/VarHandle" ∧ (parseMethodDescriptor y.desc).map (fun d => d.parameters.length) = some as.length)
    (h1 : (Cond.methodLink own index y).before args s = true) (hw1 : goodWord (Cond.methodLink own index y) = true) (h2 : Cond.instanceMethod y ∈ BIG) (h3 : Cond.selects Cn y y ∈ BIG) (h4 : Cond.initialized Cn ∈ BIG) (h5 : Cond.code y Mc.1 Mc.2.1 Mc.2.2.2.1 ∈ BIG)
    (hst : st0 = (as.map (cv ad)).reverse ++ .ref (ad 0 0) :: rest) (hcat : (rest.map fun v => v.category).sum ≤ 8) (hd : decode cc pc = .ok (.invokevirtual index, 3)) (hcl : cells ≤ R.cells) (hsl : slots ≤ R.slots)
    (kk : ∀ (H1 : Heap) (locs1 : List Loc), XP D g ad Mc.2.2.2.2.1 r.2 H1 → H.size ≤ H1.size → (∀ q : Nat, q < H.size → ¬ xA ad Mc.2.2.2.2.1 H.size q → H1[q]? = H[q]?) → va_S A H0 H1 locs1 → W p l e R s m args below meth c H1 locs1 cells slots Q (F0 m (pc + 3) ls ((r.1.map (cv ad)).toList ++ rest))) :
    W p l e R s m args below meth c H locs cells slots Q (F0 m pc ls st0) := by
  obtain ⟨cc', nL', own', ret', shc, d'⟩ := Mc
  dsimp only at h00 hP hI hμ hA hfr hlo h5 kk
  have hM := hF _ _ _ hFr l D g ad H.size
  have hTs : ∀ w ∈ (Cond.methodLink own index y :: BIG), w.before args s = true := fun w hw => by
    rcases List.mem_cons.mp hw with rfl | hw
    · exact h1
    · exact hts w hw
  have hgood : GoodIn (Cond.methodLink own index y :: BIG) (wsV own index Cn y (xws y cc' nL' ret')) := fun w hw => by
    simp only [wsV, List.mem_append, List.mem_cons, List.not_mem_nil, or_false] at hw
    have gb := fun (w : Cond) (hw : w ∈ BIG) => And.intro (List.mem_cons_of_mem (Cond.methodLink own index y) hw) (goodBIG (ws := BIG) (fun _ z => z) w hw).2
    rcases hw with (rfl | rfl | rfl | rfl) | rfl | hw
    · exact ⟨List.mem_cons_self, good_of_word hw1⟩
    · exact gb _ h2
    · exact gb _ h3
    · exact gb _ h4
    · exact gb _ h5
    · exact gb _ hw
  have hrun := va_runV (C := Cn) (As := as.map (cv ad)) (rest := rest) (b := ad 0 0) (bytes := cc') (maxL := nL') (ret := ret') (own := own) (n := as.length) (g := F0 m pc ls st0) (locs := locs) (below := below) (meth := meth) (e := e) (cells := cells) (slots := slots) (R := R) (p := p) (c := c) (cc := cc) (nL := nL) (index := index) (m := m) (args := args) (H := H) (s := s) ⟨hx, hb, hml, hown, hTs⟩ hM
    (cwV as.length hTs hgood rfl rfl rfl hy ⟨hfr, hlo⟩)
    ⟨xPc_blind, va_recv hKS.1 (hP.one h00) hc (q0 := 0) rfl, fun U hU hW => ⟨rfl, by rw [hU], KS.warm hW hKS, by rw [hU]; exact hP, hI, hμ⟩⟩
    rfl (by rw [List.length_map]) hlsz hst (lv_room hcat) hd ⟨hcl, hsl⟩
  intro T hT X
  obtain ⟨v, st₀, t, T', L, h0, X', hL, e1, e2, ⟨hv, hp, hz, hk⟩, st⟩ := hrun T hT X
  cases hv
  rw [h0] at hz hk
  obtain ⟨t2, a1, b1⟩ := kk T'.heap (locs ++ L) (by rw [e1]; exact hp) (by rw [e1]; exact hz) (fun q h1 h2 => by rw [e1]; exact hk q h1 h2)
    ⟨Nat.le_trans hS.1 (by rw [e1]; exact hz), fun q h1 h2 => by rw [e1, hk q (Nat.lt_of_lt_of_le h1 hS.1) (fun z => h2 (hA q z))]; exact hS.2.1 q h1 h2, fun q hq => by
      rcases List.mem_append.mp hq with h | h
      · exact hS.2.2 q h
      · exact hA _ (hL q h)⟩ T' rfl X'
  exact ⟨t2, st t2 a1, b1⟩
end Ctr
