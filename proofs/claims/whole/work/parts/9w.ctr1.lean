/-! ===== constructors: a world that is being built ===== -/
def psr : PS → List (Nat × Nat)
  | .inl _ => []
  | .inr (.inl q) => q.2.filterMap id
  | .inr (.inr rs) => rs
theorem xcell_cong (g : xG3) {ad ad' : Nat → Nat → Nat} (f : Nat → Int) (ps : PS) (h : ∀ r ∈ psr ps, ad r.1 r.2 = ad' r.1 r.2) : xcell g ad f ps = xcell g ad' f ps := by
  match ps, h with
  | .inl (t, n), _ => rfl
  | .inr (.inl (ci, fs)), h =>
    show Sum.inr (ci, _) = Sum.inr (ci, _)
    congr 2
    apply List.ext_getElem?
    intro j
    simp only [List.getElem?_mapIdx]
    cases hj : fs[j]? with
    | none => rfl
    | some r =>
      cases r with
      | none => rfl
      | some q =>
        show some (Value.ref (ad q.1 q.2)) = some (Value.ref (ad' q.1 q.2))
        rw [h q (List.mem_filterMap.mpr ⟨some q, List.mem_of_getElem? hj, rfl⟩)]
  | .inr (.inr rs), h =>
    have e : (fun k => (nth rs k).map (fun q => ad q.1 q.2)) = (fun k => (nth rs k).map (fun q => ad' q.1 q.2)) := by
      funext k
      cases hk : nth rs k with
      | none => rfl
      | some q =>
        show some (ad q.1 q.2) = some (ad' q.1 q.2)
        rw [h q (List.mem_of_getElem? (by rw [← nth_eq]; exact hk))]
    simp only [xcell]
    rw [e]
def ps0 (sh : List (List PS)) (x : Nat × Nat) : PS := (part sh x.1 x.2).getD (.inl (0, 0))
def bwl (g : xG3) (ad : Nat → Nat → Nat) (sh : List (List PS)) (S : List (Nat × Nat)) : va_W := S.map fun x => (ad x.1 x.2, xcell g ad (fun _ => 0) (ps0 sh x))
theorem bwl_cong {g : xG3} {ad ad' : Nat → Nat → Nat} {sh : List (List PS)} {S : List (Nat × Nat)} (h : ∀ x ∈ S, ad' x.1 x.2 = ad x.1 x.2 ∧ ∀ r ∈ psr (ps0 sh x), ad' r.1 r.2 = ad r.1 r.2) : bwl g ad' sh S = bwl g ad sh S := by
  unfold bwl
  refine List.map_congr_left (fun x hx => ?_)
  rw [(h x hx).1, xcell_cong g (fun _ => 0) (ps0 sh x) (h x hx).2]
theorem bwl_app {g : xG3} {ad : Nat → Nat → Nat} {sh : List (List PS)} (S K : List (Nat × Nat)) : bwl g ad sh (S ++ K) = bwl g ad sh S ++ bwl g ad sh K := List.map_append
def adA (ad : Nat → Nat → Nat) (j q : Nat) : Nat → Nat → Nat := fun i k => if i = 0 ∧ k = j then q else ad i k
def okA (sh : List (List PS)) (S : List (Nat × Nat)) (j : Nat) : Bool := S.all fun x => decide (x ≠ (0, j)) && (psr (ps0 sh x)).all fun r => decide (r ≠ (0, j))
theorem adA_ne {ad : Nat → Nat → Nat} {j q : Nat} {x : Nat × Nat} (h : x ≠ (0, j)) : adA ad j q x.1 x.2 = ad x.1 x.2 := by
  unfold adA
  rw [if_neg (fun z => h (Prod.ext z.1 z.2))]
theorem bwl_A {g : xG3} {ad : Nat → Nat → Nat} {sh : List (List PS)} {S : List (Nat × Nat)} {j q : Nat} (h : okA sh S j = true) : bwl g (adA ad j q) sh S = bwl g ad sh S := by
  refine bwl_cong (fun x hx => ?_)
  have h1 := List.all_eq_true.mp h x hx
  rw [Bool.and_eq_true, decide_eq_true_eq] at h1
  exact ⟨adA_ne h1.1, fun r hr => adA_ne (of_decide_eq_true (List.all_eq_true.mp h1.2 r hr))⟩
def adB (ad : Nat → Nat → Nat) (mp : List Nat) (adc : Nat → Nat → Nat) : Nat → Nat → Nat := fun i k => match idx i mp with
  | some n => adc n k
  | none => ad i k
def okB (sh : List (List PS)) (S : List (Nat × Nat)) (mp : List Nat) : Bool := S.all fun x => (idx x.1 mp).isNone && (psr (ps0 sh x)).all fun r => (idx r.1 mp).isNone
theorem adB_none {ad adc : Nat → Nat → Nat} {mp : List Nat} {i k : Nat} (h : (idx i mp).isNone = true) : adB ad mp adc i k = ad i k := by
  unfold adB
  rw [Option.isNone_iff_eq_none.mp h]
theorem bwl_B {g : xG3} {ad adc : Nat → Nat → Nat} {sh : List (List PS)} {S : List (Nat × Nat)} {mp : List Nat} (h : okB sh S mp = true) : bwl g (adB ad mp adc) sh S = bwl g ad sh S := by
  refine bwl_cong (fun x hx => ?_)
  have h1 := List.all_eq_true.mp h x hx
  rw [Bool.and_eq_true] at h1
  exact ⟨adB_none h1.1, fun r hr => adB_none (List.all_eq_true.mp h1.2 r hr)⟩
theorem idx_of {mp : List Nat} (hn : mp.Nodup) {n i : Nat} (h : mp[n]? = some i) : idx i mp = some n := by
  cases hi : idx i mp with
  | none => exact absurd (List.mem_of_getElem? h) (idx_none mp i hi)
  | some k =>
    have h1 := idx_some mp i k hi
    rw [(List.getElem?_inj (List.getElem?_eq_some_iff.mp h1).1 hn).mp (h1.trans h.symm)]
def keysOf (mp : List Nat) (shc : List (List PS)) : List (Nat × Nat) := (xkeys shc).map fun x => ((nth mp x.1).getD 0, x.2)
def clo (sh : List (List PS)) : Bool := (xkeys sh).all fun x => (psr (ps0 sh x)).all fun r => decide (r.1 < sh.length)
theorem bwl_child {g : xG3} {ad adc : Nat → Nat → Nat} {sh shc : List (List PS)} {mp : List Nat} (hf : xfit mp sh shc) (hc : clo shc = true) : bwl g (adB ad mp adc) sh (keysOf mp shc) = xwl g adc shc [] := by
  unfold bwl keysOf xwl
  rw [List.map_map]
  refine List.map_congr_left (fun x hx => ?_)
  obtain ⟨ps, hps⟩ := xkeys_mem.mp hx
  have key : ∀ (n k : Nat), n < shc.length → adB ad mp adc ((nth mp n).getD 0) k = adc n k := fun n k hn => by
    rw [← hf.1] at hn
    have h1 := List.getElem?_eq_getElem hn
    rw [nth_eq, h1]
    show adB ad mp adc mp[n] k = _
    unfold adB
    rw [idx_of hf.2.1 h1]
  obtain ⟨i, h1, h2⟩ := xfit_part hf hps
  have e1 : (nth mp x.1).getD 0 = i := by rw [nth_eq, h1]; rfl
  have e4 : ps0 sh (i, x.2) = xrp mp ps := by unfold ps0; rw [h2]; rfl
  show (adB ad mp adc ((nth mp x.1).getD 0) x.2, xcell g (adB ad mp adc) (fun _ => 0) (ps0 sh ((nth mp x.1).getD 0, x.2))) = (adc x.1 x.2, xcell g adc (fun _ => 0) ((part shc x.1 x.2).getD (.inl (0, 0))))
  rw [key x.1 x.2 (part_lt hps).1, e1, e4, hps, xcell_ren]
  have e5 : xcell g (fun i j => adB ad mp adc ((nth mp i).getD 0) j) (fun _ => 0) ps = xcell g adc (fun _ => 0) ps := xcell_cong g _ ps (fun r hr => by
    have h3 := List.all_eq_true.mp hc x hx
    have h4 : ps0 shc x = ps := by unfold ps0; rw [hps]; rfl
    rw [h4] at h3
    exact key r.1 r.2 (of_decide_eq_true (List.all_eq_true.mp h3 r hr)))
  rw [e5]
  rfl
def BS (D : va_G) (g : xG3) (A : Nat → Prop) (sh : List (List PS)) (ci h0 : Nat) (H0 : Heap) (ad : Nat → Nat → Nat) (S : List (Nat × Nat)) (vs : List Value) (H : Heap) (locs : List Loc) : Prop :=
  va_P D classes ((h0, .inr (ci, vs)) :: bwl g ad sh S) H ∧ va_D A ((h0, .inr (ci, vs)) :: bwl g ad sh S) ∧ va_S A H0 H locs
def CX (p : Program) (s : State) (m : MethodId) (args : Array Value) (meth : Method) (c : Code) (cc : ByteArray) (nL : Nat) (own : String) (D : va_G) (g : xG3) (A : Nat → Prop) : Prop :=
  p.tables.exec = Jvm.exec ∧ c.code = cc ∧ c.maxLocals = nL ∧ s.vm.findClass own = some m.cls ∧ (∀ w ∈ BIG, w.before args s = true) ∧ KS D g s ∧ va_AO RX3 s ∧ (∀ q, s.heap.size ≤ q → A q) ∧ meth.sig.returnType = none ∧ meth.locks = false ∧ meth.name = "<init>"
/-- a built world is a world -/
theorem bs_XP {D : va_G} {g : xG3} {A : Nat → Prop} {sh : List (List PS)} {ci h0 : Nat} {H0 : Heap} {ad : Nat → Nat → Nat} {S : List (Nat × Nat)} {vs : List Value} {H : Heap} {locs : List Loc} {fs : List (Option (Nat × Nat))} (hB : BS D g A sh ci h0 H0 ad S vs H locs) (h00 : part sh 0 0 = some (.inr (.inl (ci, fs)))) (had : ad 0 0 = h0) (hvs : vs = fs.mapIdx (xfld ad (fun _ => 0))) (hcov : ((xkeys sh).all fun x => decide (x = (0, 0)) || decide (x ∈ S)) = true) : XP D g ad sh [] H ∧ XI ad sh ∧ ∀ i j ps, part sh i j = some ps → A (ad i j) := by
  have pos : ∀ (i j : Nat) (ps : PS), part sh i j = some ps → ∃ k, ((h0, Sum.inr (ci, vs)) :: bwl g ad sh S)[k]? = some (ad i j, xcell g ad (getO [] i j) ps) ∧ ((k = 0 ∧ (i, j) = (0, 0)) ∨ ∃ n, k = n + 1 ∧ S[n]? = some (i, j)) := by
    intro i j ps hps
    have h1 := List.all_eq_true.mp hcov (i, j) (xkeys_mem.mpr ⟨ps, hps⟩)
    rw [Bool.or_eq_true, decide_eq_true_eq, decide_eq_true_eq] at h1
    rcases h1 with h1 | h1
    · cases h1
      rw [h00] at hps
      cases hps
      refine ⟨0, ?_, Or.inl ⟨rfl, rfl⟩⟩
      show some (h0, Sum.inr (ci, vs)) = some (ad 0 0, Sum.inr (ci, fs.mapIdx (xfld ad (fun _ => 0))))
      rw [had, hvs]
    · obtain ⟨n, hn⟩ := List.getElem?_of_mem h1
      refine ⟨n + 1, ?_, Or.inr ⟨n, rfl, hn⟩⟩
      show (bwl g ad sh S)[n]? = _
      unfold bwl
      rw [List.getElem?_map, hn]
      have : ps0 sh (i, j) = ps := by unfold ps0; rw [hps]; rfl
      show some (ad i j, xcell g ad (fun _ => 0) (ps0 sh (i, j))) = _
      rw [this]
      rfl
  refine ⟨fun i j ps hps => ?_, fun i j i' j' ps ps' h1 h2 he => ?_, fun i j ps hps => ?_⟩
  · obtain ⟨k, hk, -⟩ := pos i j ps hps
    exact hB.1 k _ hk
  · obtain ⟨k, a1, a2⟩ := pos i j ps h1
    obtain ⟨k', b1, b2⟩ := pos i' j' ps' h2
    have e := hB.2.1.1 k k' _ _ a1 b1 he
    subst e
    rcases a2 with ⟨a2, a3⟩ | ⟨n, a2, a3⟩
    · rcases b2 with ⟨b2, b3⟩ | ⟨n', b2, b3⟩
      · have := a3.trans b3.symm
        cases this
        exact ⟨rfl, rfl⟩
      · omega
    · rcases b2 with ⟨b2, b3⟩ | ⟨n', b2, b3⟩
      · omega
      · have : n = n' := by omega
        subst this
        have := Option.some.inj (a3.symm.trans b3)
        cases this
        exact ⟨rfl, rfl⟩
  · obtain ⟨k, hk, -⟩ := pos i j ps hps
    exact hB.2.1.2 k _ hk
def xPN (D : va_G) (g : xG3) (ci : Nat) (fs0 : List Value) (h0 sz : Nat) : Array Value → State → Prop := va_Pc [.ref h0] (fun U => U.heap.size = sz ∧ KS D g U ∧ va_AO RX3 U ∧ va_P D classes [(h0, .inr (ci, fs0))] U.heap)
def xNQ (D : va_G) (g : xG3) (sh : List (List PS)) (μ : List Ob) (h0 sz : Nat) : Array Value → State → Outcome → State → Prop :=
  fun _ st oc t => oc = .returned none ∧ (∃ ad : Nat → Nat → Nat, ad 0 0 = h0 ∧ XP D g ad sh μ t.heap ∧ XI ad sh ∧ ∀ i j ps, part sh i j = some ps → ¬ (i = 0 ∧ j = 0) → sz ≤ ad i j) ∧ va_F (fun q => q = h0 ∨ sz ≤ q) st t
/-- the contract of a constructor -/
def XNw (y : MethodName) (cc : ByteArray) (maxL ci : Nat) (fs0 : List Value) (sh : List (List PS)) (μ : List Ob) (d mc ms : Nat) : Prop :=
  ∀ (l : Launch) (D : va_G) (g : xG3) (h0 sz : Nat), Met l y (xws y cc maxL none) { frames := d, cells := mc, slots := ms, locals := 64 * d } (xPN D g ci fs0 h0 sz) (xNQ D g sh μ h0 sz) mc ms (fun q => q = h0 ∨ sz ≤ q)
theorem xPN_blind {D : va_G} {g : xG3} {ci : Nat} {fs0 : List Value} {h0 sz : Nat} : FrameBlind (xPN D g ci fs0 h0 sz) := by
  intro a U gg mk q
  obtain ⟨q0, q1, q2, q3, q4⟩ := q
  exact ⟨q0, q1, ⟨va_K.moved (u := U) (U := U.calling gg mk a) (Vm.Alike.refl U.vm) q2.1, fun w hw => xNst_same (s := U) (U := U.calling gg mk a) hw rfl (q2.2 w hw)⟩, va_AO.moved (u := U) (U := U.calling gg mk a) (Vm.Alike.refl U.vm) q3, q4⟩
