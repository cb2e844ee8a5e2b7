/-! ===== the engine: an abstract machine over worlds of objects whose references are fixed; one soundness row an instruction ===== -/
def xI (x : Int) : Int32 := Int32.ofInt x
/-- the int that a number stands for (by way of Int32: so the kernel never counts) -/
def xw (x : Int) : Int := (xI x).toInt
theorem xw_def (x : Int) : xw x = (x + 2147483648) % 4294967296 - 2147483648 := by
  unfold xw xI
  rw [Int32.toInt_ofInt]
  simp only [Int.bmod, Int32.size]
  omega
theorem xI_toInt (x : Int) : (xI x).toInt = xw x := rfl
theorem xI_of (z : Int32) : xI z.toInt = z := Int32.ofInt_toInt z
theorem xw_of (z : Int32) : xw z.toInt = z.toInt := by rw [← xI_toInt, xI_of]
theorem xw_xw (x : Int) : xw (xw x) = xw x := by simp only [xw_def]; omega
theorem xI_eq {x y : Int} : xI x = xI y ↔ xw x = xw y := by rw [← Int32.toInt_inj, xI_toInt, xI_toInt]
theorem xI_xw (x : Int) : xI (xw x) = xI x := xI_eq.mpr (xw_xw x)
theorem xI_lt {x y : Int} : xI x < xI y ↔ xw x < xw y := by rw [Int32.lt_iff_toInt_lt, xI_toInt, xI_toInt]
theorem xI_le {x y : Int} : xI x ≤ xI y ↔ xw x ≤ xw y := by rw [Int32.le_iff_toInt_le, xI_toInt, xI_toInt]
theorem xI_add (x y : Int) : xI x + xI y = xI (x + y) := (Int32.ofInt_add x y).symm
theorem xI_sub (x y : Int) : xI x - xI y = xI (x - y) := (Int32.ofInt_sub x y).symm
theorem xI_mul (x y : Int) : xI x * xI y = xI (x * y) := (Int32.ofInt_mul x y).symm
theorem xI_0 : xI 0 = 0 := rfl
theorem xI_clamp (x : Int) : (xI x).toNatClampNeg = (xw x).toNat := by
  show (xI x).toInt.toNat = _
  rw [xI_toInt]
theorem xw_id {x : Int} (h1 : -2147483648 ≤ x) (h2 : x < 2147483648) : xw x = x := by rw [xw_def]; omega
def xand (x y : Int) : Int := (xI x &&& xI y).toInt
def xor_ (x y : Int) : Int := (xI x ||| xI y).toInt
def xxor (x y : Int) : Int := (xI x ^^^ xI y).toInt
def xshl (x y : Int) : Int := (xI x <<< (xI y &&& 31)).toInt
def xshr (x y : Int) : Int := (xI x >>> (xI y &&& 31)).toInt
def xdiv (x y : Int) : Int := (xI x / xI y).toInt
def xrem (x y : Int) : Int := (xI x - xI x / xI y * xI y).toInt
def xin (i : Int) (n : Nat) : Bool := decide (0 ≤ xw i) && decide (xw i < (n : Int))
theorem xin_in {i : Int} {n : Nat} (h : xin i n = true) : vp_in (xI i) n := by
  simp only [xin, Bool.and_eq_true, decide_eq_true_eq] at h
  intro q
  rcases q with q | q
  · rw [← xI_0, xI_lt] at q
    have : xw 0 = 0 := by decide
    omega
  · rw [xI_clamp] at q
    omega
-- values: an int (any number that stands for it), a reference (object, part), a long
abbrev AV : Type := Int ⊕ ((Nat × Nat) ⊕ Int)
abbrev Ob : Type := Nat → Nat → Int
abbrev Rt : Type := Option AV × List Ob
-- parts of an object: an array (kind 0 int, 1 boolean; length), the object's own cell (class, fields: none a number, some a reference), an array of references
abbrev PS : Type := (Nat × Nat) ⊕ ((Nat × List (Option (Nat × Nat))) ⊕ List (Nat × Nat))
abbrev XSt : Type := List (Option AV) × List AV × List Ob
abbrev XK : Type := XSt → Option Rt
def nth {α : Type} : List α → Nat → Option α
  | [], _ => none
  | a :: _, 0 => some a
  | _ :: l, n + 1 => nth l n
theorem nth_eq {α : Type} : ∀ (l : List α) (n : Nat), nth l n = l[n]?
  | [], n => by simp [nth]
  | a :: l, 0 => by simp [nth]
  | a :: l, n + 1 => by simp only [nth, List.getElem?_cons_succ]; exact nth_eq l n
def put_ {α : Type} : List α → Nat → α → List α
  | [], _, _ => []
  | _ :: l, 0, x => x :: l
  | a :: l, n + 1, x => a :: put_ l n x
theorem nth_put {α : Type} : ∀ (l : List α) (n j : Nat) (x : α), nth (put_ l n x) j = if j = n then (nth l n).map (fun _ => x) else nth l j
  | [], n, j, x => by simp [put_, nth]
  | a :: l, 0, 0, x => by simp [put_, nth]
  | a :: l, 0, j + 1, x => by simp [put_, nth]
  | a :: l, n + 1, 0, x => by simp [put_, nth]
  | a :: l, n + 1, j + 1, x => by simp only [put_, nth, nth_put l n j x]; simp
def ob0 : Ob := fun _ _ => 0
def getO : List Ob → Nat → Ob
  | [], _ => ob0
  | a :: _, 0 => a
  | _ :: l, n + 1 => getO l n
theorem getO_put : ∀ (l : List Ob) (n j : Nat) (x : Ob), n < l.length → getO (put_ l n x) j = if j = n then x else getO l j
  | [], n, j, x, h => by simp at h
  | a :: l, 0, 0, x, h => by simp [put_, getO]
  | a :: l, 0, j + 1, x, h => by simp [put_, getO]
  | a :: l, n + 1, 0, x, h => by simp [put_, getO]
  | a :: l, n + 1, j + 1, x, h => by
    have := getO_put l n j x (by simpa using h)
    simp only [put_, getO, this]; simp
def xset (h : Ob) (b n : Nat) (x : Int) : Ob := fun j k => if j = b ∧ k = n then x else h j k
def part (sh : List (List PS)) (i j : Nat) : Option PS := match nth sh i with
  | some o => nth o j
  | none => none
def cv (ad : Nat → Nat → Nat) : AV → Value
  | .inl x => .int (xI x)
  | .inr (.inl q) => .ref (ad q.1 q.2)
  | .inr (.inr x) => .long (Int64.ofInt x)
def xfld (ad : Nat → Nat → Nat) (f : Nat → Int) (k : Nat) (r : Option (Nat × Nat)) : Value := match r with
  | none => .int (xI (f k))
  | some q => .ref (ad q.1 q.2)
abbrev xG3 : Type := ClassId × ClassId × ClassId
def xcell (g : xG3) (ad : Nat → Nat → Nat) (f : Nat → Int) : PS → va_E
  | .inl (t, n) => .inl (if t = 0 then g.1 else g.2.1, n, .inl (fun k => xI (f k)))
  | .inr (.inl (ci, fs)) => .inr (ci, fs.mapIdx (xfld ad f))
  | .inr (.inr rs) => .inl (g.2.2, rs.length, .inr (.inr (.inr (.inr (fun k => (nth rs k).map (fun q => ad q.1 q.2))))))
def xtys (g : xG3) : List (ClassId × FieldType) := [(g.1, .int), (g.2.1, .boolean), (g.2.2, .object RX3)]
-- the words
def KS (D : va_G) (g : xG3) (U : State) : Prop := va_K D classes (xtys g) U ∧ ∀ w ∈ NST, va_Nw w U
-- the world
def XP (D : va_G) (g : xG3) (ad : Nat → Nat → Nat) (sh : List (List PS)) (μ : List Ob) (H : Heap) : Prop :=
  ∀ (i j : Nat) (ps : PS), part sh i j = some ps → va_at D classes (ad i j, xcell g ad (getO μ i j) ps) H
def XI (ad : Nat → Nat → Nat) (sh : List (List PS)) : Prop :=
  ∀ (i j i' j' : Nat) (ps ps' : PS), part sh i j = some ps → part sh i' j' = some ps' → ad i j = ad i' j' → i = i' ∧ j = j'
def xA (ad : Nat → Nat → Nat) (sh : List (List PS)) (sz : Nat) : Nat → Prop := fun q => (∃ (i j : Nat) (ps : PS), part sh i j = some ps ∧ q = ad i j) ∨ sz ≤ q
def XL (lsl : Array Slot) (nL : Nat) (ad : Nat → Nat → Nat) (ls : List (Option AV)) : Prop :=
  lsl.size = nL ∧ lv_wf lsl ∧ ls.length ≤ nL ∧ ∀ (i : Nat) (v : AV), nth ls i = some (some v) → lsl[i]? = some (.val (cv ad v))
-- a method: its bytes, its locals, its class, what it returns, its world's shape, its depth
abbrev XM : Type := ByteArray × Nat × String × Option FieldType × List (List PS) × Nat
abbrev XDyn : Type := Program × Launch × Env × State × MethodId × Array Value × List Frame × Method × Code × va_G × xG3 × (Nat → Nat → Nat) × (Nat → Prop)
def rmD (d : Nat) : Room := { frames := d, cells := 0, slots := 0, locals := 64 * d }
def xQ (D : va_G) (g : xG3) (ad : Nat → Nat → Nat) (sh : List (List PS)) (A : Nat → Prop) (r0 : Rt) : Array Value → State → Outcome → State → Prop :=
  fun _ st oc t => oc = .returned (r0.1.map (cv ad)) ∧ XP D g ad sh r0.2 t.heap ∧ va_F A st t
def XO : XDyn → XM → Prop
  | (p, _, _, s, m, args, _, meth, c, D, g, ad, A), (cc, nL, own, ret, sh, _) =>
    p.tables.exec = Jvm.exec ∧ c.code = cc ∧ c.maxLocals = nL ∧ s.vm.findClass own = some m.cls ∧ (∀ w ∈ BIG, w.before args s = true) ∧ KS D g s ∧ XI ad sh ∧
    (∀ (i j : Nat) (ps : PS), part sh i j = some ps → A (ad i j)) ∧ (∀ q, s.heap.size ≤ q → A q) ∧ meth.sig.returnType = ret ∧ meth.locks = false
def XS : XDyn → XM → Rt → Nat → XK → Prop
  | (p, l, e, s, m, args, below, meth, c, D, g, ad, A), (_, nL, _, _, sh, d), r0, pc, f =>
    ∀ (ls : List (Option AV)) (st : List AV) (μ : List Ob), μ.length = sh.length → f (ls, st, μ) = some r0 → ∀ (H : Heap) (locs : List Loc) (lsl : Array Slot), XL lsl nL ad ls → XP D g ad sh μ H → va_S A s.heap H locs →
      W p l e (rmD d) s m args below meth c H locs 0 0 (MQ below (xQ D g ad sh A r0) args s 0 0 A) (F0 m pc lsl (st.map (cv ad)))

theorem XL.set {lsl lsl' : Array Slot} {nL i : Nat} {ad : Nat → Nat → Nat} {ls : List (Option AV)} {v : AV} (h : XL lsl nL ad ls) (hs : lsl'.size = nL) (hw : lv_wf lsl') (hi : lsl'[i]? = some (.val (cv ad v))) (hj : ∀ (j : Nat) (u : AV), j ≠ i → nth ls j = some (some u) → lsl'[j]? = some (.val (cv ad u))) : XL lsl' nL ad (put_ ls i (some v)) := by
  refine ⟨hs, hw, ?_, fun j u hu => ?_⟩
  · have : ∀ (l : List (Option AV)) (i : Nat) (x : Option AV), (put_ l i x).length = l.length := by
      intro l
      induction l with
      | nil => intro i x; rfl
      | cons a l ih => intro i x; cases i <;> simp [put_, ih]
    rw [this]; exact h.2.2.1
  · rw [nth_put] at hu
    by_cases hji : j = i
    · subst hji
      rw [if_pos rfl] at hu
      cases hn : nth ls j with
      | none => rw [hn] at hu; simp at hu
      | some z =>
        rw [hn] at hu
        simp at hu
        subst hu
        exact hi
    · rw [if_neg hji] at hu
      exact hj j u hji hu
def xlv (ad : Nat → Nat → Nat) : List (Option AV) → Nat → List (Nat × Value)
  | [], _ => []
  | none :: l, i => xlv ad l (i + 1)
  | some v :: l, i => (i, cv ad v) :: xlv ad l (i + 1)
theorem xlv_mem {ad : Nat → Nat → Nat} : ∀ (l : List (Option AV)) (i : Nat) (q : Nat × Value), q ∈ xlv ad l i ↔ ∃ (k : Nat) (v : AV), nth l k = some (some v) ∧ q = (i + k, cv ad v)
  | [], i, q => by simp [xlv, nth]
  | none :: l, i, q => by
    simp only [xlv]
    rw [xlv_mem l (i + 1) q]
    constructor
    · rintro ⟨k, v, h1, h2⟩
      exact ⟨k + 1, v, by simpa [nth] using h1, by rw [h2]; congr 1; omega⟩
    · rintro ⟨k, v, h1, h2⟩
      cases k with
      | zero => simp [nth] at h1
      | succ k => exact ⟨k, v, by simpa [nth] using h1, by rw [h2]; congr 1; omega⟩
  | some u :: l, i, q => by
    simp only [xlv, List.mem_cons]
    rw [xlv_mem l (i + 1) q]
    constructor
    · rintro (h | ⟨k, v, h1, h2⟩)
      · exact ⟨0, u, by simp [nth], by rw [h]; rfl⟩
      · exact ⟨k + 1, v, by simpa [nth] using h1, by rw [h2]; congr 1; omega⟩
    · rintro ⟨k, v, h1, h2⟩
      cases k with
      | zero => simp [nth] at h1; subst h1; exact Or.inl (by rw [h2]; rfl)
      | succ k => exact Or.inr ⟨k, v, by simpa [nth] using h1, by rw [h2]; congr 1; omega⟩
theorem XL.has {lsl : Array Slot} {nL : Nat} {ad : Nat → Nat → Nat} {ls : List (Option AV)} (h : XL lsl nL ad ls) : lv_has lsl nL (xlv ad ls 0) := by
  refine ⟨h.1, h.2.1, fun q hq => ?_⟩
  obtain ⟨k, v, h1, rfl⟩ := (xlv_mem ls 0 q).mp hq
  rw [Nat.zero_add]
  exact h.2.2.2 k v h1
def nolong : List (Option AV) → Bool
  | [] => true
  | some (.inr (.inr _)) :: _ => false
  | _ :: l => nolong l
theorem nolong_cat {ad : Nat → Nat → Nat} : ∀ (l : List (Option AV)), nolong l = true → ∀ (k : Nat) (v : AV), nth l k = some (some v) → (cv ad v).category = 1
  | [], _, k, v, h => by simp [nth] at h
  | none :: l, hn, 0, v, h => by simp [nth] at h
  | some (.inl x) :: l, hn, 0, v, h => by simp [nth] at h; subst h; rfl
  | some (.inr (.inl x)) :: l, hn, 0, v, h => by simp [nth] at h; subst h; rfl
  | some (.inr (.inr x)) :: l, hn, k, v, h => by simp [nolong] at hn
  | none :: l, hn, k + 1, v, h => nolong_cat l (by simpa [nolong] using hn) k v (by simpa [nth] using h)
  | some (.inl x) :: l, hn, k + 1, v, h => nolong_cat l (by simpa [nolong] using hn) k v (by simpa [nth] using h)
  | some (.inr (.inl x)) :: l, hn, k + 1, v, h => nolong_cat l (by simpa [nolong] using hn) k v (by simpa [nth] using h)
theorem XL.store {lsl lsl' : Array Slot} {nL i : Nat} {ad : Nat → Nat → Nat} {ls : List (Option AV)} {v : AV} (h : XL lsl nL ad ls) (hn : nolong ls = true) (hh : lv_has lsl' nL ((i, cv ad v) :: (xlv ad ls 0).filter (fun q => !(q.1 == i) && !(q.1 + 1 == i && q.2.category == 2)))) : XL lsl' nL ad (put_ ls i (some v)) := by
  refine h.set hh.1 hh.2.1 (hh.2.2 (i, cv ad v) List.mem_cons_self) (fun j u hj hu => ?_)
  refine hh.2.2 (j, cv ad u) (List.mem_cons_of_mem _ (List.mem_filter.mpr ⟨(xlv_mem ls 0 _).mpr ⟨j, u, hu, by rw [Nat.zero_add]⟩, ?_⟩))
  have hc := nolong_cat (ad := ad) ls hn j u hu
  simp [hj, hc]

section XOps
variable {X : XDyn} {M : XM} {r0 : Rt} {pc : Nat} {k k1 k2 : XK}

def o_iconst (n : Int) (k : XK) : XK := fun (ls, st, μ) => k (ls, .inl n :: st, μ)
theorem s_iconst {n : Int} (C : XO X M) (hd : decode M.1 pc = .ok (.iconst n, 1)) (hk : XS X M r0 (pc + 1) k) : XS X M r0 pc (o_iconst n k) := by
  obtain ⟨p, l, e, s, m, args, below, meth, c, D, g, ad, A⟩ := X
  obtain ⟨cc, nL, own, ret, sh, d⟩ := M
  intro ls st μ hμ h H locs lsl hl hP hS
  exact lv_iconst C.1 C.2.1 hd (v := xI n) rfl (hk ls _ μ hμ h H locs lsl hl hP hS)
theorem xbi (n : Int) (h : decide (-128 ≤ n ∧ n < 128) = true) : (Int8.ofInt n).toInt32 = xI n := by
  have h := of_decide_eq_true h
  apply Int32.toInt_inj.mp
  rw [xI_toInt, xw_id (by omega) (by omega), Int8.toInt_toInt32, Int8.toInt_ofInt]
  simp only [Int.bmod, Int8.size]
  omega
theorem xsi (n : Int) (h : decide (-32768 ≤ n ∧ n < 32768) = true) : (Int16.ofInt n).toInt32 = xI n := by
  have h := of_decide_eq_true h
  apply Int32.toInt_inj.mp
  rw [xI_toInt, xw_id (by omega) (by omega), Int16.toInt_toInt32, Int16.toInt_ofInt]
  simp only [Int.bmod, Int16.size]
  omega
theorem s_bipush {n : Int} (C : XO X M) (hd : decode M.1 pc = .ok (.bipush n, 2)) (hn : decide (-128 ≤ n ∧ n < 128) = true) (hk : XS X M r0 (pc + 2) k) : XS X M r0 pc (o_iconst n k) := by
  obtain ⟨p, l, e, s, m, args, below, meth, c, D, g, ad, A⟩ := X
  obtain ⟨cc, nL, own, ret, sh, d⟩ := M
  intro ls st μ hμ h H locs lsl hl hP hS
  exact lv_bipush C.1 C.2.1 hd (v := xI n) (xbi n hn) (hk ls _ μ hμ h H locs lsl hl hP hS)
theorem s_sipush {n : Int} (C : XO X M) (hd : decode M.1 pc = .ok (.sipush n, 3)) (hn : decide (-32768 ≤ n ∧ n < 32768) = true) (hk : XS X M r0 (pc + 3) k) : XS X M r0 pc (o_iconst n k) := by
  obtain ⟨p, l, e, s, m, args, below, meth, c, D, g, ad, A⟩ := X
  obtain ⟨cc, nL, own, ret, sh, d⟩ := M
  intro ls st μ hμ h H locs lsl hl hP hS
  exact lv_sipush C.1 C.2.1 hd (v := xI n) (xsi n hn) (hk ls _ μ hμ h H locs lsl hl hP hS)
theorem s_ldc {n : Int} {z : Int32} {index : Nat} (C : XO X M) (hd : decode M.1 pc = .ok (.ldc index, 2)) (hw : Cond.constant M.2.2.1 index z ∈ BIG) (hz : xI n = z) (hk : XS X M r0 (pc + 2) k) : XS X M r0 pc (o_iconst n k) := by
  obtain ⟨p, l, e, s, m, args, below, meth, c, D, g, ad, A⟩ := X
  obtain ⟨cc, nL, own, ret, sh, d⟩ := M
  intro ls st μ hμ h H locs lsl hl hP hS
  subst hz
  exact lv_ldc C.1 C.2.1 C.2.2.2.1 (C.2.2.2.2.1 _ hw) hd (hk ls _ μ hμ h H locs lsl hl hP hS)
def o_lconst (n : Int) (k : XK) : XK := fun (ls, st, μ) => k (ls, .inr (.inr n) :: st, μ)
theorem s_lconst {n : Fin 2} {z : Int} (C : XO X M) (hd : decode M.1 pc = .ok (.lconst n, 1)) (hz : Int64.ofNat (n : Nat) = Int64.ofInt z) (hk : XS X M r0 (pc + 1) k) : XS X M r0 pc (o_lconst z k) := by
  obtain ⟨p, l, e, s, m, args, below, meth, c, D, g, ad, A⟩ := X
  obtain ⟨cc, nL, own, ret, sh, d⟩ := M
  intro ls st μ hμ h H locs lsl hl hP hS
  exact lv_lconst C.1 C.2.1 hd hz (hk ls _ μ hμ h H locs lsl hl hP hS)
theorem s_ldc2 {n : Int} {z : Int64} {index : Nat} (C : XO X M) (hd : decode M.1 pc = .ok (.ldc2_w index, 3)) (hw : Cond.constantLong M.2.2.1 index z ∈ BIG) (hz : Int64.ofInt n = z) (hk : XS X M r0 (pc + 3) k) : XS X M r0 pc (o_lconst n k) := by
  obtain ⟨p, l, e, s, m, args, below, meth, c, D, g, ad, A⟩ := X
  obtain ⟨cc, nL, own, ret, sh, d⟩ := M
  intro ls st μ hμ h H locs lsl hl hP hS
  subst hz
  exact lv_ldc2 C.1 C.2.1 C.2.2.2.1 (C.2.2.2.2.1 _ hw) hd (hk ls _ μ hμ h H locs lsl hl hP hS)
def o_i2l (k : XK) : XK := fun (ls, st, μ) => match st with
  | .inl x :: st => k (ls, .inr (.inr (xw x)) :: st, μ)
  | _ => none
theorem s_i2l (C : XO X M) (hd : decode M.1 pc = .ok (.i2l, 1)) (hk : XS X M r0 (pc + 1) k) : XS X M r0 pc (o_i2l k) := by
  obtain ⟨p, l, e, s, m, args, below, meth, c, D, g, ad, A⟩ := X
  obtain ⟨cc, nL, own, ret, sh, d⟩ := M
  intro ls st μ hμ h H locs lsl hl hP hS
  unfold o_i2l at h
  dsimp only at h
  split at h
  · rename_i x st
    refine lv_i2l C.1 C.2.1 hd (v := Int64.ofInt (xw x)) ?_ (hk ls _ μ hμ h H locs lsl hl hP hS)
    apply Int64.toInt_inj.mp
    rw [Int32.toInt_toInt64, xI_toInt, Int64.toInt_ofInt]
    rw [xw_def]
    simp only [Int.bmod, Int64.size]
    omega
  · cases h

def o_load (i : Nat) (k : XK) : XK := fun (ls, st, μ) => match nth ls i with
  | some (some v) => k (ls, v :: st, μ)
  | _ => none
def o_iload (i : Nat) (k : XK) : XK := fun (ls, st, μ) => match nth ls i with
  | some (some (.inl v)) => k (ls, .inl v :: st, μ)
  | _ => none
def o_aload (i : Nat) (k : XK) : XK := fun (ls, st, μ) => match nth ls i with
  | some (some (.inr (.inl v))) => k (ls, .inr (.inl v) :: st, μ)
  | _ => none
theorem s_iload {i : Nat} (C : XO X M) (hd : decode M.1 pc = .ok (.iload i, 2)) (hk : XS X M r0 (pc + 2) k) : XS X M r0 pc (o_iload i k) := by
  obtain ⟨p, l, e, s, m, args, below, meth, c, D, g, ad, A⟩ := X
  obtain ⟨cc, nL, own, ret, sh, d⟩ := M
  intro ls st μ hμ h H locs lsl hl hP hS
  unfold o_iload at h
  dsimp only at h
  split at h
  · rename_i v hv
    exact lv_iload C.1 C.2.1 hd (hl.2.2.2 i _ hv) (hk ls _ μ hμ h H locs lsl hl hP hS)
  · cases h
theorem s_iload_n {i : Nat} {q : Fin 4} (C : XO X M) (hd : decode M.1 pc = .ok (.iload_n q, 1)) (hi : (q : Nat) = i) (hk : XS X M r0 (pc + 1) k) : XS X M r0 pc (o_iload i k) := by
  obtain ⟨p, l, e, s, m, args, below, meth, c, D, g, ad, A⟩ := X
  obtain ⟨cc, nL, own, ret, sh, d⟩ := M
  intro ls st μ hμ h H locs lsl hl hP hS
  unfold o_iload at h
  dsimp only at h
  split at h
  · rename_i v hv
    exact lv_iload_n C.1 C.2.1 hd hi (hl.2.2.2 i _ hv) (hk ls _ μ hμ h H locs lsl hl hP hS)
  · cases h
theorem s_aload {i : Nat} (C : XO X M) (hd : decode M.1 pc = .ok (.aload i, 2)) (hk : XS X M r0 (pc + 2) k) : XS X M r0 pc (o_aload i k) := by
  obtain ⟨p, l, e, s, m, args, below, meth, c, D, g, ad, A⟩ := X
  obtain ⟨cc, nL, own, ret, sh, d⟩ := M
  intro ls st μ hμ h H locs lsl hl hP hS
  unfold o_aload at h
  dsimp only at h
  split at h
  · rename_i v hv
    exact lv_aload C.1 C.2.1 hd (hl.2.2.2 i _ hv) (hk ls _ μ hμ h H locs lsl hl hP hS)
  · cases h
theorem s_aload_n {i : Nat} {q : Fin 4} (C : XO X M) (hd : decode M.1 pc = .ok (.aload_n q, 1)) (hi : (q : Nat) = i) (hk : XS X M r0 (pc + 1) k) : XS X M r0 pc (o_aload i k) := by
  obtain ⟨p, l, e, s, m, args, below, meth, c, D, g, ad, A⟩ := X
  obtain ⟨cc, nL, own, ret, sh, d⟩ := M
  intro ls st μ hμ h H locs lsl hl hP hS
  unfold o_aload at h
  dsimp only at h
  split at h
  · rename_i v hv
    exact lv_aload_n C.1 C.2.1 hd hi (hl.2.2.2 i _ hv) (hk ls _ μ hμ h H locs lsl hl hP hS)
  · cases h
def o_istore (i : Nat) (k : XK) : XK := fun (ls, st, μ) => match st with
  | .inl v :: st => if nolong ls && decide (i < ls.length) then k (put_ ls i (some (.inl v)), st, μ) else none
  | _ => none
def o_astore (i : Nat) (k : XK) : XK := fun (ls, st, μ) => match st with
  | .inr (.inl v) :: st => if nolong ls && decide (i < ls.length) then k (put_ ls i (some (.inr (.inl v))), st, μ) else none
  | _ => none
theorem s_istore {i : Nat} (C : XO X M) (hd : decode M.1 pc = .ok (.istore i, 2)) (hk : XS X M r0 (pc + 2) k) : XS X M r0 pc (o_istore i k) := by
  obtain ⟨p, l, e, s, m, args, below, meth, c, D, g, ad, A⟩ := X
  obtain ⟨cc, nL, own, ret, sh, d⟩ := M
  intro ls st μ hμ h H locs lsl hl hP hS
  unfold o_istore at h
  dsimp only at h
  split at h
  · rename_i v st
    split at h
    · rename_i hc
      simp only [Bool.and_eq_true, decide_eq_true_eq] at hc
      refine lv_istore C.1 C.2.1 hd hl.has (Nat.lt_of_lt_of_le hc.2 hl.2.2.1) rfl (fun lsl' hh => ?_)
      exact hk _ _ μ hμ h H locs lsl' (hl.store hc.1 hh) hP hS
    · cases h
  · cases h
theorem s_istore_n {i : Nat} {q : Fin 4} (C : XO X M) (hd : decode M.1 pc = .ok (.istore_n q, 1)) (hi : (q : Nat) = i) (hk : XS X M r0 (pc + 1) k) : XS X M r0 pc (o_istore i k) := by
  obtain ⟨p, l, e, s, m, args, below, meth, c, D, g, ad, A⟩ := X
  obtain ⟨cc, nL, own, ret, sh, d⟩ := M
  intro ls st μ hμ h H locs lsl hl hP hS
  unfold o_istore at h
  dsimp only at h
  split at h
  · rename_i v st
    split at h
    · rename_i hc
      simp only [Bool.and_eq_true, decide_eq_true_eq] at hc
      refine lv_istore_n C.1 C.2.1 hd hi hl.has (Nat.lt_of_lt_of_le hc.2 hl.2.2.1) rfl (fun lsl' hh => ?_)
      exact hk _ _ μ hμ h H locs lsl' (hl.store hc.1 hh) hP hS
    · cases h
  · cases h
theorem s_astore {i : Nat} (C : XO X M) (hd : decode M.1 pc = .ok (.astore i, 2)) (hk : XS X M r0 (pc + 2) k) : XS X M r0 pc (o_astore i k) := by
  obtain ⟨p, l, e, s, m, args, below, meth, c, D, g, ad, A⟩ := X
  obtain ⟨cc, nL, own, ret, sh, d⟩ := M
  intro ls st μ hμ h H locs lsl hl hP hS
  unfold o_astore at h
  dsimp only at h
  split at h
  · rename_i v st
    split at h
    · rename_i hc
      simp only [Bool.and_eq_true, decide_eq_true_eq] at hc
      refine lv_astore C.1 C.2.1 hd hl.has (Nat.lt_of_lt_of_le hc.2 hl.2.2.1) rfl (fun lsl' hh => ?_)
      exact hk _ _ μ hμ h H locs lsl' (hl.store hc.1 hh) hP hS
    · cases h
  · cases h
theorem s_astore_n {i : Nat} {q : Fin 4} (C : XO X M) (hd : decode M.1 pc = .ok (.astore_n q, 1)) (hi : (q : Nat) = i) (hk : XS X M r0 (pc + 1) k) : XS X M r0 pc (o_astore i k) := by
  obtain ⟨p, l, e, s, m, args, below, meth, c, D, g, ad, A⟩ := X
  obtain ⟨cc, nL, own, ret, sh, d⟩ := M
  intro ls st μ hμ h H locs lsl hl hP hS
  unfold o_astore at h
  dsimp only at h
  split at h
  · rename_i v st
    split at h
    · rename_i hc
      simp only [Bool.and_eq_true, decide_eq_true_eq] at hc
      refine lv_astore_n C.1 C.2.1 hd hi hl.has (Nat.lt_of_lt_of_le hc.2 hl.2.2.1) rfl (fun lsl' hh => ?_)
      exact hk _ _ μ hμ h H locs lsl' (hl.store hc.1 hh) hP hS
    · cases h
  · cases h
def o_iinc (i : Nat) (n : Int) (k : XK) : XK := fun (ls, st, μ) => match nth ls i with
  | some (some (.inl v)) => if nolong ls && decide (i < ls.length) then k (put_ ls i (some (.inl (v + n))), st, μ) else none
  | _ => none
theorem s_iinc {i : Nat} {n : Int} (C : XO X M) (hd : decode M.1 pc = .ok (.iinc i n, 3)) (hk : XS X M r0 (pc + 3) k) : XS X M r0 pc (o_iinc i n k) := by
  obtain ⟨p, l, e, s, m, args, below, meth, c, D, g, ad, A⟩ := X
  obtain ⟨cc, nL, own, ret, sh, d⟩ := M
  intro ls st μ hμ h H locs lsl hl hP hS
  unfold o_iinc at h
  dsimp only at h
  split at h
  · rename_i v hv
    split at h
    · rename_i hc
      simp only [Bool.and_eq_true, decide_eq_true_eq] at hc
      obtain ⟨kk, hkk⟩ := List.getElem?_of_mem ((xlv_mem (ad := ad) ls 0 (i, .int (xI v))).mpr ⟨i, .inl v, hv, by rw [Nat.zero_add]; rfl⟩)
      refine lv_iinc C.1 C.2.1 hd hl.has hkk (v := xI (v + n)) (xI_add v n) (Nat.lt_of_lt_of_le hc.2 hl.2.2.1) rfl (fun lsl' hh => ?_)
      exact hk _ _ μ hμ h H locs lsl' (hl.store hc.1 hh) hP hS
    · cases h
  · cases h
def o_iadd (k : XK) : XK := fun (ls, st, μ) => match st with
  | .inl y :: .inl x :: st => k (ls, .inl (x + y) :: st, μ)
  | _ => none
theorem s_iadd (C : XO X M) (hd : decode M.1 pc = .ok (.iadd, 1)) (hk : XS X M r0 (pc + 1) k) : XS X M r0 pc (o_iadd k) := by
  obtain ⟨p, l, e, s, m, args, below, meth, c, D, g, ad, A⟩ := X
  obtain ⟨cc, nL, own, ret, sh, d⟩ := M
  intro ls st μ hμ h H locs lsl hl hP hS
  unfold o_iadd at h
  dsimp only at h
  split at h
  · rename_i y x st
    refine lv_iadd C.1 C.2.1 hd ?_
    rw [xI_add]
    exact hk ls _ μ hμ h H locs lsl hl hP hS
  · cases h
def o_isub (k : XK) : XK := fun (ls, st, μ) => match st with
  | .inl y :: .inl x :: st => k (ls, .inl (x - y) :: st, μ)
  | _ => none
theorem s_isub (C : XO X M) (hd : decode M.1 pc = .ok (.isub, 1)) (hk : XS X M r0 (pc + 1) k) : XS X M r0 pc (o_isub k) := by
  obtain ⟨p, l, e, s, m, args, below, meth, c, D, g, ad, A⟩ := X
  obtain ⟨cc, nL, own, ret, sh, d⟩ := M
  intro ls st μ hμ h H locs lsl hl hP hS
  unfold o_isub at h
  dsimp only at h
  split at h
  · rename_i y x st
    refine lv_isub C.1 C.2.1 hd ?_
    rw [xI_sub]
    exact hk ls _ μ hμ h H locs lsl hl hP hS
  · cases h
def o_imul (k : XK) : XK := fun (ls, st, μ) => match st with
  | .inl y :: .inl x :: st => k (ls, .inl (x * y) :: st, μ)
  | _ => none
theorem s_imul (C : XO X M) (hd : decode M.1 pc = .ok (.imul, 1)) (hk : XS X M r0 (pc + 1) k) : XS X M r0 pc (o_imul k) := by
  obtain ⟨p, l, e, s, m, args, below, meth, c, D, g, ad, A⟩ := X
  obtain ⟨cc, nL, own, ret, sh, d⟩ := M
  intro ls st μ hμ h H locs lsl hl hP hS
  unfold o_imul at h
  dsimp only at h
  split at h
  · rename_i y x st
    refine lv_imul C.1 C.2.1 hd ?_
    rw [xI_mul]
    exact hk ls _ μ hμ h H locs lsl hl hP hS
  · cases h
theorem xIand (x y : Int) : xI x &&& xI y = xI (xand x y) := (xI_of _).symm
def o_iand (k : XK) : XK := fun (ls, st, μ) => match st with
  | .inl y :: .inl x :: st => k (ls, .inl (xand x y) :: st, μ)
  | _ => none
theorem s_iand (C : XO X M) (hd : decode M.1 pc = .ok (.iand, 1)) (hk : XS X M r0 (pc + 1) k) : XS X M r0 pc (o_iand k) := by
  obtain ⟨p, l, e, s, m, args, below, meth, c, D, g, ad, A⟩ := X
  obtain ⟨cc, nL, own, ret, sh, d⟩ := M
  intro ls st μ hμ h H locs lsl hl hP hS
  unfold o_iand at h
  dsimp only at h
  split at h
  · rename_i y x st
    refine lv_iand C.1 C.2.1 hd ?_
    rw [xIand]
    exact hk ls _ μ hμ h H locs lsl hl hP hS
  · cases h
theorem xIor (x y : Int) : xI x ||| xI y = xI (xor_ x y) := (xI_of _).symm
def o_ior (k : XK) : XK := fun (ls, st, μ) => match st with
  | .inl y :: .inl x :: st => k (ls, .inl (xor_ x y) :: st, μ)
  | _ => none
theorem s_ior (C : XO X M) (hd : decode M.1 pc = .ok (.ior, 1)) (hk : XS X M r0 (pc + 1) k) : XS X M r0 pc (o_ior k) := by
  obtain ⟨p, l, e, s, m, args, below, meth, c, D, g, ad, A⟩ := X
  obtain ⟨cc, nL, own, ret, sh, d⟩ := M
  intro ls st μ hμ h H locs lsl hl hP hS
  unfold o_ior at h
  dsimp only at h
  split at h
  · rename_i y x st
    refine lv_ior C.1 C.2.1 hd ?_
    rw [xIor]
    exact hk ls _ μ hμ h H locs lsl hl hP hS
  · cases h
theorem xIxor (x y : Int) : xI x ^^^ xI y = xI (xxor x y) := (xI_of _).symm
def o_ixor (k : XK) : XK := fun (ls, st, μ) => match st with
  | .inl y :: .inl x :: st => k (ls, .inl (xxor x y) :: st, μ)
  | _ => none
theorem s_ixor (C : XO X M) (hd : decode M.1 pc = .ok (.ixor, 1)) (hk : XS X M r0 (pc + 1) k) : XS X M r0 pc (o_ixor k) := by
  obtain ⟨p, l, e, s, m, args, below, meth, c, D, g, ad, A⟩ := X
  obtain ⟨cc, nL, own, ret, sh, d⟩ := M
  intro ls st μ hμ h H locs lsl hl hP hS
  unfold o_ixor at h
  dsimp only at h
  split at h
  · rename_i y x st
    refine lv_ixor C.1 C.2.1 hd ?_
    rw [xIxor]
    exact hk ls _ μ hμ h H locs lsl hl hP hS
  · cases h
theorem xIshl (x y : Int) : xI x <<< (xI y &&& 31) = xI (xshl x y) := (xI_of _).symm
def o_ishl (k : XK) : XK := fun (ls, st, μ) => match st with
  | .inl y :: .inl x :: st => k (ls, .inl (xshl x y) :: st, μ)
  | _ => none
theorem s_ishl (C : XO X M) (hd : decode M.1 pc = .ok (.ishl, 1)) (hk : XS X M r0 (pc + 1) k) : XS X M r0 pc (o_ishl k) := by
  obtain ⟨p, l, e, s, m, args, below, meth, c, D, g, ad, A⟩ := X
  obtain ⟨cc, nL, own, ret, sh, d⟩ := M
  intro ls st μ hμ h H locs lsl hl hP hS
  unfold o_ishl at h
  dsimp only at h
  split at h
  · rename_i y x st
    refine lv_ishl C.1 C.2.1 hd ?_
    rw [xIshl]
    exact hk ls _ μ hμ h H locs lsl hl hP hS
  · cases h
theorem xIshr (x y : Int) : xI x >>> (xI y &&& 31) = xI (xshr x y) := (xI_of _).symm
def o_ishr (k : XK) : XK := fun (ls, st, μ) => match st with
  | .inl y :: .inl x :: st => k (ls, .inl (xshr x y) :: st, μ)
  | _ => none
theorem s_ishr (C : XO X M) (hd : decode M.1 pc = .ok (.ishr, 1)) (hk : XS X M r0 (pc + 1) k) : XS X M r0 pc (o_ishr k) := by
  obtain ⟨p, l, e, s, m, args, below, meth, c, D, g, ad, A⟩ := X
  obtain ⟨cc, nL, own, ret, sh, d⟩ := M
  intro ls st μ hμ h H locs lsl hl hP hS
  unfold o_ishr at h
  dsimp only at h
  split at h
  · rename_i y x st
    refine lv_ishr C.1 C.2.1 hd ?_
    rw [xIshr]
    exact hk ls _ μ hμ h H locs lsl hl hP hS
  · cases h
theorem xIdiv (x y : Int) : xI x / xI y = xI (xdiv x y) := (xI_of _).symm
def o_idiv (k : XK) : XK := fun (ls, st, μ) => match st with
  | .inl y :: .inl x :: st => if xw y = 0 then none else k (ls, .inl (xdiv x y) :: st, μ)
  | _ => none
theorem s_idiv (C : XO X M) (hd : decode M.1 pc = .ok (.idiv, 1)) (hk : XS X M r0 (pc + 1) k) : XS X M r0 pc (o_idiv k) := by
  obtain ⟨p, l, e, s, m, args, below, meth, c, D, g, ad, A⟩ := X
  obtain ⟨cc, nL, own, ret, sh, d⟩ := M
  intro ls st μ hμ h H locs lsl hl hP hS
  unfold o_idiv at h
  dsimp only at h
  split at h
  · rename_i y x st
    split at h
    · cases h
    · rename_i hy
      refine lv_idiv C.1 C.2.1 hd (fun q => hy ?_) ?_
      · rw [← xI_0, xI_eq] at q
        exact q
      · rw [xIdiv]
        exact hk ls _ μ hμ h H locs lsl hl hP hS
  · cases h
theorem xIrem (x y : Int) : xI x - xI x / xI y * xI y = xI (xrem x y) := (xI_of _).symm
def o_irem (k : XK) : XK := fun (ls, st, μ) => match st with
  | .inl y :: .inl x :: st => if xw y = 0 then none else k (ls, .inl (xrem x y) :: st, μ)
  | _ => none
theorem s_irem (C : XO X M) (hd : decode M.1 pc = .ok (.irem, 1)) (hk : XS X M r0 (pc + 1) k) : XS X M r0 pc (o_irem k) := by
  obtain ⟨p, l, e, s, m, args, below, meth, c, D, g, ad, A⟩ := X
  obtain ⟨cc, nL, own, ret, sh, d⟩ := M
  intro ls st μ hμ h H locs lsl hl hP hS
  unfold o_irem at h
  dsimp only at h
  split at h
  · rename_i y x st
    split at h
    · cases h
    · rename_i hy
      refine lv_irem C.1 C.2.1 hd (fun q => hy ?_) ?_
      · rw [← xI_0, xI_eq] at q
        exact q
      · rw [xIrem]
        exact hk ls _ μ hμ h H locs lsl hl hP hS
  · cases h
def o_dup (k : XK) : XK := fun (ls, st, μ) => match st with
  | .inl x :: st => k (ls, .inl x :: .inl x :: st, μ)
  | .inr (.inl x) :: st => k (ls, .inr (.inl x) :: .inr (.inl x) :: st, μ)
  | _ => none
theorem s_dup (C : XO X M) (hd : decode M.1 pc = .ok (.dup, 1)) (hk : XS X M r0 (pc + 1) k) : XS X M r0 pc (o_dup k) := by
  obtain ⟨p, l, e, s, m, args, below, meth, c, D, g, ad, A⟩ := X
  obtain ⟨cc, nL, own, ret, sh, d⟩ := M
  intro ls st μ hμ h H locs lsl hl hP hS
  unfold o_dup at h
  dsimp only at h
  split at h
  · exact lv_dup C.1 C.2.1 hd rfl (hk ls _ μ hμ h H locs lsl hl hP hS)
  · exact lv_dup C.1 C.2.1 hd rfl (hk ls _ μ hμ h H locs lsl hl hP hS)
  · cases h
def o_dup2 (k : XK) : XK := fun (ls, st, μ) => match st with
  | .inl x :: .inr (.inl y) :: st => k (ls, .inl x :: .inr (.inl y) :: .inl x :: .inr (.inl y) :: st, μ)
  | _ => none
theorem s_dup2 (C : XO X M) (hd : decode M.1 pc = .ok (.dup2, 1)) (hk : XS X M r0 (pc + 1) k) : XS X M r0 pc (o_dup2 k) := by
  obtain ⟨p, l, e, s, m, args, below, meth, c, D, g, ad, A⟩ := X
  obtain ⟨cc, nL, own, ret, sh, d⟩ := M
  intro ls st μ hμ h H locs lsl hl hP hS
  unfold o_dup2 at h
  dsimp only at h
  split at h
  · exact lv_dup2_11 C.1 C.2.1 hd rfl rfl (hk ls _ μ hμ h H locs lsl hl hP hS)
  · cases h
def o_pop (k : XK) : XK := fun (ls, st, μ) => match st with
  | .inl _ :: st => k (ls, st, μ)
  | _ => none
theorem s_pop (C : XO X M) (hd : decode M.1 pc = .ok (.pop, 1)) (hk : XS X M r0 (pc + 1) k) : XS X M r0 pc (o_pop k) := by
  obtain ⟨p, l, e, s, m, args, below, meth, c, D, g, ad, A⟩ := X
  obtain ⟨cc, nL, own, ret, sh, d⟩ := M
  intro ls st μ hμ h H locs lsl hl hP hS
  unfold o_pop at h
  dsimp only at h
  split at h
  · exact lv_pop C.1 C.2.1 hd rfl (hk ls _ μ hμ h H locs lsl hl hP hS)
  · cases h
theorem s_goto {off : Int} {tgt : Nat} (C : XO X M) (hd : decode M.1 pc = .ok (.goto off, 3)) (ht : (pc : Int) + off = (tgt : Int)) (hk : XS X M r0 tgt k) : XS X M r0 pc k := by
  obtain ⟨p, l, e, s, m, args, below, meth, c, D, g, ad, A⟩ := X
  obtain ⟨cc, nL, own, ret, sh, d⟩ := M
  intro ls st μ hμ h H locs lsl hl hP hS
  exact lv_goto C.1 C.2.1 hd ht (hk ls _ μ hμ h H locs lsl hl hP hS)
theorem xw0 : xw 0 = 0 := by decide
def o_if_eq (k1 k2 : XK) : XK := fun (ls, st, μ) => match st with
  | .inl x :: st => if xw x = 0 then k1 (ls, st, μ) else k2 (ls, st, μ)
  | _ => none
theorem s_if_eq {off : Int} {tgt : Nat} (C : XO X M) (hd : decode M.1 pc = .ok (.ifCond .eq off, 3)) (ht : (pc : Int) + off = (tgt : Int)) (h1 : XS X M r0 tgt k1) (h2 : XS X M r0 (pc + 3) k2) : XS X M r0 pc (o_if_eq k1 k2) := by
  obtain ⟨p, l, e, s, m, args, below, meth, c, D, g, ad, A⟩ := X
  obtain ⟨cc, nL, own, ret, sh, d⟩ := M
  intro ls st μ hμ h H locs lsl hl hP hS
  unfold o_if_eq at h
  dsimp only at h
  split at h
  · rename_i x st
    refine lv_if_eq C.1 C.2.1 hd ht (fun q => ?_) (fun q => ?_)
    · rw [← xI_0] at q
      have hq : xw x = 0 := by have z := xI_eq.mp q; rw [xw0] at z; exact z
      rw [if_pos hq] at h
      exact h1 ls st μ hμ h H locs lsl hl hP hS
    · rw [← xI_0] at q
      have hq : ¬ xw x = 0 := fun z => q (xI_eq.mpr (by rw [xw0]; exact z))
      rw [if_neg hq] at h
      exact h2 ls st μ hμ h H locs lsl hl hP hS
  · cases h
def o_icmp_eq (k1 k2 : XK) : XK := fun (ls, st, μ) => match st with
  | .inl y :: .inl x :: st => if xw x = xw y then k1 (ls, st, μ) else k2 (ls, st, μ)
  | _ => none
theorem s_icmp_eq {off : Int} {tgt : Nat} (C : XO X M) (hd : decode M.1 pc = .ok (.if_icmp .eq off, 3)) (ht : (pc : Int) + off = (tgt : Int)) (h1 : XS X M r0 tgt k1) (h2 : XS X M r0 (pc + 3) k2) : XS X M r0 pc (o_icmp_eq k1 k2) := by
  obtain ⟨p, l, e, s, m, args, below, meth, c, D, g, ad, A⟩ := X
  obtain ⟨cc, nL, own, ret, sh, d⟩ := M
  intro ls st μ hμ h H locs lsl hl hP hS
  unfold o_icmp_eq at h
  dsimp only at h
  split at h
  · rename_i y x st
    refine lv_icmp_eq C.1 C.2.1 hd ht (fun q => ?_) (fun q => ?_)
    · have hq : xw x = xw y := by have z := xI_eq.mp q; exact z
      rw [if_pos hq] at h
      exact h1 ls st μ hμ h H locs lsl hl hP hS
    · have hq : ¬ xw x = xw y := fun z => q (xI_eq.mpr (by exact z))
      rw [if_neg hq] at h
      exact h2 ls st μ hμ h H locs lsl hl hP hS
  · cases h
def o_if_ne (k1 k2 : XK) : XK := fun (ls, st, μ) => match st with
  | .inl x :: st => if xw x = 0 then k2 (ls, st, μ) else k1 (ls, st, μ)
  | _ => none
theorem s_if_ne {off : Int} {tgt : Nat} (C : XO X M) (hd : decode M.1 pc = .ok (.ifCond .ne off, 3)) (ht : (pc : Int) + off = (tgt : Int)) (h1 : XS X M r0 tgt k1) (h2 : XS X M r0 (pc + 3) k2) : XS X M r0 pc (o_if_ne k1 k2) := by
  obtain ⟨p, l, e, s, m, args, below, meth, c, D, g, ad, A⟩ := X
  obtain ⟨cc, nL, own, ret, sh, d⟩ := M
  intro ls st μ hμ h H locs lsl hl hP hS
  unfold o_if_ne at h
  dsimp only at h
  split at h
  · rename_i x st
    refine lv_if_ne C.1 C.2.1 hd ht (fun q => ?_) (fun q => ?_)
    · rw [← xI_0] at q
      have hq : ¬ xw x = 0 := fun z => q (xI_eq.mpr (by rw [xw0]; exact z))
      rw [if_neg hq] at h
      exact h1 ls st μ hμ h H locs lsl hl hP hS
    · rw [← xI_0] at q
      have hq : xw x = 0 := by have z := xI_eq.mp q; rw [xw0] at z; exact z
      rw [if_pos hq] at h
      exact h2 ls st μ hμ h H locs lsl hl hP hS
  · cases h
def o_icmp_ne (k1 k2 : XK) : XK := fun (ls, st, μ) => match st with
  | .inl y :: .inl x :: st => if xw x = xw y then k2 (ls, st, μ) else k1 (ls, st, μ)
  | _ => none
theorem s_icmp_ne {off : Int} {tgt : Nat} (C : XO X M) (hd : decode M.1 pc = .ok (.if_icmp .ne off, 3)) (ht : (pc : Int) + off = (tgt : Int)) (h1 : XS X M r0 tgt k1) (h2 : XS X M r0 (pc + 3) k2) : XS X M r0 pc (o_icmp_ne k1 k2) := by
  obtain ⟨p, l, e, s, m, args, below, meth, c, D, g, ad, A⟩ := X
  obtain ⟨cc, nL, own, ret, sh, d⟩ := M
  intro ls st μ hμ h H locs lsl hl hP hS
  unfold o_icmp_ne at h
  dsimp only at h
  split at h
  · rename_i y x st
    refine lv_icmp_ne C.1 C.2.1 hd ht (fun q => ?_) (fun q => ?_)
    · have hq : ¬ xw x = xw y := fun z => q (xI_eq.mpr (by exact z))
      rw [if_neg hq] at h
      exact h1 ls st μ hμ h H locs lsl hl hP hS
    · have hq : xw x = xw y := by have z := xI_eq.mp q; exact z
      rw [if_pos hq] at h
      exact h2 ls st μ hμ h H locs lsl hl hP hS
  · cases h
def o_if_lt (k1 k2 : XK) : XK := fun (ls, st, μ) => match st with
  | .inl x :: st => if xw x < 0 then k1 (ls, st, μ) else k2 (ls, st, μ)
  | _ => none
theorem s_if_lt {off : Int} {tgt : Nat} (C : XO X M) (hd : decode M.1 pc = .ok (.ifCond .lt off, 3)) (ht : (pc : Int) + off = (tgt : Int)) (h1 : XS X M r0 tgt k1) (h2 : XS X M r0 (pc + 3) k2) : XS X M r0 pc (o_if_lt k1 k2) := by
  obtain ⟨p, l, e, s, m, args, below, meth, c, D, g, ad, A⟩ := X
  obtain ⟨cc, nL, own, ret, sh, d⟩ := M
  intro ls st μ hμ h H locs lsl hl hP hS
  unfold o_if_lt at h
  dsimp only at h
  split at h
  · rename_i x st
    refine lv_if_lt C.1 C.2.1 hd ht (fun q => ?_) (fun q => ?_)
    · rw [← xI_0] at q
      have hq : xw x < 0 := by have z := xI_lt.mp q; rw [xw0] at z; exact z
      rw [if_pos hq] at h
      exact h1 ls st μ hμ h H locs lsl hl hP hS
    · rw [← xI_0] at q
      have hq : ¬ xw x < 0 := fun z => q (xI_lt.mpr (by rw [xw0]; exact z))
      rw [if_neg hq] at h
      exact h2 ls st μ hμ h H locs lsl hl hP hS
  · cases h
def o_icmp_lt (k1 k2 : XK) : XK := fun (ls, st, μ) => match st with
  | .inl y :: .inl x :: st => if xw x < xw y then k1 (ls, st, μ) else k2 (ls, st, μ)
  | _ => none
theorem s_icmp_lt {off : Int} {tgt : Nat} (C : XO X M) (hd : decode M.1 pc = .ok (.if_icmp .lt off, 3)) (ht : (pc : Int) + off = (tgt : Int)) (h1 : XS X M r0 tgt k1) (h2 : XS X M r0 (pc + 3) k2) : XS X M r0 pc (o_icmp_lt k1 k2) := by
  obtain ⟨p, l, e, s, m, args, below, meth, c, D, g, ad, A⟩ := X
  obtain ⟨cc, nL, own, ret, sh, d⟩ := M
  intro ls st μ hμ h H locs lsl hl hP hS
  unfold o_icmp_lt at h
  dsimp only at h
  split at h
  · rename_i y x st
    refine lv_icmp_lt C.1 C.2.1 hd ht (fun q => ?_) (fun q => ?_)
    · have hq : xw x < xw y := by have z := xI_lt.mp q; exact z
      rw [if_pos hq] at h
      exact h1 ls st μ hμ h H locs lsl hl hP hS
    · have hq : ¬ xw x < xw y := fun z => q (xI_lt.mpr (by exact z))
      rw [if_neg hq] at h
      exact h2 ls st μ hμ h H locs lsl hl hP hS
  · cases h
def o_if_ge (k1 k2 : XK) : XK := fun (ls, st, μ) => match st with
  | .inl x :: st => if xw x ≥ 0 then k1 (ls, st, μ) else k2 (ls, st, μ)
  | _ => none
theorem s_if_ge {off : Int} {tgt : Nat} (C : XO X M) (hd : decode M.1 pc = .ok (.ifCond .ge off, 3)) (ht : (pc : Int) + off = (tgt : Int)) (h1 : XS X M r0 tgt k1) (h2 : XS X M r0 (pc + 3) k2) : XS X M r0 pc (o_if_ge k1 k2) := by
  obtain ⟨p, l, e, s, m, args, below, meth, c, D, g, ad, A⟩ := X
  obtain ⟨cc, nL, own, ret, sh, d⟩ := M
  intro ls st μ hμ h H locs lsl hl hP hS
  unfold o_if_ge at h
  dsimp only at h
  split at h
  · rename_i x st
    refine lv_if_ge C.1 C.2.1 hd ht (fun q => ?_) (fun q => ?_)
    · rw [← xI_0] at q
      have hq : xw x ≥ 0 := by have z := xI_le.mp q; rw [xw0] at z; exact z
      rw [if_pos hq] at h
      exact h1 ls st μ hμ h H locs lsl hl hP hS
    · rw [← xI_0] at q
      have hq : ¬ xw x ≥ 0 := fun z => q (xI_le.mpr (by rw [xw0]; exact z))
      rw [if_neg hq] at h
      exact h2 ls st μ hμ h H locs lsl hl hP hS
  · cases h
def o_icmp_ge (k1 k2 : XK) : XK := fun (ls, st, μ) => match st with
  | .inl y :: .inl x :: st => if xw x ≥ xw y then k1 (ls, st, μ) else k2 (ls, st, μ)
  | _ => none
theorem s_icmp_ge {off : Int} {tgt : Nat} (C : XO X M) (hd : decode M.1 pc = .ok (.if_icmp .ge off, 3)) (ht : (pc : Int) + off = (tgt : Int)) (h1 : XS X M r0 tgt k1) (h2 : XS X M r0 (pc + 3) k2) : XS X M r0 pc (o_icmp_ge k1 k2) := by
  obtain ⟨p, l, e, s, m, args, below, meth, c, D, g, ad, A⟩ := X
  obtain ⟨cc, nL, own, ret, sh, d⟩ := M
  intro ls st μ hμ h H locs lsl hl hP hS
  unfold o_icmp_ge at h
  dsimp only at h
  split at h
  · rename_i y x st
    refine lv_icmp_ge C.1 C.2.1 hd ht (fun q => ?_) (fun q => ?_)
    · have hq : xw x ≥ xw y := by have z := xI_le.mp q; exact z
      rw [if_pos hq] at h
      exact h1 ls st μ hμ h H locs lsl hl hP hS
    · have hq : ¬ xw x ≥ xw y := fun z => q (xI_le.mpr (by exact z))
      rw [if_neg hq] at h
      exact h2 ls st μ hμ h H locs lsl hl hP hS
  · cases h
def o_if_gt (k1 k2 : XK) : XK := fun (ls, st, μ) => match st with
  | .inl x :: st => if xw x > 0 then k1 (ls, st, μ) else k2 (ls, st, μ)
  | _ => none
theorem s_if_gt {off : Int} {tgt : Nat} (C : XO X M) (hd : decode M.1 pc = .ok (.ifCond .gt off, 3)) (ht : (pc : Int) + off = (tgt : Int)) (h1 : XS X M r0 tgt k1) (h2 : XS X M r0 (pc + 3) k2) : XS X M r0 pc (o_if_gt k1 k2) := by
  obtain ⟨p, l, e, s, m, args, below, meth, c, D, g, ad, A⟩ := X
  obtain ⟨cc, nL, own, ret, sh, d⟩ := M
  intro ls st μ hμ h H locs lsl hl hP hS
  unfold o_if_gt at h
  dsimp only at h
  split at h
  · rename_i x st
    refine lv_if_gt C.1 C.2.1 hd ht (fun q => ?_) (fun q => ?_)
    · rw [← xI_0] at q
      have hq : xw x > 0 := by have z := xI_lt.mp q; rw [xw0] at z; exact z
      rw [if_pos hq] at h
      exact h1 ls st μ hμ h H locs lsl hl hP hS
    · rw [← xI_0] at q
      have hq : ¬ xw x > 0 := fun z => q (xI_lt.mpr (by rw [xw0]; exact z))
      rw [if_neg hq] at h
      exact h2 ls st μ hμ h H locs lsl hl hP hS
  · cases h
def o_icmp_gt (k1 k2 : XK) : XK := fun (ls, st, μ) => match st with
  | .inl y :: .inl x :: st => if xw x > xw y then k1 (ls, st, μ) else k2 (ls, st, μ)
  | _ => none
theorem s_icmp_gt {off : Int} {tgt : Nat} (C : XO X M) (hd : decode M.1 pc = .ok (.if_icmp .gt off, 3)) (ht : (pc : Int) + off = (tgt : Int)) (h1 : XS X M r0 tgt k1) (h2 : XS X M r0 (pc + 3) k2) : XS X M r0 pc (o_icmp_gt k1 k2) := by
  obtain ⟨p, l, e, s, m, args, below, meth, c, D, g, ad, A⟩ := X
  obtain ⟨cc, nL, own, ret, sh, d⟩ := M
  intro ls st μ hμ h H locs lsl hl hP hS
  unfold o_icmp_gt at h
  dsimp only at h
  split at h
  · rename_i y x st
    refine lv_icmp_gt C.1 C.2.1 hd ht (fun q => ?_) (fun q => ?_)
    · have hq : xw x > xw y := by have z := xI_lt.mp q; exact z
      rw [if_pos hq] at h
      exact h1 ls st μ hμ h H locs lsl hl hP hS
    · have hq : ¬ xw x > xw y := fun z => q (xI_lt.mpr (by exact z))
      rw [if_neg hq] at h
      exact h2 ls st μ hμ h H locs lsl hl hP hS
  · cases h
def o_if_le (k1 k2 : XK) : XK := fun (ls, st, μ) => match st with
  | .inl x :: st => if xw x ≤ 0 then k1 (ls, st, μ) else k2 (ls, st, μ)
  | _ => none
theorem s_if_le {off : Int} {tgt : Nat} (C : XO X M) (hd : decode M.1 pc = .ok (.ifCond .le off, 3)) (ht : (pc : Int) + off = (tgt : Int)) (h1 : XS X M r0 tgt k1) (h2 : XS X M r0 (pc + 3) k2) : XS X M r0 pc (o_if_le k1 k2) := by
  obtain ⟨p, l, e, s, m, args, below, meth, c, D, g, ad, A⟩ := X
  obtain ⟨cc, nL, own, ret, sh, d⟩ := M
  intro ls st μ hμ h H locs lsl hl hP hS
  unfold o_if_le at h
  dsimp only at h
  split at h
  · rename_i x st
    refine lv_if_le C.1 C.2.1 hd ht (fun q => ?_) (fun q => ?_)
    · rw [← xI_0] at q
      have hq : xw x ≤ 0 := by have z := xI_le.mp q; rw [xw0] at z; exact z
      rw [if_pos hq] at h
      exact h1 ls st μ hμ h H locs lsl hl hP hS
    · rw [← xI_0] at q
      have hq : ¬ xw x ≤ 0 := fun z => q (xI_le.mpr (by rw [xw0]; exact z))
      rw [if_neg hq] at h
      exact h2 ls st μ hμ h H locs lsl hl hP hS
  · cases h
def o_icmp_le (k1 k2 : XK) : XK := fun (ls, st, μ) => match st with
  | .inl y :: .inl x :: st => if xw x ≤ xw y then k1 (ls, st, μ) else k2 (ls, st, μ)
  | _ => none
theorem s_icmp_le {off : Int} {tgt : Nat} (C : XO X M) (hd : decode M.1 pc = .ok (.if_icmp .le off, 3)) (ht : (pc : Int) + off = (tgt : Int)) (h1 : XS X M r0 tgt k1) (h2 : XS X M r0 (pc + 3) k2) : XS X M r0 pc (o_icmp_le k1 k2) := by
  obtain ⟨p, l, e, s, m, args, below, meth, c, D, g, ad, A⟩ := X
  obtain ⟨cc, nL, own, ret, sh, d⟩ := M
  intro ls st μ hμ h H locs lsl hl hP hS
  unfold o_icmp_le at h
  dsimp only at h
  split at h
  · rename_i y x st
    refine lv_icmp_le C.1 C.2.1 hd ht (fun q => ?_) (fun q => ?_)
    · have hq : xw x ≤ xw y := by have z := xI_le.mp q; exact z
      rw [if_pos hq] at h
      exact h1 ls st μ hμ h H locs lsl hl hP hS
    · have hq : ¬ xw x ≤ xw y := fun z => q (xI_le.mpr (by exact z))
      rw [if_neg hq] at h
      exact h2 ls st μ hμ h H locs lsl hl hP hS
  · cases h
def tlp {A : Type} (B : (A → Option Rt) → A → Option Rt) : Nat → A → Option Rt
  | 0, _ => none
  | n + 1, a => B (tlp B n) a
theorem tlp_enc {A : Type} {B : XK → XK} {T : (A → Option Rt) → A → Option Rt} (enc : A → XSt) (h : ∀ (k : XK) (a : A), B k (enc a) = T (fun a => k (enc a)) a) : ∀ (n : Nat) (a : A), tlp B n (enc a) = tlp T n a
  | 0, _ => rfl
  | n + 1, a => by
    show B (tlp B n) (enc a) = T (tlp T n) a
    rw [h]
    congr 1
    funext b
    exact tlp_enc enc h n b
theorem s_lp {B : XK → XK} (h : ∀ k, XS X M r0 pc k → XS X M r0 pc (B k)) : ∀ n : Nat, XS X M r0 pc (tlp B n)
  | 0 => by
    obtain ⟨p, l, e, s, m, args, below, meth, c, D, g, ad, A⟩ := X
    obtain ⟨cc, nL, own, ret, sh, d⟩ := M
    intro ls st μ hμ h
    cases h
  | n + 1 => h _ (s_lp h n)
-- the world as the kit's list
def xkeys (sh : List (List PS)) : List (Nat × Nat) := (List.range sh.length).flatMap fun i => (List.range ((nth sh i).getD []).length).map fun j => (i, j)
theorem part_lt {sh : List (List PS)} {i j : Nat} {ps : PS} (h : part sh i j = some ps) : i < sh.length ∧ j < ((nth sh i).getD []).length := by
  unfold part at h
  rw [nth_eq] at h ⊢
  cases ho : sh[i]? with
  | none => rw [ho] at h; cases h
  | some o =>
    rw [ho] at h
    dsimp only at h
    rw [nth_eq] at h
    exact ⟨(List.getElem?_eq_some_iff.mp ho).1, (List.getElem?_eq_some_iff.mp h).1⟩
theorem part_of {sh : List (List PS)} {i j : Nat} (h1 : i < sh.length) (h2 : j < ((nth sh i).getD []).length) : ∃ ps, part sh i j = some ps := by
  unfold part
  rw [nth_eq] at h2 ⊢
  cases ho : sh[i]? with
  | none => simp at ho; omega
  | some o =>
    rw [ho] at h2
    exact ⟨o[j]'h2, by dsimp only; rw [nth_eq]; exact List.getElem?_eq_getElem h2⟩
theorem xkeys_mem {sh : List (List PS)} {x : Nat × Nat} : x ∈ xkeys sh ↔ ∃ ps, part sh x.1 x.2 = some ps := by
  obtain ⟨i, j⟩ := x
  simp only [xkeys, List.mem_flatMap, List.mem_map, List.mem_range]
  constructor
  · rintro ⟨a, ha, b, hb, he⟩
    cases he
    exact part_of ha hb
  · rintro ⟨ps, h⟩
    exact ⟨i, (part_lt h).1, j, (part_lt h).2, rfl⟩
theorem xkeys_nodup (sh : List (List PS)) : (xkeys sh).Nodup := by
  unfold xkeys List.Nodup
  rw [List.pairwise_flatMap]
  refine ⟨fun i _ => ?_, ?_⟩
  · rw [List.pairwise_map]
    exact List.Pairwise.imp (fun h z => h (by cases z; rfl)) List.nodup_range
  · refine List.Pairwise.imp (fun h x hx y hy z => ?_) List.nodup_range
    simp only [List.mem_map] at hx hy
    obtain ⟨_, _, rfl⟩ := hx
    obtain ⟨_, _, rfl⟩ := hy
    cases z
    exact h rfl
def xwl (g : xG3) (ad : Nat → Nat → Nat) (sh : List (List PS)) (μ : List Ob) : va_W := (xkeys sh).map fun x => (ad x.1 x.2, xcell g ad (getO μ x.1 x.2) ((part sh x.1 x.2).getD (.inl (0, 0))))
theorem XP.wl {D : va_G} {g : xG3} {ad : Nat → Nat → Nat} {sh : List (List PS)} {μ : List Ob} {H : Heap} (h : XP D g ad sh μ H) : va_P D classes (xwl g ad sh μ) H := by
  intro k q hq
  simp only [xwl, List.getElem?_map] at hq
  cases hx : (xkeys sh)[k]? with
  | none => rw [hx] at hq; cases hq
  | some x =>
    rw [hx] at hq
    cases hq
    obtain ⟨ps, hps⟩ := xkeys_mem.mp (List.mem_of_getElem? hx)
    have := h x.1 x.2 ps hps
    dsimp only
    rw [hps]
    exact this
theorem XI.wl {A : Nat → Prop} {g : xG3} {ad : Nat → Nat → Nat} {sh : List (List PS)} {μ : List Ob} (h : XI ad sh) (hA : ∀ (i j : Nat) (ps : PS), part sh i j = some ps → A (ad i j)) : va_D A (xwl g ad sh μ) := by
  refine ⟨fun a b x y hx hy hxy => ?_, fun k q hq => ?_⟩
  · simp only [xwl, List.getElem?_map] at hx hy
    cases h1 : (xkeys sh)[a]? with
    | none => rw [h1] at hx; cases hx
    | some u =>
      cases h2 : (xkeys sh)[b]? with
      | none => rw [h2] at hy; cases hy
      | some v =>
        rw [h1] at hx
        rw [h2] at hy
        cases hx
        cases hy
        obtain ⟨ps, hps⟩ := xkeys_mem.mp (List.mem_of_getElem? h1)
        obtain ⟨qs, hqs⟩ := xkeys_mem.mp (List.mem_of_getElem? h2)
        obtain ⟨e1, e2⟩ := h _ _ _ _ ps qs hps hqs hxy
        have e : u = v := Prod.ext e1 e2
        subst e
        exact (List.getElem?_inj (List.getElem?_eq_some_iff.mp h1).1 (xkeys_nodup sh)).mp (h1.trans h2.symm)
  · simp only [xwl, List.getElem?_map] at hq
    cases hx : (xkeys sh)[k]? with
    | none => rw [hx] at hq; cases hq
    | some x =>
      rw [hx] at hq
      cases hq
      obtain ⟨ps, hps⟩ := xkeys_mem.mp (List.mem_of_getElem? hx)
      exact hA _ _ ps hps
theorem xplace (g : xG3) (ad : Nat → Nat → Nat) {sh : List (List PS)} (μ : List Ob) {i j : Nat} {ps : PS} (h : part sh i j = some ps) : ∃ p : Nat, (xkeys sh)[p]? = some (i, j) ∧ (xwl g ad sh μ)[p]? = some (ad i j, xcell g ad (getO μ i j) ps) := by
  obtain ⟨p, hp⟩ := List.getElem?_of_mem (xkeys_mem.mpr ⟨ps, h⟩ : (i, j) ∈ xkeys sh)
  refine ⟨p, hp, ?_⟩
  simp only [xwl, List.getElem?_map, hp, Option.map_some, h, Option.getD_some]
theorem XP.of_set {D : va_G} {g : xG3} {ad : Nat → Nat → Nat} {sh : List (List PS)} {μ μ' : List Ob} {H1 : Heap} {i j p : Nat} {ps : PS} {e' : va_E} (hp : (xkeys sh)[p]? = some (i, j)) (hps : part sh i j = some ps)
    (he : e' = xcell g ad (getO μ' i j) ps) (ho : ∀ i' j', ¬ (i' = i ∧ j' = j) → getO μ' i' j' = getO μ i' j') (h : va_P D classes ((xwl g ad sh μ).set p (ad i j, e')) H1) : XP D g ad sh μ' H1 := by
  intro i' j' ps' hps'
  obtain ⟨p', hp', hw'⟩ := xplace g ad μ hps'
  by_cases hij : i' = i ∧ j' = j
  · obtain ⟨rfl, rfl⟩ := hij
    have hpp : p' = p := (List.getElem?_inj (List.getElem?_eq_some_iff.mp hp').1 (xkeys_nodup sh)).mp (hp'.trans hp.symm)
    subst hpp
    have := h p' (ad i' j', e') (by rw [List.getElem?_set_self (List.getElem?_eq_some_iff.mp hw').1])
    rw [he] at this
    rw [hps] at hps'
    cases hps'
    exact this
  · have hne : p ≠ p' := fun z => by
      subst z
      rw [hp] at hp'
      cases hp'
      exact hij ⟨rfl, rfl⟩
    have := h p' (ad i' j', xcell g ad (getO μ i' j') ps') (by rw [List.getElem?_set_ne hne]; exact hw')
    rw [ho i' j' hij]
    exact this
theorem put_len {α : Type} : ∀ (l : List α) (i : Nat) (x : α), (put_ l i x).length = l.length
  | [], _, _ => rfl
  | _ :: _, 0, _ => rfl
  | _ :: l, i + 1, x => by simp [put_, put_len l i x]
theorem XP.one {D : va_G} {g : xG3} {ad : Nat → Nat → Nat} {sh : List (List PS)} {μ : List Ob} {H : Heap} (h : XP D g ad sh μ H) {i j : Nat} {ps : PS} (hps : part sh i j = some ps) : va_P D classes [(ad i j, xcell g ad (getO μ i j) ps)] H := by
  intro k q hq
  cases k with
  | zero => cases hq; exact h i j ps hps
  | succ k => simp at hq
-- fields
def o_get (sh : List (List PS)) (ci kf : Nat) (k : XK) : XK := fun (ls, st, μ) => match st with
  | .inr (.inl q) :: st => match part sh q.1 q.2 with
    | some (.inr (.inl (cj, fs))) => if cj = ci then (match nth fs kf with
      | some none => k (ls, .inl (getO μ q.1 q.2 kf) :: st, μ)
      | some (some r) => k (ls, .inr (.inl r) :: st, μ)
      | none => none) else none
    | _ => none
  | _ => none
theorem s_get {ci kf index N : Nat} {Cn : String} {T : u_T} (C : XO X M) (hc : classes[ci]? = some (Cn, T, N)) (hin : ∀ w ∈ u_ws Cn T N, w ∈ BIG) (hkf : kf < N) (hw : Cond.fieldLink M.2.2.1 index (T kf).1 (T kf).2.1 (T kf).2.2.1 ∈ BIG) (hd : decode M.1 pc = .ok (.getfield index, 3)) (hk : XS X M r0 (pc + 3) k) : XS X M r0 pc (o_get M.2.2.2.2.1 ci kf k) := by
  obtain ⟨p, l, e, s, m, args, below, meth, c, D, g, ad, A⟩ := X
  obtain ⟨cc, nL, own, ret, sh, d⟩ := M
  intro ls st μ hμ h H locs lsl hl hP hS
  unfold o_get at h
  dsimp only at h
  split at h
  · rename_i q st
    split at h
    · rename_i cj fs hps
      split at h
      · rename_i hcj
        subst hcj
        split at h
        · rename_i hf
          refine va_get (v := .int (xI (getO μ q.1 q.2 kf))) C.1 C.2.1 C.2.2.2.2.1 hin C.2.2.2.1 C.2.2.2.2.2.1.1 (hP.one hps) 0 (fs := fs.mapIdx (xfld ad (getO μ q.1 q.2))) rfl hc kf hkf (C.2.2.2.2.1 _ hw) (fun _ z => z) ?_ hd (hk ls _ μ hμ h H locs lsl hl hP hS)
          rw [List.getElem?_mapIdx, ← nth_eq, hf]; rfl
        · rename_i r hf
          refine va_get (v := .ref (ad r.1 r.2)) C.1 C.2.1 C.2.2.2.2.1 hin C.2.2.2.1 C.2.2.2.2.2.1.1 (hP.one hps) 0 (fs := fs.mapIdx (xfld ad (getO μ q.1 q.2))) rfl hc kf hkf (C.2.2.2.2.1 _ hw) (fun _ z => z) ?_ hd (hk ls _ μ hμ h H locs lsl hl hP hS)
          rw [List.getElem?_mapIdx, ← nth_eq, hf]; rfl
        · cases h
      · cases h
    · cases h
  · cases h
def xb (x : Int) : Bool := decide (x = 0) || decide (x = 1)
theorem xb_nar {x : Int} (h : xb x = true) : narrow .boolean (.int (xI x)) = .int (xI x) := by
  simp only [xb, Bool.or_eq_true, decide_eq_true_eq] at h
  rcases h with rfl | rfl <;> decide
theorem xb_fit {x : Int} (h : xb x = true) : fits .boolean (.int (xI x)) = true := by
  simp only [xb, Bool.or_eq_true, decide_eq_true_eq] at h
  rcases h with rfl | rfl <;> decide
def o_put (sh : List (List PS)) (ci kf : Nat) (z : Bool) (k : XK) : XK := fun (ls, st, μ) => match st with
  | .inl x :: .inr (.inl q) :: st => match part sh q.1 q.2 with
    | some (.inr (.inl (cj, fs))) => if cj = ci then (match nth fs kf with
      | some none => if !z || xb x then k (ls, st, put_ μ q.1 (xset (getO μ q.1) q.2 kf x)) else none
      | _ => none) else none
    | _ => none
  | _ => none
theorem xfld_set {ad : Nat → Nat → Nat} {f f' : Nat → Int} {fs : List (Option (Nat × Nat))} {kf : Nat} {x : Int} (hf : nth fs kf = some none) (h1 : f' kf = x) (h2 : ∀ j, j ≠ kf → f' j = f j) : (fs.mapIdx (xfld ad f)).set kf (.int (xI x)) = fs.mapIdx (xfld ad f') := by
  apply List.ext_getElem?
  intro j
  by_cases hj : j = kf
  · subst hj
    rw [nth_eq] at hf
    have hl : j < (fs.mapIdx (xfld ad f)).length := by rw [List.length_mapIdx]; exact (List.getElem?_eq_some_iff.mp hf).1
    rw [List.getElem?_set_self hl, List.getElem?_mapIdx, hf]
    simp [xfld, h1]
  · rw [List.getElem?_set_ne (Ne.symm hj), List.getElem?_mapIdx, List.getElem?_mapIdx]
    cases fs[j]? with
    | none => rfl
    | some r => cases r with
      | none => simp [xfld, h2 j hj]
      | some q => rfl
theorem s_put {ci kf index N : Nat} {Cn : String} {T : u_T} {ty0 : Nat → FieldType} {z : Bool} (C : XO X M) (hc : classes[ci]? = some (Cn, T, N)) (hin : ∀ w ∈ u_ws Cn T N, w ∈ BIG) (hty : ∀ k, k < N → parseFieldDescriptor (T k).2.2.1 = some (ty0 k)) (hnm : ∀ a, a < N → ∀ b, b < N → a ≠ b → (T a).2.1 ≠ (T b).2.1) (hkf : kf < N) (hw : Cond.fieldLink M.2.2.1 index (T kf).1 (T kf).2.1 (T kf).2.2.1 ∈ BIG) (hfin : (T kf).2.2.2 = false) (hz : ty0 kf = if z then .boolean else .int) (hd : decode M.1 pc = .ok (.putfield index, 3)) (hk : XS X M r0 (pc + 3) k) : XS X M r0 pc (o_put M.2.2.2.2.1 ci kf z k) := by
  obtain ⟨p, l, e, s, m, args, below, meth, c, D, g, ad, A⟩ := X
  obtain ⟨cc, nL, own, ret, sh, d⟩ := M
  intro ls st μ hμ h H locs lsl hl hP hS
  unfold o_put at h
  dsimp only at h
  split at h
  · rename_i x q st
    split at h
    · rename_i cj fs hps
      split at h
      · rename_i hcj
        subst hcj
        split at h
        · rename_i hf
          split at h
          · rename_i hb
            have hlt : q.1 < μ.length := by rw [hμ]; exact (part_lt hps).1
            obtain ⟨pl, hpl, hwl⟩ := xplace g ad μ hps
            have hkl : kf < (fs.mapIdx (xfld ad (getO μ q.1 q.2))).length := by
              rw [List.length_mapIdx]; rw [nth_eq] at hf; exact (List.getElem?_eq_some_iff.mp hf).1
            refine va_put (v := .int (xI x)) (ty := ty0 kf) C.1 C.2.1 C.2.2.2.2.1 hin ty0 hty hnm C.2.2.2.1 C.2.2.2.2.2.1.1 hP.wl (C.2.2.2.2.2.2.1.wl C.2.2.2.2.2.2.2.1) hS pl hwl hc kf hkf (C.2.2.2.2.1 _ hw) (fun _ z => z) hfin (hty kf hkf) ?_ ?_ hkl hd (fun H1 locs1 hP1 hD1 hS1 => ?_)
            · rw [hz]
              cases z with
              | false => rfl
              | true => exact xb_nar (by simpa using hb)
            · rw [hz]
              cases z with
              | false => rfl
              | true => exact xb_fit (by simpa using hb)
            · refine hk ls st _ (by rw [put_len]; exact hμ) h H1 locs1 lsl hl (XP.of_set hpl hps ?_ ?_ hP1) hS1
              · show _ = xcell g ad _ (.inr (.inl (cj, fs)))
                rw [getO_put _ _ _ _ hlt, if_pos rfl]
                show Sum.inr (cj, _) = Sum.inr (cj, fs.mapIdx (xfld ad _))
                congr 2
                exact xfld_set hf (by simp [xset]) (fun j hj => by simp [xset, hj])
              · intro i' j' hne
                rw [getO_put _ _ _ _ hlt]
                split
                · rename_i hi
                  subst hi
                  funext n
                  simp only [xset]
                  rw [if_neg (fun z => hne ⟨rfl, z.1⟩)]
                · rfl
          · cases h
        · cases h
      · cases h
    · cases h
  · cases h
-- arrays
def o_iald (sh : List (List PS)) (k : XK) : XK := fun (ls, st, μ) => match st with
  | .inl i :: .inr (.inl q) :: st => match part sh q.1 q.2 with
    | some (.inl (0, n)) => if xin i n then k (ls, .inl (getO μ q.1 q.2 (xw i).toNat) :: st, μ) else none
    | _ => none
  | _ => none
theorem s_iald (C : XO X M) (hd : decode M.1 pc = .ok (.iaload, 1)) (hk : XS X M r0 (pc + 1) k) : XS X M r0 pc (o_iald M.2.2.2.2.1 k) := by
  obtain ⟨p, l, e, s, m, args, below, meth, c, D, g, ad, A⟩ := X
  obtain ⟨cc, nL, own, ret, sh, d⟩ := M
  intro ls st μ hμ h H locs lsl hl hP hS
  unfold o_iald at h
  dsimp only at h
  split at h
  · rename_i i q st
    split at h
    · rename_i n hps
      split at h
      · rename_i hin
        refine va_iald C.1 C.2.1 C.2.2.2.2.2.1.1 (hP.one hps) 0 0 (cA := g.1) (n := n) (f := fun j => xI (getO μ q.1 q.2 j)) rfl rfl (xin_in hin) hd ?_
        rw [xI_clamp]
        exact hk ls _ μ hμ h H locs lsl hl hP hS
      · cases h
    · cases h
  · cases h
def o_bald (sh : List (List PS)) (k : XK) : XK := fun (ls, st, μ) => match st with
  | .inl i :: .inr (.inl q) :: st => match part sh q.1 q.2 with
    | some (.inl (1, n)) => if xin i n then k (ls, .inl (getO μ q.1 q.2 (xw i).toNat) :: st, μ) else none
    | _ => none
  | _ => none
theorem s_bald (C : XO X M) (hd : decode M.1 pc = .ok (.baload, 1)) (hk : XS X M r0 (pc + 1) k) : XS X M r0 pc (o_bald M.2.2.2.2.1 k) := by
  obtain ⟨p, l, e, s, m, args, below, meth, c, D, g, ad, A⟩ := X
  obtain ⟨cc, nL, own, ret, sh, d⟩ := M
  intro ls st μ hμ h H locs lsl hl hP hS
  unfold o_bald at h
  dsimp only at h
  split at h
  · rename_i i q st
    split at h
    · rename_i n hps
      split at h
      · rename_i hin
        refine va_zald C.1 C.2.1 C.2.2.2.2.2.1.1 (hP.one hps) 0 1 (cA := g.2.1) (n := n) (f := fun j => xI (getO μ q.1 q.2 j)) rfl rfl (xin_in hin) hd ?_
        rw [xI_clamp]
        exact hk ls _ μ hμ h H locs lsl hl hP hS
      · cases h
    · cases h
  · cases h
def o_iast (sh : List (List PS)) (k : XK) : XK := fun (ls, st, μ) => match st with
  | .inl x :: .inl i :: .inr (.inl q) :: st => match part sh q.1 q.2 with
    | some (.inl (0, n)) => if xin i n then k (ls, st, put_ μ q.1 (xset (getO μ q.1) q.2 (xw i).toNat x)) else none
    | _ => none
  | _ => none
theorem xset_off {μ : List Ob} {a b n : Nat} {x : Int} (hlt : a < μ.length) : ∀ i' j', ¬ (i' = a ∧ j' = b) → getO (put_ μ a (xset (getO μ a) b n x)) i' j' = getO μ i' j' := by
  intro i' j' hne
  rw [getO_put _ _ _ _ hlt]
  split
  · rename_i hi
    subst hi
    funext n
    simp only [xset]
    rw [if_neg (fun z => hne ⟨rfl, z.1⟩)]
  · rfl
theorem s_iast (C : XO X M) (hd : decode M.1 pc = .ok (.iastore, 1)) (hk : XS X M r0 (pc + 1) k) : XS X M r0 pc (o_iast M.2.2.2.2.1 k) := by
  obtain ⟨p, l, e, s, m, args, below, meth, c, D, g, ad, A⟩ := X
  obtain ⟨cc, nL, own, ret, sh, d⟩ := M
  intro ls st μ hμ h H locs lsl hl hP hS
  unfold o_iast at h
  dsimp only at h
  split at h
  · rename_i x i q st
    split at h
    · rename_i n hps
      split at h
      · rename_i hin
        have hlt : q.1 < μ.length := by rw [hμ]; exact (part_lt hps).1
        obtain ⟨pl, hpl, hwl⟩ := xplace g ad μ hps
        refine va_iast C.1 C.2.1 C.2.2.2.2.2.1.1 hP.wl (C.2.2.2.2.2.2.1.wl C.2.2.2.2.2.2.2.1) hS pl 0 (cA := g.1) (n := n) (f := fun j => xI (getO μ q.1 q.2 j)) hwl rfl (xin_in hin) hd (fun H1 locs1 hP1 hD1 hS1 => ?_)
        refine hk ls st _ (by rw [put_len]; exact hμ) h H1 locs1 lsl hl (XP.of_set hpl hps ?_ (xset_off hlt) hP1) hS1
        rw [getO_put _ _ _ _ hlt, if_pos rfl]
        show Sum.inl (g.1, n, Sum.inl _) = Sum.inl (g.1, n, Sum.inl (fun k => xI _))
        congr 4
        funext j
        simp only [upd, xI_clamp, xset, true_and]
        congr 1
        split <;> rfl
      · cases h
    · cases h
  · cases h
def o_bast (sh : List (List PS)) (k : XK) : XK := fun (ls, st, μ) => match st with
  | .inl x :: .inl i :: .inr (.inl q) :: st => match part sh q.1 q.2 with
    | some (.inl (1, n)) => if xin i n && xb x then k (ls, st, put_ μ q.1 (xset (getO μ q.1) q.2 (xw i).toNat x)) else none
    | _ => none
  | _ => none
theorem s_bast (C : XO X M) (hd : decode M.1 pc = .ok (.bastore, 1)) (hk : XS X M r0 (pc + 1) k) : XS X M r0 pc (o_bast M.2.2.2.2.1 k) := by
  obtain ⟨p, l, e, s, m, args, below, meth, c, D, g, ad, A⟩ := X
  obtain ⟨cc, nL, own, ret, sh, d⟩ := M
  intro ls st μ hμ h H locs lsl hl hP hS
  unfold o_bast at h
  dsimp only at h
  split at h
  · rename_i x i q st
    split at h
    · rename_i n hps
      split at h
      · rename_i hin
        rw [Bool.and_eq_true] at hin
        have hlt : q.1 < μ.length := by rw [hμ]; exact (part_lt hps).1
        obtain ⟨pl, hpl, hwl⟩ := xplace g ad μ hps
        refine va_zast C.1 C.2.1 C.2.2.2.2.2.1.1 hP.wl (C.2.2.2.2.2.2.1.wl C.2.2.2.2.2.2.2.1) hS pl 1 (cA := g.2.1) (n := n) (f := fun j => xI (getO μ q.1 q.2 j)) hwl rfl (xin_in hin.1) hd (fun H1 locs1 hP1 hD1 hS1 => ?_)
        refine hk ls st _ (by rw [put_len]; exact hμ) h H1 locs1 lsl hl (XP.of_set hpl hps ?_ (xset_off hlt) hP1) hS1
        rw [getO_put _ _ _ _ hlt, if_pos rfl]
        show Sum.inl (g.2.1, n, Sum.inl _) = Sum.inl (g.2.1, n, Sum.inl (fun k => xI _))
        congr 4
        funext j
        have hv : vp_nar .boolean (xI x) = xI x := by unfold vp_nar; rw [xb_nar hin.2]
        simp only [upd, xI_clamp, xset, true_and, hv]
        congr 1
        split <;> rfl
      · cases h
    · cases h
  · cases h
def o_alen (sh : List (List PS)) (k : XK) : XK := fun (ls, st, μ) => match st with
  | .inr (.inl q) :: st => match part sh q.1 q.2 with
    | some (.inl (0, n)) => k (ls, .inl (n : Int) :: st, μ)
    | _ => none
  | _ => none
theorem s_alen (C : XO X M) (hd : decode M.1 pc = .ok (.arraylength, 1)) (hk : XS X M r0 (pc + 1) k) : XS X M r0 pc (o_alen M.2.2.2.2.1 k) := by
  obtain ⟨p, l, e, s, m, args, below, meth, c, D, g, ad, A⟩ := X
  obtain ⟨cc, nL, own, ret, sh, d⟩ := M
  intro ls st μ hμ h H locs lsl hl hP hS
  unfold o_alen at h
  dsimp only at h
  split at h
  · rename_i q st
    split at h
    · rename_i n hps
      exact va_alen C.1 C.2.1 C.2.2.2.2.2.1.1 (hP.one hps) 0 0 (cA := g.1) (x := (n, .inl (fun j => xI (getO μ q.1 q.2 j)))) rfl (ty := .int) rfl (v := xI (n : Int)) (by show Int32.ofNat n = Int32.ofInt n; rfl) hd (hk ls _ μ hμ h H locs lsl hl hP hS)
    · cases h
  · cases h
-- returns
def o_ireturn : XK := fun (_, st, μ) => match st with
  | [.inl x] => some (some (.inl x), μ)
  | _ => none
theorem s_ireturn (C : XO X M) (hr : M.2.2.2.1 = some .int) (hd : decode M.1 pc = .ok (.ireturn, 1)) : XS X M r0 pc o_ireturn := by
  obtain ⟨p, l, e, s, m, args, below, meth, c, D, g, ad, A⟩ := X
  obtain ⟨cc, nL, own, ret, sh, d⟩ := M
  intro ls st μ hμ h H locs lsl hl hP hS
  unfold o_ireturn at h
  dsimp only at h
  split at h
  · cases h
    exact W.iret (hlocks := C.2.2.2.2.2.2.2.2.2.2) C.1 C.2.1 (C.2.2.2.2.2.2.2.2.2.1.trans hr) (fun t ht hW => ⟨rfl, by rw [ht]; exact hP, hS.F ht⟩) hS.2.2 hd
  · cases h
def o_zreturn : XK := fun (_, st, μ) => match st with
  | [.inl x] => if xb x then some (some (.inl x), μ) else none
  | _ => none
theorem s_zreturn (C : XO X M) (hr : M.2.2.2.1 = some .boolean) (hd : decode M.1 pc = .ok (.ireturn, 1)) : XS X M r0 pc o_zreturn := by
  obtain ⟨p, l, e, s, m, args, below, meth, c, D, g, ad, A⟩ := X
  obtain ⟨cc, nL, own, ret, sh, d⟩ := M
  intro ls st μ hμ h H locs lsl hl hP hS
  unfold o_zreturn at h
  dsimp only at h
  split at h
  · split at h
    · rename_i hx
      cases h
      exact W.zret (hlocks := C.2.2.2.2.2.2.2.2.2.2) C.1 C.2.1 (C.2.2.2.2.2.2.2.2.2.1.trans hr) (xb_nar hx) (fun t ht hW => ⟨rfl, by rw [ht]; exact hP, hS.F ht⟩) hS.2.2 hd
    · cases h
  · cases h
def o_return : XK := fun (_, st, μ) => match st with
  | [] => some (none, μ)
  | _ => none
theorem s_return (C : XO X M) (hr : M.2.2.2.1 = none) (hd : decode M.1 pc = .ok (.return_, 1)) : XS X M r0 pc o_return := by
  obtain ⟨p, l, e, s, m, args, below, meth, c, D, g, ad, A⟩ := X
  obtain ⟨cc, nL, own, ret, sh, d⟩ := M
  intro ls st μ hμ h H locs lsl hl hP hS
  unfold o_return at h
  dsimp only at h
  split at h
  · cases h
    exact W.vret (hlocks := C.2.2.2.2.2.2.2.2.2.2) C.1 C.2.1 (C.2.2.2.2.2.2.2.2.2.1.trans hr) (fun t ht hW => ⟨rfl, by rw [ht]; exact hP, hS.F ht⟩) hS.2.2 hd
  · cases h
def o_areturn : XK := fun (_, st, μ) => match st with
  | [.inr (.inl q)] => some (some (.inr (.inl q)), μ)
  | _ => none
theorem s_areturn {cn : String} (C : XO X M) (hr : M.2.2.2.1 = some (.object cn)) (hd : decode M.1 pc = .ok (.areturn, 1)) : XS X M r0 pc o_areturn := by
  obtain ⟨p, l, e, s, m, args, below, meth, c, D, g, ad, A⟩ := X
  obtain ⟨cc, nL, own, ret, sh, d⟩ := M
  intro ls st μ hμ h H locs lsl hl hP hS
  unfold o_areturn at h
  dsimp only at h
  split at h
  · rename_i q
    cases h
    exact W.aret (v := .ref (ad q.1 q.2)) (hlocks := C.2.2.2.2.2.2.2.2.2.2) C.1 C.2.1 (C.2.2.2.2.2.2.2.2.2.1.trans hr) (Or.inl ⟨cn, rfl⟩) (Or.inr ⟨_, rfl⟩) (fun t ht hW => ⟨rfl, by rw [ht]; exact hP, hS.F ht⟩) hS.2.2 hd
  · cases h
-- Math.max, Math.min, System.arraycopy
def xcat : List AV → Nat
  | [] => 0
  | .inr (.inr _) :: l => 2 + xcat l
  | _ :: l => 1 + xcat l
theorem xcat_eq (ad : Nat → Nat → Nat) : ∀ l : List AV, ((l.map (cv ad)).map fun v => v.category).sum = xcat l
  | [] => rfl
  | .inl x :: l => by simp only [List.map_cons, List.sum_cons, xcat_eq ad l]; rfl
  | .inr (.inl x) :: l => by simp only [List.map_cons, List.sum_cons, xcat_eq ad l]; rfl
  | .inr (.inr x) :: l => by simp only [List.map_cons, List.sum_cons, xcat_eq ad l]; rfl
def xmax (x y : Int) : Int := if xw x < xw y then y else x
def xmin (x y : Int) : Int := if xw y < xw x then y else x
def o_max (k : XK) : XK := fun (ls, st, μ) => match st with
  | .inl y :: .inl x :: st => if xcat st ≤ 8 then k (ls, .inl (xmax x y) :: st, μ) else none
  | _ => none
def o_min (k : XK) : XK := fun (ls, st, μ) => match st with
  | .inl y :: .inl x :: st => if xcat st ≤ 8 then k (ls, .inl (xmin x y) :: st, μ) else none
  | _ => none
theorem s_max {index : Nat} (C : XO X M) (hdep : 1 ≤ M.2.2.2.2.2) (h1 : Cond.methodLink M.2.2.1 index Lib.Math.max.name ∈ BIG) (h2 : Cond.static Lib.Math.max.name ∈ BIG) (h3 : Cond.initialized "java/lang/Math" ∈ BIG) (h4 : Cond.code Lib.Math.max.name Lib.Math.max.code 2 (some .int) ∈ BIG) (hd : decode M.1 pc = .ok (.invokestatic index, 3)) (hk : XS X M r0 (pc + 3) k) : XS X M r0 pc (o_max k) := by
  obtain ⟨p, l, e, s, m, args, below, meth, c, D, g, ad, A⟩ := X
  obtain ⟨cc, nL, own, ret, sh, d⟩ := M
  intro ls st μ hμ h H locs lsl hl hP hS
  unfold o_max at h
  dsimp only at h hdep
  split at h
  · rename_i y x st
    split at h
    · rename_i hcat
      have hh := C.2.2.2.2.1
      refine va_mmax C.1 C.2.1 (C.2.2.1.trans hl.1.symm) C.2.2.2.1 (hh _ h1) (hh _ h2) (hh _ h3) (hh _ h4) (by show 1 ≤ d; exact hdep) (by rw [xcat_eq]; show _ ≤ 64 * d; omega) (Nat.zero_le _) (Nat.zero_le _) hd ?_
      have e1 : (if xI x < xI y then xI y else xI x) = xI (xmax x y) := by
        unfold xmax
        by_cases hq : xw x < xw y
        · rw [if_pos hq, if_pos (xI_lt.mpr hq)]
        · rw [if_neg hq, if_neg (fun z => hq (xI_lt.mp z))]
      rw [e1]
      exact hk ls _ μ hμ h H locs lsl hl hP hS
    · cases h
  · cases h
theorem s_min {index : Nat} (C : XO X M) (hdep : 1 ≤ M.2.2.2.2.2) (h1 : Cond.methodLink M.2.2.1 index Lib.Math.min.name ∈ BIG) (h2 : Cond.static Lib.Math.min.name ∈ BIG) (h3 : Cond.initialized "java/lang/Math" ∈ BIG) (h4 : Cond.code Lib.Math.min.name Lib.Math.min.code 2 (some .int) ∈ BIG) (hd : decode M.1 pc = .ok (.invokestatic index, 3)) (hk : XS X M r0 (pc + 3) k) : XS X M r0 pc (o_min k) := by
  obtain ⟨p, l, e, s, m, args, below, meth, c, D, g, ad, A⟩ := X
  obtain ⟨cc, nL, own, ret, sh, d⟩ := M
  intro ls st μ hμ h H locs lsl hl hP hS
  unfold o_min at h
  dsimp only at h hdep
  split at h
  · rename_i y x st
    split at h
    · rename_i hcat
      have hh := C.2.2.2.2.1
      refine va_mmin C.1 C.2.1 (C.2.2.1.trans hl.1.symm) C.2.2.2.1 (hh _ h1) (hh _ h2) (hh _ h3) (hh _ h4) (by show 1 ≤ d; exact hdep) (by rw [xcat_eq]; show _ ≤ 64 * d; omega) (Nat.zero_le _) (Nat.zero_le _) hd ?_
      have e1 : (if xI y < xI x then xI y else xI x) = xI (xmin x y) := by
        unfold xmin
        by_cases hq : xw y < xw x
        · rw [if_pos hq, if_pos (xI_lt.mpr hq)]
        · rw [if_neg hq, if_neg (fun z => hq (xI_lt.mp z))]
      rw [e1]
      exact hk ls _ μ hμ h H locs lsl hl hP hS
    · cases h
  · cases h
def xcpy (h : Ob) (b dp n : Nat) (f : Nat → Int) : Ob := fun j k => if j = b ∧ dp ≤ k ∧ k < dp + n then f (k - dp) else h j k
def xcok (sp dp n : Int) (n0 n1 : Nat) : Bool := decide (0 ≤ xw sp) && (decide (0 ≤ xw dp) && (decide (0 ≤ xw n) && (decide ((xw sp).toNat + (xw n).toNat ≤ n0) && decide ((xw dp).toNat + (xw n).toNat ≤ n1))))
def o_acopy (sh : List (List PS)) (k : XK) : XK := fun (ls, st, μ) => match st with
  | .inl n :: .inl dp :: .inr (.inl qd) :: .inl sp :: .inr (.inl qs) :: st => match part sh qs.1 qs.2 with
    | some (.inl (0, n0)) => match part sh qd.1 qd.2 with
      | some (.inl (0, n1)) => if xcok sp dp n n0 n1 && decide (xcat st ≤ 8) then k (ls, st, put_ μ qd.1 (xcpy (getO μ qd.1) qd.2 (xw dp).toNat (xw n).toNat (fun i => getO μ qs.1 qs.2 ((xw sp).toNat + i)))) else none
      | _ => none
    | _ => none
  | _ => none
theorem xnn {x : Int} (h : 0 ≤ xw x) : ¬ xI x < 0 := fun q => by
  rw [← xI_0, xI_lt, xw0] at q
  omega
theorem s_acopy {index : Nat} (C : XO X M) (hdep : 1 ≤ M.2.2.2.2.2) (h1 : Cond.methodLink M.2.2.1 index arraycopyName ∈ BIG) (h2 : Cond.native arraycopyName ∈ BIG) (h3 : Cond.static arraycopyName ∈ BIG) (h4 : Cond.initialized "java/lang/System" ∈ BIG) (hd : decode M.1 pc = .ok (.invokestatic index, 3)) (hk : XS X M r0 (pc + 3) k) : XS X M r0 pc (o_acopy M.2.2.2.2.1 k) := by
  obtain ⟨p, l, e, s, m, args, below, meth, c, D, g, ad, A⟩ := X
  obtain ⟨cc, nL, own, ret, sh, d⟩ := M
  intro ls st μ hμ h H locs lsl hl hP hS
  unfold o_acopy at h
  dsimp only at h hdep
  split at h
  · rename_i n dp qd sp qs st
    split at h
    · rename_i n0 hps0
      split at h
      · rename_i n1 hps1
        split at h
        · rename_i hc
          simp only [xcok, Bool.and_eq_true, decide_eq_true_eq] at hc
          obtain ⟨⟨c1, c2, c3, c4, c5⟩, hcat⟩ := hc
          have hlt : qd.1 < μ.length := by rw [hμ]; exact (part_lt hps1).1
          obtain ⟨p0, hp0, hw0⟩ := xplace g ad μ hps0
          obtain ⟨p1, hp1, hw1⟩ := xplace g ad μ hps1
          have hh := C.2.2.2.2.1
          have hwd : nativeFrameWords "java/lang/System" "arraycopy" 5 ≤ 20 := by decide
          refine va_copyi C.1 C.2.1 (C.2.2.1.trans hl.1.symm) C.2.2.2.1 (hh _ h1) (hh _ h2) (hh _ h3) (hh _ h4) C.2.2.2.2.2.1.1 hP.wl (C.2.2.2.2.2.2.1.wl C.2.2.2.2.2.2.2.1) hS p0 p1 0 0 (c0 := g.1) (c1 := g.1) (n0 := n0) (n1 := n1) (f := fun j => xI (getO μ qs.1 qs.2 j)) (g := fun j => xI (getO μ qd.1 qd.2 j)) (ty := .int) hw0 hw1 rfl rfl rfl (xnn c1) (xnn c2) (xnn c3) (by rw [xI_clamp, xI_clamp]; exact c4) (by rw [xI_clamp, xI_clamp]; exact c5) (fun i _ => rfl) (by show 1 ≤ d; exact hdep) (by rw [xcat_eq]; show _ ≤ 64 * d; omega) hd (fun H1 locs1 hP1 hD1 hS1 => ?_)
          refine hk ls st _ (by rw [put_len]; exact hμ) h H1 locs1 lsl hl (XP.of_set hp1 hps1 ?_ ?_ hP1) hS1
          · rw [getO_put _ _ _ _ hlt, if_pos rfl]
            show Sum.inl (g.1, n1, Sum.inl _) = Sum.inl (g.1, n1, Sum.inl (fun k => xI _))
            congr 4
            funext j
            simp only [va_cpy, xI_clamp, xcpy, true_and]
            split <;> rfl
          · intro i' j' hne
            rw [getO_put _ _ _ _ hlt]
            split
            · rename_i hi
              subst hi
              funext n
              simp only [xcpy]
              rw [if_neg (fun z => hne ⟨rfl, z.1⟩)]
            · rfl
        · cases h
      · cases h
    · cases h
  · cases h
-- switches
def o_sw : List (Int × XK) → XK → XK
  | [], kd => fun (ls, st, μ) => match st with
    | .inl _ :: st => kd (ls, st, μ)
    | _ => none
  | (v, k) :: cs, kd => fun (ls, st, μ) => match st with
    | .inl x :: st => if xw x = v then k (ls, st, μ) else o_sw cs kd (ls, .inl x :: st, μ)
    | _ => none
theorem s_tsw {dflt lo hi : Int} {offs : Array Int} {len tgt0 : Nat} {kd : XK} (C : XO X M) (hd : decode M.1 pc = .ok (.tableswitch dflt lo hi offs, len)) (cs : List (Int × XK)) (ht0 : (pc : Int) + dflt = (tgt0 : Int)) (h0 : XS X M r0 tgt0 kd)
    (hcs : ∀ q ∈ cs, lo ≤ q.1 ∧ q.1 ≤ hi ∧ ∃ (off : Int) (tgt : Nat), offs[(q.1 - lo).toNat]? = some off ∧ (pc : Int) + off = (tgt : Int) ∧ XS X M r0 tgt q.2) (hall : ∀ v : Int, lo ≤ v → v ≤ hi → ∃ q ∈ cs, q.1 = v) : XS X M r0 pc (o_sw cs kd) := by
  obtain ⟨p, l, e, s, m, args, below, meth, c, D, g, ad, A⟩ := X
  obtain ⟨cc, nL, own, ret, sh, d⟩ := M
  intro ls st μ hμ h H locs lsl hl hP hS
  match st, h with
  | [], h => cases cs with
    | nil => cases h
    | cons a cs => cases h
  | .inr v :: st, h => cases cs with
    | nil => cases h
    | cons a cs => cases h
  | .inl x :: st, h =>
    show W _ _ _ _ _ _ _ _ _ _ _ _ _ _ _ (F0 m pc lsl (.int (xI x) :: st.map (cv ad)))
    have key : ∀ cs' : List (Int × XK), o_sw cs' kd (ls, .inl x :: st, μ) = some r0 → (∃ q ∈ cs', q.1 = xw x ∧ q.2 (ls, st, μ) = some r0) ∨ ((∀ q ∈ cs', q.1 ≠ xw x) ∧ kd (ls, st, μ) = some r0) := by
      intro cs'
      induction cs' with
      | nil => intro h; exact Or.inr ⟨fun _ z => absurd z List.not_mem_nil, h⟩
      | cons a cs' ih =>
        intro h
        obtain ⟨v, k⟩ := a
        by_cases hv : xw x = v
        · have h' : (if xw x = v then k (ls, st, μ) else o_sw cs' kd (ls, .inl x :: st, μ)) = some r0 := h
          rw [if_pos hv] at h'
          exact Or.inl ⟨(v, k), List.mem_cons_self, hv.symm, h'⟩
        · have h' : (if xw x = v then k (ls, st, μ) else o_sw cs' kd (ls, .inl x :: st, μ)) = some r0 := h
          rw [if_neg hv] at h'
          rcases ih h' with ⟨q, h1, h2, h3⟩ | ⟨h1, h2⟩
          · exact Or.inl ⟨q, List.mem_cons_of_mem _ h1, h2, h3⟩
          · refine Or.inr ⟨fun q hq => ?_, h2⟩
            rcases List.mem_cons.mp hq with rfl | hq
            · exact fun z => hv z.symm
            · exact h1 q hq
    rcases key cs h with ⟨q, h1, h2, h3⟩ | ⟨h1, h2⟩
    · obtain ⟨g1, g2, off, tgt, g3, g4, g5⟩ := hcs q h1
      rw [h2] at g1 g2 g3
      exact lv_tableIn C.1 C.2.1 hd (by rw [xI_toInt]; omega) (by rw [xI_toInt]; omega) (by rw [xI_toInt]; exact g3) g4 (g5 ls st μ hμ h3 H locs lsl hl hP hS)
    · refine lv_tableOut C.1 C.2.1 hd ?_ ht0 (h0 ls st μ hμ h2 H locs lsl hl hP hS)
      rw [xI_toInt]
      by_cases a1 : xw x < lo
      · exact Or.inl a1
      · by_cases a2 : hi < xw x
        · exact Or.inr a2
        · obtain ⟨q, q1, q2⟩ := hall (xw x) (by omega) (by omega)
          exact absurd q2 (h1 q q1)
-- calls
def idx (i : Nat) : List Nat → Option Nat
  | [] => none
  | a :: l => if a = i then some 0 else (match idx i l with | some n => some (n + 1) | none => none)
theorem idx_some : ∀ (l : List Nat) (i n : Nat), idx i l = some n → l[n]? = some i
  | [], i, n, h => by cases h
  | a :: l, i, n, h => by
    unfold idx at h
    split at h
    · cases h; rename_i e; subst e; rfl
    · split at h
      · rename_i k hk
        cases h
        rw [List.getElem?_cons_succ]
        exact idx_some l i k hk
      · cases h
theorem idx_none : ∀ (l : List Nat) (i : Nat), idx i l = none → i ∉ l
  | [], i, h => by simp
  | a :: l, i, h => by
    unfold idx at h
    split at h
    · cases h
    · split at h
      · cases h
      · rename_i hne _ hk
        simp only [List.mem_cons, not_or]
        exact ⟨fun z => hne z.symm, idx_none l i hk⟩
def xren (mp : List Nat) : AV → Option AV
  | .inl x => some (.inl x)
  | .inr (.inl q) => match idx q.1 mp with
    | some i => some (.inr (.inl (i, q.2)))
    | none => none
  | .inr (.inr x) => some (.inr (.inr x))
def xrens (mp : List Nat) : List AV → Option (List AV)
  | [] => some []
  | a :: l => match xren mp a with
    | some b => (match xrens mp l with
      | some m => some (b :: m)
      | none => none)
    | none => none
def xsub (mp : List Nat) (μ : List Ob) : List Ob := mp.map (getO μ)
def xmrg (mp : List Nat) (t : List Ob) : Nat → List Ob → List Ob
  | _, [] => []
  | i, h :: l => (match idx i mp with
    | some j => getO t j
    | none => h) :: xmrg mp t (i + 1) l
theorem xmrg_len (mp : List Nat) (t : List Ob) : ∀ (i : Nat) (l : List Ob), (xmrg mp t i l).length = l.length
  | _, [] => rfl
  | i, h :: l => by simp [xmrg, xmrg_len mp t (i + 1) l]
theorem xmrg_get (mp : List Nat) (t : List Ob) : ∀ (l : List Ob) (i j : Nat), j < l.length → getO (xmrg mp t i l) j = match idx (i + j) mp with
    | some n => getO t n
    | none => getO l j
  | [], i, j, h => by simp at h
  | a :: l, i, 0, h => by simp only [xmrg, getO, Nat.add_zero]
  | a :: l, i, j + 1, h => by
    simp only [xmrg, getO]
    rw [xmrg_get mp t l (i + 1) j (by simpa using h), show i + 1 + j = i + (j + 1) by omega]
-- the callee's shape, seen from the caller
def xrp (mp : List Nat) : PS → PS
  | .inl a => .inl a
  | .inr (.inl (ci, fs)) => .inr (.inl (ci, fs.map (fun r => r.map (fun q => ((nth mp q.1).getD 0, q.2)))))
  | .inr (.inr rs) => .inr (.inr (rs.map (fun q => ((nth mp q.1).getD 0, q.2))))
def xfit (mp : List Nat) (sh shc : List (List PS)) : Prop := mp.length = shc.length ∧ mp.Nodup ∧ mp.map (nth sh) = shc.map (fun o => some (o.map (xrp mp)))
theorem xcell_ren (g : xG3) (ad : Nat → Nat → Nat) (mp : List Nat) (f : Nat → Int) (ps : PS) : xcell g ad f (xrp mp ps) = xcell g (fun i j => ad ((nth mp i).getD 0) j) f ps := by
  match ps with
  | .inl (t, n) => rfl
  | .inr (.inl (ci, fs)) =>
    show Sum.inr (ci, _) = Sum.inr (ci, _)
    congr 2
    apply List.ext_getElem?
    intro j
    simp only [List.getElem?_mapIdx, List.getElem?_map]
    cases fs[j]? with
    | none => rfl
    | some r => cases r <;> rfl
  | .inr (.inr rs) =>
    show Sum.inl (_, _, _) = Sum.inl (_, _, _)
    congr 2
    rw [List.length_map]
    congr 5
    funext k
    rw [nth_eq, nth_eq, List.getElem?_map]
    cases rs[k]? <;> rfl
def xPc (D : va_G) (g : xG3) (ad : Nat → Nat → Nat) (sh : List (List PS)) (as : List AV) (μ : List Ob) (sz : Nat) : Array Value → State → Prop :=
  va_Pc (as.map (cv ad)) (fun U => U.heap.size = sz ∧ KS D g U ∧ XP D g ad sh μ U.heap ∧ XI ad sh ∧ μ.length = sh.length)
abbrev xws (y : MethodName) (cc : ByteArray) (nL : Nat) (ret : Option FieldType) : List Cond := .code y cc nL ret :: BIG
/-- the contract of a method y by a function F of its arguments and its world -/
def XCt (y : MethodName) (M : XM) (F : List AV → List Ob → Option Rt) : Prop :=
  ∀ (as : List AV) (μ : List Ob) (r0 : Rt), F as μ = some r0 → ∀ (l : Launch) (D : va_G) (g : xG3) (ad : Nat → Nat → Nat) (sz : Nat),
    Met l y (xws y M.1 M.2.1 M.2.2.2.1) (rmD M.2.2.2.2.2) (xPc D g ad M.2.2.2.2.1 as μ sz) (xQ D g ad M.2.2.2.2.1 (xA ad M.2.2.2.2.1 sz) r0) 0 0 (xA ad M.2.2.2.2.1 sz)
theorem xNst {s U : State} {w : Cond} (hw : w ∈ NST) (hW : s.WarmedH U.vm) (h : va_Nw w s) : va_Nw w U := by
  have h1 := (List.mem_filter.mp hw).2
  cases w <;> first | exact va_Nw.warmM hW h | cases h1
theorem xNst_same {s U : State} {w : Cond} (hw : w ∈ NST) (hv : s.vm = U.vm) (h : va_Nw w s) : va_Nw w U := by
  have h1 := (List.mem_filter.mp hw).2
  cases w <;> first | exact va_Nw.same rfl hv h | cases h1
theorem KS.warm {D : va_G} {g : xG3} {s U : State} (hW : s.WarmedH U.vm) (h : KS D g s) : KS D g U := ⟨va_K.moved hW.alike h.1, fun w hw => xNst hw hW (h.2 w hw)⟩
theorem xPc_blind {D : va_G} {g : xG3} {ad : Nat → Nat → Nat} {sh : List (List PS)} {as : List AV} {μ : List Ob} {sz : Nat} : FrameBlind (xPc D g ad sh as μ sz) := by
  intro a U gg mk q
  obtain ⟨q0, q1, q2, q3, q4⟩ := q
  exact ⟨q0, q1, ⟨va_K.moved (u := U) (U := U.calling gg mk a) (Vm.Alike.refl U.vm) q2.1, fun w hw => xNst_same (s := U) (U := U.calling gg mk a) hw rfl (q2.2 w hw)⟩, q3, q4⟩
abbrev xadc (ad : Nat → Nat → Nat) (mp : List Nat) : Nat → Nat → Nat := fun i j => ad ((nth mp i).getD 0) j
theorem xren_cv {ad : Nat → Nat → Nat} {mp : List Nat} {a b : AV} (h : xren mp a = some b) : cv (xadc ad mp) b = cv ad a := by
  match a, h with
  | .inl x, h => cases h; rfl
  | .inr (.inr x), h => cases h; rfl
  | .inr (.inl q), h =>
    simp only [xren] at h
    split at h
    · rename_i i hi
      cases h
      have := idx_some mp q.1 i hi
      show Value.ref (ad ((nth mp i).getD 0) q.2) = Value.ref (ad q.1 q.2)
      rw [nth_eq, this]; rfl
    · cases h
theorem xrens_cv {ad : Nat → Nat → Nat} {mp : List Nat} : ∀ (as bs : List AV), xrens mp as = some bs → bs.map (cv (xadc ad mp)) = as.map (cv ad) ∧ bs.length = as.length
  | [], bs, h => by cases h; exact ⟨rfl, rfl⟩
  | a :: as, bs, h => by
    unfold xrens at h
    split at h
    · rename_i b hb
      split at h
      · rename_i m hm
        cases h
        obtain ⟨h1, h2⟩ := xrens_cv (ad := ad) as m hm
        exact ⟨by rw [List.map_cons, List.map_cons, xren_cv hb, h1], by rw [List.length_cons, List.length_cons, h2]⟩
      · cases h
    · cases h
theorem getO_sub (mp : List Nat) (μ : List Ob) (i' i : Nat) (h : mp[i']? = some i) : getO (xsub mp μ) i' = getO μ i := by
  unfold xsub
  induction mp generalizing i' with
  | nil => simp at h
  | cons a mp ih =>
    cases i' with
    | zero => simp at h; subst h; rfl
    | succ i' => exact ih i' (by simpa using h)
section XFit
variable {D : va_G} {g : xG3} {ad : Nat → Nat → Nat} {sh shc : List (List PS)} {μ t : List Ob} {H H1 : Heap} {mp : List Nat}
theorem xfit_at (hf : xfit mp sh shc) {i' i : Nat} (hi : mp[i']? = some i) : ∃ o, shc[i']? = some o ∧ nth sh i = some (o.map (xrp mp)) := by
  have h := congrArg (fun l : List (Option (List PS)) => l[i']?) hf.2.2
  simp only [List.getElem?_map, hi, Option.map_some] at h
  cases ho : shc[i']? with
  | none => rw [ho] at h; cases h
  | some o => rw [ho] at h; exact ⟨o, rfl, Option.some.inj h⟩
theorem xfit_part (hf : xfit mp sh shc) {i' j : Nat} {ps : PS} (hp : part shc i' j = some ps) : ∃ i, mp[i']? = some i ∧ part sh i j = some (xrp mp ps) := by
  have hl := (part_lt hp).1
  rw [← hf.1] at hl
  obtain ⟨o, h1, h2⟩ := xfit_at hf (List.getElem?_eq_getElem hl)
  refine ⟨_, List.getElem?_eq_getElem hl, ?_⟩
  unfold part at hp ⊢
  rw [nth_eq, h1] at hp
  dsimp only at hp
  rw [h2]
  dsimp only
  rw [nth_eq] at hp ⊢
  rw [List.getElem?_map, hp]
  rfl
theorem XP.sub (hf : xfit mp sh shc) (hP : XP D g ad sh μ H) : XP D g (xadc ad mp) shc (xsub mp μ) H := by
  intro i' j ps hp
  obtain ⟨i, h1, h2⟩ := xfit_part hf hp
  have := hP i j _ h2
  rw [xcell_ren] at this
  rw [getO_sub mp μ i' i h1]
  show va_at D classes (ad ((nth mp i').getD 0) j, _) H
  rw [nth_eq, h1]
  exact this
theorem XI.sub (hf : xfit mp sh shc) (hI : XI ad sh) : XI (xadc ad mp) shc := by
  intro i j i' j' ps ps' h1 h2 he
  obtain ⟨a, a1, a2⟩ := xfit_part hf h1
  obtain ⟨b, b1, b2⟩ := xfit_part hf h2
  have he' : ad ((nth mp i).getD 0) j = ad ((nth mp i').getD 0) j' := he
  rw [nth_eq, nth_eq, a1, b1] at he'
  obtain ⟨e1, e2⟩ := hI _ _ _ _ _ _ a2 b2 he'
  have e1 : a = b := e1
  subst e1
  exact ⟨(List.getElem?_inj (List.getElem?_eq_some_iff.mp a1).1 hf.2.1).mp (a1.trans b1.symm), e2⟩
theorem xA_sub {A : Nat → Prop} {sz : Nat} (hf : xfit mp sh shc) (hA : ∀ (i j : Nat) (ps : PS), part sh i j = some ps → A (ad i j)) (hA2 : ∀ q, sz ≤ q → A q) : ∀ q, xA (xadc ad mp) shc sz q → A q := by
  rintro q (⟨i, j, ps, hp, rfl⟩ | h)
  · obtain ⟨a, a1, a2⟩ := xfit_part hf hp
    show A (ad ((nth mp i).getD 0) j)
    rw [nth_eq, a1]
    exact hA a j _ a2
  · exact hA2 q h
theorem XP.merge (hf : xfit mp sh shc) (hI : XI ad sh) (hμ : μ.length = sh.length) (hP : XP D g ad sh μ H) (hP1 : XP D g (xadc ad mp) shc t H1) (hk : ∀ q : Nat, q < H.size → ¬ xA (xadc ad mp) shc H.size q → H1[q]? = H[q]?) : XP D g ad sh (xmrg mp t 0 μ) H1 := by
  intro i j ps hp
  have hil : i < μ.length := by rw [hμ]; exact (part_lt hp).1
  rw [xmrg_get mp t μ 0 i hil, Nat.zero_add]
  cases hi : idx i mp with
  | some i' =>
    dsimp only
    have h1 := idx_some mp i i' hi
    obtain ⟨o, h2, h3⟩ := xfit_at hf h1
    unfold part at hp
    rw [h3] at hp
    dsimp only at hp
    rw [nth_eq, List.getElem?_map] at hp
    cases ho : o[j]? with
    | none => rw [ho] at hp; cases hp
    | some ps0 =>
      rw [ho] at hp
      cases hp
      have hpc : part shc i' j = some ps0 := by
        unfold part
        rw [nth_eq, h2]
        dsimp only
        rw [nth_eq]
        exact ho
      have := hP1 i' j ps0 hpc
      rw [xcell_ren]
      have e : xadc ad mp i' j = ad i j := by
        show ad ((nth mp i').getD 0) j = _
        rw [nth_eq, h1]; rfl
      rw [e] at this
      exact this
  | none =>
    dsimp only
    have hn := idx_none mp i hi
    have h0 := hP i j ps hp
    refine h0.kept (hk _ h0.lt ?_)
    rintro (⟨i', j', ps', hp', he⟩ | h)
    · obtain ⟨a, a1, a2⟩ := xfit_part hf hp'
      have he' : ad i j = ad ((nth mp i').getD 0) j' := he
      rw [nth_eq, a1] at he'
      obtain ⟨e1, -⟩ := hI _ _ _ _ _ _ hp a2 he'
      have e1 : i = a := e1
      subst e1
      exact hn (List.mem_of_getElem? a1)
    · have := h0.lt
      dsimp only at this
      omega
end XFit
theorem goodBIG {ws : List Cond} (h : ∀ w ∈ ws, w ∈ BIG) : GoodIn BIG ws := fun w hw => ⟨h w hw, by
  have h1 := (List.mem_filter.mp (h w hw)).2
  rw [Bool.and_eq_true] at h1
  exact good_of_word h1.1⟩
theorem xgo {p : Program} {l : Launch} {e : Env} {R : Room} {s : State} {m : MethodId} {args : Array Value} {below : List Frame} {meth : Method} {c : Code} {H : Heap} {locs : List Loc} {Q : State → Prop} {pc : Nat} {lsl : Array Slot} {rest st0 : List Value} {a : Array Value} {A Ac : Nat → Prop} {D : va_G} {g : xG3} {adc : Nat → Nat → Nat} {shc : List (List PS)} {r : Rt}
    (hr : va_Run p l e R s m args below meth c H locs 0 0 0 0 (F0 m pc lsl st0) rest (xQ D g adc shc Ac r a) Ac) (hS : va_S A s.heap H locs) (hA : ∀ q, Ac q → A q)
    (kk : ∀ (H1 : Heap) (locs1 : List Loc), XP D g adc shc r.2 H1 → H.size ≤ H1.size → (∀ q : Nat, q < H.size → ¬ Ac q → H1[q]? = H[q]?) → va_S A s.heap H1 locs1 → W p l e R s m args below meth c H1 locs1 0 0 Q (F0 m (pc + 3) lsl ((r.1.map (cv adc)).toList ++ rest))) :
    W p l e R s m args below meth c H locs 0 0 Q (F0 m pc lsl st0) := by
  intro T hT X
  obtain ⟨v, st₀, t, T', L, h0, X', hL, e1, e2, ⟨hv, hp, hz, hk⟩, st⟩ := hr T hT X
  cases hv
  rw [h0] at hz hk
  obtain ⟨t2, a1, b1⟩ := kk T'.heap (locs ++ L) (by rw [e1]; exact hp) (by rw [e1]; exact hz) (fun q h1 h2 => by rw [e1]; exact hk q h1 h2)
    ⟨Nat.le_trans hS.1 (by rw [e1]; exact hz), fun q h1 h2 => by rw [e1, hk q (Nat.lt_of_lt_of_le h1 hS.1) (fun z => h2 (hA q z))]; exact hS.2.1 q h1 h2, fun q hq => by
      rcases List.mem_append.mp hq with h | h
      · exact hS.2.2 q h
      · exact hA _ (hL q h)⟩ T' rfl X'
  exact ⟨t2, st t2 a1, b1⟩
def rI (v : Option AV) (f : Int → Option Rt) : Option Rt := match v with
  | some (.inl r) => f r
  | _ => none
def rV (v : Option AV) (f : Option Rt) : Option Rt := match v with
  | none => f
  | _ => none
def rR (v : Option AV) (f : Nat × Nat → Option Rt) : Option Rt := match v with
  | some (.inr (.inl q)) => f q
  | _ => none
-- kind of the answer: 0 none, 1 int, 2 reference
def o_ans (rk : Nat) (mp : List Nat) (ls : List (Option AV)) (st : List AV) (μ : List Ob) (k : XK) (p : Rt) : Option Rt := match rk with
  | 0 => rV p.1 (k (ls, st, xmrg mp p.2 0 μ))
  | 1 => rI p.1 (fun r => k (ls, .inl r :: st, xmrg mp p.2 0 μ))
  | _ => rR p.1 (fun q => k (ls, .inr (.inl ((nth mp q.1).getD 0, q.2)) :: st, xmrg mp p.2 0 μ))
theorem o_ans_spec {rk : Nat} {mp : List Nat} {ls : List (Option AV)} {st : List AV} {μ : List Ob} {k : XK} {p : Rt} {r0 : Rt} {ad : Nat → Nat → Nat} (h : o_ans rk mp ls st μ k p = some r0) : ∃ st', (p.1.map (cv (xadc ad mp))).toList ++ st.map (cv ad) = st'.map (cv ad) ∧ k (ls, st', xmrg mp p.2 0 μ) = some r0 := by
  obtain ⟨v, t⟩ := p
  unfold o_ans at h
  split at h
  · match v, h with
    | none, h => exact ⟨st, rfl, h⟩
  · match v, h with
    | some (.inl r), h => exact ⟨.inl r :: st, rfl, h⟩
  · match v, h with
    | some (.inr (.inl q)), h => exact ⟨.inr (.inl ((nth mp q.1).getD 0, q.2)) :: st, rfl, h⟩
def o_callS (n rk : Nat) (mp : List Nat) (F : List AV → List Ob → Option Rt) (k : XK) : XK := fun (ls, st, μ) =>
  match xrens mp (st.take n).reverse with
  | some as => if decide (n ≤ st.length) && decide (xcat (st.drop n) ≤ 8) then (F as (xsub mp μ)).bind (o_ans rk mp ls (st.drop n) μ k) else none
  | none => none
def o_callV (n rk : Nat) (mp : List Nat) (F : List AV → List Ob → Option Rt) (k : XK) : XK := fun (ls, st, μ) =>
  match xrens mp (st.take n).reverse with
  | some (.inr (.inl (0, 0)) :: as) => if decide (n ≤ st.length) && decide (xcat (st.drop n) ≤ 8) then (F (.inr (.inl (0, 0)) :: as) (xsub mp μ)).bind (o_ans rk mp ls (st.drop n) μ k) else none
  | _ => none
theorem st_split {α : Type} (st : List α) (n : Nat) : st = (st.take n).reverse.reverse ++ st.drop n := by rw [List.reverse_reverse, List.take_append_drop]
theorem s_callV {y : MethodName} {Mc : XM} {F : List AV → List Ob → Option Rt} {n rk index ci N : Nat} {mp : List Nat} {Cn : String} {T : u_T} {fs : List (Option (Nat × Nat))} (C : XO X M) (hF : XCt y Mc F) (hfit : xfit mp M.2.2.2.2.1 Mc.2.2.2.2.1) (hc : classes[ci]? = some (Cn, T, N)) (h00 : part Mc.2.2.2.2.1 0 0 = some (.inr (.inl (ci, fs)))) (hdep : Mc.2.2.2.2.2 + 1 ≤ M.2.2.2.2.2) (hml : Mc.2.1 ≤ 45)
    (hy : y.cls = Cn ∧ y.cls ≠ "java/lang/invoke/MethodHandle" ∧ y.cls ≠ "java/lang/invoke/VarHandle" ∧ (parseMethodDescriptor y.desc).map (fun d => d.parameters.length) = some (n - 1)) (hn : 1 ≤ n)
    (h1 : Cond.methodLink M.2.2.1 index y ∈ BIG) (h2 : Cond.instanceMethod y ∈ BIG) (h3 : Cond.selects Cn y y ∈ BIG) (h4 : Cond.initialized Cn ∈ BIG) (h5 : Cond.code y Mc.1 Mc.2.1 Mc.2.2.2.1 ∈ BIG) (hd : decode M.1 pc = .ok (.invokevirtual index, 3)) (hk : XS X M r0 (pc + 3) k) : XS X M r0 pc (o_callV n rk mp F k) := by
  obtain ⟨p, l, e, s, m, args, below, meth, c, D, g, ad, A⟩ := X
  obtain ⟨cc, nL, own, ret, sh, d⟩ := M
  obtain ⟨cc', nL', own', ret', shc, d'⟩ := Mc
  intro ls st μ hμ h H locs lsl hl hP hS
  unfold o_callV at h
  dsimp only at h hfit h00 hdep hml h1 h5 hd hF
  split at h
  · rename_i as hr
    split at h
    · rename_i hcd
      simp only [Bool.and_eq_true, decide_eq_true_eq] at hcd
      cases hFr : F (.inr (.inl (0, 0)) :: as) (xsub mp μ) with
      | none => rw [hFr] at h; cases h
      | some r =>
        rw [hFr] at h
        replace h : o_ans rk mp ls (st.drop n) μ k r = some r0 := h
        obtain ⟨st', hst', hk'⟩ := o_ans_spec (ad := ad) h
        have hM := hF _ _ _ hFr l D g (xadc ad mp) H.size
        obtain ⟨q1, q2⟩ := xrens_cv (ad := ad) _ _ hr
        have hlen : as.length = n - 1 := by
          simp only [List.length_cons, List.length_reverse, List.length_take] at q2
          omega
        have hst : st.map (cv ad) = (as.map (cv (xadc ad mp))).reverse ++ .ref (xadc ad mp 0 0) :: (st.drop n).map (cv ad) := by
          conv => lhs; rw [st_split st n]
          rw [List.map_append, List.map_reverse, ← q1]
          simp [cv]
        have hAA := xA_sub (sz := H.size) hfit C.2.2.2.2.2.2.2.1 (fun q hq => C.2.2.2.2.2.2.2.2.1 q (Nat.le_trans hS.1 hq))
        have hPc := XP.sub hfit hP
        refine xgo (va_runV (C := Cn) (As := as.map (cv (xadc ad mp))) (rest := (st.drop n).map (cv ad)) (b := xadc ad mp 0 0) (bytes := cc') (maxL := nL') (ret := ret') (own := own) (n := n - 1) ⟨C.1, C.2.1, C.2.2.1, C.2.2.2.1, C.2.2.2.2.1⟩ hM
          (cwV (n - 1) C.2.2.2.2.1 (goodBIG (fun w hw => ?_)) rfl rfl rfl hy ⟨hdep, by show 8 + (nL' + 11) + 64 * d' ≤ 64 * d; omega⟩)
          ⟨xPc_blind, va_recv C.2.2.2.2.2.1.1 (hPc.one h00) hc (q0 := 0) rfl, fun U hU hW => ⟨rfl, by rw [hU], KS.warm hW C.2.2.2.2.2.1, by rw [hU]; exact hPc, C.2.2.2.2.2.2.1.sub hfit, ?_⟩⟩
          rfl (by rw [List.length_map, hlen]) hl.1 hst (lv_room (by rw [xcat_eq]; exact hcd.2)) hd ⟨Nat.zero_le _, Nat.zero_le _⟩) hS hAA (fun H1 locs1 hP1 hz hkp hS1 => ?_)
        · simp only [wsV, List.mem_append, List.mem_cons, List.not_mem_nil, or_false] at hw
          rcases hw with (rfl | rfl | rfl | rfl) | rfl | hw
          · exact h1
          · exact h2
          · exact h3
          · exact h4
          · exact h5
          · exact hw
        · show (xsub mp μ).length = shc.length
          rw [← hfit.1]; simp [xsub]
        · rw [hst']
          exact hk ls st' _ (by rw [xmrg_len]; exact hμ) hk' H1 locs1 lsl hl (XP.merge hfit C.2.2.2.2.2.2.1 hμ hP hP1 hkp) hS1
    · cases h
  · cases h
theorem s_callS {y : MethodName} {Mc : XM} {F : List AV → List Ob → Option Rt} {n rk index : Nat} {mp : List Nat} (C : XO X M) (hF : XCt y Mc F) (hfit : xfit mp M.2.2.2.2.1 Mc.2.2.2.2.1) (hdep : Mc.2.2.2.2.2 + 1 ≤ M.2.2.2.2.2) (hml : Mc.2.1 ≤ 45)
    (hy : y.cls = M.2.2.1 ∧ y.cls ≠ "java/lang/invoke/MethodHandle" ∧ y.cls ≠ "java/lang/invoke/VarHandle" ∧ (parseMethodDescriptor y.desc).map (fun d => d.parameters.length) = some n)
    (h1 : Cond.methodLink M.2.2.1 index y ∈ BIG) (h2 : Cond.static y ∈ BIG) (h4 : Cond.initialized M.2.2.1 ∈ BIG) (h5 : Cond.code y Mc.1 Mc.2.1 Mc.2.2.2.1 ∈ BIG) (hd : decode M.1 pc = .ok (.invokestatic index, 3)) (hk : XS X M r0 (pc + 3) k) : XS X M r0 pc (o_callS n rk mp F k) := by
  obtain ⟨p, l, e, s, m, args, below, meth, c, D, g, ad, A⟩ := X
  obtain ⟨cc, nL, own, ret, sh, d⟩ := M
  obtain ⟨cc', nL', own', ret', shc, d'⟩ := Mc
  intro ls st μ hμ h H locs lsl hl hP hS
  unfold o_callS at h
  dsimp only at h hfit hdep hml h1 h4 h5 hd hF hy
  split at h
  · rename_i as hr
    split at h
    · rename_i hcd
      simp only [Bool.and_eq_true, decide_eq_true_eq] at hcd
      cases hFr : F as (xsub mp μ) with
      | none => rw [hFr] at h; cases h
      | some r =>
        rw [hFr] at h
        replace h : o_ans rk mp ls (st.drop n) μ k r = some r0 := h
        obtain ⟨st', hst', hk'⟩ := o_ans_spec (ad := ad) h
        have hM := hF _ _ _ hFr l D g (xadc ad mp) H.size
        obtain ⟨q1, q2⟩ := xrens_cv (ad := ad) _ _ hr
        have hlen : as.length = n := by
          simp only [List.length_reverse, List.length_take] at q2
          omega
        have hst : st.map (cv ad) = (as.map (cv (xadc ad mp))).reverse ++ (st.drop n).map (cv ad) := by
          conv => lhs; rw [st_split st n]
          rw [List.map_append, List.map_reverse, ← q1]
        have hAA := xA_sub (sz := H.size) hfit C.2.2.2.2.2.2.2.1 (fun q hq => C.2.2.2.2.2.2.2.2.1 q (Nat.le_trans hS.1 hq))
        have hPc := XP.sub hfit hP
        refine xgo (va_runS (As := as.map (cv (xadc ad mp))) (rest := (st.drop n).map (cv ad)) (bytes := cc') (maxL := nL') (ret := ret') (own := own) (n := n) ⟨C.1, C.2.1, C.2.2.1, C.2.2.2.1, C.2.2.2.2.1⟩ hM
          (cwS n C.2.2.2.2.1 (goodBIG (fun w hw => ?_)) rfl rfl rfl hy ⟨hdep, by show 8 + (nL' + 11) + 64 * d' ≤ 64 * d; omega⟩)
          ⟨xPc_blind, fun U hU hW => ⟨rfl, by rw [hU], KS.warm hW C.2.2.2.2.2.1, by rw [hU]; exact hPc, C.2.2.2.2.2.2.1.sub hfit, ?_⟩⟩
          rfl (by rw [List.length_map, hlen]) hl.1 hst (lv_room (by rw [xcat_eq]; exact hcd.2)) hd ⟨Nat.zero_le _, Nat.zero_le _⟩) hS hAA (fun H1 locs1 hP1 hz hkp hS1 => ?_)
        · simp only [wsS, List.mem_append, List.mem_cons, List.not_mem_nil, or_false] at hw
          rcases hw with (rfl | rfl | rfl) | rfl | hw
          · exact h1
          · exact h2
          · exact h4
          · exact h5
          · exact hw
        · show (xsub mp μ).length = shc.length
          rw [← hfit.1]; simp [xsub]
        · rw [hst']
          exact hk ls st' _ (by rw [xmrg_len]; exact hμ) hk' H1 locs1 lsl hl (XP.merge hfit C.2.2.2.2.2.2.1 hμ hP hP1 hkp) hS1
    · cases h
  · cases h
theorem s_callN {y : MethodName} {Mc : XM} {F : List AV → List Ob → Option Rt} {n rk index : Nat} {mp : List Nat} {host : String} (C : XO X M) (hF : XCt y Mc F) (hfit : xfit mp M.2.2.2.2.1 Mc.2.2.2.2.1) (hdep : Mc.2.2.2.2.2 + 1 ≤ M.2.2.2.2.2) (hml : Mc.2.1 ≤ 45)
    (hy : y.cls ≠ "java/lang/invoke/MethodHandle" ∧ y.cls ≠ "java/lang/invoke/VarHandle" ∧ (parseMethodDescriptor y.desc).map (fun d => d.parameters.length) = some n)
    (h1 : Cond.methodLinkNest M.2.2.1 index y host ∈ NST) (h2 : Cond.static y ∈ BIG) (h4 : Cond.initialized y.cls ∈ BIG) (h5 : Cond.code y Mc.1 Mc.2.1 Mc.2.2.2.1 ∈ BIG) (hd : decode M.1 pc = .ok (.invokestatic index, 3)) (hk : XS X M r0 (pc + 3) k) : XS X M r0 pc (o_callS n rk mp F k) := by
  obtain ⟨p, l, e, s, m, args, below, meth, c, D, g, ad, A⟩ := X
  obtain ⟨cc, nL, own, ret, sh, d⟩ := M
  obtain ⟨cc', nL', own', ret', shc, d'⟩ := Mc
  intro ls st μ hμ h H locs lsl hl hP hS
  unfold o_callS at h
  dsimp only at h hfit hdep hml h1 h4 h5 hd hF hy
  split at h
  · rename_i as hr
    split at h
    · rename_i hcd
      simp only [Bool.and_eq_true, decide_eq_true_eq] at hcd
      cases hFr : F as (xsub mp μ) with
      | none => rw [hFr] at h; cases h
      | some r =>
        rw [hFr] at h
        replace h : o_ans rk mp ls (st.drop n) μ k r = some r0 := h
        obtain ⟨st', hst', hk'⟩ := o_ans_spec (ad := ad) h
        have hM := hF _ _ _ hFr l D g (xadc ad mp) H.size
        obtain ⟨q1, q2⟩ := xrens_cv (ad := ad) _ _ hr
        have hlen : as.length = n := by
          simp only [List.length_reverse, List.length_take] at q2
          omega
        have hst : st.map (cv ad) = (as.map (cv (xadc ad mp))).reverse ++ (st.drop n).map (cv ad) := by
          conv => lhs; rw [st_split st n]
          rw [List.map_append, List.map_reverse, ← q1]
        have hAA := xA_sub (sz := H.size) hfit C.2.2.2.2.2.2.2.1 (fun q hq => C.2.2.2.2.2.2.2.2.1 q (Nat.le_trans hS.1 hq))
        have hPc := XP.sub hfit hP
        have hh := C.2.2.2.2.1
        refine xgo (va_runSN (As := as.map (cv (xadc ad mp))) (rest := (st.drop n).map (cv ad)) (bytes := cc') (maxL := nL') (ret := ret') (own := own) (host := host) (n := n) ⟨C.1, C.2.1, C.2.2.1, C.2.2.2.1, C.2.2.2.2.1⟩ hM
          ⟨va_cnB n C.2.2.2.2.1 (goodBIG (fun w hw => ?_)) rfl rfl rfl (C.2.2.2.2.2.1.2 _ h1) (hh _ h4) hy ⟨hdep, by show 8 + (nL' + 11) + 64 * d' ≤ 64 * d; omega⟩, hh _ h2, trivial⟩
          ⟨xPc_blind, fun U hU hW => ⟨rfl, by rw [hU], KS.warm hW C.2.2.2.2.2.1, by rw [hU]; exact hPc, C.2.2.2.2.2.2.1.sub hfit, ?_⟩⟩
          rfl (by rw [List.length_map, hlen]) hl.1 hst (lv_room (by rw [xcat_eq]; exact hcd.2)) hd ⟨Nat.zero_le _, Nat.zero_le _⟩) hS hAA (fun H1 locs1 hP1 hz hkp hS1 => ?_)
        · rcases List.mem_cons.mp hw with rfl | hw
          · exact h5
          · exact hw
        · show (xsub mp μ).length = shc.length
          rw [← hfit.1]; simp [xsub]
        · rw [hst']
          exact hk ls st' _ (by rw [xmrg_len]; exact hμ) hk' H1 locs1 lsl hl (XP.merge hfit C.2.2.2.2.2.2.1 hμ hP hP1 hkp) hS1
    · cases h
  · cases h
end XOps
-- a method's contract out of its body
def noL : List AV → Bool
  | [] => true
  | .inr (.inr _) :: _ => false
  | _ :: l => noL l
theorem noL_args {ad : Nat → Nat → Nat} : ∀ (as : List AV) (k i : Nat) (v : AV), noL as = true → as[i]? = some v → (k + i, cv ad v) ∈ lv_args k (as.map (cv ad))
  | [], k, i, v, _, h => by simp at h
  | .inr (.inr x) :: as, k, i, v, hn, h => by simp [noL] at hn
  | .inl x :: as, k, 0, v, hn, h => by simp at h; subst h; simp [lv_args, cv]
  | .inr (.inl x) :: as, k, 0, v, hn, h => by simp at h; subst h; simp [lv_args, cv]
  | .inl x :: as, k, i + 1, v, hn, h => by
    have := noL_args (ad := ad) as (k + 1) i v (by simpa [noL] using hn) (by simpa using h)
    rw [show k + 1 + i = k + (i + 1) by omega] at this
    simp only [List.map_cons, lv_args, cv, Value.category]
    exact List.mem_cons_of_mem _ this
  | .inr (.inl x) :: as, k, i + 1, v, hn, h => by
    have := noL_args (ad := ad) as (k + 1) i v (by simpa [noL] using hn) (by simpa using h)
    rw [show k + 1 + i = k + (i + 1) by omega] at this
    simp only [List.map_cons, lv_args, cv, Value.category]
    exact List.mem_cons_of_mem _ this
theorem noL_sl {ad : Nat → Nat → Nat} : ∀ (as : List AV), noL as = true → (lg_sl (as.map (cv ad))).length = as.length
  | [], _ => rfl
  | .inr (.inr x) :: as, hn => by simp [noL] at hn
  | .inl x :: as, hn => by
    have := noL_sl (ad := ad) as (by simpa [noL] using hn)
    simp only [lg_sl, List.map_cons, List.flatMap_cons, cv, Value.category] at this ⊢
    simp [this]
  | .inr (.inl x) :: as, hn => by
    have := noL_sl (ad := ad) as (by simpa [noL] using hn)
    simp only [lg_sl, List.map_cons, List.flatMap_cons, cv, Value.category] at this ⊢
    simp [this]
def xpad : List AV → Nat → List (Option AV)
  | [], n => List.replicate n none
  | a :: l, n => some a :: xpad l (n - 1)
theorem xpad_nth : ∀ (as : List AV) (n i : Nat) (v : AV), nth (xpad as n) i = some (some v) → as[i]? = some v
  | [], n, i, v, h => by
    simp only [xpad, nth_eq] at h
    have := List.mem_of_getElem? h
    simp at this
  | a :: as, n, 0, v, h => by simp [xpad, nth] at h; simp [h]
  | a :: as, n, i + 1, v, h => by
    simp only [xpad, nth] at h
    simpa using xpad_nth as (n - 1) i v h
theorem xpad_len : ∀ (as : List AV) (n : Nat), as.length ≤ n → (xpad as n).length = n
  | [], n, _ => by simp [xpad]
  | a :: as, n, h => by
    simp only [List.length_cons] at h
    simp only [xpad, List.length_cons, xpad_len as (n - 1) (by omega)]
    omega
def xF (M : XM) (raw : XK) : List AV → List Ob → Option Rt := fun as μ => if noL as && decide (as.length ≤ M.2.1) then raw (xpad as M.2.1, [], μ) else none
theorem xMet {y : MethodName} {M : XM} {raw : XK} (hy : plainName y.cls = true) (hc : y.cls = M.2.2.1) (hS : ∀ (X : XDyn) (r0 : Rt), XO X M → XS X M r0 0 raw) : XCt y M (xF M raw) := by
  obtain ⟨cc, nL, own, ret, sh, d⟩ := M
  intro as μ r0 hF l D g ad sz
  dsimp only at hc ⊢
  refine Met.ofW (cc := cc) (maxL := nL) (ret := ret) hy rfl ?_
  intro p e s m args below meth c s₁ B hml hv
  obtain ⟨rfl, hsz, hKS, hP, hXI, hlen⟩ := hv
  have hx := B.exec
  have hb := B.bytes
  have hr := B.returns
  have hts := atoms_spec (ws := xws y cc nL ret) B.pre
  have hown : s.vm.findClass y.cls = some m.cls := findClass_of_methodNamed B.named
  have hlocks := B.notSynchronized
  subst hsz
  unfold xF at hF
  dsimp only at hF
  split at hF
  · rename_i hn
    simp only [Bool.and_eq_true, decide_eq_true_eq] at hn
    have hl := lv_entry (as.map (cv ad)) (n := nL) (by rw [noL_sl as hn.1]; exact hn.2)
    rw [lg_entry_eq]
    generalize (lg_sl (as.map (cv ad)) ++ List.replicate (nL - (lg_sl (as.map (cv ad))).length) Slot.unset).toArray = lsl at hl ⊢
    have hXL : XL lsl nL ad (xpad as nL) := by
      refine ⟨hl.1, hl.2.1, Nat.le_of_eq (xpad_len as nL hn.2), fun i v hv => ?_⟩
      have := noL_args (ad := ad) as 0 i v hn.1 (xpad_nth as nL i v hv)
      rw [Nat.zero_add] at this
      exact hl.2.2 _ this
    exact hS (p, l, e, s, m, (as.map (cv ad)).toArray, below, meth, c, D, g, ad, xA ad sh s.heap.size) r0 ⟨hx, hb, hml, by rw [← hc]; exact hown, fun w hw => hts w (List.mem_cons_of_mem _ hw), hKS, hXI, fun i j ps hp => Or.inl ⟨i, j, ps, hp, rfl⟩, fun q hq => Or.inr hq, hr, hlocks⟩ (xpad as nL) [] μ hlen hF s.heap [] lsl hXL hP va_S.rf
  · cases hF
theorem XCt.of {y : MethodName} {M : XM} {F G : List AV → List Ob → Option Rt} (h : XCt y M F) (hFG : ∀ as μ r, G as μ = some r → F as μ = some r) : XCt y M G := fun as μ r0 hG => h as μ r0 (hFG as μ r0 hG)
