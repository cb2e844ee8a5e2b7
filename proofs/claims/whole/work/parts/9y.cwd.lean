theorem wc_86 : Cond.instantiable RX7 7 ∈ BIG := inB 86 (by decide +kernel) rfl
theorem wc_93 : Cond.classLink RX7 9 RX3 ∈ BIG := inB 93 (by decide +kernel) rfl
theorem wc_94 : Cond.instantiable RX3 14 ∈ BIG := inB 94 (by decide +kernel) rfl
theorem wc_166 : Cond.arrayClass .int ∈ BIG := inB 166 (by decide +kernel) rfl
theorem wc_167 : Cond.classLink RX7 19 RX5 ∈ BIG := inB 167 (by decide +kernel) rfl
theorem wc_168 : Cond.instantiable RX5 4 ∈ BIG := inB 168 (by decide +kernel) rfl
theorem wc_173 : Cond.classLink RX5 9 RX3 ∈ BIG := inB 173 (by decide +kernel) rfl
theorem wc_191 : Cond.classLink RX7 26 RX6 ∈ BIG := inB 191 (by decide +kernel) rfl
theorem wc_192 : Cond.instantiable RX6 3 ∈ BIG := inB 192 (by decide +kernel) rfl
theorem wc_214 : Cond.classLink RX7 33 RX4 ∈ BIG := inB 214 (by decide +kernel) rfl
theorem wc_215 : Cond.instantiable RX4 5 ∈ BIG := inB 215 (by decide +kernel) rfl
theorem wc_236 : Cond.classLink RX7 40 RX2 ∈ BIG := inB 236 (by decide +kernel) rfl
theorem wc_237 : Cond.instantiable RX2 4 ∈ BIG := inB 237 (by decide +kernel) rfl
theorem wc_242 : Cond.classLink RX2 9 RX0 ∈ BIG := inB 242 (by decide +kernel) rfl
theorem wc_243 : Cond.instantiable RX0 8 ∈ BIG := inB 243 (by decide +kernel) rfl
theorem wc_248 : Cond.classLink RX0 9 RX6 ∈ BIG := inB 248 (by decide +kernel) rfl
theorem wc_250 : Cond.classLink RX0 18 RX4 ∈ BIG := inB 250 (by decide +kernel) rfl
theorem wc_293 : Cond.classLink RX7 47 RX1 ∈ BIG := inB 293 (by decide +kernel) rfl
theorem wc_294 : Cond.instantiable RX1 2 ∈ BIG := inB 294 (by decide +kernel) rfl
theorem wc_299 : Cond.classLink RX1 9 RX6 ∈ BIG := inB 299 (by decide +kernel) rfl
theorem wc_862 : Cond.instantiable RX8 25 ∈ BIG := inB 862 (by decide +kernel) rfl
theorem wc_947 : Cond.arrayClass .boolean ∈ BIG := inB 947 (by decide +kernel) rfl
theorem fsX0 : ∀ j, j < 8 → defaultValue (tyX0 j) = vp_V [.null, .null, .null, .null, .null, .null, .null, .int 0] j := fun j hj => match j, hj with
  | 0, _ => rfl
  | 1, _ => rfl
  | 2, _ => rfl
  | 3, _ => rfl
  | 4, _ => rfl
  | 5, _ => rfl
  | 6, _ => rfl
  | 7, _ => rfl
  | j + 8, hj => absurd hj (by omega)
theorem fsX1 : ∀ j, j < 2 → defaultValue (tyX1 j) = vp_V [.null, .null] j := fun j hj => match j, hj with
  | 0, _ => rfl
  | 1, _ => rfl
  | j + 2, hj => absurd hj (by omega)
theorem fsX2 : ∀ j, j < 4 → defaultValue (tyX2 j) = vp_V [.null, .int 0, .int 0, .int 0] j := fun j hj => match j, hj with
  | 0, _ => rfl
  | 1, _ => rfl
  | 2, _ => rfl
  | 3, _ => rfl
  | j + 4, hj => absurd hj (by omega)
theorem fsX3 : ∀ j, j < 14 → defaultValue (tyX3 j) = vp_V [.null, .null, .null, .null, .null, .null, .null, .int 0, .int 0, .int 0, .int 0, .int 0, .int 0, .int 0] j := fun j hj => match j, hj with
  | 0, _ => rfl
  | 1, _ => rfl
  | 2, _ => rfl
  | 3, _ => rfl
  | 4, _ => rfl
  | 5, _ => rfl
  | 6, _ => rfl
  | 7, _ => rfl
  | 8, _ => rfl
  | 9, _ => rfl
  | 10, _ => rfl
  | 11, _ => rfl
  | 12, _ => rfl
  | 13, _ => rfl
  | j + 14, hj => absurd hj (by omega)
theorem fsX4 : ∀ j, j < 5 → defaultValue (tyX4 j) = vp_V [.null, .null, .int 0, .int 0, .int 0] j := fun j hj => match j, hj with
  | 0, _ => rfl
  | 1, _ => rfl
  | 2, _ => rfl
  | 3, _ => rfl
  | 4, _ => rfl
  | j + 5, hj => absurd hj (by omega)
theorem fsX5 : ∀ j, j < 4 → defaultValue (tyX5 j) = vp_V [.null, .int 0, .int 0, .int 0] j := fun j hj => match j, hj with
  | 0, _ => rfl
  | 1, _ => rfl
  | 2, _ => rfl
  | 3, _ => rfl
  | j + 4, hj => absurd hj (by omega)
theorem fsX6 : ∀ j, j < 3 → defaultValue (tyX6 j) = vp_V [.null, .null, .int 0] j := fun j hj => match j, hj with
  | 0, _ => rfl
  | 1, _ => rfl
  | 2, _ => rfl
  | j + 3, hj => absurd hj (by omega)
theorem fsX7 : ∀ j, j < 7 → defaultValue (tyX7 j) = vp_V [.null, .null, .null, .null, .null, .null, .null] j := fun j hj => match j, hj with
  | 0, _ => rfl
  | 1, _ => rfl
  | 2, _ => rfl
  | 3, _ => rfl
  | 4, _ => rfl
  | 5, _ => rfl
  | 6, _ => rfl
  | j + 7, hj => absurd hj (by omega)
theorem fsX8 : ∀ j, j < 25 → defaultValue (tyX8 j) = vp_V [.null, .null, .null, .int 0, .int 0, .null, .null, .null, .int 0, .null, .null, .int 0, .null, .null, .null, .null, .null, .null, .null, .int 0, .int 0, .int 0, .null, .int 0, .int 0] j := fun j hj => match j, hj with
  | 0, _ => rfl
  | 1, _ => rfl
  | 2, _ => rfl
  | 3, _ => rfl
  | 4, _ => rfl
  | 5, _ => rfl
  | 6, _ => rfl
  | 7, _ => rfl
  | 8, _ => rfl
  | 9, _ => rfl
  | 10, _ => rfl
  | 11, _ => rfl
  | 12, _ => rfl
  | 13, _ => rfl
  | 14, _ => rfl
  | 15, _ => rfl
  | 16, _ => rfl
  | 17, _ => rfl
  | 18, _ => rfl
  | 19, _ => rfl
  | 20, _ => rfl
  | 21, _ => rfl
  | 22, _ => rfl
  | 23, _ => rfl
  | 24, _ => rfl
  | j + 25, hj => absurd hj (by omega)
theorem bs_one {A : Nat → Prop} {h0 : Nat} {ce : va_E} (hA : A h0) : va_D A [(h0, ce)] := by
  refine ⟨fun i j x y hi hj _ => ?_, fun k x hx => ?_⟩
  · have h1 := (List.getElem?_eq_some_iff.mp hi).1
    have h2 := (List.getElem?_eq_some_iff.mp hj).1
    simp at h1 h2
    omega
  · have h1 := (List.getElem?_eq_some_iff.mp hx).1
    simp at h1
    subst h1
    cases hx
    exact hA
