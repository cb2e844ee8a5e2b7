theorem xI_bv (n : Nat) : (xI (n : Int)).toBitVec = BitVec.ofNat 32 n := by
  unfold xI
  rw [Int32.toBitVec_ofInt, BitVec.ofInt_natCast]
theorem xI_bvN {n : Nat} (h : n < 2147483648) : (xI (n : Int)).toBitVec.toNat = n := by
  rw [xI_bv, BitVec.toNat_ofNat, Nat.mod_eq_of_lt (by omega)]
theorem xand_nat {a b : Nat} (ha : a < 2147483648) (hb : b < 2147483648) : xand (a : Int) (b : Int) = ((a &&& b : Nat) : Int) := by
  have hl : a &&& b < 2147483648 := Nat.lt_of_le_of_lt Nat.and_le_left ha
  have e : xI (a : Int) &&& xI (b : Int) = xI ((a &&& b : Nat) : Int) := by
    apply Int32.toBitVec_inj.mp
    apply BitVec.eq_of_toNat_eq
    rw [Int32.toBitVec_and, BitVec.toNat_and, xI_bvN ha, xI_bvN hb, xI_bvN hl]
  unfold xand
  rw [e]
  exact xw_nat hl
theorem xor_nat {a b : Nat} (ha : a < 2147483648) (hb : b < 2147483648) : xor_ (a : Int) (b : Int) = ((a ||| b : Nat) : Int) := by
  have hl : a ||| b < 2 ^ 31 := Nat.or_lt_two_pow (by omega) (by omega)
  have hl : a ||| b < 2147483648 := hl
  have e : xI (a : Int) ||| xI (b : Int) = xI ((a ||| b : Nat) : Int) := by
    apply Int32.toBitVec_inj.mp
    apply BitVec.eq_of_toNat_eq
    rw [Int32.toBitVec_or, BitVec.toNat_or, xI_bvN ha, xI_bvN hb, xI_bvN hl]
  unfold xor_
  rw [e]
  exact xw_nat hl
theorem xshl_1 : ∀ i : Nat, i < 31 → xshl 1 (i : Int) = ((2 ^ i : Nat) : Int) := by decide +kernel
theorem xsh_n : ∀ n : Nat, n < 32 → ((xI (n : Int) &&& 31).toBitVec.smod 32).toNat = n := by decide +kernel
theorem xshr_nat {a i : Nat} (ha : a < 2147483648) (hi : i < 32) : xshr (a : Int) (i : Int) = ((a / 2 ^ i : Nat) : Int) := by
  unfold xshr
  have e : (xI (a : Int) >>> (xI (i : Int) &&& 31)).toInt = (xI (a : Int)).toInt >>> i := by
    show ((xI (a : Int) >>> (xI (i : Int) &&& 31)).toBitVec).toInt = _
    rw [Int32.toBitVec_shiftRight, BitVec.sshiftRight_eq', xsh_n i hi, BitVec.toInt_sshiftRight]
    rfl
  rw [e, xI_toInt, xw_nat ha, Int.shiftRight_eq_div_pow]
  norm_cast
theorem inS_nat {a i : Nat} (ha : a < 2147483648) (hi : i < 8) : inS (a : Int) (i : Int) = a.testBit i := by
  unfold inS
  rw [hdl_nat hi, Bool.true_and, xshr_nat ha (by omega)]
  have h1 : a / 2 ^ i ≤ a := Nat.div_le_self _ _
  rw [show (1 : Int) = ((1 : Nat) : Int) from rfl, xand_nat (by omega) (by omega), xw_nat (Nat.lt_of_le_of_lt Nat.and_le_right (by omega))]
  rw [Nat.and_one_is_mod, Nat.testBit_eq_decide_div_mod_eq]
  congr 1
  apply propext
  omega
theorem xnot_nat {a b : Nat} (ha : a < 2147483648) (hb : b < 2147483648) : xand (a : Int) (xxor (b : Int) (-1)) = ((a ^^^ (a &&& b) : Nat) : Int) := by
  have hx : a ^^^ (a &&& b) < 2 ^ 31 := Nat.xor_lt_two_pow (by omega) (Nat.lt_of_le_of_lt Nat.and_le_left (by omega))
  have hx : a ^^^ (a &&& b) < 2147483648 := hx
  have e : xI (a : Int) &&& xI (xxor (b : Int) (-1)) = xI ((a ^^^ (a &&& b) : Nat) : Int) := by
    unfold xxor
    rw [xI_of]
    apply Int32.toBitVec_inj.mp
    apply BitVec.eq_of_getLsbD_eq
    intro i hi
    have hm : (xI (-1)).toBitVec = BitVec.allOnes 32 := by decide
    rw [Int32.toBitVec_and, Int32.toBitVec_xor, BitVec.getLsbD_and, BitVec.getLsbD_xor, hm, xI_bv, xI_bv, xI_bv, BitVec.getLsbD_allOnes, BitVec.getLsbD_ofNat, BitVec.getLsbD_ofNat, BitVec.getLsbD_ofNat, Nat.testBit_xor, Nat.testBit_and]
    simp only [hi, decide_true, Bool.true_and]
    cases a.testBit i <;> cases b.testBit i <;> rfl
  unfold xand
  rw [e]
  exact xw_nat hx
