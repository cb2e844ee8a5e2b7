theorem bit_one (y : BitVec 32) : ((y &&& 1#32).toInt = 1) ↔ y.getLsbD 0 = true := by
  rw [BitVec.and_one_eq_setWidth_ofBool_getLsbD]
  cases y.getLsbD 0 <;> decide
theorem inS_bit (s : Int) {i : Nat} (hi : i < 8) : inS s (i : Int) = (xI s).toBitVec.getLsbD i := by
  unfold inS
  rw [hdl_nat hi, Bool.true_and]
  have e : xw (xand (xshr s (i : Int)) 1) = ((xI s).toBitVec.sshiftRight i &&& 1#32).toInt := by
    unfold xand xshr xw
    rw [xI_of, xI_of]
    show (((xI s >>> (xI (i : Int) &&& 31)) &&& xI 1).toBitVec).toInt = _
    rw [Int32.toBitVec_and, Int32.toBitVec_shiftRight, BitVec.sshiftRight_eq', xsh_n i (by omega)]
    rfl
  rw [e]
  have h1 := bit_one ((xI s).toBitVec.sshiftRight i)
  have h2 : ((xI s).toBitVec.sshiftRight i).getLsbD 0 = (xI s).toBitVec.getLsbD i := by
    rw [BitVec.getLsbD_sshiftRight]
    simp
    omega
  rw [h2] at h1
  cases hb : (xI s).toBitVec.getLsbD i
  · exact decide_eq_false (fun z => by rw [h1.mp z] at hb; cases hb)
  · exact decide_eq_true (h1.mpr hb)
theorem inS_and (s m : Int) {i : Nat} (hi : i < 8) : inS (xand s m) (i : Int) = (inS s (i : Int) && inS m (i : Int)) := by
  rw [inS_bit _ hi, inS_bit _ hi, inS_bit _ hi]
  unfold xand
  rw [xI_of, Int32.toBitVec_and, BitVec.getLsbD_and]
theorem inS_not (s : Int) {i : Nat} (hi : i < 8) : inS (xxor s (-1)) (i : Int) = !inS s (i : Int) := by
  rw [inS_bit _ hi, inS_bit _ hi]
  unfold xxor
  have hm : (xI (-1)).toBitVec = BitVec.allOnes 32 := by decide
  rw [xI_of, Int32.toBitVec_xor, BitVec.getLsbD_xor, hm, BitVec.getLsbD_allOnes, decide_eq_true (show i < 32 by omega), Bool.xor_true]
