-- ages
def sh (v : Int32) : Int32 := (v.toUInt32 >>> ((16 : Int32).toUInt32 &&& Int32.toUInt32 31)).toInt32
set_option maxHeartbeats 4000000 in
theorem sh_nat (v : Int32) : ∃ x, x < 65536 ∧ sh v = nI x := by
  have e : ((16 : Int32).toUInt32 &&& Int32.toUInt32 31) = 16 := by decide
  refine ⟨v.toUInt32.toNat / 65536, ?_, ?_⟩
  · have := v.toUInt32.toNat_lt
    omega
  · unfold sh
    rw [e]
    refine Int32.toBitVec_inj.mp ?_
    refine BitVec.eq_of_toNat_eq ?_
    show (v.toUInt32 >>> 16).toNat = (BitVec.ofNat 32 (v.toUInt32.toNat / 65536)).toNat
    rw [UInt32.toNat_shiftRight, BitVec.toNat_ofNat]
    have := v.toUInt32.toNat_lt
    show v.toUInt32.toNat >>> 16 = _
    rw [Nat.shiftRight_eq_div_pow, Nat.mod_eq_of_lt (by omega)]
