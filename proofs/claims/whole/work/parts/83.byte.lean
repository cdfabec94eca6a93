/-! ===== a byte of a word ===== -/
def zcb8 (x : Int64) (k : Nat) : Int32 := ((x.toUInt64 >>> ((nI (8 * k)).toInt64.toUInt64 &&& Int64.toUInt64 63)).toInt64).toInt32 &&& nI 255
def zmb8 (x : Int64) (k : Nat) : Int32 := ((x >>> ((nI (8 * k)).toInt64 &&& 63)) &&& 255).toInt32
theorem z255a : ∀ i, i < 32 → (255#32).getLsbD i = decide (i < 8) := by decide
theorem z255b : ∀ i, i < 32 → (255#64).getLsbD i = decide (i < 8) := by decide
theorem zsh_u : ∀ k, k < 8 → ((nI (8 * k)).toInt64.toUInt64 &&& Int64.toUInt64 63).toBitVec % 64 = BitVec.ofNat 64 (8 * k) := by decide
theorem zsh_s : ∀ k, k < 8 → ((nI (8 * k)).toInt64 &&& 63).toBitVec.smod 64 = BitVec.ofNat 64 (8 * k) := by decide
theorem zbyte {x : Int64} {k : Nat} (hk : k < 8) : zcb8 x k = zmb8 x k := by
  unfold zcb8 zmb8
  apply Int32.toBitVec_inj.mp
  apply BitVec.eq_of_getLsbD_eq
  intro i hi
  have e1 : (x.toUInt64 >>> ((nI (8 * k)).toInt64.toUInt64 &&& Int64.toUInt64 63)).toInt64.toBitVec = x.toBitVec >>> (8 * k) := by
    show (x.toUInt64 >>> ((nI (8 * k)).toInt64.toUInt64 &&& Int64.toUInt64 63)).toBitVec = _
    rw [UInt64.toBitVec_shiftRight, zsh_u k hk]
    show x.toBitVec >>> BitVec.ofNat 64 (8 * k) = _
    rw [BitVec.ushiftRight_eq', BitVec.toNat_ofNat, Nat.mod_eq_of_lt (by omega)]
  have e2 : (x >>> ((nI (8 * k)).toInt64 &&& 63)).toBitVec = x.toBitVec.sshiftRight (8 * k) := by
    rw [Int64.toBitVec_shiftRight, zsh_s k hk]
    show x.toBitVec.sshiftRight (BitVec.ofNat 64 (8 * k)).toNat = _
    rw [BitVec.toNat_ofNat, Nat.mod_eq_of_lt (by omega)]
  rw [Int32.toBitVec_and, Int64.toBitVec_toInt32, Int64.toBitVec_toInt32, Int64.toBitVec_and, e1, e2]
  rw [BitVec.getLsbD_and, BitVec.getLsbD_signExtend, BitVec.getLsbD_signExtend, BitVec.getLsbD_and]
  rw [show (nI 255).toBitVec = 255#32 from rfl, show (255 : Int64).toBitVec = 255#64 from rfl, z255a i hi, z255b i hi, if_pos (by omega), if_pos (by omega), BitVec.getLsbD_ushiftRight, BitVec.getLsbD_sshiftRight]
  by_cases q : i < 8
  · rw [if_pos (by omega)]
    simp (decide := true) [hi, show ¬ 64 ≤ i by omega]
  · simp (decide := true) [q]
theorem zbyte_n {x : Int64} {k : Nat} (hk : k < 8) : ∃ b, b < 256 ∧ zmb8 x k = nI b := by
  rw [← zbyte hk]
  exact pk_andE _ 8 (by decide)
