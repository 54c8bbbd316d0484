/-! BYTES OF NUMBERS -/
def bt (y : Int32) (k : Nat) : Nat := (y.toBitVec >>> (8 * k)).toNat % 256
def bL (x : Int64) (k : Nat) : Nat := (x.toBitVec >>> (8 * k)).toNat % 256
theorem bt_lt (y : Int32) (k : Nat) : bt y k < 256 := Nat.mod_lt _ (by decide)
theorem bL_lt (x : Int64) (k : Nat) : bL x k < 256 := Nat.mod_lt _ (by decide)
theorem b_and (y : Int32) : y &&& 255 = nI (y.toBitVec.toNat % 256) := q_inj (by
  apply BitVec.eq_of_toNat_eq
  show (y.toBitVec &&& (255 : Int32).toBitVec).toNat = _
  rw [BitVec.toNat_and, show (255 : Int32).toBitVec.toNat = 2 ^ 8 - 1 from rfl, Nat.and_two_pow_sub_one_eq_mod, q_toBv, BitVec.toNat_ofNat]
  omega)
theorem b_nar (y : Int32) : vp_nar .byte y.toInt8.toInt32 = qs (y.toBitVec.toNat % 256) := by
  have h : y.toInt8.toInt32 = qs (y.toBitVec.toNat % 256) := by
    unfold qs
    congr 1
    apply Int8.toBitVec_inj.mp
    apply BitVec.eq_of_toNat_eq
    show (y.toBitVec.signExtend 8).toNat = ((nI (y.toBitVec.toNat % 256)).toBitVec.signExtend 8).toNat
    rw [BitVec.signExtend_eq_setWidth_of_le _ (by omega), BitVec.signExtend_eq_setWidth_of_le _ (by omega), BitVec.toNat_setWidth, BitVec.toNat_setWidth, q_toBv, BitVec.toNat_ofNat]
    omega
  rw [h]
  show (qs _).toInt8.toInt32 = _
  unfold qs
  rw [Int8.toInt8_toInt32]
theorem b_low {w v : Nat} (x : BitVec w) (y : BitVec v) (hw : 8 ≤ w) (hv : 8 ≤ v) (h : ∀ i, i < 8 → x.getLsbD i = y.getLsbD i) : x.toNat % 256 = y.toNat % 256 := by
  have e : x.setWidth 8 = y.setWidth 8 := by
    apply BitVec.eq_of_getLsbD_eq
    intro i hi
    rw [BitVec.getLsbD_setWidth, BitVec.getLsbD_setWidth, h i hi]
  have := congrArg BitVec.toNat e
  rw [BitVec.toNat_setWidth, BitVec.toNat_setWidth] at this
  exact this
theorem b_amt {k : Nat} (hk : k < 8) : ((nI (8 * k)).toInt64.toUInt64 &&& Int64.toUInt64 63).toNat % 64 = 8 * k := by
  have h : k = 0 ∨ k = 1 ∨ k = 2 ∨ k = 3 ∨ k = 4 ∨ k = 5 ∨ k = 6 ∨ k = 7 := by omega
  rcases h with h | h | h | h | h | h | h | h <;> subst h <;> decide
theorem b_amt2 {k : Nat} (hk : k < 8) : (((nI (8 * k)).toInt64 &&& 63).toBitVec.smod 64).toNat = 8 * k := by
  have h : k = 0 ∨ k = 1 ∨ k = 2 ∨ k = 3 ∨ k = 4 ∨ k = 5 ∨ k = 6 ∨ k = 7 := by omega
  rcases h with h | h | h | h | h | h | h | h <;> subst h <;> decide
theorem b_i32 (x : Int64) (i : Nat) (hi : i < 8) : x.toInt32.toBitVec.getLsbD i = x.toBitVec.getLsbD i := by
  show (x.toBitVec.signExtend 32).getLsbD i = _
  rw [BitVec.signExtend_eq_setWidth_of_le _ (by omega), BitVec.getLsbD_setWidth]
  simp [show i < 32 by omega]
/-- the bytes of the long that the program's puts take -/
theorem b_lushr (x : Int64) {k : Nat} (hk : k < 8) : (dk_lushr x (nI (8 * k))).toInt32.toBitVec.toNat % 256 = bL x k := by
  apply b_low _ _ (by omega) (by omega)
  intro i hi
  rw [b_i32 _ _ hi]
  show (x.toUInt64 >>> ((nI (8 * k)).toInt64.toUInt64 &&& Int64.toUInt64 63)).toBitVec.getLsbD i = _
  rw [UInt64.toBitVec_shiftRight, BitVec.ushiftRight_eq']
  rw [show ((((nI (8 * k)).toInt64.toUInt64 &&& Int64.toUInt64 63).toBitVec % (64 : BitVec 64)).toNat) = 8 * k from by
    rw [BitVec.toNat_umod]; exact b_amt hk]
  rfl
theorem b_lshr (x : Int64) {k : Nat} (hk : k < 8) : (dk_lshr x (nI (8 * k))).toInt32.toBitVec.toNat % 256 = bL x k := by
  apply b_low _ _ (by omega) (by omega)
  intro i hi
  rw [b_i32 _ _ hi]
  show (x.toBitVec.sshiftRight' (((nI (8 * k)).toInt64 &&& 63).toBitVec.smod 64)).getLsbD i = _
  rw [BitVec.sshiftRight_eq', b_amt2 hk, BitVec.getLsbD_sshiftRight, BitVec.getLsbD_ushiftRight]
  simp [show ¬ 64 ≤ i by omega, show 8 * k + i < 64 by omega]
theorem b_amt3 {k : Nat} (hk : k < 4) : ((nI (8 * k) &&& 31).toBitVec.smod 32).toNat = 8 * k := by
  have h : k = 0 ∨ k = 1 ∨ k = 2 ∨ k = 3 := by omega
  rcases h with h | h | h | h <;> subst h <;> decide
theorem b_ishr (y : Int32) {k : Nat} (hk : k < 4) : (y >>> (nI (8 * k) &&& 31)).toBitVec.toNat % 256 = bt y k := by
  apply b_low _ _ (by omega) (by omega)
  intro i hi
  show (y.toBitVec.sshiftRight' ((nI (8 * k) &&& 31).toBitVec.smod 32)).getLsbD i = _
  rw [BitVec.sshiftRight_eq', b_amt3 hk, BitVec.getLsbD_sshiftRight, BitVec.getLsbD_ushiftRight]
  simp [show ¬ 32 ≤ i by omega, show 8 * k + i < 32 by omega]
theorem b_wide (y : Int32) {k : Nat} (hk : k < 4) : bL y.toInt64 k = bt y k := by
  apply b_low _ _ (by omega) (by omega)
  intro i hi
  rw [BitVec.getLsbD_ushiftRight, BitVec.getLsbD_ushiftRight]
  show (y.toBitVec.signExtend 64).getLsbD _ = _
  rw [BitVec.getLsbD_signExtend]
  simp [show 8 * k + i < 64 by omega, show 8 * k + i < 32 by omega]
theorem bt_0 (y : Int32) : y.toBitVec.toNat % 256 = bt y 0 := rfl
