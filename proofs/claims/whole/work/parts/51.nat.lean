/-! NUMBERS -/
theorem q_in {j N : Nat} (hj : j < 2 ^ 31) : dk_in (nI j) N ↔ j < N := by
  unfold dk_in
  rw [nI_clamp hj]
  constructor
  · intro h
    exact Nat.not_le.mp fun h2 => h (Or.inr h2)
  · intro h h2
    rcases h2 with h2 | h2
    · exact nI_pos hj h2
    · omega
theorem q_le {a b : Nat} (ha : a < 2 ^ 31) (hb : b < 2 ^ 31) : (nI a ≤ nI b) = (a ≤ b) := propext (nI_leI ha hb)
theorem q_lt {a b : Nat} (ha : a < 2 ^ 31) (hb : b < 2 ^ 31) : (nI a < nI b) = (a < b) := propext (nI_ltI ha hb)
theorem q_eq {a b : Nat} (ha : a < 2 ^ 31) (hb : b < 2 ^ 31) : (nI a = nI b) = (a = b) := propext (nI_eq ha hb)
theorem q_if {α : Sort _} {c : Prop} [Decidable c] {x y : α} (h : c) : (if c then x else y) = x := if_pos h
theorem q_toBv (n : Nat) : (nI n).toBitVec = BitVec.ofNat 32 n := rfl
theorem q_inj {x y : Int32} (h : x.toBitVec = y.toBitVec) : x = y := Int32.toBitVec_inj.mp h
theorem q_or (a b : Nat) : nI a ||| nI b = nI (a ||| b) := q_inj (by
  show (nI a).toBitVec ||| (nI b).toBitVec = (nI (a ||| b)).toBitVec
  rw [q_toBv, q_toBv, q_toBv, BitVec.ofNat_or])
theorem q_orA {a b k : Nat} (h : b < 2 ^ k) : nI (a * 2 ^ k) ||| nI b = nI (a * 2 ^ k + b) := by
  rw [q_or, Nat.mul_comm, ← Nat.two_pow_add_eq_or_of_lt h]
theorem q_shl8 (a : Nat) : nI a <<< ((8 : Int32) &&& 31) = nI (a * 256) := q_inj (by
  apply BitVec.eq_of_toNat_eq
  rw [pk_shl (nI a) ((8 : Int32) &&& 31) 8 (by decide)]
  show (BitVec.ofNat 32 a).toNat * 2 ^ 8 % 2 ^ 32 = (BitVec.ofNat 32 (a * 256)).toNat
  rw [BitVec.toNat_ofNat, BitVec.toNat_ofNat]
  omega)
theorem q_sh8 {a b : Nat} (h : b < 256) : (nI a <<< ((8 : Int32) &&& 31)) ||| nI b = nI (a * 256 + b) := by
  rw [q_shl8]
  exact q_orA (k := 8) h
theorem q_shl16 (a : Nat) : nI a <<< ((16 : Int32) &&& 31) = nI (a * 65536) := q_inj (by
  apply BitVec.eq_of_toNat_eq
  rw [pk_shl (nI a) ((16 : Int32) &&& 31) 16 (by decide)]
  show (BitVec.ofNat 32 a).toNat * 2 ^ 16 % 2 ^ 32 = (BitVec.ofNat 32 (a * 65536)).toNat
  rw [BitVec.toNat_ofNat, BitVec.toNat_ofNat]
  omega)
theorem q_shl24 (a : Nat) : nI a <<< ((24 : Int32) &&& 31) = nI (a * 16777216) := q_inj (by
  apply BitVec.eq_of_toNat_eq
  rw [pk_shl (nI a) ((24 : Int32) &&& 31) 24 (by decide)]
  show (BitVec.ofNat 32 a).toNat * 2 ^ 24 % 2 ^ 32 = (BitVec.ofNat 32 (a * 16777216)).toNat
  rw [BitVec.toNat_ofNat, BitVec.toNat_ofNat]
  omega)
/-- four bytes -/
def I4 (B : Nat → Nat) (p : Nat) : Nat := ((B p * 256 + B (p + 1)) * 256 + B (p + 2)) * 256 + B (p + 3)
theorem q_four {a b c d : Nat} (hb : b < 256) (hc : c < 256) (hd : d < 256) : (((nI a <<< ((24 : Int32) &&& 31)) ||| (nI b <<< ((16 : Int32) &&& 31))) ||| (nI c <<< ((8 : Int32) &&& 31))) ||| nI d = nI (((a * 256 + b) * 256 + c) * 256 + d) := by
  rw [q_shl24, q_shl16, q_shl8]
  rw [show a * 16777216 = a * 2 ^ 24 by omega, q_orA (k := 24) (show b * 65536 < 2 ^ 24 by omega)]
  rw [show a * 2 ^ 24 + b * 65536 = (a * 256 + b) * 2 ^ 16 by omega, q_orA (k := 16) (show c * 256 < 2 ^ 16 by omega)]
  rw [show (a * 256 + b) * 2 ^ 16 + c * 256 = ((a * 256 + b) * 256 + c) * 2 ^ 8 by omega, q_orA (k := 8) (show d < 2 ^ 8 by omega)]
/-- the signed byte -/
def qs (b : Nat) : Int32 := (nI b).toInt8.toInt32
theorem qs_and : ∀ b, b < 256 → qs b &&& 255 = nI b := sc_k8
