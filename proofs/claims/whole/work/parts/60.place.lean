/-! PLACES IN ONE NUMBER -/
theorem q_shl9 (a : Nat) : nI a <<< ((9 : Int32) &&& 31) = nI (a * 512) := q_inj (by
  apply BitVec.eq_of_toNat_eq
  rw [pk_shl (nI a) ((9 : Int32) &&& 31) 9 (by decide)]
  show (BitVec.ofNat 32 a).toNat * 2 ^ 9 % 2 ^ 32 = (BitVec.ofNat 32 (a * 512)).toNat
  rw [BitVec.toNat_ofNat, BitVec.toNat_ofNat]
  omega)
theorem q_shl4 (a : Nat) : nI a <<< ((4 : Int32) &&& 31) = nI (a * 16) := q_inj (by
  apply BitVec.eq_of_toNat_eq
  rw [pk_shl (nI a) ((4 : Int32) &&& 31) 4 (by decide)]
  show (BitVec.ofNat 32 a).toNat * 2 ^ 4 % 2 ^ 32 = (BitVec.ofNat 32 (a * 16)).toNat
  rw [BitVec.toNat_ofNat, BitVec.toNat_ofNat]
  omega)
def pck (s p l : Nat) : Nat := (s * 512 + p) * 16 + l
theorem q_pck {s p l : Nat} (hp : p < 512) (hl : l < 16) : (((nI s <<< ((9 : Int32) &&& 31)) ||| nI p) <<< ((4 : Int32) &&& 31)) ||| nI l = nI (pck s p l) := by
  rw [q_shl9, show s * 512 = s * 2 ^ 9 by omega, q_orA (k := 9) (by omega), q_shl4, show (s * 2 ^ 9 + p) * 16 = (s * 2 ^ 9 + p) * 2 ^ 4 by omega, q_orA (k := 4) (by omega)]
  rfl
theorem q_ush {v : Nat} (hv : v < 2 ^ 31) {y : Int32} {k : Nat} (hy : (y.toUInt32 &&& Int32.toUInt32 31).toBitVec.toNat % 32 = k) : dk_iushr (nI v) y = nI (v / 2 ^ k) := q_inj (by
  apply BitVec.eq_of_toNat_eq
  show ((nI v).toUInt32 >>> (y.toUInt32 &&& Int32.toUInt32 31)).toBitVec.toNat = _
  rw [UInt32.toBitVec_shiftRight, BitVec.ushiftRight_eq', BitVec.toNat_ushiftRight, BitVec.toNat_umod]
  rw [show (y.toUInt32 &&& Int32.toUInt32 31).toBitVec.toNat % (32 : BitVec 32).toNat = k from hy]
  show (BitVec.ofNat 32 v).toNat >>> k = (BitVec.ofNat 32 (v / 2 ^ k)).toNat
  have := Nat.div_le_self v (2 ^ k)
  rw [BitVec.toNat_ofNat, BitVec.toNat_ofNat, Nat.mod_eq_of_lt (by omega), Nat.mod_eq_of_lt (by omega), Nat.shiftRight_eq_div_pow])
theorem q_andM {v k : Nat} (hv : v < 2 ^ 31) (hk : k < 32) : nI v &&& nI (2 ^ k - 1) = nI (v % 2 ^ k) := q_inj (by
  apply BitVec.eq_of_toNat_eq
  show ((nI v).toBitVec &&& (nI (2 ^ k - 1)).toBitVec).toNat = _
  have h2 : 2 ^ k ≤ 2 ^ 31 := Nat.pow_le_pow_right (by omega) (by omega)
  have h3 := Nat.mod_le v (2 ^ k)
  rw [BitVec.toNat_and, q_toBv, q_toBv, q_toBv, BitVec.toNat_ofNat, BitVec.toNat_ofNat, BitVec.toNat_ofNat, Nat.mod_eq_of_lt (by omega), Nat.mod_eq_of_lt (a := 2 ^ k - 1) (by omega), Nat.and_two_pow_sub_one_eq_mod, Nat.mod_eq_of_lt (a := v % 2 ^ k) (by omega)])
section PL
variable {pk : Nat → Int32} {z j s p l : Nat}
theorem c_placeOf (hz : z ≤ 5010) (hj : j < z) : fX2_placeOf (nI z) pk (nI j) = some (pk j) := by
  unfold fX2_placeOf
  rw [if_neg (nI_pos (n2 (by omega))), if_neg (n_le hj (by omega)), if_pos (p_in (by omega) (by omega)), nI_clamp (n2 (by omega))]
theorem pck_lt (hs : s < 32) (hp : p < 512) (hl : l < 16) : pck s p l < 2 ^ 31 := by unfold pck; omega
theorem c_secOf (hz : z ≤ 5010) (hj : j < z) (h : pk j = nI (pck s p l)) (hs : s < 32) (hp : p < 512) (hl : l < 16) : fX2_sectorOf (nI z) pk (nI j) = some (nI s) := by
  unfold fX2_sectorOf
  rw [c_placeOf hz hj, ob, h, q_ush (pck_lt hs hp hl) (k := 13) (by decide)]
  congr 2
  unfold pck
  omega
theorem c_startOf (hz : z ≤ 5010) (hj : j < z) (h : pk j = nI (pck s p l)) (hs : s < 32) (hp : p < 512) (hl : l < 16) : fX2_startOf (nI z) pk (nI j) = some (nI p) := by
  unfold fX2_startOf
  have h1 := pck_lt hs hp hl
  rw [c_placeOf hz hj, ob, h, q_ush h1 (k := 4) (by decide)]
  have h2 := Nat.div_le_self (pck s p l) (2 ^ 4)
  have e : nI (pck s p l / 2 ^ 4) &&& (511 : Int32) = _ := q_andM (k := 9) (by omega) (by omega)
  rw [e]
  congr 2
  unfold pck
  omega
theorem c_lengthOf (hz : z ≤ 5010) (hj : j < z) (h : pk j = nI (pck s p l)) (hs : s < 32) (hp : p < 512) (hl : l < 16) : fX2_lengthOf (nI z) pk (nI j) = some (nI l) := by
  unfold fX2_lengthOf
  have h1 := pck_lt hs hp hl
  rw [c_placeOf hz hj, ob, h]
  have e : nI (pck s p l) &&& (15 : Int32) = _ := q_andM (k := 4) (by omega) (by omega)
  rw [e]
  congr 2
  unfold pck
  omega
theorem c_addP (hz : z < 5010) (hp : p < 512) (hl : l < 16) : fX2_add (nI z) pk (nI s) (nI p) (nI l) = some (nI (z + 1), upd pk z (nI (pck s p l))) := by
  unfold fX2_add
  rw [show (5010 : Int32) = nI 5010 from rfl, if_neg (n_le hz (by omega)), if_pos (p_in hz (by omega)), nI_1, nI_clamp (n2 (by omega)), q_pck hp hl]
end PL
/-- where r rows stand, all below sector u -/
def Pl (r u : Nat) (pk so po mo : Nat → Int32) : Prop := ∀ j, j < r → ∃ s p l : Nat, pk j = nI (pck s p l) ∧ so j = nI s ∧ po j = nI p ∧ mo j = nI l ∧ s < u ∧ 6 ≤ p ∧ p + 2 + l ≤ 508 ∧ 1 ≤ l ∧ l ≤ 8
theorem Pl_0 {u : Nat} {pk so po mo : Nat → Int32} : Pl 0 u pk so po mo := fun j hj => by omega
theorem Pl_m {r u v : Nat} {pk so po mo : Nat → Int32} (h : Pl r u pk so po mo) (hv : u ≤ v) : Pl r v pk so po mo := by
  intro j hj
  obtain ⟨s, p, l, h1, h2, h3, h4, h5, h6⟩ := h j hj
  exact ⟨s, p, l, h1, h2, h3, h4, by omega, h6⟩
theorem Pl_add {r u s p l : Nat} {pk so po mo : Nat → Int32} (h : Pl r u pk so po mo) (hs : s < u) (hp : 6 ≤ p) (hp2 : p + 2 + l ≤ 508) (hl : 1 ≤ l) (hl2 : l ≤ 8) : Pl (r + 1) u (upd pk r (nI (pck s p l))) (upd so r (nI s)) (upd po r (nI p)) (upd mo r (nI l)) := by
  intro j hj
  by_cases e : j = r
  · subst e
    exact ⟨s, p, l, by rw [upd_s], by rw [upd_s], by rw [upd_s], by rw [upd_s], hs, hp, hp2, hl, hl2⟩
  · rw [upd_n e, upd_n e, upd_n e, upd_n e]
    exact h j (by omega)
