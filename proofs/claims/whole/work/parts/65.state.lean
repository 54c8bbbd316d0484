/-! A START FINDS THE STATE, on both sides -/
def jL (n : Nat) : Int64 := Int64.ofNat n
theorem j_inj {x y : Int64} (h : x.toBitVec = y.toBitVec) : x = y := Int64.toBitVec_inj.mp h
theorem j_toBv (n : Nat) : (jL n).toBitVec = BitVec.ofNat 64 n := rfl
theorem j_shl {x : Int64} {y : Int32} {k : Nat} (hy : ((y.toInt64 &&& 63).toBitVec.smod 64).toNat = k) : (dk_lshl x y).toBitVec.toNat = x.toBitVec.toNat * 2 ^ k % 2 ^ 64 := by
  show (x.toBitVec <<< ((y.toInt64 &&& 63).toBitVec.smod 64)).toNat = _
  rw [BitVec.shiftLeft_eq', BitVec.toNat_shiftLeft, hy, Nat.shiftLeft_eq]
theorem j_shl8 (a : Nat) : dk_lshl (jL a) 8 = jL (a * 256) := j_inj (by
  apply BitVec.eq_of_toNat_eq
  rw [j_shl (k := 8) (by decide), j_toBv, j_toBv, BitVec.toNat_ofNat, BitVec.toNat_ofNat]
  omega)
theorem j_or (a b : Nat) : jL a ||| jL b = jL (a ||| b) := j_inj (by
  show (jL a).toBitVec ||| (jL b).toBitVec = (jL (a ||| b)).toBitVec
  rw [j_toBv, j_toBv, j_toBv, BitVec.ofNat_or])
theorem j_orA {a b k : Nat} (h : b < 2 ^ k) : jL (a * 2 ^ k) ||| jL b = jL (a * 2 ^ k + b) := by
  rw [j_or, Nat.mul_comm, ← Nat.two_pow_add_eq_or_of_lt h]
theorem b_low32 {w v : Nat} (x : BitVec w) (y : BitVec v) (h : ∀ i, i < 32 → x.getLsbD i = y.getLsbD i) : x.toNat % 2 ^ 32 = y.toNat % 2 ^ 32 := by
  have e : x.setWidth 32 = y.setWidth 32 := by
    apply BitVec.eq_of_getLsbD_eq
    intro i hi
    rw [BitVec.getLsbD_setWidth, BitVec.getLsbD_setWidth, h i hi]
  have := congrArg BitVec.toNat e
  rw [BitVec.toNat_setWidth, BitVec.toNat_setWidth] at this
  exact this
theorem j_sx (a : Nat) : (nI a).toInt64.toBitVec.toNat % 2 ^ 32 = a % 2 ^ 32 := by
  have h : (nI a).toInt64.toBitVec.toNat % 2 ^ 32 = (nI a).toBitVec.toNat % 2 ^ 32 := b_low32 _ _ (by
    intro i hi
    show ((nI a).toBitVec.signExtend 64).getLsbD i = _
    rw [BitVec.getLsbD_signExtend]
    simp [show i < 64 by omega, show i < 32 by omega])
  rw [h, q_toBv, BitVec.toNat_ofNat]
  omega
theorem j_hi (a : Nat) : dk_lshl (nI a).toInt64 32 = jL (a * 2 ^ 32) := j_inj (by
  apply BitVec.eq_of_toNat_eq
  have h := j_sx a
  rw [j_shl (k := 32) (by decide), j_toBv, BitVec.toNat_ofNat]
  omega)
theorem j_lo {b : Nat} (h : b < 2 ^ 32) : (nI b).toInt64 &&& 4294967295 = jL b := j_inj (by
  apply BitVec.eq_of_toNat_eq
  have h2 := j_sx b
  show ((nI b).toInt64.toBitVec &&& (4294967295 : Int64).toBitVec).toNat = _
  rw [BitVec.toNat_and, show (4294967295 : Int64).toBitVec.toNat = 2 ^ 32 - 1 from rfl, Nat.and_two_pow_sub_one_eq_mod, h2, j_toBv, BitVec.toNat_ofNat]
  omega)
theorem j_b {b : Nat} (h : b < 256) : (nI b).toInt64 = jL b := by
  rw [nI_l (by omega)]
  rfl
theorem I4_lt {B : Nat → Nat} (HB : ∀ j, B j < 256) (p : Nat) : I4 B p < 2 ^ 32 := by
  unfold I4
  have := HB p
  have := HB (p + 1)
  have := HB (p + 2)
  have := HB (p + 3)
  omega
/-- eight bytes -/
def I8 (B : Nat → Nat) (p : Nat) : Nat := I4 B p * 2 ^ 32 + I4 B (p + 4)
def VV (B : Nat → Nat) (p : Nat) : Nat → Nat
  | 0 => 0
  | k + 1 => VV B p k * 256 + B (p + k)
theorem VV_8 (B : Nat → Nat) (p : Nat) : VV B p 8 = I8 B p := by
  unfold I8 I4
  simp only [VV, Nat.add_zero]
  rw [show p + 4 + 1 = p + 5 from rfl, show p + 4 + 2 = p + 6 from rfl, show p + 4 + 3 = p + 7 from rfl]
  omega
theorem c_stateAt {f : Nat → Int32} {B : Nat → Nat} (HB : ∀ j, B j < 256) (hf : ∀ j, j < 32768 → f j = qs (B j)) {c s : Nat} (hc : c < 2) (hs : s < 32) : fX0_stateAt f (nI c) (nI s) = some (jL (I8 B (pos c s + 6))) := by
  have hp := pos_lt hc hs
  have e1 : fX0_firstCell (nI c) (nI s) = some (nI (pos c s)) := c_first
  unfold fX0_stateAt
  rw [e1, ob, show nI (pos c s) + 6 = nI (pos c s + 6) from nI_add _ 6, show nI (pos c s + 6) + 4 = nI (pos c s + 6 + 4) from nI_add _ 4, c_intOf HB hf (by omega), ob, c_intOf HB hf (by omega), ob, j_hi, j_lo (I4_lt HB _), j_orA (I4_lt HB _)]
  rfl
theorem m_stL {d : Nat → Int32} {B : Nat → Nat} (HB : ∀ j, B j < 256) (hd : ∀ j, j < 32768 → d j = nI (B j)) {p : Nat} (hp : p + 512 ≤ 32768) : ∀ (n k : Nat), k ≤ 8 → 8 < n + k → fX6_takeState_L62 d (nI p) n (nI k) (jL (VV B (p + 6) k)) = some (nI 8, jL (VV B (p + 6) 8)) := by
  intro n
  induction n with
  | zero => intro k h1 h2; omega
  | succ n ih =>
    intro k h1 h2
    rw [fX6_takeState_L62.eq_2, show (8 : Int32) = nI 8 from rfl]
    by_cases h : k = 8
    · subst h
      rw [if_pos (p_le (by omega) (by omega))]
    · rw [if_neg (n_le (by omega) (by omega)), show nI p + 6 = nI (p + 6) from nI_add _ 6, nI_add, if_pos (p_in (by omega) (by omega)), m_rd hd (by omega), j_b (HB _), show nI 8 = (8 : Int32) from rfl, j_shl8, j_orA (k := 8) (show B (p + 6 + k) < 2 ^ 8 from HB _), nI_1]
      exact ih (k + 1) (by omega) (by omega)
theorem m_st {d : Nat → Int32} {B : Nat → Nat} (HB : ∀ j, B j < 256) (hd : ∀ j, j < 32768 → d j = nI (B j)) {p : Nat} (hp : p + 512 ≤ 32768) : fX6_takeState_L62 d (nI p) dkF 0 0 = some (nI 8, jL (I8 B (p + 6))) := by
  have := m_stL HB hd hp dkF 0 (by omega) (by unfold dkF; omega)
  rw [VV_8] at this
  exact this
theorem rgt_st {B : Nat → Nat} {n s : Nat} (h : ¬ rgt B n 0 s = 0) (hs : ¬ s + 2 < n) : ¬ nI (I4 B (pos 0 s)) = 0 := by
  intro hz
  apply h
  unfold rgt
  rw [if_neg hs, if_pos hz]
  by_cases h1 : sok B (pos 0 s) = 0
  · rw [if_pos h1]
  · rw [if_neg h1]
theorem ts_1 {f d : Nat → Int32} {B : Nat → Nat} (hD : Dk B f d) {n s : Nat} (hn : 8 ≤ n) (hn2 : n ≤ 32) (hs : s < n) (hs2 : ¬ s + 2 < n) (rp x num : Int32) (st : Int64) (hx : (x = 0 ∧ num = 0) ∨ (x = 1 ∧ ¬ num = 0)) :
    ∃ (x' num' rp' : Int32) (st' : Int64) (f' d' : Nat → Int32) (B' : Nat → Nat), (∀ t, fX5_findState_L20 (nI n) (t + 1) x (nI s) st num rp f = fX5_findState_L20 (nI n) t x' (nI (s + 1)) st' num' rp' f') ∧ fX6_takeState (nI n) num st rp d (nI s) = some (num', st', rp', d') ∧ Dk B' f' d' ∧ ((x' = 0 ∧ num' = 0) ∨ (x' = 1 ∧ ¬ num' = 0)) := by
  rcases os hD hn hn2 (s := s) (by omega) rp with ⟨a1, a2⟩ | ⟨c, rp', f', d', B', a0, a1, a2, a3, a4, a5⟩
  · refine ⟨x, num, rp, st, f, d, B, fun t => ?_, ?_, hD, hx⟩
    · rw [fX5_findState_L20.eq_2, show fX0_sectors (nI n) = some (nI n) from rfl, ob, if_neg (n_le (by omega) (by omega)), a1, ob, if_pos rfl, nI_1]
    · unfold fX6_takeState
      rw [a2, ob, if_pos rfl]
  · have hp := pos_lt a0 (show s < 32 by omega)
    have hp0 := pos_lt (c := 0) (by omega) (show s < 32 by omega)
    have e1 : fX0_firstCell (nI c) (nI s) = some (nI (pos c s)) := c_first
    have b0 : I4 B' (pos c s) = I4 B' (pos 0 s) := I4_loc a5 (k := 0) (by omega)
    have b1 : fX0_numberAt f' (nI c) (nI s) = some (nI (I4 B' (pos 0 s))) := by
      unfold fX0_numberAt
      rw [e1, ob, c_intOf a3.HB a3.hf (by omega), ob, b0]
    have b2 : fX0_stateAt f' (nI c) (nI s) = some (jL (I8 B' (pos 0 s + 6))) := by
      rw [c_stateAt a3.HB a3.hf a0 (by omega)]
      unfold I8
      rw [I4_loc a5 (k := 6) (by omega), show pos c s + 6 + 4 = pos c s + 10 from rfl, I4_loc a5 (k := 10) (by omega)]
    have c1 : fX6_at 0 (nI s) = some (nI (pos 0 s)) := m_at (c := 0)
    have c2 := m_four a3.HB a3.hd (p := pos 0 s) (by omega)
    have c3 := m_st a3.HB a3.hd (p := pos 0 s) (by omega)
    have hne := rgt_st a4 hs2
    have hc : ¬ nI c = -1 := by rcases (show c = 0 ∨ c = 1 by omega) with e | e <;> subst e <;> decide
    rcases hx with ⟨hx, hz⟩ | ⟨hx, hz⟩
    · subst hx; subst hz
      refine ⟨1, nI (I4 B' (pos 0 s)), rp', jL (I8 B' (pos 0 s + 6)), f', d', B', fun t => ?_, ?_, a3, Or.inr ⟨rfl, hne⟩⟩
      · rw [fX5_findState_L20.eq_2, show fX0_sectors (nI n) = some (nI n) from rfl, ob, if_neg (n_le (by omega) (by omega)), a1, ob, if_neg hc, b1, ob, if_pos rfl, b2, ob, nI_1]
      · unfold fX6_takeState
        rw [a2, ob, if_neg (show ¬ (1 : Int32) = 0 by decide), c1, ob, if_pos rfl, c2, ob, c3, ob]
    · subst hx
      by_cases hle : nI (I4 B' (pos 0 s)) ≤ num
      · refine ⟨1, num, rp', st, f', d', B', fun t => ?_, ?_, a3, Or.inr ⟨rfl, hz⟩⟩
        · rw [fX5_findState_L20.eq_2, show fX0_sectors (nI n) = some (nI n) from rfl, ob, if_neg (n_le (by omega) (by omega)), a1, ob, if_neg hc, b1, ob, if_neg (show ¬ (1 : Int32) = 0 by decide), if_pos hle, nI_1]
        · unfold fX6_takeState
          rw [a2, ob, if_neg (show ¬ (1 : Int32) = 0 by decide), c1, ob, if_neg hz, c2, ob, if_pos hle, if_pos rfl]
      · refine ⟨1, nI (I4 B' (pos 0 s)), rp', jL (I8 B' (pos 0 s + 6)), f', d', B', fun t => ?_, ?_, a3, Or.inr ⟨rfl, hne⟩⟩
        · rw [fX5_findState_L20.eq_2, show fX0_sectors (nI n) = some (nI n) from rfl, ob, if_neg (n_le (by omega) (by omega)), a1, ob, if_neg hc, b1, ob, if_neg (show ¬ (1 : Int32) = 0 by decide), if_neg hle, b2, ob, nI_1]
        · unfold fX6_takeState
          rw [a2, ob, if_neg (show ¬ (1 : Int32) = 0 by decide), c1, ob, if_neg hz, c2, ob, if_neg hle, if_neg (show ¬ (1 : Int32) = 0 by decide), ob, c3, ob]
theorem ts_2 {f d : Nat → Int32} {B : Nat → Nat} (hD : Dk B f d) {n : Nat} (hn : 8 ≤ n) (hn2 : n ≤ 32) (rp : Int32) :
    ∃ (num rp' nu1 rp1 : Int32) (st st1 : Int64) (f' d' d1 : Nat → Int32) (B' : Nat → Nat), fX5_findState rp (nI n) f = some (st, num, rp', f') ∧ fX6_takeState (nI n) 0 0 rp d (nI n - 2) = some (nu1, st1, rp1, d1) ∧ fX6_takeState (nI n) nu1 st1 rp1 d1 (nI n - 1) = some (num, st, rp', d') ∧ Dk B' f' d' := by
  obtain ⟨x1, nu1, rp1, st1, f1, d1, B1, a1, a2, a3, a4⟩ := ts_1 hD hn hn2 (s := n - 2) (by omega) (by omega) rp 0 0 0 (Or.inl ⟨rfl, rfl⟩)
  obtain ⟨x2, nu2, rp2, st2, f2, d2, B2, b1, b2, b3, b4⟩ := ts_1 a3 hn hn2 (s := n - 2 + 1) (by omega) (by omega) rp1 x1 nu1 st1 a4
  refine ⟨nu2, rp2, nu1, rp1, st2, st1, f2, d2, d1, B2, ?_, ?_, ?_, b3⟩
  · have e6 : fX0_rowSectors (nI n) = some (nI (n - 2)) := by unfold fX0_rowSectors; rw [s_2 (by omega)]
    unfold fX5_findState
    rw [e6, ob]
    show (fX5_findState_L20 (nI n) (999997 + 1 + 1 + 1) 0 (nI (n - 2)) 0 0 rp f).bind _ = _
    rw [a1, b1, fX5_findState_L20.eq_2, show fX0_sectors (nI n) = some (nI n) from rfl, ob, if_pos (p_le (by omega) (by omega)), ob]
  · rw [s_2 (by omega)]
    exact a2
  · rw [show nI n - 1 = nI (n - 2 + 1) from by rw [show n - 2 + 1 = n - 1 by omega]; exact pk_sub (b := 1) (by omega)]
    exact b2
