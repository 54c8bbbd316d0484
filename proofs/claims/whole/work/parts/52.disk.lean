/-! READING THE DISK, on both sides -/
def stp (x y : Int32) : Int32 := (((x ^^^ y) <<< ((5 : Int32) &&& 31)) ||| (dk_iushr (x ^^^ y) 27)) * (-2048144789)
def SUM (B : Nat → Nat) (p : Nat) : Nat → Int32
  | 0 => 0
  | k + 1 => stp (SUM B p k) (nI (B (p + k)))
theorem c_step (x y : Int32) : fX5_sumStep x y = some (stp x y) := rfl
theorem m_step (x y : Int32) : fX6_with x y = some (stp x y) := rfl
theorem n2 {j : Nat} (h : j < 40000) : j < 2 ^ 31 := by omega
theorem p_le {a b : Nat} (h : a ≤ b) (hb : b < 40000) : nI a ≤ nI b := nI_le h (n2 hb)
theorem n_le {a b : Nat} (h : b < a) (ha : a < 40000) : ¬ nI a ≤ nI b := nI_ge h (n2 ha)
theorem p_lt {a b : Nat} (h : a < b) (hb : b < 40000) : nI a < nI b := nI_lt h (n2 hb)
theorem n_lt {a b : Nat} (h : b ≤ a) (ha : a < 40000) : ¬ nI a < nI b := nI_nlt h (n2 ha)
theorem n_eq {a b : Nat} (h : a ≠ b) (ha : a < 40000) (hb : b < 40000) : ¬ nI a = nI b := fun q => h ((nI_eq (n2 ha) (n2 hb)).mp q)
theorem p_in {j N : Nat} (h : j < N) (hN : N < 40000) : dk_in (nI j) N := (q_in (n2 (by omega))).mpr h
section PD
variable {f d : Nat → Int32} {B : Nat → Nat}
theorem c_sumL (HB : ∀ j, B j < 256) {N p : Nat} (hN : N ≤ 32768) (hf : ∀ j, j < N → f j = qs (B j)) (hp : p + 508 ≤ N) : ∀ (n k : Nat), k ≤ 508 → 508 < n + k → fX5_sumOf_L20 N f (nI (p + 508)) n (SUM B p k) (nI (p + k)) = some (SUM B p 508, nI (p + 508)) := by
  intro n
  induction n with
  | zero => intro k h1 h2; omega
  | succ n ih =>
    intro k h1 h2
    rw [fX5_sumOf_L20.eq_2]
    by_cases h : k = 508
    · subst h
      rw [if_pos (p_le (by omega) (by omega))]
    · rw [if_neg (n_le (by omega) (by omega)), if_pos (p_in (by omega) (by omega)), nI_clamp (n2 (by omega)), hf _ (by omega), qs_and _ (HB _), c_step]
      show fX5_sumOf_L20 N f (nI (p + 508)) n (SUM B p (k + 1)) (nI (p + k) + 1) = _
      rw [nI_1]
      exact ih (k + 1) (by omega) (by omega)
/-- the sum of a sector -/
def S5 (B : Nat → Nat) (p : Nat) : Int32 := SUM B p 508
theorem c_sumOf (HB : ∀ j, B j < 256) {N p : Nat} (hN : N ≤ 32768) (hf : ∀ j, j < N → f j = qs (B j)) (hp : p + 508 ≤ N) : fX5_sumOf N f (nI p) = some (S5 B p) := by
  unfold fX5_sumOf
  have e1 : nI p + 508 = nI (p + 508) := nI_add p 508
  have h0 : ¬ nI p < 0 := nI_pos (n2 (by omega))
  rw [e1, if_neg (n_lt (by omega) (by omega)), if_neg h0]
  have h : fX5_sumOf_L20 N f (nI (p + 508)) dkF (SUM B p 0) (nI p) = _ := c_sumL HB hN hf hp dkF 0 (by omega) (by unfold dkF; omega)
  show (fX5_sumOf_L20 N f (nI (p + 508)) dkF (SUM B p 0) (nI p)).bind _ = _
  rw [h]
  rfl
theorem c_byteOf (HB : ∀ j, B j < 256) (hf : ∀ j, j < 32768 → f j = qs (B j)) {j : Nat} (hj : j < 32768) : fX0_byteOf f (nI j) = some (nI (B j)) := by
  unfold fX0_byteOf
  rw [if_neg (nI_pos (n2 (by omega))), if_neg (n_le hj (by omega)), if_pos (p_in hj (by omega)), nI_clamp (n2 (by omega)), hf _ hj, qs_and _ (HB _)]
theorem c_intOf (HB : ∀ j, B j < 256) (hf : ∀ j, j < 32768 → f j = qs (B j)) {p : Nat} (hp : p + 3 < 32768) : fX0_intOf f (nI p) = some (nI (I4 B p)) := by
  unfold fX0_intOf
  have e (k : Nat) : nI p + nI k = nI (p + k) := nI_add p k
  have s (n k : Nat) (v : Nat) (hk : k < 4) : fX0_intOf_L4 f (nI p) (n + 1) (nI v) (nI k) = fX0_intOf_L4 f (nI p) n (nI (v * 256 + B (p + k))) (nI (k + 1)) := by
    rw [fX0_intOf_L4.eq_2, show (4 : Int32) = nI 4 from rfl, if_neg (n_le (by omega) (by omega)), e, c_byteOf HB hf (by omega)]
    show fX0_intOf_L4 f (nI p) n ((nI v <<< ((8 : Int32) &&& 31)) ||| nI (B (p + k))) (nI k + 1) = _
    rw [q_sh8 (HB _), nI_1]
  have h : fX0_intOf_L4 f (nI p) dkF (nI 0) (nI 0) = some (nI (I4 B p), nI 4) := by
    show fX0_intOf_L4 f (nI p) (999995 + 1 + 1 + 1 + 1 + 1) (nI 0) (nI 0) = _
    rw [s _ 0 0 (by omega), s _ 1 _ (by omega), s _ 2 _ (by omega), s _ 3 _ (by omega), fX0_intOf_L4.eq_2, show (4 : Int32) = nI 4 from rfl, if_pos (nI_le (Nat.le_refl 4) (by omega))]
    unfold I4
    simp only [Nat.add_zero, Nat.zero_mul, Nat.zero_add]
  show (fX0_intOf_L4 f (nI p) dkF (nI 0) (nI 0)).bind _ = _
  rw [h]
  rfl
theorem c_dataB (HB : ∀ j, B j < 256) (hf : ∀ j, j < 32768 → f j = qs (B j)) {p : Nat} (hp : p + 5 < 32768) : fX0_dataBytesOf f (nI p) = some (nI (B (p + 4) * 256 + B (p + 5))) := by
  unfold fX0_dataBytesOf
  have e1 : nI p + 4 = nI (p + 4) := nI_add p 4
  have e2 : nI (p + 4) + 1 = nI (p + 5) := nI_add (p + 4) 1
  rw [e1, e2, c_byteOf HB hf (by omega), c_byteOf HB hf (by omega)]
  show some ((nI (B (p + 4)) <<< ((8 : Int32) &&& 31)) ||| nI (B (p + 5))) = _
  rw [q_sh8 (HB _)]
theorem c_first {c s : Nat} : fX0_firstCell (nI c) (nI s) = some (nI (512 * (32 * c + s))) := by
  unfold fX0_firstCell
  rw [show (32 : Int32) = nI 32 from rfl, show (512 : Int32) = nI 512 from rfl, pk_mul, nI_add, pk_mul]
  congr 2
  omega
/-! the reference -/
theorem m_at {c s : Nat} : fX6_at (nI c) (nI s) = some (nI (512 * (32 * c + s))) := by
  unfold fX6_at
  rw [show (32 : Int32) = nI 32 from rfl, show (512 : Int32) = nI 512 from rfl, pk_mul, nI_add, pk_mul]
theorem m_rd (hd : ∀ j, j < 32768 → d j = nI (B j)) {j : Nat} (hj : j < 32768) : d (nI j).toNatClampNeg = nI (B j) := by rw [nI_clamp (n2 (by omega)), hd _ hj]
theorem m_four (HB : ∀ j, B j < 256) (hd : ∀ j, j < 32768 → d j = nI (B j)) {p : Nat} (hp : p + 3 < 32768) : fX6_four d (nI p) = some (nI (I4 B p)) := by
  unfold fX6_four
  have e1 : nI p + 1 = nI (p + 1) := nI_add p 1
  have e2 : nI p + 2 = nI (p + 2) := nI_add p 2
  have e3 : nI p + 3 = nI (p + 3) := nI_add p 3
  rw [e1, e2, e3, if_pos (p_in (by omega) (by omega)), if_pos (p_in (by omega) (by omega)), if_pos (p_in (by omega) (by omega)), if_pos (p_in (by omega) (by omega))]
  rw [m_rd hd (by omega), m_rd hd (by omega), m_rd hd (by omega), m_rd hd (by omega), q_four (HB _) (HB _) (HB _)]
  rfl
theorem m_len (HB : ∀ j, B j < 256) (hd : ∀ j, j < 32768 → d j = nI (B j)) {p : Nat} (hp : p + 5 < 32768) : fX6_lengthOf d (nI p) = some (nI (B (p + 4) * 256 + B (p + 5))) := by
  unfold fX6_lengthOf
  have e1 : nI p + 4 = nI (p + 4) := nI_add p 4
  have e2 : nI p + 5 = nI (p + 5) := nI_add p 5
  rw [e1, e2, if_pos (p_in (by omega) (by omega)), if_pos (p_in (by omega) (by omega)), m_rd hd (by omega), m_rd hd (by omega), q_sh8 (HB _)]
theorem m_sumL (hd : ∀ j, j < 32768 → d j = nI (B j)) {p : Nat} (hp : p + 508 ≤ 32768) : ∀ (n k : Nat), k ≤ 508 → 508 < n + k → fX6_isSummed_L4 d (nI p) n (SUM B p k) (nI k) = some (SUM B p 508, nI 508) := by
  intro n
  induction n with
  | zero => intro k h1 h2; omega
  | succ n ih =>
    intro k h1 h2
    rw [fX6_isSummed_L4.eq_2, show (508 : Int32) = nI 508 from rfl]
    by_cases h : k = 508
    · subst h
      rw [if_pos (p_le (by omega) (by omega))]
    · rw [if_neg (n_le (by omega) (by omega)), nI_add, if_pos (p_in (by omega) (by omega)), m_rd hd (by omega), m_step]
      show fX6_isSummed_L4 d (nI p) n (SUM B p (k + 1)) (nI k + 1) = _
      rw [nI_1]
      exact ih (k + 1) (by omega) (by omega)
theorem q_01 {c : Prop} [Decidable c] {a b : Int32} (ha : dk_01 a) (hb : dk_01 b) : dk_01 (if c then a else b) := by
  by_cases h : c
  · rw [if_pos h]; exact ha
  · rw [if_neg h]; exact hb
theorem q_o0 : dk_01 0 := Or.inl rfl
theorem q_o1 : dk_01 1 := Or.inr rfl
theorem q_z {c : Prop} [Decidable c] : (if dk_01 (if c then 1 else 0) then some (if c then (1 : Int32) else 0) else none) = some (if c then 1 else 0) := if_pos (q_01 q_o1 q_o0)
theorem q_z' {c : Prop} [Decidable c] : (if dk_01 (if c then 0 else 1) then some (if c then (0 : Int32) else 1) else none) = some (if c then 0 else 1) := if_pos (q_01 q_o0 q_o1)
theorem q_eqS (x y z : Int32) : ((some (x, z)).bind fun o1 => (some y).bind fun o2 => if dk_01 (if o1.1 = o2 then 1 else 0) then some (if o1.1 = o2 then (1 : Int32) else 0) else none) = some (if x = y then 1 else 0) := q_z
theorem q_eqT (x y : Int32) : ((some x).bind fun o1 => (some y).bind fun o2 => if dk_01 (if o1 = o2 then 1 else 0) then some (if o1 = o2 then (1 : Int32) else 0) else none) = some (if x = y then 1 else 0) := q_z
/-- its sum is so -/
def sok (B : Nat → Nat) (p : Nat) : Int32 := if S5 B p = nI (I4 B (p + 508)) then 1 else 0
theorem m_summed (HB : ∀ j, B j < 256) (hd : ∀ j, j < 32768 → d j = nI (B j)) {p : Nat} (hp : p + 512 ≤ 32768) : fX6_isSummed d (nI p) = some (sok B p) := by
  unfold fX6_isSummed sok
  have h : fX6_isSummed_L4 d (nI p) dkF (SUM B p 0) (nI 0) = some (S5 B p, nI 508) := m_sumL hd (p := p) (by omega) dkF 0 (by omega) (by unfold dkF; omega)
  have h : fX6_isSummed_L4 d (nI p) dkF 0 0 = some (S5 B p, nI 508) := h
  have e : nI p + 508 = nI (p + 508) := nI_add p 508
  rw [h, e, m_four HB hd (by omega)]
  exact q_eqS _ _ _
theorem c_hasSum (HB : ∀ j, B j < 256) (hf : ∀ j, j < 32768 → f j = qs (B j)) {p : Nat} (hp : p + 512 ≤ 32768) : fX0_hasItsSum f (nI p) = some (sok B p) := by
  unfold fX0_hasItsSum sok
  have e : nI p + 508 = nI (p + 508) := nI_add p 508
  rw [c_sumOf HB (Nat.le_refl _) hf (by omega), e, c_intOf HB hf (by omega)]
  exact q_eqT _ _
end PD
