/-! RIGHT SECTORS -/
theorem ob {α β : Type} {x : α} {f : α → Option β} : (some x).bind f = f x := rfl
theorem rowsN_le {B : Nat → Nat} {e : Nat} : ∀ (t c k : Nat), k ≤ e → 3 * rowsN B e t c k ≤ 3 * c + (e - k) := by
  intro t
  induction t with
  | zero => intro c k h; show 3 * 0 ≤ _; omega
  | succ t ih =>
    intro c k h
    by_cases h1 : e ≤ k
    · rw [rowsN_end h1]; omega
    · by_cases h2 : e < k + 2 ∨ 7 < B k ∨ B (k + 1) < 1 ∨ 8 < B (k + 1) ∨ e < k + 2 + B (k + 1)
      · rw [rowsN_bad (by omega) h2]; omega
      · rw [rowsN_go (by omega) h2]
        have := ih (c + 1) (k + 2 + B (k + 1)) (by omega)
        omega
theorem nrows_le (B : Nat → Nat) (p : Nat) : nrows B p ≤ 167 := by
  unfold nrows
  by_cases h : B (p + 4) * 256 + B (p + 5) ≤ 502
  · rw [if_pos h]
    have := rowsN_le (B := B) (e := p + 6 + (B (p + 4) * 256 + B (p + 5))) dkF 0 (p + 6) (by omega)
    omega
  · rw [if_neg h]; omega
def lenB (B : Nat → Nat) (p : Nat) : Nat := B (p + 4) * 256 + B (p + 5)
def pos (c s : Nat) : Nat := 512 * (32 * c + s)
def rgt (B : Nat → Nat) (n c s : Nat) : Int32 := if sok B (pos c s) = 0 then 0 else if s + 2 < n then (if nI (I4 B (pos c s)) = nI (s + 1) then (if nrows B (pos c s) = 0 then 0 else 1) else 0) else (if nI (I4 B (pos c s)) = 0 then 0 else (if lenB B (pos c s) = 8 then 1 else 0))
theorem pos_lt {c s : Nat} (hc : c < 2) (hs : s < 32) : pos c s + 512 ≤ 32768 := by unfold pos; omega
theorem sok_01 (B : Nat → Nat) (p : Nat) : dk_01 (sok B p) := q_01 q_o1 q_o0
theorem q_le0 {a : Nat} (ha : a < 40000) : (nI a ≤ 0) ↔ a = 0 := by
  constructor
  · intro h
    rcases Nat.eq_zero_or_pos a with h1 | h1
    · exact h1
    · exact absurd h (nI_nle h1 (n2 ha))
  · intro h; subst h; exact p_le (Nat.le_refl 0) (by omega)
theorem s_2 {n : Nat} (h : 2 ≤ n) : nI n - 2 = nI (n - 2) := pk_sub (b := 2) h
theorem rgt_01 (B : Nat → Nat) (n c s : Nat) : dk_01 (rgt B n c s) := by
  unfold rgt
  exact q_01 q_o0 (q_01 (q_01 (q_01 q_o0 q_o1) q_o0) (q_01 q_o0 (q_01 q_o1 q_o0)))
section PI
variable {f d : Nat → Int32} {B : Nat → Nat}
theorem c_isRight (HB : ∀ j, B j < 256) (hf : ∀ j, j < 32768 → f j = qs (B j)) {n c s : Nat} (hn : 8 ≤ n) (hn2 : n ≤ 32) (hc : c < 2) (hs : s < 32) : fX0_isRight (nI n) f (nI c) (nI s) = some (rgt B n c s) := by
  have hp := pos_lt hc hs
  have e1 : fX0_firstCell (nI c) (nI s) = some (nI (pos c s)) := c_first
  have e2 := c_intOf HB hf (p := pos c s) (by omega)
  have e3 : fX0_dataBytesOf f (nI (pos c s)) = some (nI (lenB B (pos c s))) := c_dataB HB hf (p := pos c s) (by omega)
  have e4 := c_whole HB hf (p := pos c s) (by omega)
  have e5 := c_hasSum HB hf (p := pos c s) (by omega)
  have hL : lenB B (pos c s) < 66000 := by unfold lenB; have := HB (pos c s + 4); have := HB (pos c s + 5); omega
  unfold fX0_isRight rgt
  have e6 : fX0_rowSectors (nI n) = some (nI (n - 2)) := by unfold fX0_rowSectors; rw [s_2 (by omega)]
  rw [e1, ob, e2, ob, e6, ob, e3, e4, e5, ob, ob, ob, nI_1]
  by_cases h2 : s + 2 < n
  · rw [if_neg (n_le (by omega) (by omega)), if_pos h2]
    by_cases h3 : nI (I4 B (pos c s)) = nI (s + 1)
    · rw [if_pos h3, if_pos h3]
      by_cases h4 : nrows B (pos c s) = 0
      · rw [if_pos h4]
        rw [if_pos (show (0 : Int32) = 0 from rfl)]
        by_cases h1 : sok B (pos c s) = 0
        · rw [if_pos h1]
        · rw [if_neg h1]
      · rw [if_neg h4]
        rw [if_neg (show ¬ (1 : Int32) = 0 by decide), q_z']
    · rw [if_neg h3, if_neg h3]
      by_cases h1 : sok B (pos c s) = 0
      · rw [if_pos h1]
      · rw [if_neg h1]
  · rw [if_pos (p_le (by omega) (by omega)), if_neg h2]
    by_cases h3 : nI (I4 B (pos c s)) = 0
    · rw [if_pos h3, if_pos h3]
      by_cases h1 : sok B (pos c s) = 0
      · rw [if_pos h1]
      · rw [if_neg h1]
    · rw [if_neg h3, if_neg h3]
      by_cases h4 : lenB B (pos c s) = 8
      · rw [if_pos (show nI (lenB B (pos c s)) = 8 by rw [h4]; rfl), if_pos h4, q_z']
      · rw [if_neg (show ¬ nI (lenB B (pos c s)) = 8 from fun q => h4 ((nI_eq (b := 8) (by omega) (by omega)).mp q)), if_neg h4]
        by_cases h1 : sok B (pos c s) = 0
        · rw [if_pos h1]
        · rw [if_neg h1]
theorem m_isRight (HB : ∀ j, B j < 256) (hd : ∀ j, j < 32768 → d j = nI (B j)) {n c s : Nat} (hn : 8 ≤ n) (hn2 : n ≤ 32) (hc : c < 2) (hs : s < 32) : fX6_isRight (nI n) d (nI c) (nI s) = some (rgt B n c s) := by
  have hp := pos_lt hc hs
  have e1 : fX6_at (nI c) (nI s) = some (nI (pos c s)) := m_at
  have e2 := m_four HB hd (p := pos c s) (by omega)
  have e3 : fX6_lengthOf d (nI (pos c s)) = some (nI (lenB B (pos c s))) := m_len HB hd (p := pos c s) (by omega)
  have e4 := m_rowsOn HB hd (p := pos c s) (by omega)
  have e5 := m_summed HB hd (p := pos c s) (by omega)
  have hr := nrows_le B (pos c s)
  have hL : lenB B (pos c s) < 66000 := by unfold lenB; have := HB (pos c s + 4); have := HB (pos c s + 5); omega
  unfold fX6_isRight rgt
  rw [e1, ob, e5, ob, e2, ob, ob, s_2 (by omega), nI_1, e4, ob, e3, ob]
  by_cases h1 : sok B (pos c s) = 0
  · rw [if_pos h1, if_pos h1]
  · rw [if_neg h1, if_neg h1]
    by_cases h2 : s + 2 < n
    · rw [if_pos (p_lt (by omega) (by omega)), if_pos h2]
      by_cases h3 : nI (I4 B (pos c s)) = nI (s + 1)
      · rw [if_pos h3, if_pos h3]
        rw [q_z']
        by_cases h4 : nrows B (pos c s) = 0
        · rw [if_pos ((q_le0 (by omega)).mpr h4), if_pos h4]
        · rw [if_neg (fun q => h4 ((q_le0 (by omega)).mp q)), if_neg h4]
      · rw [if_neg h3, if_neg h3]
    · rw [if_neg (n_lt (by omega) (by omega)), if_neg h2]
      by_cases h3 : nI (I4 B (pos c s)) = 0
      · rw [if_pos h3, if_pos h3]
      · rw [if_neg h3, if_neg h3]
        rw [q_z]
        by_cases h4 : lenB B (pos c s) = 8
        · rw [if_pos (show nI (lenB B (pos c s)) = 8 by rw [h4]; rfl), if_pos h4]
        · rw [if_neg (show ¬ nI (lenB B (pos c s)) = 8 from fun q => h4 ((nI_eq (b := 8) (by omega) (by omega)).mp q)), if_neg h4]
/-- the copy that a sector is read from -/
def rcopy (B : Nat → Nat) (n s : Nat) : Int32 := if rgt B n 0 s = 0 then (if rgt B n 1 s = 0 then -1 else 1) else 0
theorem c_frc (HB : ∀ j, B j < 256) (hf : ∀ j, j < 32768 → f j = qs (B j)) {n s : Nat} (hn : 8 ≤ n) (hn2 : n ≤ 32) (hs : s < 32) : fX0_firstRightCopy (nI n) f (nI s) = some (rcopy B n s) := by
  have h0 : fX0_isRight (nI n) f 0 (nI s) = _ := c_isRight HB hf (c := 0) hn hn2 (by omega) hs
  have h1 : fX0_isRight (nI n) f 1 (nI s) = _ := c_isRight HB hf (c := 1) hn hn2 (by omega) hs
  unfold fX0_firstRightCopy rcopy
  show fX0_firstRightCopy_L2 (nI n) f (nI s) (999997 + 1 + 1 + 1) 0 = _
  rw [fX0_firstRightCopy_L2.eq_2, if_neg (show ¬ (2 : Int32) ≤ 0 by decide), h0, ob]
  by_cases g0 : rgt B n 0 s = 0
  · rw [if_pos g0, if_pos g0, show (0 + 1 : Int32) = 1 from rfl, fX0_firstRightCopy_L2.eq_2, if_neg (show ¬ (2 : Int32) ≤ 1 by decide), h1, ob]
    by_cases g1 : rgt B n 1 s = 0
    · rw [if_pos g1, if_pos g1, fX0_firstRightCopy_L2.eq_2, if_pos (show (2 : Int32) ≤ 1 + 1 by decide)]
    · rw [if_neg g1, if_neg g1]
  · rw [if_neg g0, if_neg g0]
theorem m_rc (HB : ∀ j, B j < 256) (hd : ∀ j, j < 32768 → d j = nI (B j)) {n s : Nat} (hn : 8 ≤ n) (hn2 : n ≤ 32) (hs : s < 32) : fX6_rightCopy (nI n) d (nI s) = some (rcopy B n s) := by
  have h0 : fX6_isRight (nI n) d 0 (nI s) = _ := m_isRight HB hd (c := 0) hn hn2 (by omega) hs
  have h1 : fX6_isRight (nI n) d 1 (nI s) = _ := m_isRight HB hd (c := 1) hn hn2 (by omega) hs
  unfold fX6_rightCopy rcopy
  rw [h0, ob, h1, ob]
  by_cases g0 : rgt B n 0 s = 0
  · rw [if_pos g0, if_pos g0]
  · rw [if_neg g0, if_neg g0]
end PI
