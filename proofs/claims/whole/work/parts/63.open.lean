/-! A START OPENS A SECTOR, on both sides -/
section LC
variable {B B' : Nat → Nat} {p q : Nat}
theorem SUM_loc (h : ∀ j, j < 512 → B (p + j) = B' (q + j)) : ∀ k, k ≤ 508 → SUM B p k = SUM B' q k := by
  intro k
  induction k with
  | zero => intro _; rfl
  | succ k ih => intro hk; rw [SUM, SUM, ih (by omega), h k (by omega)]
theorem S5_loc (h : ∀ j, j < 512 → B (p + j) = B' (q + j)) : S5 B p = S5 B' q := SUM_loc h 508 (by omega)
theorem I4_loc (h : ∀ j, j < 512 → B (p + j) = B' (q + j)) {k : Nat} (hk : k + 3 < 512) : I4 B (p + k) = I4 B' (q + k) := by
  unfold I4
  rw [h k (by omega), show B (p + k + 1) = B' (q + k + 1) from h (k + 1) (by omega), show B (p + k + 2) = B' (q + k + 2) from h (k + 2) (by omega), show B (p + k + 3) = B' (q + k + 3) from h (k + 3) (by omega)]
theorem rowsN_loc (h : ∀ j, j < 512 → B (p + j) = B' (q + j)) {e : Nat} (he : e ≤ 508) : ∀ (t n k : Nat), k ≤ e → rowsN B (p + e) t n (p + k) = rowsN B' (q + e) t n (q + k) := by
  intro t
  induction t with
  | zero => intro n k hk; rfl
  | succ t ih =>
    intro n k hk
    have h0 := h k (by omega)
    have h1 : B (p + k + 1) = B' (q + k + 1) := h (k + 1) (by omega)
    by_cases h2 : e ≤ k
    · rw [rowsN_end (by omega), rowsN_end (by omega)]
    · by_cases h3 : e < k + 2 ∨ 7 < B' (q + k) ∨ B' (q + k + 1) < 1 ∨ 8 < B' (q + k + 1) ∨ e < k + 2 + B' (q + k + 1)
      · rw [rowsN_bad (by omega) (by omega), rowsN_bad (by omega) (by omega)]
      · rw [rowsN_go (by omega) (by omega), rowsN_go (by omega) (by omega), h1]
        have := ih (n + 1) (k + 2 + B' (q + k + 1)) (by omega)
        rw [show p + (k + 2 + B' (q + k + 1)) = p + k + 2 + B' (q + k + 1) by omega, show q + (k + 2 + B' (q + k + 1)) = q + k + 2 + B' (q + k + 1) by omega] at this
        exact this
theorem lenB_loc (h : ∀ j, j < 512 → B (p + j) = B' (q + j)) : lenB B p = lenB B' q := by
  unfold lenB
  rw [h 4 (by omega), h 5 (by omega)]
theorem nrows_loc (h : ∀ j, j < 512 → B (p + j) = B' (q + j)) : nrows B p = nrows B' q := by
  unfold nrows
  rw [h 4 (by omega), h 5 (by omega)]
  by_cases h2 : B' (q + 4) * 256 + B' (q + 5) ≤ 502
  · rw [if_pos h2, if_pos h2, Nat.add_assoc, Nat.add_assoc]
    exact rowsN_loc h (by omega) dkF 0 6 (by omega)
  · rw [if_neg h2, if_neg h2]
theorem sok_loc (h : ∀ j, j < 512 → B (p + j) = B' (q + j)) : sok B p = sok B' q := by
  unfold sok
  rw [S5_loc h, I4_loc h (k := 508) (by omega)]
end LC
theorem rgt_loc {B B' : Nat → Nat} {n c c' s : Nat} (h : ∀ j, j < 512 → B (pos c s + j) = B' (pos c' s + j)) : rgt B n c s = rgt B' n c' s := by
  unfold rgt
  have h0 : I4 B (pos c s) = I4 B' (pos c' s) := I4_loc h (k := 0) (by omega)
  rw [sok_loc h, h0, nrows_loc h, lenB_loc h]
theorem os {f d : Nat → Int32} {B : Nat → Nat} (hD : Dk B f d) {n s : Nat} (hn : 8 ≤ n) (hn2 : n ≤ 32) (hs : s < 32) (rp : Int32) : (fX5_openSector rp (nI n) f (nI s) = some (-1, rp, f) ∧ fX6_repair (nI n) rp d (nI s) = some (0, rp, d)) ∨ (∃ (c : Nat) (rp' : Int32) (f' d' : Nat → Int32) (B' : Nat → Nat), c < 2 ∧ fX5_openSector rp (nI n) f (nI s) = some (nI c, rp', f') ∧ fX6_repair (nI n) rp d (nI s) = some (1, rp', d') ∧ Dk B' f' d' ∧ ¬ rgt B' n 0 s = 0 ∧ ∀ j, j < 512 → B' (pos c s + j) = B' (pos 0 s + j)) := by
  have c0 : fX0_isRight (nI n) f 0 (nI s) = some (rgt B n 0 s) := c_isRight hD.HB hD.hf (c := 0) hn hn2 (by omega) hs
  have c1 : fX0_isRight (nI n) f 1 (nI s) = some (rgt B n 1 s) := c_isRight hD.HB hD.hf (c := 1) hn hn2 (by omega) hs
  have m0 : fX6_isRight (nI n) d 0 (nI s) = some (rgt B n 0 s) := m_isRight hD.HB hD.hd (c := 0) hn hn2 (by omega) hs
  have m1 : fX6_isRight (nI n) d 1 (nI s) = some (rgt B n 1 s) := m_isRight hD.HB hD.hd (c := 1) hn hn2 (by omega) hs
  have mr := m_rc hD.HB hD.hd hn hn2 hs
  have hp0 : pos 0 s + 512 ≤ pos 1 s := by unfold pos; omega
  unfold fX5_openSector fX6_repair
  rw [c0, ob, c1, ob, mr, ob]
  rcases rgt_01 B n 0 s with h0 | h0
  · rcases rgt_01 B n 1 s with h1 | h1
    · left
      unfold rcopy
      rw [h0, h1]
      exact ⟨rfl, rfl⟩
    · right
      obtain ⟨f', ef, hf'⟩ := c_copyOver hD.hf (c := 1) (s := s) (by omega) hs
      obtain ⟨d', ed, hd'⟩ := m_rep hD.hd (c := 1) (s := s) (by omega) hs
      have ef : fX0_copyOver f 1 (nI s) = some f' := ef
      have ed : fX6_repair_L25 (nI s) 1 dkF 0 d = some (nI 512, d') := ed
      have hx : ∀ j, j < 512 → cpB B (pos 1 s) (pos 0 s) (pos 0 s + j) = B (pos 1 s + j) := by
        intro j hj
        unfold cpB
        rw [if_pos (by omega), show pos 1 s + (pos 0 s + j - pos 0 s) = pos 1 s + j by omega]
      have hy : ∀ j, j < 512 → cpB B (pos 1 s) (pos 0 s) (pos 1 s + j) = B (pos 1 s + j) := by
        intro j hj
        unfold cpB
        rw [if_neg (by omega)]
      refine ⟨1, rp + 1, f', d', cpB B (pos 1 s) (pos 0 s), by omega, ?_, ?_, ⟨cpB_lt hD.HB, hf', hd'⟩, ?_, fun j hj => by rw [hx j hj, hy j hj]⟩
      · rw [h0, h1, if_pos rfl, if_neg (show ¬ (1 : Int32) = 0 by decide), if_neg (show ¬ (0 : Int32) = 1 by decide), if_pos rfl, ef, ob]
        rfl
      · unfold rcopy
        rw [h0, h1, if_pos rfl, if_neg (show ¬ (1 : Int32) = 0 by decide), if_pos (show (0 : Int32) ≤ 1 by decide), show (1 : Int32) - 1 = 0 from rfl, m0, ob, h0, if_pos rfl, ed, ob]
      · rw [rgt_loc hx, h1]
        decide
  · rcases rgt_01 B n 1 s with h1 | h1
    · right
      obtain ⟨f', ef, hf'⟩ := c_copyOver hD.hf (c := 0) (s := s) (by omega) hs
      obtain ⟨d', ed, hd'⟩ := m_rep hD.hd (c := 0) (s := s) (by omega) hs
      have ef : fX0_copyOver f 0 (nI s) = some f' := ef
      have ed : fX6_repair_L25 (nI s) 0 dkF 0 d = some (nI 512, d') := ed
      have hy : ∀ j, j < 512 → cpB B (pos 0 s) (pos 1 s) (pos 0 s + j) = B (pos 0 s + j) := by
        intro j hj
        unfold cpB
        rw [if_neg (by omega)]
      refine ⟨0, rp + 1, f', d', cpB B (pos 0 s) (pos 1 s), by omega, ?_, ?_, ⟨cpB_lt hD.HB, hf', hd'⟩, ?_, fun j hj => rfl⟩
      · rw [h0, h1, if_neg (show ¬ (1 : Int32) = 0 by decide), if_neg (show ¬ (1 : Int32) = 0 by decide), if_neg (show ¬ (1 : Int32) = 0 by decide), ef, ob]
        rfl
      · unfold rcopy
        rw [h0, if_neg (show ¬ (1 : Int32) = 0 by decide), if_pos (show (0 : Int32) ≤ 0 by decide), show (1 : Int32) - 0 = 1 from rfl, m1, ob, h1, if_pos rfl, ed, ob]
      · rw [rgt_loc hy, h0]
        decide
    · right
      refine ⟨0, rp, f, d, B, by omega, ?_, ?_, hD, by rw [h0]; decide, fun j hj => rfl⟩
      · rw [h0, h1, if_neg (show ¬ (1 : Int32) = 0 by decide), if_pos rfl]
        rfl
      · unfold rcopy
        rw [h0, if_neg (show ¬ (1 : Int32) = 0 by decide), if_pos (show (0 : Int32) ≤ 0 by decide), show (1 : Int32) - 0 = 1 from rfl, m1, ob, h1, if_neg (show ¬ (1 : Int32) = 0 by decide)]
