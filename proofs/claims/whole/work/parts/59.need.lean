/-! HOW MANY SECTORS ROWS NEED -/
def need (M : Nat → Nat) : Nat → Nat → Nat → Nat
  | 0, _, _ => 0
  | k + 1, i, l => if M i + 2 ≤ l then need M k (i + 1) (l - (M i + 2)) else need M k (i + 1) (502 - (M i + 2)) + 1
theorem need_s {M : Nat → Nat} {k i l : Nat} (h : M i + 2 ≤ l) : need M (k + 1) i l = need M k (i + 1) (l - (M i + 2)) := by rw [need, if_pos h]
theorem need_n {M : Nat → Nat} {k i l : Nat} (h : l < M i + 2) : need M (k + 1) i l = need M k (i + 1) (502 - (M i + 2)) + 1 := by rw [need, if_neg (by omega)]
theorem need_502 {M : Nat → Nat} {k i : Nat} (h : M i ≤ 8) : need M (k + 1) i 0 = need M (k + 1) i 502 + 1 := by
  rw [need_n (by omega), need_s (by omega)]
theorem need_le (M : Nat → Nat) : ∀ (k i l : Nat), need M k i l ≤ k := by
  intro k
  induction k with
  | zero => intro i l; rw [need]; omega
  | succ k ih =>
    intro i l
    rw [need]
    by_cases h : M i + 2 ≤ l
    · rw [if_pos h]; have := ih (i + 1) (l - (M i + 2)); omega
    · rw [if_neg h]; have := ih (i + 1) (502 - (M i + 2)); omega
theorem need_c {M M' : Nat → Nat} : ∀ (k i l : Nat), (∀ j, i ≤ j → j < i + k → M j = M' j) → need M k i l = need M' k i l := by
  intro k
  induction k with
  | zero => intro i l h; rfl
  | succ k ih =>
    intro i l h
    have h0 := h i (by omega) (by omega)
    rw [need, need, h0, ih (i + 1) _ (fun j h1 h2 => h j (by omega) (by omega)), ih (i + 1) _ (fun j h1 h2 => h j (by omega) (by omega))]
theorem c_lenOf {ls : Nat → Int32} {M : Nat → Nat} {w i : Nat} (hw : w ≤ 100) (hl : ∀ j, j < w → ls j = nI (M j)) (hi : i < w) : fX4_lengthOf (nI w) ls (nI i) = some (nI (M i)) := by
  unfold fX4_lengthOf
  rw [if_neg (nI_pos (n2 (by omega))), if_neg (n_le hi (by omega)), if_pos (p_in (by omega) (by omega)), nI_clamp (n2 (by omega)), hl i hi]
theorem c_secL {ls : Nat → Int32} {M : Nat → Nat} {w : Nat} (hw : w ≤ 100) (hl : ∀ j, j < w → ls j = nI (M j)) (hM : ∀ j, j ≤ w → M j ≤ 8) : ∀ (n c l i : Nat), l ≤ 502 → i ≤ w + 1 → w + 1 < n + i → c ≤ 1 + i → ∃ x y, fX4_sectorsWith_L7 (nI w) ls (nI (2 + M w)) n (nI c) (nI (502 - l)) (nI i) = some (nI (c + need M (w + 1 - i) i l), x, y) := by
  intro n
  induction n with
  | zero => intro c l i h1 h2; omega
  | succ n ih =>
    intro c l i h1 h2 h3 h4
    rw [fX4_sectorsWith_L7.eq_2]
    by_cases h : i = w + 1
    · subst h
      exact ⟨nI (502 - l), nI (w + 1), by rw [if_pos (p_lt (by omega) (by omega)), show w + 1 - (w + 1) = 0 by omega, need]; rfl⟩
    · have hMi := hM i (by omega)
      rw [if_neg (n_lt (by omega) (by omega))]
      have ek : w + 1 - i = (w - i) + 1 := by omega
      have key : ∃ x y, (if nI (502 - l) + nI (2 + M i) ≤ (502 : Int32) then fX4_sectorsWith_L7 (nI w) ls (nI (2 + M w)) n (nI c) (nI (502 - l) + nI (2 + M i)) (nI i + 1) else fX4_sectorsWith_L7 (nI w) ls (nI (2 + M w)) n (nI c + 1) (0 + nI (2 + M i)) (nI i + 1)) = some (nI (c + need M (w + 1 - i) i l), x, y) := by
        rw [nI_add, nI_1, nI_1, show (0 : Int32) + nI (2 + M i) = nI (2 + M i) from by rw [i_0, nI_add, Nat.zero_add], i_502]
        by_cases h5 : M i + 2 ≤ l
        · rw [if_pos (p_le (by omega) (by omega)), ek, need_s h5, show 502 - l + (2 + M i) = 502 - (l - (M i + 2)) by omega]
          have := ih c (l - (M i + 2)) (i + 1) (by omega) (by omega) (by omega) (by omega)
          rw [show w + 1 - (i + 1) = w - i by omega] at this
          exact this
        · rw [if_neg (n_le (by omega) (by omega)), ek, need_n (by omega), show 2 + M i = 502 - (502 - (M i + 2)) by omega]
          have := ih (c + 1) (502 - (M i + 2)) (i + 1) (by omega) (by omega) (by omega) (by omega)
          rw [show w + 1 - (i + 1) = w - i by omega] at this
          rw [show c + (need M (w - i) (i + 1) (502 - (M i + 2)) + 1) = c + 1 + need M (w - i) (i + 1) (502 - (M i + 2)) by omega]
          exact this
      by_cases h6 : i = w
      · subst h6
        rw [if_pos (p_le (Nat.le_refl _) (by omega))]
        exact key
      · rw [if_neg (n_le (by omega) (by omega)), c_lenOf hw hl (by omega), ob, show (2 : Int32) + nI (M i) = nI (2 + M i) from nI_add 2 _]
        exact key
theorem c_sec {ls : Nat → Int32} {M : Nat → Nat} {w : Nat} (hw : w ≤ 100) (hl : ∀ j, j < w → ls j = nI (M j)) (hM : ∀ j, j ≤ w → M j ≤ 8) : fX4_sectorsWith (nI w) ls (2 + nI (M w)) = some (nI (need M (w + 1) 0 0)) := by
  unfold fX4_sectorsWith
  obtain ⟨x, y, h⟩ := c_secL hw hl hM dkF 1 502 0 (by omega) (by omega) (by unfold dkF; omega) (by omega)
  have h : fX4_sectorsWith_L7 (nI w) ls (nI (2 + M w)) dkF 1 0 0 = some (nI (1 + need M (w + 1) 0 502), x, y) := h
  rw [show (2 : Int32) + nI (M w) = nI (2 + M w) from nI_add 2 _, h, ob, need_502 (hM 0 (by omega)), Nat.add_comm]
theorem m_needL {wm : Nat → Int32} {M : Nat → Nat} {w : Nat} (hw : w ≤ 100) (hl : ∀ j, j < w → wm j = nI (M j)) (hM : ∀ j, j ≤ w → 1 ≤ M j ∧ M j ≤ 8) : ∀ (n c l i : Nat), l ≤ 502 → i ≤ w + 1 → w + 1 < n + i → c ≤ i → ∃ x y, fX6_needed_L7 (nI w) wm (nI (M w)) n (nI c) (nI l) (nI i) = some (nI (c + need M (w + 1 - i) i l), x, y) := by
  intro n
  induction n with
  | zero => intro c l i h1 h2; omega
  | succ n ih =>
    intro c l i h1 h2 h3 h4
    rw [fX6_needed_L7.eq_2]
    by_cases h : i = w + 1
    · subst h
      exact ⟨nI l, nI (w + 1), by rw [if_pos (p_lt (by omega) (by omega)), show w + 1 - (w + 1) = 0 by omega, need]; rfl⟩
    · have hMi := hM i (by omega)
      rw [if_neg (n_lt (by omega) (by omega))]
      have ek : w + 1 - i = (w - i) + 1 := by omega
      have hz : ¬ nI (M i) ≤ 0 := nI_nle (by omega) (n2 (by omega))
      have key : ∃ x y, (if nI (M i) ≤ 0 then fX6_needed_L7 (nI w) wm (nI (M w)) n (nI c) (nI l - (if nI (M i) ≤ 0 then 0 else (nI (M i) + 2))) (nI i + 1) else if (nI (M i) + 2) ≤ nI l then fX6_needed_L7 (nI w) wm (nI (M w)) n (nI c) (nI l - (if nI (M i) ≤ 0 then 0 else (nI (M i) + 2))) (nI i + 1) else fX6_needed_L7 (nI w) wm (nI (M w)) n (nI c + 1) (502 - (if nI (M i) ≤ 0 then 0 else (nI (M i) + 2))) (nI i + 1)) = some (nI (c + need M (w + 1 - i) i l), x, y) := by
        rw [if_neg hz, if_neg hz, show nI (M i) + 2 = nI (M i + 2) from nI_add _ 2, nI_1, nI_1, i_502]
        by_cases h5 : M i + 2 ≤ l
        · rw [if_pos (p_le h5 (by omega)), ek, need_s h5, pk_sub h5]
          have := ih c (l - (M i + 2)) (i + 1) (by omega) (by omega) (by omega) (by omega)
          rw [show w + 1 - (i + 1) = w - i by omega] at this
          exact this
        · rw [if_neg (n_le (by omega) (by omega)), ek, need_n (by omega), pk_sub (by omega)]
          have := ih (c + 1) (502 - (M i + 2)) (i + 1) (by omega) (by omega) (by omega) (by omega)
          rw [show w + 1 - (i + 1) = w - i by omega] at this
          rw [show c + (need M (w - i) (i + 1) (502 - (M i + 2)) + 1) = c + 1 + need M (w - i) (i + 1) (502 - (M i + 2)) by omega]
          exact this
      by_cases h6 : i = w
      · subst h6
        rw [if_pos (p_le (Nat.le_refl _) (by omega))]
        exact key
      · rw [if_neg (n_le (by omega) (by omega)), if_pos (p_in (by omega) (by omega)), nI_clamp (n2 (by omega)), hl i (by omega)]
        exact key
theorem m_need {wm : Nat → Int32} {M : Nat → Nat} {w : Nat} (hw : w ≤ 100) (hl : ∀ j, j < w → wm j = nI (M j)) (hM : ∀ j, j ≤ w → 1 ≤ M j ∧ M j ≤ 8) : fX6_needed (nI w) wm (nI (M w)) = some (nI (need M (w + 1) 0 0)) := by
  unfold fX6_needed
  obtain ⟨x, y, h⟩ := m_needL hw hl hM dkF 0 0 0 (by omega) (by omega) (by unfold dkF; omega) (by omega)
  have h : fX6_needed_L7 (nI w) wm (nI (M w)) dkF 0 0 0 = some (nI (0 + need M (w + 1) 0 0), x, y) := h
  rw [h, ob, Nat.zero_add]
