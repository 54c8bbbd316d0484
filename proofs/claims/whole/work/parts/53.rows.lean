/-! WHOLE ROWS ON A SECTOR -/
def rowsN (B : Nat → Nat) (e : Nat) : Nat → Nat → Nat → Nat
  | 0, _, _ => 0
  | t + 1, n, k => if e ≤ k then n else if e < k + 2 ∨ 7 < B k ∨ B (k + 1) < 1 ∨ 8 < B (k + 1) ∨ e < k + 2 + B (k + 1) then 0 else rowsN B e t (n + 1) (k + 2 + B (k + 1))
theorem rowsN_end {B : Nat → Nat} {e t n k : Nat} (h : e ≤ k) : rowsN B e (t + 1) n k = n := by rw [rowsN, if_pos h]
theorem rowsN_bad {B : Nat → Nat} {e t n k : Nat} (h : k < e) (h2 : e < k + 2 ∨ 7 < B k ∨ B (k + 1) < 1 ∨ 8 < B (k + 1) ∨ e < k + 2 + B (k + 1)) : rowsN B e (t + 1) n k = 0 := by rw [rowsN, if_neg (Nat.not_le.mpr h), if_pos h2]
theorem rowsN_go {B : Nat → Nat} {e t n k : Nat} (h : k < e) (h2 : ¬ (e < k + 2 ∨ 7 < B k ∨ B (k + 1) < 1 ∨ 8 < B (k + 1) ∨ e < k + 2 + B (k + 1))) : rowsN B e (t + 1) n k = rowsN B e t (n + 1) (k + 2 + B (k + 1)) := by rw [rowsN, if_neg (Nat.not_le.mpr h), if_neg h2]
theorem i_4 : (4 : Int32) = nI 4 := rfl
theorem i_8 : (8 : Int32) = nI 8 := rfl
theorem i_167 : (167 : Int32) = nI 167 := rfl
theorem i_502 : (502 : Int32) = nI 502 := rfl
theorem i_0 : (0 : Int32) = nI 0 := rfl
theorem i_1 : (1 : Int32) = nI 1 := rfl
theorem i_2 : (2 : Int32) = nI 2 := rfl
theorem i_7 : (7 : Int32) = nI 7 := rfl
theorem n_e0 {a : Nat} (h : ¬ a = 0) (ha : a < 40000) : ¬ nI a = 0 := n_eq (b := 0) h ha (by omega)
section PR
variable {f d : Nat → Int32} {B : Nat → Nat}
theorem m_in {a b v : Nat} (ha : a < 40000) (hb : b < 40000) (hv : v < 40000) : fX6_in (nI v) (nI a) (nI b) = some (if a ≤ v ∧ v ≤ b then 1 else 0) := by
  unfold fX6_in
  rw [if_pos (q_01 q_o0 (q_01 q_o0 q_o1))]
  congr 1
  by_cases h1 : v < a
  · rw [if_pos (p_lt h1 ha), if_neg (by omega)]
  · rw [if_neg (n_lt (by omega) hv)]
    by_cases h2 : b < v
    · rw [if_pos (p_lt h2 hv), if_neg (by omega)]
    · rw [if_neg (n_lt (by omega) hb), if_pos (by omega)]
theorem m_rowsL (HB : ∀ j, B j < 256) (hd : ∀ j, j < 32768 → d j = nI (B j)) {e : Nat} (he : e ≤ 32768) : ∀ (n c k : Nat), k ≤ e → e < n + k → c + e ≤ 36000 + k → fX6_rowsOn_L32 d (nI e) n (nI c) (nI k) = some (nI (rowsN B e n c k)) := by
  intro n
  induction n with
  | zero => intro c k h1 h2; omega
  | succ n ih =>
    intro c k h1 h2 h3
    have hb0 := HB k
    have hb1 := HB (k + 1)
    have q1 : fX6_in (nI (B k)) 0 7 = _ := m_in (a := 0) (b := 7) (v := B k) (by omega) (by omega) (by omega)
    have q2 : fX6_in (nI (B (k + 1))) 1 8 = _ := m_in (a := 1) (b := 8) (v := B (k + 1)) (by omega) (by omega) (by omega)
    rw [fX6_rowsOn_L32.eq_2]
    by_cases h : e ≤ k
    · rw [if_pos (p_le h (by omega)), rowsN_end h]
    · rw [if_neg (n_le (by omega) (by omega)), show nI k + 2 = nI (k + 2) from nI_add k 2]
      by_cases h4 : e < k + 2
      · rw [if_pos (p_lt h4 (by omega)), rowsN_bad (by omega) (Or.inl h4)]; rfl
      · rw [if_neg (n_lt (by omega) (by omega)), if_pos (p_in (by omega) (by omega)), m_rd hd (by omega), q1]
        by_cases h5 : B k ≤ 7
        · rw [if_pos (show 0 ≤ B k ∧ B k ≤ 7 from ⟨Nat.zero_le _, h5⟩)]
          show (if (1 : Int32) = 0 then some 0 else _) = _
          rw [if_neg (show ¬ (1 : Int32) = 0 by decide), show nI k + 1 = nI (k + 1) from nI_add k 1, if_pos (p_in (by omega) (by omega)), m_rd hd (by omega), q2]
          by_cases h6 : 1 ≤ B (k + 1) ∧ B (k + 1) ≤ 8
          · rw [if_pos h6]
            show (if (1 : Int32) = 0 then some 0 else _) = _
            rw [if_neg (show ¬ (1 : Int32) = 0 by decide), if_pos (p_in (by omega) (by omega)), nI_add]
            by_cases h7 : e < k + 2 + B (k + 1)
            · rw [if_pos (p_lt h7 (by omega)), rowsN_bad (by omega) (by omega)]; rfl
            · rw [if_neg (n_lt (by omega) (by omega)), rowsN_go (by omega) (by omega)]
              rw [if_neg (show ¬ (1 : Int32) = 0 by decide), if_pos (p_in (by omega) (by omega)), i_2, nI_add, nI_add, nI_1, ← Nat.add_assoc]
              exact ih (c + 1) (k + 2 + B (k + 1)) (by omega) (by omega) (by omega)
          · rw [if_neg h6, rowsN_bad (by omega) (by omega)]; rfl
        · rw [if_neg (show ¬ (0 ≤ B k ∧ B k ≤ 7) by omega), rowsN_bad (by omega) (by omega)]; rfl
/-- how many rows there are, 0 where they aren't whole -/
def nrows (B : Nat → Nat) (p : Nat) : Nat := if B (p + 4) * 256 + B (p + 5) ≤ 502 then rowsN B (p + 6 + (B (p + 4) * 256 + B (p + 5))) dkF 0 (p + 6) else 0
theorem m_rowsOn (HB : ∀ j, B j < 256) (hd : ∀ j, j < 32768 → d j = nI (B j)) {p : Nat} (hp : p + 512 ≤ 32768) : fX6_rowsOn d (nI p) = some (nI (nrows B p)) := by
  unfold fX6_rowsOn nrows
  rw [m_len HB hd (by omega)]
  have h4 := HB (p + 4)
  have h5 := HB (p + 5)
  show (if nI (B (p + 4) * 256 + B (p + 5)) ≤ 502 then _ else _) = _
  by_cases h : B (p + 4) * 256 + B (p + 5) ≤ 502
  · rw [i_502, if_pos (nI_le h (by omega)), if_pos h, show nI p + 6 = nI (p + 6) from nI_add p 6, nI_add]
    exact m_rowsL HB hd (by omega) dkF 0 (p + 6) (by omega) (by unfold dkF; omega) (by omega)
  · rw [i_502, if_neg (nI_ge (by omega) (by omega)), if_neg h]; rfl
theorem c_wholeX {e : Nat} (he : e ≤ 32768) (n k r : Nat) (hk : e < k) (hk2 : k < 33000) (hr : r ≤ 167) : fX0_hasWholeRows_L35 f (nI e) (n + 1) (nI k) (nI r) = some 0 := by
  rw [fX0_hasWholeRows_L35.eq_2, q_z, if_neg (n_eq (by omega) (by omega) (by omega))]
  by_cases h : r = 167
  · rw [i_167, if_pos (p_le (by omega) (by omega))]
  · rw [i_167, if_neg (n_le (by omega) (by omega)), if_pos (p_le (by omega) (by omega))]
theorem c_wholeL (HB : ∀ j, B j < 256) (hf : ∀ j, j < 32768 → f j = qs (B j)) {e : Nat} (he : e + 4 ≤ 32768) : ∀ (n c k r : Nat), k ≤ e → e + 1 < n + k → r ≤ 167 → e + 3 * r ≤ k + 502 → (k < e ∨ 0 < c) → fX0_hasWholeRows_L35 f (nI e) n (nI k) (nI r) = some (if rowsN B e n c k = 0 then 0 else 1) := by
  intro n
  induction n with
  | zero => intro c k r h1 h2; omega
  | succ n ih =>
    intro c k r h1 h2 h3 h4 h5
    have hb0 := HB k
    have hb1 := HB (k + 1)
    rw [fX0_hasWholeRows_L35.eq_2, q_z]
    by_cases h : e ≤ k
    · rw [rowsN_end h, show k = e by omega, if_pos (show nI e = nI e from rfl), if_neg (show ¬ c = 0 by omega)]
      by_cases h6 : r = 167
      · rw [i_167, if_pos (p_le (by omega) (by omega))]
      · rw [i_167, if_neg (n_le (by omega) (by omega)), if_pos (p_le (by omega) (by omega))]
    · rw [if_neg (show ¬ nI k = nI e from n_eq (by omega) (by omega) (by omega))]
      by_cases h6 : r = 167
      · rw [i_167, if_pos (p_le (by omega) (by omega)), rowsN_bad (by omega) (Or.inl (by omega)), if_pos rfl]
      · rw [i_167, if_neg (n_le (by omega) (by omega)), if_neg (n_le (by omega) (by omega)), show nI k + 1 = nI (k + 1) from nI_add k 1, c_byteOf HB hf (by omega), c_byteOf HB hf (by omega)]
        show (if (8 : Int32) ≤ nI (B k) then some 0 else if nI (B (k + 1)) = 0 then some 0 else if nI (B (k + 1)) ≤ (8 : Int32) then fX0_hasWholeRows_L35 f (nI e) n (nI k + (2 + nI (B (k + 1)))) (nI r + 1) else some 0) = _
        by_cases h7 : 8 ≤ B k
        · rw [i_8, if_pos (p_le h7 (by omega)), rowsN_bad (by omega) (by omega), if_pos rfl]
        · rw [i_8, if_neg (n_le (by omega) (by omega))]
          by_cases h8 : B (k + 1) = 0
          · rw [if_pos (show nI (B (k + 1)) = 0 by rw [h8]; rfl), rowsN_bad (by omega) (by omega), if_pos rfl]
          · rw [if_neg (n_e0 h8 (by omega))]
            by_cases h9 : B (k + 1) ≤ 8
            · rw [if_pos (p_le h9 (by omega)), i_2, nI_add, nI_add, nI_1, ← Nat.add_assoc]
              by_cases h10 : e < k + 2 + B (k + 1)
              · obtain ⟨n, rfl⟩ : ∃ n', n = n' + 1 := ⟨n - 1, by omega⟩
                rw [c_wholeX (by omega) n _ _ h10 (by omega) (by omega), rowsN_bad (by omega) (by omega), if_pos rfl]
              · rw [ih (c + 1) _ (r + 1) (by omega) (by omega) (by omega) (by omega) (by omega), rowsN_go (by omega) (by omega)]
            · rw [if_neg (n_le (by omega) (by omega)), rowsN_bad (by omega) (by omega), if_pos rfl]
theorem c_whole (HB : ∀ j, B j < 256) (hf : ∀ j, j < 32768 → f j = qs (B j)) {p : Nat} (hp : p + 512 ≤ 32768) : fX0_hasWholeRows f (nI p) = some (if nrows B p = 0 then 0 else 1) := by
  unfold fX0_hasWholeRows nrows
  rw [c_dataB HB hf (by omega)]
  have h4 := HB (p + 4)
  have h5 := HB (p + 5)
  show (if nI (B (p + 4) * 256 + B (p + 5)) = 0 then _ else _) = _
  generalize hl : B (p + 4) * 256 + B (p + 5) = len at *
  by_cases h0 : len = 0
  · subst h0
    rw [if_pos (show nI 0 = 0 from rfl), if_pos (Nat.zero_le 502)]
    show _ = some (if rowsN B (p + 6 + 0) (999999 + 1) 0 (p + 6) = 0 then 0 else 1)
    rw [rowsN_end (Nat.le_refl _), if_pos rfl]
  · rw [if_neg (show ¬ nI len = 0 from fun q => h0 ((nI_eq (by omega) (by omega)).mp (show nI len = nI 0 from q)))]
    by_cases h : len ≤ 502
    · rw [i_502, if_pos (nI_le h (by omega)), if_pos h, show nI p + 6 = nI (p + 6) from nI_add p 6, nI_add]
      exact c_wholeL HB hf (by omega) dkF 0 (p + 6) 0 (by omega) (by unfold dkF; omega) (by omega) (by omega) (by omega)
    · rw [i_502, if_neg (nI_ge (by omega) (by omega)), if_neg h, if_pos rfl]
end PR
