/-! GAPS, on both sides -/
def ez (th : Nat → Int32) : Nat → Nat → Nat
  | 0, k => k
  | m + 1, k => if th k = 0 then ez th m (k + 1) else k
theorem ez_1 (th : Nat → Int32) : ∀ (m k : Nat), k ≤ ez th m k ∧ ez th m k ≤ k + m ∧ (∀ j, k ≤ j → j < ez th m k → th j = 0) ∧ (ez th m k = k + m ∨ ¬ th (ez th m k) = 0) := by
  intro m
  induction m with
  | zero => intro k; exact ⟨Nat.le_refl _, Nat.le_refl _, fun j h1 h2 => by rw [ez] at h2; omega, Or.inl rfl⟩
  | succ m ih =>
    intro k
    rw [ez]
    by_cases h : th k = 0
    · rw [if_pos h]
      obtain ⟨a, b, c, d⟩ := ih (k + 1)
      refine ⟨by omega, by omega, fun j h1 h2 => ?_, ?_⟩
      · by_cases e : j = k
        · subst e; exact h
        · exact c j (by omega) h2
      · rcases d with d | d
        · left; omega
        · exact Or.inr d
    · rw [if_neg h]
      exact ⟨Nat.le_refl _, by omega, fun j h1 h2 => by omega, Or.inr h⟩
theorem c_missL {t : Nat} {th : Nat → Int32} (ht : t ≤ 5010) (x : Int32) : ∀ (n k : Nat), k ≤ t → t < n + k → fX3_missingFrom_L6 (nI t) th x n (nI k) = some (nI (ez th (t - k) k)) := by
  intro n
  induction n with
  | zero => intro k h1 h2; omega
  | succ n ih =>
    intro k h1 h2
    rw [fX3_missingFrom_L6.eq_2]
    by_cases h : k = t
    · subst h
      rw [if_pos (p_le (Nat.le_refl _) (by omega)), Nat.sub_self, ez]
    · have c1 : th (nI k).toNatClampNeg = th k := by rw [nI_clamp (n2 (by omega))]
      rw [if_neg (n_le (by omega) (by omega)), if_pos (p_in (by omega) (by omega)), show t - k = (t - (k + 1)) + 1 by omega, ez, nI_1]
      by_cases e : th k = 0
      · rw [if_pos (c1.trans e), if_pos e]
        exact ih (k + 1) (by omega) (by omega)
      · rw [if_neg (by rw [c1]; exact e), if_neg e]
theorem m_missL {t r : Nat} {th mt : Nat → Int32} (ht : t ≤ 5010) (h2 : ∀ j, j < t → th j = mt j) (x : Int32) : ∀ (n m : Nat), r + m ≤ t → t < n + (r + m) → fX6_gap_L48 (nI t) mt x (nI r) n (nI m) = some (nI (ez th (t - (r + m)) (r + m) - r)) := by
  intro n
  induction n with
  | zero => intro m h3 h4; omega
  | succ n ih =>
    intro m h3 h4
    rw [fX6_gap_L48.eq_2]
    have ea : nI r + nI m = nI (r + m) := nI_add r m
    by_cases h : r + m = t
    · rw [if_pos (show nI t ≤ nI r + nI m by rw [ea]; exact p_le (by omega) (by omega)), h, Nat.sub_self, ez, ← h, show r + m - r = m by omega]
    · have c1 : mt (nI r + nI m).toNatClampNeg = th (r + m) := by rw [ea, nI_clamp (n2 (by omega)), h2 _ (by omega)]
      rw [if_neg (show ¬ nI t ≤ nI r + nI m by rw [ea]; exact n_le (by omega) (by omega)), if_pos (show dk_in (nI r + nI m) 5100 by rw [ea]; exact p_in (by omega) (by omega)), show t - (r + m) = (t - (r + (m + 1))) + 1 by omega, ez, nI_1]
      by_cases e : th (r + m) = 0
      · rw [if_pos (c1.trans e), if_pos e]
        exact ih (m + 1) (by omega) (by omega)
      · rw [if_neg (by rw [c1]; exact e), if_neg e, show r + m - r = m by omega]
theorem i_sub0 (w : Int32) : w - 0 = w := by
  apply q_inj
  show w.toBitVec - (0 : Int32).toBitVec = w.toBitVec
  exact BitVec.sub_zero _
theorem i_subs (w : Int32) (g : Nat) : w - nI g - 1 = w - nI (g + 1) := by
  rw [← nI_1]
  apply q_inj
  show w.toBitVec - (nI g).toBitVec - (1 : Int32).toBitVec = w.toBitVec - ((nI g).toBitVec + (1 : Int32).toBitVec)
  rw [BitVec.sub_sub]
theorem i_sub_eq {w y : Int32} : w - y = 0 ↔ y = w := by
  constructor
  · intro h
    have e : w - y + y = 0 + y := by rw [h]
    rw [Int32.sub_add_cancel, Int32.zero_add] at e
    exact e.symm
  · intro h
    subst h
    exact Int32.sub_self _
/-- within a gap the program only goes on -/
theorem c_walk {t : Nat} {th : Nat → Int32} (ht : t ≤ 5010) (w y : Int32) : ∀ (m k : Nat), 0 < k → k + m ≤ t → (∀ j, k - 1 ≤ j → j < k + m → th j = 0) → ∀ n, fX3_firstOfGap_L4 (nI t) th w (n + m) y (nI k) = fX3_firstOfGap_L4 (nI t) th w n y (nI (k + m)) := by
  intro m
  induction m with
  | zero => intro k h0 h1 h2 n; rfl
  | succ m ih =>
    intro k h0 h1 h2 n
    have c1 : th (nI k).toNatClampNeg = 0 := by rw [nI_clamp (n2 (by omega)), h2 k (by omega) (by omega)]
    have e1 : nI k - 1 = nI (k - 1) := pk_sub (b := 1) (by omega)
    have c2 : th (nI k - 1).toNatClampNeg = 0 := by rw [e1, nI_clamp (n2 (by omega)), h2 (k - 1) (by omega) (by omega)]
    rw [show n + (m + 1) = (n + m) + 1 by omega, fX3_firstOfGap_L4.eq_2, if_neg (n_le (by omega) (by omega)), if_pos (p_in (by omega) (by omega)), if_pos c1, if_neg (n_e0 (by omega) (by omega)), if_pos (show dk_in (nI k - 1) 5010 by rw [e1]; exact p_in (by omega) (by omega)), if_pos c2, if_pos rfl, if_pos rfl, nI_1, ih (k + 1) (by omega) (by omega) (fun j ja jb => h2 j (by omega) (by omega)), show k + 1 + m = k + (m + 1) by omega]
theorem gap_L {t : Nat} {th mt : Nat → Int32} (ht : t ≤ 5010) (h2 : ∀ j, j < t → th j = mt j) (w : Int32) : ∀ (n r g nc : Nat), r ≤ t + 1 → t + 1 < n + r → (r = 0 ∨ t < r ∨ ¬ th (r - 1) = 0) → t + 1 < nc + r →
    (fX3_firstOfGap_L4 (nI t) th w nc (nI g) (nI r) = some (-1) ∧ fX6_gap_L37 0 (nI t) mt n (w - nI g) (nI r) = some (-1, 0)) ∨ (∃ a : Nat, a < t ∧ fX3_firstOfGap_L4 (nI t) th w nc (nI g) (nI r) = some (nI a) ∧ fX6_gap_L37 0 (nI t) mt n (w - nI g) (nI r) = some (10000 * nI a + nI (ez th (t - a) a - a), 0)) := by
  intro n
  induction n with
  | zero => intro r g nc h1 h3; omega
  | succ n ih =>
    intro r g nc h1 h3 h4 h5
    rw [fX6_gap_L37.eq_2]
    by_cases h : t ≤ r
    · left
      obtain ⟨nc, rfl⟩ : ∃ n', nc = n' + 1 := ⟨nc - 1, by omega⟩
      rw [fX3_firstOfGap_L4.eq_2, if_pos (p_le h (by omega)), if_pos (p_le h (by omega))]
      exact ⟨rfl, rfl⟩
    · obtain ⟨e1, e2, e3, e4⟩ := ez_1 th (t - r) r
      have hm : fX6_gap_L48 (nI t) mt (w - nI g) (nI r) dkF 0 = some (nI (ez th (t - (r + 0)) (r + 0) - r)) := m_missL ht h2 _ dkF 0 (by omega) (by unfold dkF; omega)
      rw [Nat.add_zero] at hm
      rw [if_neg (n_le (by omega) (by omega)), hm, ob]
      have hez : r < ez th (t - r) r ↔ th r = 0 := by
        constructor
        · intro q; exact e3 r (by omega) q
        · intro q
          rcases e4 with e4 | e4
          · omega
          · rcases Nat.lt_or_eq_of_le e1 with x | x
            · exact x
            · rw [← x] at e4; exact absurd q e4
      have c1 : th (nI r).toNatClampNeg = th r := by rw [nI_clamp (n2 (by omega))]
      have cr : nI r - 1 = nI (r - 1) ∨ r = 0 := by
        by_cases q : r = 0
        · exact Or.inr q
        · exact Or.inl (pk_sub (b := 1) (by omega))
      by_cases hz : th r = 0
      · have hgt := hez.mpr hz
        rw [if_neg (show ¬ nI (ez th (t - r) r - r) ≤ 0 from nI_nle (by omega) (n2 (by omega))), if_neg (show ¬ nI (ez th (t - r) r - r) ≤ 0 from nI_nle (by omega) (n2 (by omega)))]
        -- the program stands at the first row of a gap
        have hfirst : ∀ n', fX3_firstOfGap_L4 (nI t) th w (n' + 1) (nI g) (nI r) = if nI g = w then some (nI r) else fX3_firstOfGap_L4 (nI t) th w n' (nI (g + 1)) (nI (r + 1)) := by
          intro n'
          rw [fX3_firstOfGap_L4.eq_2, if_neg (n_le (by omega) (by omega)), if_pos (p_in (by omega) (by omega)), if_pos (c1.trans hz), nI_1, nI_1]
          rcases h4 with h4 | h4 | h4
          · subst h4
            rw [if_pos (show nI 0 = 0 from rfl)]
          · omega
          · by_cases q0 : r = 0
            · subst q0
              rw [if_pos (show nI 0 = 0 from rfl)]
            · have e5 : nI r - 1 = nI (r - 1) := pk_sub (b := 1) (by omega)
              have c2 : ¬ th (nI r - 1).toNatClampNeg = 0 := by rw [e5, nI_clamp (n2 (by omega))]; exact h4
              rw [if_neg (n_e0 q0 (by omega)), if_pos (show dk_in (nI r - 1) 5010 by rw [e5]; exact p_in (by omega) (by omega)), if_neg c2, if_neg (show ¬ (1 : Int32) = 0 by decide), if_neg (show ¬ (1 : Int32) = 0 by decide)]
        obtain ⟨nc, rfl⟩ : ∃ n', nc = n' + 1 := ⟨nc - 1, by omega⟩
        rw [hfirst]
        by_cases hg : nI g = w
        · right
          refine ⟨r, by omega, by rw [if_pos hg], ?_⟩
          rw [if_pos (i_sub_eq.mpr hg)]
        · rw [if_neg hg, if_neg (fun q => hg (i_sub_eq.mp q)), i_subs, nI_1, nI_add]
          have hsplit : nc = (nc - (ez th (t - r) r - (r + 1))) + (ez th (t - r) r - (r + 1)) := by omega
          rw [hsplit, c_walk ht w (nI (g + 1)) (ez th (t - r) r - (r + 1)) (r + 1) (by omega) (by omega) (fun j ja jb => e3 j (by omega) (by omega)), show r + 1 + (ez th (t - r) r - (r + 1)) = ez th (t - r) r by omega, show r + (ez th (t - r) r - r + 1) = ez th (t - r) r + 1 by omega]
          obtain ⟨nd, hnd⟩ : ∃ n', nc - (ez th (t - r) r - (r + 1)) = n' + 1 := ⟨nc - (ez th (t - r) r - (r + 1)) - 1, by omega⟩
          rw [hnd]
          rcases e4 with e4 | e4
          · left
            obtain ⟨n, rfl⟩ : ∃ n', n = n' + 1 := ⟨n - 1, by omega⟩
            rw [fX3_firstOfGap_L4.eq_2, if_pos (p_le (by omega) (by omega)), fX6_gap_L37.eq_2, if_pos (p_le (by omega) (by omega))]
            exact ⟨rfl, rfl⟩
          · by_cases hend : ez th (t - r) r = t
            · left
              obtain ⟨n, rfl⟩ : ∃ n', n = n' + 1 := ⟨n - 1, by omega⟩
              rw [fX3_firstOfGap_L4.eq_2, if_pos (p_le (by omega) (by omega)), fX6_gap_L37.eq_2, if_pos (p_le (by omega) (by omega))]
              exact ⟨rfl, rfl⟩
            · have c3 : ¬ th (nI (ez th (t - r) r)).toNatClampNeg = 0 := by rw [nI_clamp (n2 (by omega))]; exact e4
              rw [fX3_firstOfGap_L4.eq_2, if_neg (n_le (by omega) (by omega)), if_pos (p_in (by omega) (by omega)), if_neg c3, nI_1]
              exact ih (ez th (t - r) r + 1) (g + 1) nd (by omega) (by omega) (Or.inr (Or.inr (by rw [Nat.add_sub_cancel]; exact e4))) (by omega)
      · have heq : ez th (t - r) r = r := by
          rcases Nat.lt_or_eq_of_le e1 with x | x
          · exact absurd (hez.mp x) hz
          · exact x.symm
        obtain ⟨nc, rfl⟩ : ∃ n', nc = n' + 1 := ⟨nc - 1, by omega⟩
        rw [heq, Nat.sub_self, if_pos (show nI 0 ≤ 0 by decide), if_pos (show nI 0 ≤ 0 by decide), i_sub0, show nI 0 + 1 = nI 1 from rfl, nI_add, fX3_firstOfGap_L4.eq_2, if_neg (n_le (by omega) (by omega)), if_pos (p_in (by omega) (by omega)), if_neg (by rw [c1]; exact hz), nI_1]
        exact ih (r + 1) g nc (by omega) (by omega) (Or.inr (Or.inr (by rw [Nat.add_sub_cancel]; exact hz))) (by omega)
