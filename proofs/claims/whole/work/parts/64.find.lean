/-! A START FINDS ROWS, on both sides -/
theorem c_byteAt {f : Nat → Int32} {B : Nat → Nat} (HB : ∀ j, B j < 256) (hf : ∀ j, j < 32768 → f j = qs (B j)) {c s k : Nat} (hc : c < 2) (hs : s < 32) (hk : k < 512) : fX0_byteAt f (nI c) (nI s) (nI k) = some (nI (B (pos c s + k))) := by
  have hp := pos_lt hc hs
  have e1 : fX0_firstCell (nI c) (nI s) = some (nI (pos c s)) := c_first
  unfold fX0_byteAt
  rw [e1, ob, nI_add, c_byteOf HB hf (by omega), ob]
theorem rowsN_ge {B : Nat → Nat} {e : Nat} : ∀ (t c k : Nat), ¬ rowsN B e t c k = 0 → c ≤ rowsN B e t c k := by
  intro t
  induction t with
  | zero => intro c k h; exact absurd rfl h
  | succ t ih =>
    intro c k h
    by_cases h1 : e ≤ k
    · rw [rowsN_end h1]; omega
    · by_cases h2 : e < k + 2 ∨ 7 < B k ∨ B (k + 1) < 1 ∨ 8 < B (k + 1) ∨ e < k + 2 + B (k + 1)
      · rw [rowsN_bad (by omega) h2] at h; omega
      · rw [rowsN_go (by omega) h2] at h ⊢
        have := ih (c + 1) (k + 2 + B (k + 1)) h
        omega
theorem fr_L {f d : Nat → Int32} {B : Nat → Nat} (hD : Dk B f d) {c s N len : Nat} (hc : c < 2) (hs : s < 32) (hl : len ≤ 502) (hN : ¬ N = 0) (hN2 : N ≤ 167) (hq : ∀ j, j < 512 → B (pos c s + j) = B (pos 0 s + j)) : ∀ (t k x z : Nat) (pk so po mo : Nat → Int32), 6 ≤ k → k ≤ 6 + len → 3 * x + 6 ≤ k → rowsN B (pos 0 s + (6 + len)) t x (pos 0 s + k) = N → 6 + len < t + k → z + (N - x) ≤ 5010 → Pl z (s + 1) pk so po mo →
    ∃ (k' x' k'' x'' : Int32) (pk' so' po' mo' : Nat → Int32), fX5_findRowsOf_L20 f (nI c) (nI s) (nI (6 + len)) t (nI k) (nI x) (nI z) pk = some (k', x', nI (z + (N - x)), pk') ∧ fX6_start_L94 (nI s) d (nI (pos 0 s)) (nI N) t (nI k) (nI x) (nI z) so po mo = some (k'', x'', nI (z + (N - x)), so', po', mo') ∧ Pl (z + (N - x)) (s + 1) pk' so' po' mo' := by
  have hp := pos_lt (c := 0) (by omega) hs
  intro t
  induction t with
  | zero => intro k x z pk so po mo h1 h2 h3 h4 h5; omega
  | succ t ih =>
    intro k x z pk so po mo h1 h2 h3 h4 h5 h6 hP
    rw [fX5_findRowsOf_L20.eq_2, fX6_start_L94.eq_2]
    by_cases h : k = 6 + len
    · subst h
      rw [rowsN_end (Nat.le_refl _)] at h4
      subst h4
      refine ⟨nI (6 + len), nI x, nI (6 + len), nI x, pk, so, po, mo, ?_, ?_, by rw [Nat.sub_self]; exact hP⟩
      · rw [Nat.sub_self, Nat.add_zero]
        by_cases h7 : 167 ≤ x
        · rw [i_167, if_pos (p_le h7 (by omega))]
        · rw [i_167, if_neg (n_le (by omega) (by omega)), if_pos (p_le (Nat.le_refl _) (by omega))]
      · rw [if_pos (p_le (Nat.le_refl _) (by omega)), Nat.sub_self, Nat.add_zero]
    · by_cases hb : pos 0 s + (6 + len) < pos 0 s + k + 2 ∨ 7 < B (pos 0 s + k) ∨ B (pos 0 s + k + 1) < 1 ∨ 8 < B (pos 0 s + k + 1) ∨ pos 0 s + (6 + len) < pos 0 s + k + 2 + B (pos 0 s + k + 1)
      · rw [rowsN_bad (by omega) hb] at h4
        exact absurd h4.symm hN
      · rw [rowsN_go (by omega) hb] at h4
        have hge := rowsN_ge t (x + 1) (pos 0 s + k + 2 + B (pos 0 s + k + 1)) (by rw [h4]; exact hN)
        rw [h4] at hge
        have hb1 : fX0_byteAt f (nI c) (nI s) (nI (k + 1)) = some (nI (B (pos 0 s + k + 1))) := by
          rw [c_byteAt hD.HB hD.hf hc hs (by omega), hq (k + 1) (by omega)]
          rfl
        have hm1 : d (nI (pos 0 s) + nI k + 1).toNatClampNeg = nI (B (pos 0 s + k + 1)) := by
          rw [nI_add, nI_1, m_rd hD.hd (by omega)]
        generalize hL : B (pos 0 s + k + 1) = l at *
        obtain ⟨k', x', k'', x'', pk', so', po', mo', q1, q2, q3⟩ := ih (k + (2 + l)) (x + 1) (z + 1) (upd pk z (nI (pck s k l))) (upd so z (nI s)) (upd po z (nI k)) (upd mo z (nI l)) (by omega) (by omega) (by omega) (by rw [← h4]; congr 1; omega) (by omega) (by omega) (Pl_add hP (by omega) h1 (by omega) (by omega) (by omega))
        rw [show z + 1 + (N - (x + 1)) = z + (N - x) by omega] at q1 q2 q3
        refine ⟨k', x', k'', x'', pk', so', po', mo', ?_, ?_, q3⟩
        · rw [i_167, if_neg (n_le (by omega) (by omega)), if_neg (n_le (by omega) (by omega)), nI_1, hb1, ob, c_addP (by omega) (by omega) (by omega), ob, show (2 : Int32) + nI l = nI (2 + l) from nI_add 2 _, nI_add, nI_1]
          exact q1
        · have hin : dk_in (nI (pos 0 s) + nI k + 1) 32768 := by rw [nI_add, nI_1]; exact p_in (by omega) (by omega)
          rw [if_neg (n_le (by omega) (by omega)), if_pos (p_in (by omega) (by omega)), if_pos (p_in (by omega) (by omega)), if_pos hin, if_pos (p_in (by omega) (by omega)), if_pos hin, hm1, show (2 : Int32) + nI l = nI (2 + l) from nI_add 2 _, nI_add k, nI_1, nI_1, nI_clamp (n2 (by omega))]
          exact q2
theorem rgt_rows {B : Nat → Nat} {n s : Nat} (h : ¬ rgt B n 0 s = 0) (hs : s + 2 < n) : ¬ nrows B (pos 0 s) = 0 := by
  intro hz
  apply h
  unfold rgt
  rw [if_pos hs, if_pos hz]
  by_cases h1 : sok B (pos 0 s) = 0
  · rw [if_pos h1]
  · rw [if_neg h1]
    by_cases h2 : nI (I4 B (pos 0 s)) = nI (s + 1)
    · rw [if_pos h2]
    · rw [if_neg h2]
theorem fr_1 {f d : Nat → Int32} {B : Nat → Nat} (hD : Dk B f d) {n c s z : Nat} (hc : c < 2) (hs : s + 2 < n) (hn : n ≤ 32) (hq : ∀ j, j < 512 → B (pos c s + j) = B (pos 0 s + j)) (hg : ¬ rgt B n 0 s = 0) (hz : z ≤ 167 * s) {pk so po mo : Nat → Int32} (hP : Pl z s pk so po mo) :
    ∃ (z' : Nat) (k'' x'' : Int32) (pk' so' po' mo' : Nat → Int32), fX5_findRowsOf f (nI z) pk (nI c) (nI s) = some (nI z', pk') ∧ fX6_start_L94 (nI s) d (nI (pos 0 s)) (nI (nrows B (pos 0 s))) dkF 6 0 (nI z) so po mo = some (k'', x'', nI z', so', po', mo') ∧ z' ≤ 167 * (s + 1) ∧ Pl z' (s + 1) pk' so' po' mo' := by
  have hp := pos_lt (c := c) hc (s := s) (by omega)
  have hr := rgt_rows hg hs
  have hr2 := nrows_le B (pos 0 s)
  have hl : lenB B (pos 0 s) ≤ 502 := by
    unfold nrows at hr
    by_cases h : B (pos 0 s + 4) * 256 + B (pos 0 s + 5) ≤ 502
    · exact h
    · rw [if_neg h] at hr
      exact absurd rfl hr
  have hN : rowsN B (pos 0 s + (6 + lenB B (pos 0 s))) dkF 0 (pos 0 s + 6) = nrows B (pos 0 s) := by
    unfold nrows
    rw [if_pos (show B (pos 0 s + 4) * 256 + B (pos 0 s + 5) ≤ 502 from hl), ← Nat.add_assoc]
    rfl
  obtain ⟨k', x', k'', x'', pk', so', po', mo', q1, q2, q3⟩ := fr_L hD hc (show s < 32 by omega) hl hr hr2 hq dkF 6 0 z pk so po mo (by omega) (by omega) (by omega) hN (by unfold dkF; omega) (by omega) (Pl_m hP (by omega))
  rw [Nat.sub_zero] at q1 q2 q3
  refine ⟨z + nrows B (pos 0 s), k'', x'', pk', so', po', mo', ?_, q2, by omega, q3⟩
  have e1 : fX0_firstCell (nI c) (nI s) = some (nI (pos c s)) := c_first
  have e2 : fX0_dataBytesOf f (nI (pos c s)) = some (nI (lenB B (pos c s))) := c_dataB hD.HB hD.hf (by omega)
  unfold fX5_findRowsOf fX0_dataBytesAt
  have q1 : fX5_findRowsOf_L20 f (nI c) (nI s) (6 + nI (lenB B (pos c s))) dkF 6 0 (nI z) pk = some (k', x', nI (z + nrows B (pos 0 s)), pk') := by
    rw [lenB_loc hq, show (6 : Int32) + nI (lenB B (pos 0 s)) = nI (6 + lenB B (pos 0 s)) from nI_add 6 _]
    exact q1
  rw [e1, ob, e2, ob, ob, q1, ob]
theorem fR_L {n : Nat} (hn : 8 ≤ n) (hn2 : n ≤ 32) : ∀ (t u z : Nat) (rp : Int32) (f d pk so po mo : Nat → Int32) (B : Nat → Nat), u + 2 ≤ n → n < t + u → z ≤ 167 * u → Dk B f d → Pl z u pk so po mo →
    ∃ (u' z' : Nat) (rp' : Int32) (f' d' pk' so' po' mo' : Nat → Int32) (B' : Nat → Nat), fX5_findRows_L14 (nI n) t (nI u) (nI u) rp f (nI z) pk = some (nI u', rp', f', nI z', pk') ∧ fX6_start_L49 (nI n) t (nI u) (nI z) rp d so po mo = some (nI u', nI z', rp', d', so', po', mo') ∧ u' + 2 ≤ n ∧ z' ≤ 167 * u' ∧ Dk B' f' d' ∧ Pl z' u' pk' so' po' mo' := by
  intro t
  induction t with
  | zero => intro u z rp f d pk so po mo B h1 h2; omega
  | succ t ih =>
    intro u z rp f d pk so po mo B h1 h2 h3 hD hP
    have e6 : fX0_rowSectors (nI n) = some (nI (n - 2)) := by unfold fX0_rowSectors; rw [s_2 (by omega)]
    rw [fX5_findRows_L14.eq_2, fX6_start_L49.eq_2, e6, ob, s_2 (by omega)]
    by_cases h : u + 2 = n
    · refine ⟨u, z, rp, f, d, pk, so, po, mo, B, ?_, ?_, h1, h3, hD, hP⟩
      · rw [if_pos (p_le (by omega) (by omega))]
      · rw [if_pos (p_le (by omega) (by omega))]
    · rw [if_neg (n_le (by omega) (by omega)), if_neg (n_le (by omega) (by omega))]
      rcases os hD hn hn2 (s := u) (by omega) rp with ⟨a1, a2⟩ | ⟨c, rp', f', d', B', a0, a1, a2, a3, a4, a5⟩
      · refine ⟨u, z, rp, f, d, pk, so, po, mo, B, ?_, ?_, h1, h3, hD, hP⟩
        · rw [a1, ob, if_pos rfl]
        · rw [a2, ob, if_pos rfl]
      · obtain ⟨z', k'', x'', pk', so', po', mo', q1, q2, q3, q4⟩ := fr_1 a3 a0 (n := n) (show u + 2 < n by omega) hn2 a5 a4 h3 hP
        have b1 : fX6_at 0 (nI u) = some (nI (pos 0 u)) := m_at (c := 0)
        have b2 := m_rowsOn a3.HB a3.hd (p := pos 0 u) (pos_lt (by omega) (by omega))
        rw [a1, ob, a2, ob, if_neg (show ¬ (1 : Int32) = 0 by decide), b1, ob, b2, ob, q2, ob, nI_1]
        rw [if_neg (show ¬ nI c = -1 by rcases (show c = 0 ∨ c = 1 by omega) with e | e <;> subst e <;> decide), q1, ob]
        exact ih (u + 1) z' rp' f' d' pk' so' po' mo' B' (by omega) (by omega) q3 a3 q4
