/-! SYNC, on both sides -/
theorem sync_L {w r N : Nat} {bc cb th : Int32} {M : Nat → Nat} {ks ls : Nat → Int32} {vs : Nat → Int64} {wk wm : Nat → Int32} {wv : Nat → Int64} (hW : Wt w M ks ls vs wk wm wv) (hw : w ≤ 100) (hr : r + w ≤ 5010) (hN : N ≤ 30) : ∀ (n t i u : Nat) (cw wb cwr e : Int32) (f d g mk pk so po mo : Nat → Int32) (B : Nat → Nat), t ≤ i → i ≤ w → w < n + i → u + need M (w - i) i 0 ≤ N → r + i ≤ 167 * u → Cut cw wb bc cwr cb → Dk B f d → Pl (r + i) u pk so po mo →
    (∃ (u' : Nat) (cw' wb' cwr' e' : Int32) (f' d' g' mk' pk' so' po' mo' : Nat → Int32) (B' : Nat → Nat), fX5_sync_L8 bc ks ls vs n (nI i) (nI t) 1 (nI u) cw wb f e g (nI w) (nI (r + i)) pk = some (.inl (nI (r + w)), 1, nI u', cw', wb', f', e', g', 0, nI (r + w), pk') ∧ fX6_sync_L26 th cb wk wm wv n (nI i) 1 (nI u) cwr (nI r) (nI w) d mk so po mo = some (nI (r + w), th, 1, nI u', cwr', nI (r + w), 0, d', mk', so', po', mo') ∧ u' ≤ N ∧ r + w ≤ 167 * u' ∧ Cut cw' wb' bc cwr' cb ∧ Dk B' f' d' ∧ Pl (r + w) u' pk' so' po' mo')
    ∨ (∃ (u' z : Nat) (cw' wb' cwr' e' : Int32) (f' d' g' mk' pk' so' po' mo' : Nat → Int32) (B' : Nat → Nat), fX5_sync_L8 bc ks ls vs n (nI i) (nI t) 1 (nI u) cw wb f e g (nI w) (nI (r + i)) pk = some (.inl (-1), 0, nI u', cw', wb', f', e', g', nI w, nI z, pk') ∧ fX6_sync_L26 th cb wk wm wv n (nI i) 1 (nI u) cwr (nI r) (nI w) d mk so po mo = some (-1, th, 0, nI u', cwr', nI r, nI w, d', mk', so', po', mo') ∧ u' ≤ N ∧ z ≤ 5010 ∧ Cut cw' wb' bc cwr' cb ∧ Dk B' f' d') := by
  intro n
  induction n with
  | zero => intro t i u cw wb cwr e f d g mk pk so po mo B h1 h2; omega
  | succ n ih =>
    intro t i u cw wb cwr e f d g mk pk so po mo B h1 h2 h3 h4 h5 hC hD hP
    rw [fX5_sync_L8.eq_2, fX6_sync_L26.eq_2, show fX4_size (nI w) = some (nI w) from rfl, show fX4_clear = some 0 from rfl, show fX2_size (nI (r + i)) = some (nI (r + i)) from rfl]
    simp only [ob]
    by_cases h : i = w
    · subst h
      refine Or.inl ⟨u, cw, wb, cwr, e, f, d, g, mk, pk, so, po, mo, B, ?_, ?_, by omega, h5, hC, hD, hP⟩
      · by_cases ht : 100 ≤ t
        · rw [if_pos (show (100 : Int32) ≤ nI t from p_le (a := 100) ht (by omega))]
        · rw [if_neg (show ¬ (100 : Int32) ≤ nI t from n_le (a := 100) (by omega) (by omega)), if_pos (p_le (Nat.le_refl _) (by omega))]
      · rw [if_pos (p_le (Nat.le_refl _) (by omega)), nI_add]
    · obtain ⟨i', e', g', mk1, mk', pk', so', po', mo', G', q1, q2, q3, q4, q5, q6, q7, q8, q9⟩ := fill_1 hW hw hr (show i < w by omega) hP (g := g) (mk := mk)
      obtain ⟨ok, cw', wb', cwr', f', d', B', r1, r2, r3, r4, r5⟩ := wr_2 hC hD q4 (s := u) (by omega)
      rw [if_neg (show ¬ (100 : Int32) ≤ nI t from n_le (a := 100) (by omega) (by omega)), if_neg (n_le (by omega) (by omega)), if_neg (n_le (by omega) (by omega)), q1, ob, q2, ob, q3, ob, r1, ob, r2, ob]
      rcases r3 with r3 | r3
      · subst r3
        refine Or.inr ⟨u, r + i', cw', wb', cwr', nI e', f', d', g', mk', pk', so', po', mo', B', ?_, ?_, by omega, by omega, r4, r5⟩
        · rw [if_pos rfl]
        · rw [if_pos rfl]
      · subst r3
        rw [if_neg (show ¬ (1 : Int32) = 0 by decide), if_neg (show ¬ (1 : Int32) = 0 by decide), nI_1, nI_1]
        exact ih (t + 1) i' (u + 1) cw' wb' cwr' (nI e') f' d' g' mk' pk' so' po' mo' B' (by omega) q7 (by omega) (by omega) (by omega) r4 r5 q5
