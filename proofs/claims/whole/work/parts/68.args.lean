/-! WHAT CALLS ARE GIVEN, on both sides -/
theorem th_0 : fX6_throwing 0 0 0 0 = some (0, 0) := rfl
theorem th_1 (b c d : Int32) : fX6_throwing 1 b c d = some (1, 1) := rfl
theorem th_2 (c d : Int32) : fX6_throwing 0 1 c d = some (1, 2) := rfl
theorem th_3 (d : Int32) : fX6_throwing 0 0 1 d = some (1, 3) := rfl
theorem th_4 : fX6_throwing 0 0 0 1 = some (1, 4) := rfl
theorem in_g (v a b : Int32) : fX6_in v a b = some (if v < a then 0 else if b < v then 0 else 1) := by
  unfold fX6_in
  rw [if_pos (q_01 q_o0 (q_01 q_o0 q_o1))]
theorem i_nle {a b : Int32} : ¬ a < b ↔ b ≤ a := Int32.not_lt
theorem i_nlt {a b : Int32} : ¬ a ≤ b ↔ b < a := Int32.not_le
theorem rng (v : Int32) {a b : Nat} (ha : a < 40000) (hb : b < 40000) : (∃ k : Nat, v = nI k ∧ a ≤ k ∧ k ≤ b ∧ fX5_requireRange v (nI a) (nI b) = some (.inl ()) ∧ fX6_in v (nI a) (nI b) = some 1) ∨ (fX5_requireRange v (nI a) (nI b) = some (.inr 1) ∧ fX6_in v (nI a) (nI b) = some 0) := by
  rw [in_g]
  unfold fX5_requireRange
  by_cases h1 : v < nI a
  · rw [if_pos h1, if_pos h1]
    exact Or.inr ⟨rfl, rfl⟩
  · rw [if_neg h1, if_neg h1]
    by_cases h2 : v ≤ nI b
    · have h3 : ¬ v < 0 := by
        intro h
        exact h1 (Int32.lt_of_lt_of_le h (nI_pos' (n2 ha)))
      obtain ⟨k, hk, rfl⟩ := nI_of h3
      refine Or.inl ⟨k, rfl, ?_, ?_, by rw [if_pos h2], by rw [if_neg (i_nle.mpr h2)]⟩
      · exact (nI_leI (n2 ha) hk).mp (i_nle.mp h1)
      · exact (nI_leI hk (n2 hb)).mp h2
    · rw [if_neg h2, if_pos (i_nlt.mp h2)]
      exact Or.inr ⟨rfl, rfl⟩
theorem knw (v : Int32) {n : Nat} (hn : n < 40000) : (∃ k : Nat, v = nI k ∧ k < n ∧ fX5_requireKnown v (nI n) = some (.inl ()) ∧ fX6_in v 0 (nI n - 1) = some 1) ∨ (fX5_requireKnown v (nI n) = some (.inr 0) ∧ fX6_in v 0 (nI n - 1) = some 0) := by
  rw [in_g]
  unfold fX5_requireKnown
  by_cases h1 : v < 0
  · rw [if_pos h1, if_pos h1]
    exact Or.inr ⟨rfl, rfl⟩
  · rw [if_neg h1, if_neg h1]
    obtain ⟨k, hk, rfl⟩ := nI_of h1
    by_cases h2 : k < n
    · refine Or.inl ⟨k, rfl, h2, by rw [if_pos (p_lt h2 hn)], ?_⟩
      rw [show nI n - 1 = nI (n - 1) from pk_sub (b := 1) (by omega), if_neg (n_lt (by omega) (by omega))]
    · right
      rw [if_neg (nI_nlt (by omega) hk)]
      refine ⟨rfl, ?_⟩
      by_cases h0 : n = 0
      · subst h0
        rw [show nI 0 - 1 = (-1 : Int32) from rfl, if_pos (Int32.lt_of_lt_of_le (show (-1 : Int32) < 0 by decide) (nI_pos' hk))]
      · rw [show nI n - 1 = nI (n - 1) from pk_sub (b := 1) (by omega), if_pos (nI_lt (by omega) hk)]
theorem i_add0 (w : Int32) : w + 0 = w := Int32.add_zero w
