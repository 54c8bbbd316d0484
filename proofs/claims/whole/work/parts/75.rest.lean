/-! THE OTHER CALLS, on both sides -/
theorem rf_bad {v : Int32} {r : Nat} (e : fX6_in v 0 (nI r - 1) = some 0) (q s : Int32) : fX6_refuses 1 (nI r) v q s = some (1, 1) := by
  unfold fX6_refuses
  rw [e]
  rfl
theorem rf_rng {v : Int32} {r : Nat} (e : fX6_in v 0 (nI r - 1) = some 1) (s : Int32) : fX6_refuses 1 (nI r) v 1 s = some (1, 2) := by
  unfold fX6_refuses
  rw [e]
  rfl
theorem rf_ok {v : Int32} {r : Nat} (e : fX6_in v 0 (nI r - 1) = some 1) (s : Int32) : fX6_refuses 1 (nI r) v 0 s = some (0, 0) := by
  unfold fX6_refuses
  rw [e]
  rfl
section RK
variable {n r u : Nat} {f d pk so po mo : Nat → Int32} {B : Nat → Nat}
theorem on_read (hD : Dk B f d) (hn : 8 ≤ n) (hn2 : n ≤ 32) (hu : u + 2 ≤ n) (hr : r ≤ 5010) (hP : Pl r u pk so po mo) (sc v1 v2 : Int32) (out : Nat → Int64) : (∃ c, ¬ c = 0 ∧ fL_read 1 sc (nI n) f (nI r) pk 1 out v1 v2 = some (c, sc, out) ∧ fX6_read (nI n) 1 (nI r) sc d so po mo v1 v2 = some (0, c, sc)) ∨ (∃ y sc' : Int32, fL_read 1 sc (nI n) f (nI r) pk 1 out v1 v2 = some (0, sc', vp_updL out (0 : Int32).toNatClampNeg y.toInt64) ∧ fX6_read (nI n) 1 (nI r) sc d so po mo v1 v2 = some (y, 0, sc')) := by
  unfold fL_read fX5_read fX6_read
  rw [show fX5_requirePower 1 = some (.inl ()) from rfl, ob, Sum.elim_inl, show fX2_size (nI r) = some (nI r) from rfl, ob]
  rcases knw v1 (n := r) (by omega) with ⟨j, h1, h2, e1, e2⟩ | ⟨e1, e2⟩
  · rw [e1, ob, Sum.elim_inl]
    by_cases h : 0 ≤ v2
    · obtain ⟨i, hi, rfl⟩ := nI_of (i_nle.mpr h)
      obtain ⟨s, p, l, g1, g2, g3, g4, g5, g6, g7, g8, g9⟩ := hP j h2
      subst h1
      have b1 : fX2_sectorOf (nI r) pk (nI j) = some (nI s) := c_secOf hr h2 g1 (by omega) (by omega) (by omega)
      have b2 : fX2_startOf (nI r) pk (nI j) = some (nI p) := c_startOf hr h2 g1 (by omega) (by omega) (by omega)
      have b3 : fX2_lengthOf (nI r) pk (nI j) = some (nI l) := c_lengthOf hr h2 g1 (by omega) (by omega) (by omega)
      have b4 : mo (nI j).toNatClampNeg = nI l := by rw [nI_clamp (n2 (by omega)), g4]
      rw [if_pos h, if_pos h, rf_ok e2, ob, if_pos rfl, b1, ob]
      right
      rcases fnd hD hn hn2 (show s < 32 by omega) (show j < 5010 by omega) g2 g3 sc with ⟨r1, r2, r3⟩ | ⟨c, hc, r2, r1, r4, r3⟩
      · refine ⟨-2, sc, ?_, ?_⟩
        · rw [r1, ob, if_pos rfl, ob, Sum.elim_inl]
          rfl
        · rw [r3, ob, if_neg (show ¬ (0 : Int32) ≤ -1 by decide)]
      · have hp := pos_lt hc (show s < 32 by omega)
        rw [r1, ob, if_neg (c_ne hc), r4, ob, b3, ob, b2, ob, r3, ob, if_pos (nI_pos' (n2 (by omega))), if_pos (p_in (by omega) (by omega))]
        by_cases hl : i < l
        · refine ⟨nI (B (pos c s + (p + 2 + i))), sc + nI c, ?_, ?_⟩
          · rw [if_pos (nI_lt hl (n2 (by omega))), show nI p + 2 = nI (p + 2) from nI_add p 2, nI_add, c_byteAt hD.HB hD.hf hc (by omega) (by omega), ob, ob, Sum.elim_inl]
            rfl
          · rw [if_neg (show ¬ mo (nI j).toNatClampNeg ≤ nI i by rw [b4]; exact n_le hl (by omega)), show nI (pos c s + p) + 2 = nI (pos c s + p + 2) from nI_add _ 2, nI_add, if_pos (p_in (by omega) (by omega)), m_rd hD.hd (by omega), show pos c s + p + 2 + i = pos c s + (p + 2 + i) by omega]
        · refine ⟨-1, sc + nI c, ?_, ?_⟩
          · rw [if_neg (nI_nlt (by omega) hi), ob, Sum.elim_inl]
            rfl
          · rw [if_pos (show mo (nI j).toNatClampNeg ≤ nI i by rw [b4]; exact nI_le (by omega) hi)]
    · rw [if_neg h, if_neg h, rf_rng e2, ob]
      exact Or.inl ⟨2, by decide, rfl, rfl⟩
  · rw [e1, ob, Sum.elim_inr, rf_bad e2, ob]
    exact Or.inl ⟨1, by decide, rfl, rfl⟩
theorem on_kind (hD : Dk B f d) (hn : 8 ≤ n) (hn2 : n ≤ 32) (hu : u + 2 ≤ n) (hr : r ≤ 5010) (hP : Pl r u pk so po mo) (sc v1 : Int32) (out : Nat → Int64) : (∃ c, ¬ c = 0 ∧ fL_kind 1 sc (nI n) f (nI r) pk 1 out v1 = some (c, sc, out) ∧ fX6_kind (nI n) 1 (nI r) sc d so po v1 = some (0, c, sc)) ∨ (∃ y sc' : Int32, fL_kind 1 sc (nI n) f (nI r) pk 1 out v1 = some (0, sc', vp_updL out (0 : Int32).toNatClampNeg y.toInt64) ∧ fX6_kind (nI n) 1 (nI r) sc d so po v1 = some (y, 0, sc')) := by
  unfold fL_kind fX5_kind fX6_kind
  rw [show fX5_requirePower 1 = some (.inl ()) from rfl, ob, Sum.elim_inl, show fX2_size (nI r) = some (nI r) from rfl, ob]
  rcases knw v1 (n := r) (by omega) with ⟨j, h1, h2, e1, e2⟩ | ⟨e1, e2⟩
  · rw [e1, ob, Sum.elim_inl]
    obtain ⟨s, p, l, g1, g2, g3, g4, g5, g6, g7, g8, g9⟩ := hP j h2
    subst h1
    have b1 : fX2_sectorOf (nI r) pk (nI j) = some (nI s) := c_secOf hr h2 g1 (by omega) (by omega) (by omega)
    have b2 : fX2_startOf (nI r) pk (nI j) = some (nI p) := c_startOf hr h2 g1 (by omega) (by omega) (by omega)
    rw [rf_ok e2, ob, if_pos rfl, b1, ob]
    right
    rcases fnd hD hn hn2 (show s < 32 by omega) (show j < 5010 by omega) g2 g3 sc with ⟨r1, r2, r3⟩ | ⟨c, hc, r2, r1, r4, r3⟩
    · refine ⟨-2, sc, ?_, ?_⟩
      · rw [r1, ob, if_pos rfl, ob, Sum.elim_inl]
        rfl
      · rw [r3, ob, if_neg (show ¬ (0 : Int32) ≤ -1 by decide)]
    · have hp := pos_lt hc (show s < 32 by omega)
      refine ⟨nI (B (pos c s + p)), sc + nI c, ?_, ?_⟩
      · rw [r1, ob, if_neg (c_ne hc), r4, ob, b2, ob, c_byteAt hD.HB hD.hf hc (by omega) (by omega), ob, ob, Sum.elim_inl]
        rfl
      · rw [r3, ob, if_pos (nI_pos' (n2 (by omega))), if_pos (p_in (by omega) (by omega)), m_rd hD.hd (by omega)]
  · rw [e1, ob, Sum.elim_inr, rf_bad e2, ob]
    exact Or.inl ⟨1, by decide, rfl, rfl⟩
theorem on_extract (hD : Dk B f d) (hn : 8 ≤ n) (hn2 : n ≤ 32) (hu : u + 2 ≤ n) (hr : r ≤ 5010) (hP : Pl r u pk so po mo) (sc v1 v2 : Int32) (out : Nat → Int64) : (∃ c, ¬ c = 0 ∧ fL_extract 1 sc (nI n) f (nI r) pk 1 out v1 v2 = some (c, sc, out) ∧ fX6_extract (nI n) 1 (nI r) sc d so po mo v1 v2 = some (0, c, sc)) ∨ (∃ y sc' : Int32, fL_extract 1 sc (nI n) f (nI r) pk 1 out v1 v2 = some (0, sc', vp_updL out (0 : Int32).toNatClampNeg y.toInt64) ∧ fX6_extract (nI n) 1 (nI r) sc d so po mo v1 v2 = some (y, 0, sc')) := by
  unfold fL_extract fX5_extract fX6_extract
  rw [show fX5_requirePower 1 = some (.inl ()) from rfl, ob, Sum.elim_inl, show fX2_size (nI r) = some (nI r) from rfl, ob]
  simp only [if_neg (show ¬ (1 : Int32) = 0 by decide)]
  by_cases h1 : v1 < 0
  · simp only [if_pos h1]
    exact Or.inl ⟨1, by decide, rfl, rfl⟩
  · simp only [if_neg h1]
    by_cases h2 : v2 < v1
    · simp only [if_pos h2]
      exact Or.inl ⟨1, by decide, rfl, rfl⟩
    · simp only [if_neg h2]
      by_cases h3 : v2 ≤ nI r
      · simp only [if_pos h3]
        obtain ⟨a, ha, rfl⟩ := nI_of h1
        obtain ⟨b, hb, rfl⟩ := nI_of (show ¬ v2 < 0 from fun q => h2 (Int32.lt_of_lt_of_le q (nI_pos' ha)))
        have hab : a ≤ b := (nI_leI ha hb).mp (i_nle.mp h2)
        have hbr : b ≤ r := (nI_leI hb (n2 (by omega))).mp h3
        obtain ⟨sm, sec', a1, a2, a3, a4, q1, q2⟩ := ext_L hD hn hn2 (show u ≤ 32 by omega) hr hbr hP dkF a 0 (-1) (-1) sc hab (by unfold dkF; omega) (Or.inl rfl)
        refine Or.inr ⟨sm, sec', ?_, ?_⟩
        · rw [q1, ob, ob, Sum.elim_inl]
          rfl
        · rw [if_pos (show (0 : Int32) ≤ 0 by decide), q2, ob]
      · simp only [if_neg h3]
        exact Or.inl ⟨1, by decide, rfl, rfl⟩
end RK
theorem alt_0 {n : Nat} (hn : n ≤ 32) (f d : Nat → Int32) (v1 v2 v3 v4 : Int32) : (∃ c, fL_alter (nI n) f v1 v2 v3 v4 = some (c, f) ∧ fX6_alter (nI n) d v1 v2 v3 v4 = some (c, d)) ∨ (∃ c s k m : Nat, c < 2 ∧ s < n ∧ k < 512 ∧ m < 256 ∧ fL_alter (nI n) f v1 v2 v3 v4 = (fX0_flip f (nI c) (nI s) (nI k) (nI m)).bind (fun o => some (0, o)) ∧ fX6_alter (nI n) d v1 v2 v3 v4 = some (0, upd d (nI (pos c s + k)).toNatClampNeg (d (nI (pos c s + k)).toNatClampNeg ^^^ nI m))) := by
  unfold fL_alter fX5_alter fX6_alter
  rw [show fX0_sectors (nI n) = some (nI n) from rfl]
  rcases knw v1 (n := 2) (by omega) with ⟨c, h1, h2, e1, e2⟩ | ⟨e1, e2⟩
  · have e1 : fX5_requireKnown v1 2 = some (.inl ()) := e1
    have e2 : fX6_in v1 0 1 = some 1 := e2
    rw [e1, e2]
    rcases knw v2 (n := n) (by omega) with ⟨s, g1, g2, e3, e4⟩ | ⟨e3, e4⟩
    · rw [e4]
      rcases knw v3 (n := 512) (by omega) with ⟨k, i1, i2, e5, e6⟩ | ⟨e5, e6⟩
      · have e5 : fX5_requireKnown v3 512 = some (.inl ()) := e5
        have e6 : fX6_in v3 0 511 = some 1 := e6
        rw [e5, e6]
        rcases rng v4 (a := 1) (b := 255) (by omega) (by omega) with ⟨m, j1, j2, j3, e7, e8⟩ | ⟨e7, e8⟩
        · have e7 : fX5_requireRange v4 1 255 = some (.inl ()) := e7
          have e8 : fX6_in v4 1 255 = some 1 := e8
          rw [e7, e8]
          subst h1; subst g1; subst i1; subst j1
          have hp := pos_lt h2 (show s < 32 by omega)
          have b1 : fX6_at (nI c) (nI s) = some (nI (pos c s)) := m_at
          simp only [ob, Sum.elim_inl]
          refine Or.inr ⟨c, s, k, m, h2, g2, i2, by omega, ?_, ?_⟩
          · rw [e3]
            simp only [ob, Sum.elim_inl]
            cases fX0_flip f (nI c) (nI s) (nI k) (nI m) <;> rfl
          · simp only [if_neg (show ¬ (1 : Int32) = 0 by decide), if_neg (n_e0 (show ¬ n = 0 by omega) (by omega))]
            rw [th_0, ob, if_pos rfl, b1, ob, nI_add, if_pos (p_in (by omega) (by omega)), if_pos (p_in (by omega) (by omega))]
        · have e7 : fX5_requireRange v4 1 255 = some (.inr 1) := e7
          have e8 : fX6_in v4 1 255 = some 0 := e8
          rw [e7, e8]
          simp only [ob, Sum.elim_inl]
          rw [e3]
          exact Or.inl ⟨2, rfl, rfl⟩
      · have e5 : fX5_requireKnown v3 512 = some (.inr 0) := e5
        have e6 : fX6_in v3 0 511 = some 0 := e6
        rw [e5, e6, in_g]
        simp only [ob, Sum.elim_inl]
        rw [e3]
        exact Or.inl ⟨1, rfl, rfl⟩
    · rw [e4, in_g v4]
      simp only [ob, Sum.elim_inl]
      rw [e3]
      exact Or.inl ⟨1, rfl, rfl⟩
  · have e1 : fX5_requireKnown v1 2 = some (.inr 0) := e1
    have e2 : fX6_in v1 0 1 = some 0 := e2
    rw [e1, e2, in_g v4]
    exact Or.inl ⟨1, rfl, rfl⟩
