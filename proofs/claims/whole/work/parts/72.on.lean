/-! CALLS WITH POWER, on both sides -/
theorem on_reserve (rs mrs v : Int32) : (∃ c, fL_reserve 1 rs v = some (c, rs) ∧ fX6_reserve 1 mrs v = some (c, mrs)) ∨ (∃ k : Nat, k ≤ 8 ∧ fL_reserve 1 rs v = some (0, nI k) ∧ fX6_reserve 1 mrs v = some (0, nI k)) := by
  unfold fL_reserve fX5_reserve fX6_reserve
  rcases rng v (a := 0) (b := 8) (by omega) (by omega) with ⟨k, h1, h2, h3, e1, e2⟩ | ⟨e1, e2⟩
  · have e1 : fX5_requireRange v 0 8 = some (.inl ()) := e1
    have e2 : fX6_in v 0 8 = some 1 := e2
    rw [e1, e2]
    subst h1
    exact Or.inr ⟨k, h3, rfl, rfl⟩
  · have e1 : fX5_requireRange v 0 8 = some (.inr 1) := e1
    have e2 : fX6_in v 0 8 = some 0 := e2
    rw [e1, e2]
    exact Or.inl ⟨1, rfl, rfl⟩
theorem on_state (st : Int64) (out : Nat → Int64) : fL_state 1 st 1 out = some (0, vp_updL out (0 : Int32).toNatClampNeg st) ∧ fX6_state 1 st = some (st, 0) := ⟨rfl, rfl⟩
theorem on_cut (cw wb bc mcw mcb v1 v2 : Int32) : (∃ c, fL_cut 1 cw wb bc v1 v2 = some (c, cw, wb, bc) ∧ fX6_cut 1 mcw mcb v1 v2 = some (c, mcw, mcb)) ∨ (∃ a b : Nat, a ≤ 20 ∧ b ≤ 511 ∧ fL_cut 1 cw wb bc v1 v2 = some (0, 1, nI a, nI b) ∧ fX6_cut 1 mcw mcb v1 v2 = some (0, nI a, nI b)) := by
  unfold fL_cut fX5_cut fX6_cut
  rcases rng v1 (a := 0) (b := 20) (by omega) (by omega) with ⟨k, h1, h2, h3, e1, e2⟩ | ⟨e1, e2⟩
  · have e1 : fX5_requireRange v1 0 20 = some (.inl ()) := e1
    have e2 : fX6_in v1 0 20 = some 1 := e2
    rcases rng v2 (a := 0) (b := 511) (by omega) (by omega) with ⟨l, g1, g2, g3, e3, e4⟩ | ⟨e3, e4⟩
    · have e3 : fX5_requireRange v2 0 511 = some (.inl ()) := e3
      have e4 : fX6_in v2 0 511 = some 1 := e4
      rw [e1, e2, e3, e4]
      subst h1
      subst g1
      exact Or.inr ⟨k, l, h3, g3, rfl, rfl⟩
    · have e3 : fX5_requireRange v2 0 511 = some (.inr 1) := e3
      have e4 : fX6_in v2 0 511 = some 0 := e4
      rw [e1, e2, e3, e4]
      exact Or.inl ⟨1, rfl, rfl⟩
  · have e1 : fX5_requireRange v1 0 20 = some (.inr 1) := e1
    have e2 : fX6_in v1 0 20 = some 0 := e2
    rw [e1, e2]
    exact Or.inl ⟨1, rfl, rfl⟩
theorem on_line {up v : Int32} (hu : dk_01 up) (hv : dk_01 v) : ∃ c, fL_line 1 up v = some (c, v) ∧ fX6_line 1 up v = some (c, v) := by
  rcases hu with e | e <;> rcases hv with e2 | e2 <;> subst e <;> subst e2
  · exact ⟨1, rfl, rfl⟩
  · exact ⟨0, rfl, rfl⟩
  · exact ⟨0, rfl, rfl⟩
  · exact ⟨1, rfl, rfl⟩
theorem on_count {t z : Nat} {th mt : Nat → Int32} {pr : Int32} (hR : Rm t th mt pr) (hz : z ≤ 5010) (ht : t ≤ z) (u nu sc rp w v : Int32) (out : Nat → Int64) : (fL_count 1 u nu sc rp w (nI z) (nI t) pr 1 out v = some (1, out) ∧ fX6_count 1 u (nI z) w nu sc rp (nI t) mt v = some (0, 1)) ∨ (∃ y : Int32, fL_count 1 u nu sc rp w (nI z) (nI t) pr 1 out v = some (0, vp_updL out (0 : Int32).toNatClampNeg y.toInt64) ∧ fX6_count 1 u (nI z) w nu sc rp (nI t) mt v = some (y, 0)) := by
  have hm := m_room hR hz ht
  by_cases h : v.toInt < 0 ∨ 7 < v.toInt
  · left
    constructor
    · unfold fL_count fX5_count
      show Option.bind (if v.toInt < 0 ∨ 7 < v.toInt then some (Sum.inr 0 : Int32 ⊕ Nat) else _) _ = _
      rw [if_pos h]
      rfl
    · unfold fX6_count
      rw [if_neg (show ¬ (1 : Int32) = 0 by decide), in_g]
      rcases h with h | h
      · rw [if_pos (show v < 0 from Int32.lt_iff_toInt_lt.mpr h)]
        rfl
      · rw [if_neg (show ¬ v < 0 from fun q => by have := Int32.lt_iff_toInt_lt.mp q; rw [show (0 : Int32).toInt = 0 from rfl] at this; omega), if_pos (show (7 : Int32) < v from Int32.lt_iff_toInt_lt.mpr h)]
        rfl
  · right
    have h0 : ¬ v < 0 := fun q => by
      have := Int32.lt_iff_toInt_lt.mp q
      rw [show (0 : Int32).toInt = 0 from rfl] at this
      omega
    obtain ⟨k, hk, rfl⟩ := nI_of h0
    rw [nI_toInt hk] at h
    rcases (show k = 0 ∨ k = 1 ∨ k = 2 ∨ k = 3 ∨ k = 4 ∨ k = 5 ∨ k = 6 ∨ k = 7 by omega) with e | e | e | e | e | e | e | e <;> subst e
    · exact ⟨nI z, rfl, rfl⟩
    · exact ⟨w, rfl, rfl⟩
    · exact ⟨sc, rfl, rfl⟩
    · exact ⟨rp, rfl, rfl⟩
    · exact ⟨u, rfl, rfl⟩
    · exact ⟨nu, rfl, rfl⟩
    · refine ⟨pr, rfl, ?_⟩
      unfold fX6_count
      rw [hm]
      rfl
    · exact ⟨nI t, rfl, rfl⟩
theorem on_send {t z : Nat} {th mt : Nat → Int32} {pr up : Int32} (hR : Rm t th mt pr) (hz : z ≤ 5010) (ht : t ≤ z) (hu : dk_01 up) (v : Int32) (out : Nat → Int64) : (∃ c, ¬ c = 0 ∧ fL_send 1 (nI z) (nI t) pr up th 1 out v = some (c, nI t, pr, th, out) ∧ fX6_send 1 (nI z) up (nI t) mt v = some (0, c, nI t, mt)) ∨ (∃ (t' : Nat) (pr' : Int32) (th' mt' : Nat → Int32), t' ≤ z ∧ Rm t' th' mt' pr' ∧ fL_send 1 (nI z) (nI t) pr up th 1 out v = some (0, nI t', pr', th', vp_updL out (0 : Int32).toNatClampNeg pr'.toInt64) ∧ fX6_send 1 (nI z) up (nI t) mt v = some (pr', 0, nI t', mt')) := by
  unfold fL_send fX5_send fX6_send
  rcases rng v (a := 0) (b := 100) (by omega) (by omega) with ⟨k, h1, h2, h3, e1, e2⟩ | ⟨e1, e2⟩
  · have e1 : fX5_requireRange v 0 100 = some (.inl ()) := e1
    have e2 : fX6_in v 0 100 = some 1 := e2
    subst h1
    obtain ⟨k', pr', t', th', mt', q1, q2, q3, q4⟩ := take_L hz h3 hu dkF 0 t th mt pr (by omega) (by unfold dkF; omega) ht hR
    have q1 : fX3_take_L11 up (nI k) (nI z) dkF 0 (nI t) pr th = some (k', nI t', pr', th') := q1
    have q2 : fX6_send_L40 (nI z) up (nI k) dkF 0 (nI t) mt = some (k', nI t', mt') := q2
    have b1 : fX3_take (nI t) pr up th (nI k) (nI z) = some (nI t', pr', th') := by
      unfold fX3_take
      rw [if_neg (show ¬ (5010 : Int32) < nI z from n_lt (a := 5010) hz (by omega)), q1, ob]
    have b2 := m_room q4 hz q3
    refine Or.inr ⟨t', pr', th', mt', q3, q4, ?_, ?_⟩
    · rw [e1]
      show Option.bind (Option.bind (fX3_take (nI t) pr up th (nI k) (nI z)) _) _ = _
      rw [b1]
      rfl
    · rw [e2]
      show Option.bind (fX6_send_L40 (nI z) up (nI k) dkF 0 (nI t) mt) _ = _
      rw [q2, ob, b2]
      rfl
  · have e1 : fX5_requireRange v 0 100 = some (.inr 1) := e1
    have e2 : fX6_in v 0 100 = some 0 := e2
    rw [e1, e2]
    exact Or.inl ⟨1, by decide, rfl, rfl⟩
theorem on_gap {t : Nat} {th mt : Nat → Int32} {pr : Int32} (hR : Rm t th mt pr) (v : Int32) (out : Nat → Int64) : (fL_gap 1 (nI t) th 1 out v = some (1, out) ∧ fX6_gap 1 (nI t) mt v = some (0, 1)) ∨ (∃ y : Int32, fL_gap 1 (nI t) th 1 out v = some (0, vp_updL out (0 : Int32).toNatClampNeg y.toInt64) ∧ fX6_gap 1 (nI t) mt v = some (y, 0)) := by
  obtain ⟨h1, h2, h3, h4⟩ := hR
  unfold fL_gap fX5_gap fX6_gap
  rw [show fX5_requirePower 1 = some (.inl ()) from rfl, ob, if_neg (show ¬ (1 : Int32) = 0 by decide)]
  simp only [Sum.elim_inl]
  by_cases h : 0 ≤ v
  · right
    have g := gap_L h1 h2 v dkF 0 0 dkF (by omega) (by unfold dkF; omega) (Or.inl rfl) (by unfold dkF; omega)
    rw [show v - nI 0 = v from i_sub0 v] at g
    rw [if_pos h, if_pos h, if_pos (show (0 : Int32) ≤ 0 by decide)]
    rcases g with ⟨g1, g2⟩ | ⟨a, ha, g1, g2⟩
    · have g1 : fX3_firstOfGap (nI t) th v = some (-1) := by
        unfold fX3_firstOfGap
        exact g1
      have g2 : fX6_gap_L37 0 (nI t) mt dkF v 0 = some (-1, 0) := g2
      refine ⟨-1, ?_, g2⟩
      rw [g1, ob, if_pos rfl, ob, Sum.elim_inl]
      rfl
    · have g1 : fX3_firstOfGap (nI t) th v = some (nI a) := by
        unfold fX3_firstOfGap
        exact g1
      have g2 : fX6_gap_L37 0 (nI t) mt dkF v 0 = some (10000 * nI a + nI (ez th (t - a) a - a), 0) := g2
      refine ⟨_, ?_, g2⟩
      have g3 : fX3_missingFrom (nI t) th (nI a) = some (nI (ez th (t - a) a - a)) := by
        have := (ez_1 th (t - a) a).1
        unfold fX3_missingFrom
        rw [if_neg (nI_pos (n2 (by omega))), c_missL h1 (nI a) dkF a (by omega) (by unfold dkF; omega), ob, pk_sub this]
      rw [g1, ob, if_neg (show ¬ nI a = -1 from fun q => by
        have : nI a < 0 := by rw [q]; decide
        exact nI_pos (n2 (by omega)) this), g3, ob, ob, Sum.elim_inl]
      rfl
  · left
    rw [if_neg h, if_neg h, if_neg (show ¬ (1 : Int32) ≤ 0 by decide)]
    exact ⟨rfl, rfl⟩
theorem on_fill {t : Nat} {th mt : Nat → Int32} {pr up : Int32} (hR : Rm t th mt pr) (hu : dk_01 up) (v : Int32) (out : Nat → Int64) : (∃ c, ¬ c = 0 ∧ fL_fill 1 (nI t) pr up th 1 out v = some (c, pr, th, out) ∧ fX6_fill 1 up (nI t) mt v = some (0, c, mt)) ∨ (∃ (y pr' : Int32) (th' mt' : Nat → Int32), Rm t th' mt' pr' ∧ fL_fill 1 (nI t) pr up th 1 out v = some (0, pr', th', vp_updL out (0 : Int32).toNatClampNeg y.toInt64) ∧ fX6_fill 1 up (nI t) mt v = some (y, 0, mt')) := by
  unfold fL_fill fX5_fill fX6_fill
  rcases rng v (a := 0) (b := 100) (by omega) (by omega) with ⟨k, h1, h2, h3, e1, e2⟩ | ⟨e1, e2⟩
  · have e1 : fX5_requireRange v 0 100 = some (.inl ()) := e1
    have e2 : fX6_in v 0 100 = some 1 := e2
    subst h1
    rw [e1, e2]
    rcases hu with e | e
    · subst e
      exact Or.inl ⟨2, by decide, rfl, rfl⟩
    · subst e
      obtain ⟨a, pr', k', th', mt', q1, q2, q3⟩ := fillr h3 hR
      refine Or.inr ⟨a, pr', th', mt', q3, ?_, ?_⟩
      · show Option.bind (Option.bind (fX3_fillLowest (nI t) pr th (nI k)) _) _ = _
        rw [q1]
        rfl
      · show Option.bind (fX6_fill_L49 (nI t) (nI k) dkF 0 0 mt) _ = _
        rw [q2]
        rfl
  · have e1 : fX5_requireRange v 0 100 = some (.inr 1) := e1
    have e2 : fX6_in v 0 100 = some 0 := e2
    rw [e1, e2]
    exact Or.inl ⟨1, by decide, rfl, rfl⟩
