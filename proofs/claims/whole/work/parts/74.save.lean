/-! SAVE WITH POWER, on both sides -/
theorem par_n (y : Int32) : (y &&& 1) = 0 ↔ y.toBitVec.toNat % 2 = 0 := by
  constructor
  · intro h
    have h2 := congrArg (fun z : Int32 => z.toBitVec.toNat) h
    have h3 : (y.toBitVec &&& (1 : Int32).toBitVec).toNat = (0 : Int32).toBitVec.toNat := h2
    rw [BitVec.toNat_and, show (1 : Int32).toBitVec.toNat = 2 ^ 1 - 1 from rfl, Nat.and_two_pow_sub_one_eq_mod] at h3
    exact h3
  · intro h
    apply q_inj
    apply BitVec.eq_of_toNat_eq
    show (y.toBitVec &&& (1 : Int32).toBitVec).toNat = 0
    rw [BitVec.toNat_and, show (1 : Int32).toBitVec.toNat = 2 ^ 1 - 1 from rfl, Nat.and_two_pow_sub_one_eq_mod]
    exact h
theorem par_e {y : Int32} (h : (y &&& 1) = 0) : y - y / 2 * 2 = 0 := by
  have hn := (par_n y).mp h
  have hi : ∃ k : Int, y.toInt = 2 * k := by
    have e : y.toInt = y.toBitVec.toInt := rfl
    rw [e, BitVec.toInt_eq_toNat_cond]
    by_cases hc : 2 * y.toBitVec.toNat < 2 ^ 32
    · rw [if_pos hc]
      exact ⟨(y.toBitVec.toNat / 2 : Nat), by omega⟩
    · rw [if_neg hc]
      exact ⟨(y.toBitVec.toNat / 2 : Nat) - 2 ^ 31, by omega⟩
  obtain ⟨k, hk⟩ := hi
  apply Int32.toInt_inj.mp
  rw [Int32.toInt_sub, Int32.toInt_mul, Int32.toInt_div_of_ne_right _ _ (by decide), show (2 : Int32).toInt = 2 from rfl, hk, Int.mul_tdiv_cancel_left _ (by decide), Int.mul_comm k 2, Int.sub_bmod_bmod, Int.sub_self]
  rfl
theorem par_o {y : Int32} (h : ¬ (y &&& 1) = 0) : ¬ y - y / 2 * 2 = 0 := by
  intro q
  apply h
  have e := i_sub_eq.mp q
  rw [par_n]
  have e2 : y.toBitVec.toNat = ((y / 2) * 2).toBitVec.toNat := by rw [e]
  have e3 : ((y / 2) * 2).toBitVec.toNat = (y / 2).toBitVec.toNat * 2 % 2 ^ 32 := by
    show ((y / 2).toBitVec * (2 : Int32).toBitVec).toNat = _
    rw [BitVec.toNat_mul]
    rfl
  rw [e2, e3]
  omega
theorem m_saveL (x : Int64) (y : Int32) : ∀ (n i : Nat) (f : Nat → Int32), i ≤ 8 → 8 < n + i → ∃ g, fX6_save_L39 x y n (nI i) f = some (nI 8, g) ∧ Put g f 6 i 8 (fun i => nI (bL x (8 - 1 - i))) := by
  intro n
  induction n with
  | zero => intro i f h1 h2; omega
  | succ n ih =>
    intro i f h1 h2
    rw [fX6_save_L39.eq_2]
    by_cases h : i = 8
    · subst h
      exact ⟨f, by rw [if_pos (show (8 : Int32) ≤ nI 8 by decide)], Put.end_⟩
    · obtain ⟨g, e, hg⟩ := ih (i + 1) (upd f (6 + i) (nI (bL x (8 - 1 - i)))) (by omega) (by omega)
      refine ⟨g, ?_, Put.step (by omega) rfl hg⟩
      have ea : (56 : Int32) - 8 * nI i = nI (8 * (8 - 1 - i)) := by
        rw [show (8 : Int32) * nI i = nI (8 * i) from pk_mul 8 i, show (56 : Int32) - nI (8 * i) = nI (56 - 8 * i) from pk_sub (a := 56) (by omega), show 56 - 8 * i = 8 * (8 - 1 - i) by omega]
      rw [if_neg (show ¬ (8 : Int32) ≤ nI i from n_le (a := 8) (by omega) (by omega)), show (6 : Int32) + nI i = nI (6 + i) from nI_add 6 i, ea, m_put (by omega), ob, b_lshr x (by omega), nI_1]
      exact e
theorem on_save {n : Nat} {f d : Nat → Int32} {B : Nat → Nat} {cw wb bc cwr cb : Int32} (hn : 8 ≤ n) (hn2 : n ≤ 32) (hC : Cut cw wb bc cwr cb) (hD : Dk B f d) (st x : Int64) (nu e : Int32) (g mk : Nat → Int32) (out : Nat → Int64) :
    ∃ (ok cw' wb' cwr' e' : Int32) (f' d' g' mk' : Nat → Int32) (B' : Nat → Nat), Cut cw' wb' bc cwr' cb ∧ Dk B' f' d' ∧ ((ok = 0 ∧ fL_save 1 st nu (nI n) cw wb bc f e g 1 out x = some (0, 0, st, nu, cw', wb', f', e', g', vp_updL out (0 : Int32).toNatClampNeg (-1 : Int32).toInt64) ∧ fX6_save (nI n) 1 cwr cb nu st d mk x = some (-1, 0, 0, cwr', nu, st, d', mk')) ∨ (ok = 1 ∧ fL_save 1 st nu (nI n) cw wb bc f e g 1 out x = some (0, 1, x, nu + 1, cw', wb', f', e', g', vp_updL out (0 : Int32).toNatClampNeg (nu + 1).toInt64) ∧ fX6_save (nI n) 1 cwr cb nu st d mk x = some (nu + 1, 0, 1, cwr', nu + 1, x, d', mk'))) := by
  obtain ⟨g1, a1, b1⟩ := c_open g (nu + 1)
  obtain ⟨m1, a2, b2⟩ := m_clear mk (nu + 1)
  obtain ⟨g2, a3, b3⟩ := c_append b1 (x := x) (e := 6) (s := 8) (by omega) (by omega)
  obtain ⟨m2, a4, b4⟩ := m_saveL x (nu + 1) dkF 0 m1 (by omega) (by unfold dkF; omega)
  have b4 := Put_wr (q := nI) (F := fun i => bL x (8 - 1 - i)) b4 b2
  have HG := wrB_lt (p := 6) (k := 8) (opG_lt (nu + 1)) (fun i => bL_lt x (8 - 1 - i))
  obtain ⟨g3, a5, b5⟩ := c_seal HG b3 (e := 6 + 8) (by omega)
  obtain ⟨m3, a6, b6⟩ := m_finish b4 (l := 6 + 8 - 6)
  have a3 : fX1_append (nI 6) g1 x 8 = some (nI (6 + 8), g2) := a3
  have a4 : fX6_save_L39 x (nu + 1) dkF 0 m1 = some (nI 8, m2) := a4
  have a6 : fX6_finish m2 8 = some m3 := a6
  have hsec : ∃ s : Nat, s < 32 ∧ fX5_stateSectorOf (nI n) (nu + 1) = some (nI s) ∧ (if ((nu + 1) - (nu + 1) / 2 * 2) = 0 then (nI n - 1) else (nI n - 2)) = nI s := by
    have e6 : fX0_rowSectors (nI n) = some (nI (n - 2)) := by unfold fX0_rowSectors; rw [s_2 (by omega)]
    unfold fX5_stateSectorOf
    rw [e6]
    by_cases hp : ((nu + 1) &&& 1) = 0
    · refine ⟨n - 1, by omega, ?_, ?_⟩
      · rw [if_pos hp, if_pos rfl, ob, nI_1, show n - 2 + 1 = n - 1 by omega]
      · rw [if_pos (par_e hp)]
        exact pk_sub (b := 1) (by omega)
    · refine ⟨n - 2, by omega, ?_, ?_⟩
      · rw [if_neg hp, if_neg (show ¬ (1 : Int32) = 0 by decide), ob]
      · rw [if_neg (par_o hp), s_2 (by omega)]
  obtain ⟨s, hs, s1, s2⟩ := hsec
  obtain ⟨ok, cw', wb', cwr', f', d', B', r1, r2, r3, r4, r5⟩ := wr_2 hC hD (G := sealG (wrB (opG (nu + 1)) (fun i => bL x (8 - 1 - i)) 6 8) (6 + 8 - 6)) (g := g3) (mk := m3) ⟨sealG_lt HG _, b5, b6⟩ hs
  refine ⟨ok, cw', wb', cwr', nI (6 + 8), f', d', g3, m3, B', r4, r5, ?_⟩
  have k1 : fX5_requirePower 1 = some (.inl ()) := rfl
  have k2 : fX6_throwing (if (1 : Int32) = 0 then 1 else 0) 0 0 0 = some (0, 0) := rfl
  rcases r3 with r3 | r3
  · subst r3
    left
    refine ⟨rfl, ?_, ?_⟩
    · unfold fL_save fX5_save
      rw [k1, ob, Sum.elim_inl, a1, ob, a3, ob, a5, ob, s1, ob, r1, ob, if_pos rfl, ob, Sum.elim_inl]
      rfl
    · unfold fX6_save
      rw [k2, ob, if_pos rfl, a2, ob, a4, ob, a6, ob, s2, r2, ob, if_pos rfl]
  · subst r3
    right
    refine ⟨rfl, ?_, ?_⟩
    · unfold fL_save fX5_save
      rw [k1, ob, Sum.elim_inl, a1, ob, a3, ob, a5, ob, s1, ob, r1, ob, if_neg (show ¬ (1 : Int32) = 0 by decide), ob, Sum.elim_inl]
      rfl
    · unfold fX6_save
      rw [k2, ob, if_pos rfl, a2, ob, a4, ob, a6, ob, s2, r2, ob, if_neg (show ¬ (1 : Int32) = 0 by decide)]
