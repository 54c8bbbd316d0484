/-! READING ROWS, on both sides -/
theorem rc_c (B : Nat → Nat) (n s : Nat) : rcopy B n s = -1 ∨ ∃ c : Nat, c < 2 ∧ rcopy B n s = nI c := by
  unfold rcopy
  by_cases h : rgt B n 0 s = 0
  · rw [if_pos h]
    by_cases h2 : rgt B n 1 s = 0
    · rw [if_pos h2]; exact Or.inl rfl
    · rw [if_neg h2]; exact Or.inr ⟨1, by omega, rfl⟩
  · rw [if_neg h]; exact Or.inr ⟨0, by omega, rfl⟩
theorem c_ne {c : Nat} (hc : c < 2) : ¬ nI c = -1 := by rcases (show c = 0 ∨ c = 1 by omega) with e | e <;> subst e <;> decide
theorem c_note {c : Nat} (hc : c < 2) (sec : Int32) : fX5_noteReadFrom sec (nI c) = some (sec + nI c) := by
  unfold fX5_noteReadFrom
  rcases (show c = 0 ∨ c = 1 by omega) with e | e
  · subst e
    rw [if_neg (show ¬ nI 0 = 1 by decide), show nI 0 = (0 : Int32) from rfl, i_add0]
  · subst e
    rw [if_pos (show nI 1 = 1 from rfl)]
    rfl
theorem fnd {f d so po : Nat → Int32} {B : Nat → Nat} (hD : Dk B f d) {n j s p : Nat} (hn : 8 ≤ n) (hn2 : n ≤ 32) (hs : s < 32) (hj : j < 5010) (e1 : so j = nI s) (e2 : po j = nI p) (sec : Int32) :
    (fX0_firstRightCopy (nI n) f (nI s) = some (-1) ∧ rcopy B n s = -1 ∧ fX6_find (nI n) sec d so po (nI j) = some (-1, sec)) ∨ (∃ c : Nat, c < 2 ∧ rcopy B n s = nI c ∧ fX0_firstRightCopy (nI n) f (nI s) = some (nI c) ∧ fX5_noteReadFrom sec (nI c) = some (sec + nI c) ∧ fX6_find (nI n) sec d so po (nI j) = some (nI (pos c s + p), sec + nI c)) := by
  have a1 := c_frc hD.HB hD.hf hn hn2 hs
  have a2 := m_rc hD.HB hD.hd hn hn2 hs
  have b1 : so (nI j).toNatClampNeg = nI s := by rw [nI_clamp (n2 (by omega)), e1]
  have b2 : po (nI j).toNatClampNeg = nI p := by rw [nI_clamp (n2 (by omega)), e2]
  have hin : dk_in (nI j) 5100 := p_in (by omega) (by omega)
  unfold fX6_find
  rw [if_pos hin, b1, b2, a1, a2, ob]
  rcases rc_c B n s with h | ⟨c, hc, h⟩
  · left
    rw [h]
    exact ⟨rfl, rfl, rfl⟩
  · right
    refine ⟨c, hc, h, by rw [h], c_note hc sec, ?_⟩
    have b3 : fX6_at (nI c) (nI s) = some (nI (pos c s)) := m_at
    rw [h, if_pos (nI_pos' (n2 (by omega))), if_pos hin, b3, ob, if_pos hin, nI_add]
/-- a row's sum -/
def rs (B : Nat → Nat) (q : Nat) (x : Int32) : Nat → Int32
  | 0 => x
  | k + 1 => stp (rs B q x k) (nI (B (q + 2 + k)))
section RS
variable {f d mo : Nat → Int32} {B : Nat → Nat}
theorem c_rsL (hD : Dk B f d) {c s p l : Nat} (hc : c < 2) (hs : s < 32) (hp : p + 2 + l ≤ 508) (x : Int32) : ∀ (n k : Nat), k ≤ l → l < n + k → fX5_sumWithRow_L51 f (nI c) (nI s) (nI p) (nI l) n (rs B (pos c s + p) x k) (nI k) = some (rs B (pos c s + p) x l, nI l) := by
  intro n
  induction n with
  | zero => intro k h1 h2; omega
  | succ n ih =>
    intro k h1 h2
    rw [fX5_sumWithRow_L51.eq_2]
    by_cases h : k = l
    · subst h
      rw [if_pos (p_le (Nat.le_refl _) (by omega))]
    · rw [if_neg (n_le (by omega) (by omega)), show nI p + 2 = nI (p + 2) from nI_add p 2, nI_add, c_byteAt hD.HB hD.hf hc hs (by omega), ob, c_step, ob, nI_1]
      have := ih (k + 1) (by omega) (by omega)
      rw [rs, show pos c s + p + 2 + k = pos c s + (p + 2 + k) by omega] at this
      exact this
theorem m_rsL (hD : Dk B f d) {q l j : Nat} (x2 x : Int32) (hj : j < 5010) (hm : mo j = nI l) (hq : q + 2 + l ≤ 32768) : ∀ (n k : Nat), k ≤ l → l < n + k → fX6_extract_L85 d mo x2 (nI j) (nI q) n (rs B q x k) (nI k) = some (rs B q x l, nI l) := by
  intro n
  induction n with
  | zero => intro k h1 h2; omega
  | succ n ih =>
    intro k h1 h2
    have b1 : mo (nI j).toNatClampNeg = nI l := by rw [nI_clamp (n2 (by omega)), hm]
    rw [fX6_extract_L85.eq_2, if_pos (p_in (by omega) (by omega))]
    by_cases h : k = l
    · subst h
      rw [if_pos (show mo (nI j).toNatClampNeg ≤ nI k by rw [b1]; exact p_le (Nat.le_refl _) (by omega))]
    · rw [if_neg (show ¬ mo (nI j).toNatClampNeg ≤ nI k by rw [b1]; exact n_le (by omega) (by omega)), show nI q + 2 = nI (q + 2) from nI_add q 2, nI_add, if_pos (p_in (by omega) (by omega)), m_rd hD.hd (by omega), m_step, ob, nI_1]
      exact ih (k + 1) (by omega) (by omega)
end RS
theorem ext_L {f d pk so po mo : Nat → Int32} {B : Nat → Nat} (hD : Dk B f d) {n z u b : Nat} (hn : 8 ≤ n) (hn2 : n ≤ 32) (hu : u ≤ 32) (hz : z ≤ 5010) (hb : b ≤ z) (hP : Pl z u pk so po mo) : ∀ (k j : Nat) (x3 x4 x5 sec : Int32), j ≤ b → b < k + j → (x4 = -1 ∨ ∃ s0 : Nat, s0 < 32 ∧ x4 = nI s0 ∧ x5 = rcopy B n s0) →
    ∃ sm sec' a1 a2 a3 a4 : Int32, fX5_extract_L45 (nI n) f (nI z) pk (nI b) k x3 x4 x5 (nI j) sec = some (sm, a1, a2, a3, sec') ∧ fX6_extract_L51 (nI n) d so po mo (nI b) k x3 (nI j) sec = some (sm, a4, sec') := by
  intro k
  induction k with
  | zero => intro j x3 x4 x5 sec h1 h2; omega
  | succ k ih =>
    intro j x3 x4 x5 sec h1 h2 h3
    rw [fX5_extract_L45.eq_2, fX6_extract_L51.eq_2]
    by_cases h : j = b
    · subst h
      exact ⟨x3, sec, x4, x5, nI j, nI j, by rw [if_pos (p_le (Nat.le_refl _) (by omega))], by rw [if_pos (p_le (Nat.le_refl _) (by omega))]⟩
    · obtain ⟨s, p, l, g1, g2, g3, g4, g5, g6, g7, g8, g9⟩ := hP j (by omega)
      have e1 : fX2_sectorOf (nI z) pk (nI j) = some (nI s) := c_secOf hz (by omega) g1 (by omega) (by omega) (by omega)
      have e2 : fX2_startOf (nI z) pk (nI j) = some (nI p) := c_startOf hz (by omega) g1 (by omega) (by omega) (by omega)
      have e3 : fX2_lengthOf (nI z) pk (nI j) = some (nI l) := c_lengthOf hz (by omega) g1 (by omega) (by omega) (by omega)
      rw [if_neg (n_le (a := b) (b := j) (by omega) (by omega)), if_neg (n_le (a := b) (b := j) (by omega) (by omega)), e1, ob]
      rcases fnd hD hn hn2 (show s < 32 by omega) (show j < 5010 by omega) g2 g3 sec with ⟨r1, r2, r3⟩ | ⟨c, hc, r2, r1, r4, r3⟩
      · rw [r3, ob, ob, if_pos (show (-1 : Int32) < 0 by decide), nI_1]
        by_cases e : nI s = x4
        · rcases h3 with h3 | ⟨s0, h4, h5, h6⟩
          · subst h3
            exact absurd e (by
              intro q
              have : nI s < 0 := by rw [q]; decide
              exact nI_pos (n2 (by omega)) this)
          · have hs0 : s = s0 := (nI_eq (n2 (by omega)) (n2 (by omega))).mp (e.trans h5)
            subst hs0
            rw [if_pos e, if_pos (show x5 = -1 by rw [h6, r2])]
            exact ih (j + 1) x3 x4 x5 sec (by omega) (by omega) (Or.inr ⟨s, h4, h5, h6⟩)
        · rw [if_neg e, r1, ob, if_pos rfl]
          exact ih (j + 1) x3 (nI s) (-1) sec (by omega) (by omega) (Or.inr ⟨s, by omega, rfl, r2.symm⟩)
      · have hp := pos_lt hc (show s < 32 by omega)
        have b1 : fX0_byteAt f (nI c) (nI s) (nI p) = some (nI (B (pos c s + p))) := c_byteAt hD.HB hD.hf hc (by omega) (by omega)
        have b2 : fX5_sumWithRow_L51 f (nI c) (nI s) (nI p) (nI l) dkF (stp x3 (nI (B (pos c s + p)))) 0 = some (rs B (pos c s + p) (stp x3 (nI (B (pos c s + p)))) l, nI l) := c_rsL hD hc (by omega) (by omega) _ dkF 0 (by omega) (by unfold dkF; omega)
        have b3 : fX6_extract_L85 d mo (nI b) (nI j) (nI (pos c s + p)) dkF (stp x3 (nI (B (pos c s + p)))) 0 = some (rs B (pos c s + p) (stp x3 (nI (B (pos c s + p)))) l, nI l) := m_rsL hD (nI b) _ (by omega) g4 (by omega) dkF 0 (by omega) (by unfold dkF; omega)
        have b4 : fX5_sumWithRow f (nI z) pk x3 (nI j) (nI c) = some (rs B (pos c s + p) (stp x3 (nI (B (pos c s + p)))) l) := by
          unfold fX5_sumWithRow
          rw [e1, ob, e2, ob, e3, ob, b1, ob, c_step, ob, b2, ob]
        rw [r3, ob, ob, if_neg (nI_pos (n2 (by omega))), if_pos (p_in (by omega) (by omega)), m_rd hD.hd (by omega), m_step, ob, b3, ob, nI_1]
        by_cases e : nI s = x4
        · rcases h3 with h3 | ⟨s0, h4, h5, h6⟩
          · subst h3
            exact absurd e (by
              intro q
              have : nI s < 0 := by rw [q]; decide
              exact nI_pos (n2 (by omega)) this)
          · have hs0 : s = s0 := (nI_eq (n2 (by omega)) (n2 (by omega))).mp (e.trans h5)
            subst hs0
            rw [r2] at h6
            subst h6
            rw [if_pos e, if_neg (c_ne hc), r4, ob, b4, ob]
            exact ih (j + 1) _ x4 (nI c) _ (by omega) (by omega) (Or.inr ⟨s, h4, h5, r2.symm⟩)
        · rw [if_neg e, r1, ob, if_neg (c_ne hc), r4, ob, b4, ob]
          exact ih (j + 1) _ (nI s) (nI c) _ (by omega) (by omega) (Or.inr ⟨s, by omega, rfl, r2.symm⟩)
/-! an altered byte -/
theorem qs_low {b : Nat} (h : b < 256) : (qs b).toBitVec.toNat % 256 = b := by
  have h1 := qs_and b h
  rw [b_and] at h1
  exact (nI_eq (by omega) (by omega)).mp h1
theorem q_xor (a b : Nat) : nI a ^^^ nI b = nI (a ^^^ b) := q_inj (by
  show (nI a).toBitVec ^^^ (nI b).toBitVec = (nI (a ^^^ b)).toBitVec
  rw [q_toBv, q_toBv, q_toBv, BitVec.ofNat_xor])
theorem x_lt {a b : Nat} (ha : a < 256) (hb : b < 256) : a ^^^ b < 256 := Nat.xor_lt_two_pow (n := 8) ha hb
theorem q_flip {b m : Nat} (hb : b < 256) (hm : m < 256) : vp_nar .byte ((qs b ^^^ nI m).toInt8.toInt32) = qs (b ^^^ m) := by
  rw [b_nar]
  congr 1
  show ((qs b).toBitVec ^^^ (nI m).toBitVec).toNat % 2 ^ 8 = _
  rw [BitVec.toNat_xor, Nat.xor_mod_two_pow, show (qs b).toBitVec.toNat % 2 ^ 8 = b from qs_low hb, q_toBv, BitVec.toNat_ofNat]
  congr 1
  omega
def altB (B : Nat → Nat) (p m : Nat) : Nat → Nat := fun j => if j = p then B j ^^^ m else B j
theorem alt_1 {f d : Nat → Int32} {B : Nat → Nat} (hD : Dk B f d) {c s k m : Nat} (hc : c < 2) (hs : s < 32) (hk : k < 512) (hm : m < 256) : ∃ (f' d' : Nat → Int32) (B' : Nat → Nat), fX0_flip f (nI c) (nI s) (nI k) (nI m) = some f' ∧ upd d (nI (pos c s + k)).toNatClampNeg (d (nI (pos c s + k)).toNatClampNeg ^^^ nI m) = d' ∧ Dk B' f' d' := by
  have hp := pos_lt hc hs
  have e1 : fX0_firstCell (nI c) (nI s) = some (nI (pos c s)) := c_first
  refine ⟨upd f (pos c s + k) (qs (B (pos c s + k) ^^^ m)), upd d (pos c s + k) (nI (B (pos c s + k) ^^^ m)), altB B (pos c s + k) m, ?_, ?_, ?_, ?_, ?_⟩
  · unfold fX0_flip
    have b1 : f (nI (pos c s + k)).toNatClampNeg = qs (B (pos c s + k)) := by rw [nI_clamp (n2 (by omega)), hD.hf _ (by omega)]
    rw [e1, ob, nI_add, if_neg (nI_pos (n2 (by omega))), if_neg (n_le (by omega) (by omega)), if_pos (p_in (by omega) (by omega)), if_pos (p_in (by omega) (by omega)), b1, q_flip (hD.HB _) hm, nI_clamp (n2 (by omega))]
  · rw [nI_clamp (n2 (by omega)), hD.hd _ (by omega), q_xor]
  · intro j
    unfold altB
    by_cases h : j = pos c s + k
    · rw [if_pos h]; exact x_lt (hD.HB _) hm
    · rw [if_neg h]; exact hD.HB _
  · intro j hj
    unfold altB
    by_cases h : j = pos c s + k
    · subst h
      rw [upd_s, if_pos rfl]
    · rw [upd_n h, if_neg h, hD.hf _ hj]
  · intro j hj
    unfold altB
    by_cases h : j = pos c s + k
    · subst h
      rw [upd_s, if_pos rfl]
    · rw [upd_n h, if_neg h, hD.hd _ hj]
