/-! A DRAFT'S WRITES, on both sides -/
abbrev Dk (B : Nat → Nat) (f d : Nat → Int32) : Prop := (∀ j, B j < 256) ∧ (∀ j, j < 32768 → f j = qs (B j)) ∧ (∀ j, j < 32768 → d j = nI (B j))
theorem Dk.HB {B : Nat → Nat} {f d : Nat → Int32} (h : Dk B f d) : ∀ j, B j < 256 := h.1
theorem Dk.hf {B : Nat → Nat} {f d : Nat → Int32} (h : Dk B f d) : ∀ j, j < 32768 → f j = qs (B j) := h.2.1
theorem Dk.hd {B : Nat → Nat} {f d : Nat → Int32} (h : Dk B f d) : ∀ j, j < 32768 → d j = nI (B j) := h.2.2
abbrev Mk (G : Nat → Nat) (g mk : Nat → Int32) : Prop := (∀ j, G j < 256) ∧ (∀ j, j < 512 → g j = qs (G j)) ∧ (∀ j, j < 512 → mk j = nI (G j))
theorem Mk.HG {B : Nat → Nat} {f d : Nat → Int32} (h : Mk B f d) : ∀ j, B j < 256 := h.1
theorem Mk.hg {B : Nat → Nat} {f d : Nat → Int32} (h : Mk B f d) : ∀ j, j < 512 → f j = qs (B j) := h.2.1
theorem Mk.hm {B : Nat → Nat} {f d : Nat → Int32} (h : Mk B f d) : ∀ j, j < 512 → d j = nI (B j) := h.2.2
def Cut (cw wb bc cwr cb : Int32) : Prop := (cw = 0 ∧ cwr = -1) ∨ (∃ a b : Nat, cw = 1 ∧ wb = nI a ∧ bc = nI b ∧ cwr = nI a ∧ cb = nI b ∧ a ≤ 20 ∧ b ≤ 511)
theorem wr_1 {cw wb bc cwr cb : Int32} {f d g mk : Nat → Int32} {B G : Nat → Nat} (hC : Cut cw wb bc cwr cb) (hD : Dk B f d) (hM : Mk G g mk) {c s : Nat} (hc : c < 2) (hs : s < 32) :
    ∃ ok cw' wb' cwr' f' d' B', fX0_write cw wb bc f g (nI c) (nI s) = some (ok, cw', wb', f') ∧ fX6_writeTo 1 cwr cb d mk (nI c) (nI s) = some (ok, ok, cwr', d') ∧ (ok = 0 ∨ ok = 1) ∧ Cut cw' wb' bc cwr' cb ∧ Dk B' f' d' := by
  have hp := pos_lt hc hs
  have e1 : fX0_firstCell (nI c) (nI s) = some (nI (pos c s)) := c_first
  rcases hC with ⟨h1, h2⟩ | ⟨a, b, h1, h2, h3, h4, h5, h6, h7⟩
  · subst h1; subst h2
    obtain ⟨f', ef, hf'⟩ := c_copyTo hD.hf hM.hg (p := pos c s) (k := 512) (by omega) (by omega)
    obtain ⟨d', ed, hd'⟩ := m_write1 hD.hd hM.hm hc hs (k := 512) (by omega)
    have ef : fX1_copyTo g 32768 f (nI (pos c s)) 512 = some f' := ef
    have ed : fX6_writeTo_L21 mk (nI c) (nI s) 512 dkF 0 d = some (512, d') := ed
    refine ⟨1, 0, wb, -1, f', d', _, ?_, ?_, Or.inr rfl, Or.inl ⟨rfl, rfl⟩, ⟨wrB_lt hD.HB hM.HG, hf', hd'⟩⟩
    · unfold fX0_write
      rw [e1, ob, if_pos rfl, ef, ob]
    · unfold fX6_writeTo
      rw [if_neg (show ¬ (-1 : Int32) = 0 by decide), ed, ob, if_neg (show ¬ (-1 : Int32) = 0 by decide), if_pos (show (-1 : Int32) < 0 by decide), if_pos q_o1]
  · subst h1; subst h2; subst h3; subst h4; subst h5
    by_cases ha : a = 0
    · subst ha
      obtain ⟨f', ef, hf'⟩ := c_copyTo hD.hf hM.hg (p := pos c s) (k := b) (by omega) (by omega)
      obtain ⟨d', ed, hd'⟩ := m_write1 hD.hd hM.hm hc hs (k := b) (by omega)
      refine ⟨0, 0, nI 0, -1, f', d', _, ?_, ?_, Or.inl rfl, Or.inl ⟨rfl, rfl⟩, ⟨wrB_lt hD.HB hM.HG, hf', hd'⟩⟩
      · unfold fX0_write
        rw [e1, ob, if_neg (show ¬ (1 : Int32) = 0 by decide), if_pos (show nI 0 ≤ 0 by decide), ef, ob]
      · unfold fX6_writeTo
        rw [if_pos (show nI 0 = 0 from rfl), ed, ob, if_pos (show nI 0 = 0 from rfl), if_neg (show ¬ nI 0 < 0 by decide)]
        rfl
    · obtain ⟨f', ef, hf'⟩ := c_copyTo hD.hf hM.hg (p := pos c s) (k := 512) (by omega) (by omega)
      obtain ⟨d', ed, hd'⟩ := m_write1 hD.hd hM.hm hc hs (k := 512) (by omega)
      have ef : fX1_copyTo g 32768 f (nI (pos c s)) 512 = some f' := ef
      have ed : fX6_writeTo_L21 mk (nI c) (nI s) 512 dkF 0 d = some (512, d') := ed
      have e1a : nI a - 1 = nI (a - 1) := pk_sub (b := 1) (by omega)
      refine ⟨1, 1, nI (a - 1), nI (a - 1), f', d', _, ?_, ?_, Or.inr rfl, Or.inr ⟨a - 1, b, rfl, rfl, rfl, rfl, rfl, by omega, h7⟩, ⟨wrB_lt hD.HB hM.HG, hf', hd'⟩⟩
      · unfold fX0_write
        rw [e1, ob, if_neg (show ¬ (1 : Int32) = 0 by decide), if_neg (show ¬ nI a ≤ 0 from n_le (a := a) (b := 0) (by omega) (by omega)), ef, ob, e1a]
      · unfold fX6_writeTo
        rw [if_neg (n_e0 ha (by omega)), ed, ob, if_neg (n_e0 ha (by omega)), if_neg (nI_pos (n2 (by omega))), if_pos q_o1, e1a]
theorem wr_2 {cw wb bc cwr cb : Int32} {f d g mk : Nat → Int32} {B G : Nat → Nat} (hC : Cut cw wb bc cwr cb) (hD : Dk B f d) (hM : Mk G g mk) {s : Nat} (hs : s < 32) :
    ∃ ok cw' wb' cwr' f' d' B', fX5_writeDraft 1 cw wb bc f g (nI s) = some (ok, ok, cw', wb', f') ∧ fX6_write 1 cwr cb d mk (nI s) = some (ok, ok, cwr', d') ∧ (ok = 0 ∨ ok = 1) ∧ Cut cw' wb' bc cwr' cb ∧ Dk B' f' d' := by
  obtain ⟨ok, cw1, wb1, cwr1, f1, d1, B1, e1, e2, h1, hC1, hD1⟩ := wr_1 hC hD hM (c := 0) (by omega) hs
  have e1 : fX0_write cw wb bc f g 0 (nI s) = some (ok, cw1, wb1, f1) := e1
  have e2 : fX6_writeTo 1 cwr cb d mk 0 (nI s) = some (ok, ok, cwr1, d1) := e2
  rcases h1 with h1 | h1
  · subst h1
    refine ⟨0, cw1, wb1, cwr1, f1, d1, B1, ?_, ?_, Or.inl rfl, hC1, hD1⟩
    · show fX5_writeDraft_L2 bc g (nI s) (999999 + 1) 0 1 cw wb f = _
      rw [fX5_writeDraft_L2.eq_2, if_neg (show ¬ (2 : Int32) ≤ 0 by decide), e1, ob, if_pos rfl]
    · unfold fX6_write
      rw [e2, ob, if_pos rfl]
  · subst h1
    obtain ⟨ok, cw2, wb2, cwr2, f2, d2, B2, e3, e4, h2, hC2, hD2⟩ := wr_1 hC1 hD1 hM (c := 1) (by omega) hs
    have e3 : fX0_write cw1 wb1 bc f1 g 1 (nI s) = some (ok, cw2, wb2, f2) := e3
    have e4 : fX6_writeTo 1 cwr1 cb d1 mk 1 (nI s) = some (ok, ok, cwr2, d2) := e4
    refine ⟨ok, cw2, wb2, cwr2, f2, d2, B2, ?_, ?_, h2, hC2, hD2⟩
    · show fX5_writeDraft_L2 bc g (nI s) (999997 + 1 + 1 + 1) 0 1 cw wb f = _
      rw [fX5_writeDraft_L2.eq_2, if_neg (show ¬ (2 : Int32) ≤ 0 by decide), e1, ob, if_neg (show ¬ (1 : Int32) = 0 by decide), show (0 + 1 : Int32) = 1 from rfl]
      rw [fX5_writeDraft_L2.eq_2, if_neg (show ¬ (2 : Int32) ≤ 1 by decide), e3, ob]
      rcases h2 with h2 | h2
      · subst h2
        rw [if_pos rfl]
      · subst h2
        rw [if_neg (show ¬ (1 : Int32) = 0 by decide), fX5_writeDraft_L2.eq_2, if_pos (show (2 : Int32) ≤ 1 + 1 by decide)]
    · unfold fX6_write
      rw [e2, ob, if_neg (show ¬ (1 : Int32) = 0 by decide), e4, ob]
      rcases h2 with h2 | h2
      · subst h2
        rfl
      · subst h2
        rfl
