/-! THE DRAFT, on both sides -/
theorem Put_wr {q : Nat → Int32} {g f : Nat → Int32} {G F : Nat → Nat} {p s N : Nat} (h : Put g f p 0 s (fun i => q (F i))) (hf : ∀ j, j < N → f j = q (G j)) : ∀ j, j < N → g j = q (wrB G F p s j) := by
  intro j hj
  rw [h j]
  unfold wrB
  by_cases h1 : p ≤ j ∧ j < p + s
  · rw [if_pos (by omega), if_pos h1]
  · rw [if_neg (by omega), if_neg h1, hf j hj]
theorem c_putL {x : Int64} {p s : Nat} (hs : s ≤ 8) (hp : p + s ≤ 512) : ∀ (n i : Nat) (f : Nat → Int32), i ≤ s → s < n + i → ∃ g, fX1_put_L3 (nI p) x (nI s) n (nI i) f = some (nI s, g) ∧ Put g f p i s (fun i => qs (bL x (s - 1 - i))) := by
  intro n
  induction n with
  | zero => intro i f h1 h2; omega
  | succ n ih =>
    intro i f h1 h2
    rw [fX1_put_L3.eq_2]
    by_cases h : i = s
    · subst h
      exact ⟨f, by rw [if_pos (p_le (Nat.le_refl _) (by omega))], Put.end_⟩
    · obtain ⟨g, e, hg⟩ := ih (i + 1) (upd f (p + i) (qs (bL x (s - 1 - i)))) (by omega) (by omega)
      refine ⟨g, ?_, Put.step (by omega) rfl hg⟩
      have ea : (8 : Int32) * ((nI s - 1) - nI i) = nI (8 * (s - 1 - i)) := by
        rw [show nI s - 1 = nI (s - 1) from pk_sub (b := 1) (by omega), pk_sub (by omega)]
        exact pk_mul 8 _
      rw [if_neg (n_le (by omega) (by omega)), nI_add, if_neg (nI_pos (n2 (by omega))), show (512 : Int32) = nI 512 from rfl, if_neg (n_le (by omega) (by omega)), if_pos (p_in (by omega) (by omega)), ea, b_nar, b_lushr x (by omega), nI_1, nI_clamp (n2 (by omega))]
      exact e
theorem c_put {f : Nat → Int32} {G : Nat → Nat} (hf : ∀ j, j < 512 → f j = qs (G j)) {x : Int64} {p s : Nat} (hs : s ≤ 8) (hp : p + s ≤ 512) : ∃ g, fX1_put f (nI p) x (nI s) = some g ∧ ∀ j, j < 512 → g j = qs (wrB G (fun i => bL x (s - 1 - i)) p s j) := by
  obtain ⟨g, e, hg⟩ := c_putL (x := x) hs hp dkF 0 f (by omega) (by unfold dkF; omega)
  refine ⟨g, ?_, Put_wr hg hf⟩
  unfold fX1_put
  have e : fX1_put_L3 (nI p) x (nI s) dkF 0 f = some (nI s, g) := e
  rw [e, ob]
/-- four bytes, two bytes -/
def F4 (y : Int32) : Nat → Nat := fun i => bt y (3 - i)
def F2 (y : Int32) : Nat → Nat := fun i => bt y (1 - i)
def opG (y : Int32) : Nat → Nat := wrB (fun _ => 0) (F4 y) 0 4
def lenG (G : Nat → Nat) (l : Nat) : Nat → Nat := wrB G (F2 (nI l)) 4 2
def sealG (G : Nat → Nat) (l : Nat) : Nat → Nat := wrB (lenG G l) (F4 (S5 (lenG G l) 0)) 508 4
theorem opG_lt (y : Int32) : ∀ j, opG y j < 256 := wrB_lt (fun _ => by omega) (fun _ => bt_lt _ _)
theorem lenG_lt {G : Nat → Nat} (HG : ∀ j, G j < 256) (l : Nat) : ∀ j, lenG G l j < 256 := wrB_lt HG (fun _ => bt_lt _ _)
theorem sealG_lt {G : Nat → Nat} (HG : ∀ j, G j < 256) (l : Nat) : ∀ j, sealG G l j < 256 := wrB_lt (lenG_lt HG l) (fun _ => bt_lt _ _)
theorem F4_w (y : Int32) : (fun i => bL y.toInt64 (4 - 1 - i)) = F4 y := by
  funext i
  exact b_wide y (by omega)
theorem F2_w (y : Int32) : (fun i => bL y.toInt64 (2 - 1 - i)) = F2 y := by
  funext i
  exact b_wide y (by omega)
theorem F1_w (y : Int32) : (fun i => bL y.toInt64 (1 - 1 - i)) = (fun _ => bt y 0) := by
  funext i
  rw [show 1 - 1 - i = 0 by omega]
  exact b_wide y (by omega)
theorem c_open (f : Nat → Int32) (y : Int32) : ∃ g, fX1_open f y = some (nI 6, g) ∧ ∀ j, j < 512 → g j = qs (opG y j) := by
  obtain ⟨g, e, hg⟩ := c_fill (N := 512) (by omega) f
  obtain ⟨g2, e2, hg2⟩ := c_put (G := fun _ => 0) hg (x := y.toInt64) (p := 0) (s := 4) (by omega) (by omega)
  refine ⟨g2, ?_, ?_⟩
  · unfold fX1_open
    have e2 : fX1_put g 0 y.toInt64 4 = some g2 := e2
    rw [e, ob, e2, ob]
    rfl
  · rw [F4_w] at hg2
    exact hg2
theorem c_seal {f : Nat → Int32} {G : Nat → Nat} (HG : ∀ j, G j < 256) (hf : ∀ j, j < 512 → f j = qs (G j)) {e : Nat} (he : 6 ≤ e) : ∃ g, fX1_seal (nI e) f = some g ∧ ∀ j, j < 512 → g j = qs (sealG G (e - 6) j) := by
  obtain ⟨g1, e1, hg1⟩ := c_put hf (x := (nI (e - 6)).toInt64) (p := 4) (s := 2) (by omega) (by omega)
  rw [F2_w] at hg1
  obtain ⟨g2, e2, hg2⟩ := c_put hg1 (x := (S5 (lenG G (e - 6)) 0).toInt64) (p := 508) (s := 4) (by omega) (by omega)
  rw [F4_w] at hg2
  refine ⟨g2, ?_, hg2⟩
  unfold fX1_seal
  have e1 : fX1_put f 4 (nI (e - 6)).toInt64 2 = some g1 := e1
  have e2 : fX1_put g1 508 (S5 (lenG G (e - 6)) 0).toInt64 4 = some g2 := e2
  have e3 : fX5_sumOf 512 g1 0 = some (S5 (lenG G (e - 6)) 0) := c_sumOf (p := 0) (lenG_lt HG _) (by omega) hg1 (by omega)
  rw [show nI e - 6 = nI (e - 6) from pk_sub (b := 6) he, e1, ob, e3, ob, e2, ob]
theorem c_room {e s : Nat} (h : e < 600) (h2 : s < 600) : fX1_hasRoomFor (nI e) (nI s) = some (if 508 < e + s then 0 else 1) := by
  unfold fX1_hasRoomFor
  rw [nI_add, q_z', show (508 : Int32) = nI 508 from rfl]
  by_cases h3 : 508 < e + s
  · rw [if_pos (p_lt h3 (by omega)), if_pos h3]
  · rw [if_neg (n_lt (by omega) (by omega)), if_neg h3]
theorem c_append {f : Nat → Int32} {G : Nat → Nat} (hf : ∀ j, j < 512 → f j = qs (G j)) {x : Int64} {e s : Nat} (hs : s ≤ 8) (he : e + s ≤ 508) : ∃ g, fX1_append (nI e) f x (nI s) = some (nI (e + s), g) ∧ ∀ j, j < 512 → g j = qs (wrB G (fun i => bL x (s - 1 - i)) e s j) := by
  obtain ⟨g, e1, hg⟩ := c_put hf (x := x) (p := e) (s := s) hs (by omega)
  refine ⟨g, ?_, hg⟩
  unfold fX1_append
  rw [c_room (by omega) (by omega), if_neg (show ¬ 508 < e + s by omega), ob, if_neg (show ¬ (1 : Int32) = 0 by decide), e1, ob, nI_add]
/-! the reference -/
theorem m_put {mk : Nat → Int32} {p : Nat} {v : Int32} (hp : p < 512) : fX6_put mk (nI p) v = some (upd mk p (nI (v.toBitVec.toNat % 256))) := by
  unfold fX6_put
  rw [if_pos (p_in hp (by omega)), b_and, nI_clamp (n2 (by omega))]
theorem Put_1 {mk : Nat → Int32} {G : Nat → Nat} (hm : ∀ j, j < 512 → mk j = nI (G j)) {p b : Nat} : ∀ j, j < 512 → upd mk p (nI b) j = nI (wrB G (fun _ => b) p 1 j) := by
  intro j hj
  unfold wrB
  by_cases h : j = p
  · subst h
    rw [upd_s, if_pos (by omega)]
  · rw [upd_n h, if_neg (by omega), hm j hj]
theorem m_clearL (y : Int32) : ∀ (n i : Nat) (f : Nat → Int32), i ≤ 512 → 512 < n + i → ∃ g, fX6_clear_L2 y n (nI i) f = some (nI 512, g) ∧ Put g f 0 i 512 (fun _ => 0) := by
  intro n
  induction n with
  | zero => intro i f h1 h2; omega
  | succ n ih =>
    intro i f h1 h2
    rw [fX6_clear_L2.eq_2, show (512 : Int32) = nI 512 from rfl]
    by_cases h : i = 512
    · subst h
      exact ⟨f, by rw [if_pos (p_le (Nat.le_refl _) (by omega))], Put.end_⟩
    · obtain ⟨g, e, hg⟩ := ih (i + 1) (upd f i 0) (by omega) (by omega)
      refine ⟨g, ?_, Put.step (by omega) rfl (by rw [Nat.zero_add]; exact hg)⟩
      rw [if_neg (n_le (by omega) (by omega)), if_pos (p_in (by omega) (by omega)), nI_1, nI_clamp (n2 (by omega))]
      exact e
theorem s24 {i : Nat} (h : i < 4) : (24 : Int32) - 8 * nI i = nI (8 * (3 - i)) := by
  have e : (8 : Int32) * nI i = nI (8 * i) := pk_mul 8 i
  rw [e]
  have e2 : (24 : Int32) - nI (8 * i) = nI (24 - 8 * i) := pk_sub (a := 24) (by omega)
  rw [e2, show 24 - 8 * i = 8 * (3 - i) by omega]
theorem m_clear4 (y : Int32) : ∀ (n i : Nat) (f : Nat → Int32), i ≤ 4 → 4 < n + i → ∃ g, fX6_clear_L24 y n (nI i) f = some (nI 4, g) ∧ Put g f 0 i 4 (fun i => nI (F4 y i)) := by
  intro n
  induction n with
  | zero => intro i f h1 h2; omega
  | succ n ih =>
    intro i f h1 h2
    rw [fX6_clear_L24.eq_2, show (4 : Int32) = nI 4 from rfl]
    by_cases h : i = 4
    · subst h
      exact ⟨f, by rw [if_pos (p_le (Nat.le_refl _) (by omega))], Put.end_⟩
    · obtain ⟨g, e, hg⟩ := ih (i + 1) (upd f i (nI (F4 y i))) (by omega) (by omega)
      refine ⟨g, ?_, Put.step (by omega) rfl (by rw [Nat.zero_add]; exact hg)⟩
      rw [if_neg (n_le (by omega) (by omega)), m_put (by omega), ob, s24 (by omega), b_ishr y (by omega), nI_1]
      exact e
theorem m_clear (mk : Nat → Int32) (y : Int32) : ∃ g, fX6_clear mk y = some g ∧ ∀ j, j < 512 → g j = nI (opG y j) := by
  obtain ⟨g, e, hg⟩ := m_clearL y dkF 0 mk (by omega) (by unfold dkF; omega)
  obtain ⟨g2, e2, hg2⟩ := m_clear4 y dkF 0 g (by omega) (by unfold dkF; omega)
  refine ⟨g2, ?_, Put_wr hg2 (fun j hj => by rw [hg j, if_pos (by omega)]; rfl)⟩
  unfold fX6_clear
  have e : fX6_clear_L2 y dkF 0 mk = some (nI 512, g) := e
  have e2 : fX6_clear_L24 y dkF 0 g = some (nI 4, g2) := e2
  rw [e, ob, e2, ob]
theorem m_finL {mk : Nat → Int32} {G : Nat → Nat} (hm : ∀ j, j < 512 → mk j = nI (G j)) : ∀ (n k : Nat), k ≤ 508 → 508 < n + k → fX6_finish_L19 mk n (SUM G 0 k) (nI k) = some (SUM G 0 508, nI 508) := by
  intro n
  induction n with
  | zero => intro k h1 h2; omega
  | succ n ih =>
    intro k h1 h2
    rw [fX6_finish_L19.eq_2, show (508 : Int32) = nI 508 from rfl]
    by_cases h : k = 508
    · subst h
      rw [if_pos (p_le (by omega) (by omega))]
    · rw [if_neg (n_le (by omega) (by omega)), if_pos (p_in (by omega) (by omega)), nI_clamp (n2 (by omega)), hm _ (by omega), m_step, ob, nI_1]
      have := ih (k + 1) (by omega) (by omega)
      rw [SUM, Nat.zero_add] at this
      exact this
theorem m_fin4 (y : Int32) : ∀ (n i : Nat) (f : Nat → Int32), i ≤ 4 → 4 < n + i → ∃ g, fX6_finish_L45 y n (nI i) f = some (nI 4, g) ∧ Put g f 508 i 4 (fun i => nI (F4 y i)) := by
  intro n
  induction n with
  | zero => intro i f h1 h2; omega
  | succ n ih =>
    intro i f h1 h2
    rw [fX6_finish_L45.eq_2, show (4 : Int32) = nI 4 from rfl]
    by_cases h : i = 4
    · subst h
      exact ⟨f, by rw [if_pos (p_le (Nat.le_refl _) (by omega))], Put.end_⟩
    · obtain ⟨g, e, hg⟩ := ih (i + 1) (upd f (508 + i) (nI (F4 y i))) (by omega) (by omega)
      refine ⟨g, ?_, Put.step (by omega) rfl hg⟩
      rw [if_neg (n_le (by omega) (by omega)), show (508 : Int32) + nI i = nI (508 + i) from nI_add 508 i, m_put (by omega), ob, s24 (by omega), b_ishr y (by omega), nI_1]
      exact e
theorem lenG_2 (G : Nat → Nat) (y : Int32) : wrB (wrB G (fun _ => bt y 1) 4 1) (fun _ => bt y 0) 5 1 = wrB G (F2 y) 4 2 := by
  funext j
  unfold wrB F2
  by_cases h5 : j = 5
  · subst h5
    rw [if_pos (by omega), if_pos (by omega)]
  · rw [if_neg (by omega)]
    by_cases h4 : j = 4
    · subst h4
      rw [if_pos (by omega), if_pos (by omega)]
    · rw [if_neg (by omega), if_neg (by omega)]
theorem m_finish {mk : Nat → Int32} {G : Nat → Nat} (hm : ∀ j, j < 512 → mk j = nI (G j)) {l : Nat} : ∃ g, fX6_finish mk (nI l) = some g ∧ ∀ j, j < 512 → g j = nI (sealG G l j) := by
  have e1 : fX6_put mk 4 (nI l >>> (8 &&& 31)) = _ := m_put (p := 4) (by omega)
  rw [show (nI l >>> ((8 : Int32) &&& 31)).toBitVec.toNat % 256 = bt (nI l) 1 from b_ishr (nI l) (k := 1) (by omega)] at e1
  have h1 := Put_1 (p := 4) (b := bt (nI l) 1) hm
  have e2 : fX6_put (upd mk 4 (nI (bt (nI l) 1))) 5 (nI l) = _ := m_put (p := 5) (by omega)
  have h2 := Put_1 (p := 5) (b := bt (nI l) 0) h1
  rw [lenG_2] at h2
  have e3 : fX6_finish_L19 (upd (upd mk 4 (nI (bt (nI l) 1))) 5 (nI (bt (nI l) 0))) dkF 0 0 = some (S5 (lenG G l) 0, nI 508) := m_finL h2 dkF 0 (by omega) (by unfold dkF; omega)
  obtain ⟨g, e4, hg⟩ := m_fin4 (S5 (lenG G l) 0) dkF 0 (upd (upd mk 4 (nI (bt (nI l) 1))) 5 (nI (bt (nI l) 0))) (by omega) (by unfold dkF; omega)
  refine ⟨g, ?_, Put_wr hg h2⟩
  have e4 : fX6_finish_L45 (S5 (lenG G l) 0) dkF 0 (upd (upd mk 4 (nI (bt (nI l) 1))) 5 (nI (bt (nI l) 0))) = some (nI 4, g) := e4
  unfold fX6_finish
  rw [e1, ob, e2, ob]
  rw [bt_0, e3, ob, e4, ob]
