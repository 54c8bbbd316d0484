/-! WRITING, on both sides -/
theorem f_qs (b : Nat) : fits .byte (.int (qs b)) = true := pk_fb _
theorem upd_s {f : Nat → Int32} {k : Nat} {x : Int32} : upd f k x k = x := pk_us
theorem upd_n {f : Nat → Int32} {k j : Nat} {x : Int32} (h : j ≠ k) : upd f k x j = f j := pk_un h
/-- a loop that puts v i at place b + i, for i up to k -/
def Put (g f : Nat → Int32) (b i k : Nat) (v : Nat → Int32) : Prop := ∀ j, g j = if b + i ≤ j ∧ j < b + k then v (j - b) else f j
theorem Put.end_ {f : Nat → Int32} {b k : Nat} {v : Nat → Int32} : Put f f b k k v := fun j => by rw [if_neg (by omega)]
theorem Put.step {g f : Nat → Int32} {b i k : Nat} {v : Nat → Int32} {x : Int32} (hi : i < k) (hx : x = v i) (h : Put g (upd f (b + i) x) b (i + 1) k v) : Put g f b i k v := by
  intro j
  rw [h j]
  by_cases h1 : b + (i + 1) ≤ j ∧ j < b + k
  · rw [if_pos h1, if_pos (by omega)]
  · rw [if_neg h1]
    by_cases h2 : j = b + i
    · subst h2
      rw [upd_s, if_pos (by omega), hx, show b + i - b = i by omega]
    · rw [upd_n h2, if_neg (by omega)]
theorem c_fillL {N : Nat} (hN : N ≤ 32768) : ∀ (n i : Nat) (f : Nat → Int32), i ≤ N → N < n + i → ∃ g, fJ_fill_L5 N 0 (nI N) n (nI i) f = some (nI N, g) ∧ Put g f 0 i N (fun _ => 0) := by
  intro n
  induction n with
  | zero => intro i f h1 h2; omega
  | succ n ih =>
    intro i f h1 h2
    rw [fJ_fill_L5.eq_2]
    by_cases h : i = N
    · subst h
      exact ⟨f, by rw [if_pos (p_le (Nat.le_refl _) (by omega))], Put.end_⟩
    · obtain ⟨g, e, hg⟩ := ih (i + 1) (upd f i 0) (by omega) (by omega)
      refine ⟨g, ?_, Put.step (by omega) rfl (by rw [Nat.zero_add]; exact hg)⟩
      rw [if_neg (n_le (by omega) (by omega)), if_pos (p_in (by omega) (by omega)), nI_1, nI_clamp (n2 (by omega))]
      exact e
theorem c_fill {N : Nat} (hN : N ≤ 32768) (f : Nat → Int32) : ∃ g, fJ_fill N f 0 = some g ∧ ∀ j, j < N → g j = qs 0 := by
  obtain ⟨g, e, hg⟩ := c_fillL hN dkF 0 f (by omega) (by unfold dkF; omega)
  refine ⟨g, ?_, fun j hj => by rw [hg j, if_pos (by omega)]; rfl⟩
  unfold fJ_fill
  have e : fJ_fill_L5 N 0 (nI N) dkF 0 f = some (nI N, g) := e
  rw [e, ob]
theorem m_fillL : ∀ (n i : Nat) (f : Nat → Int32), i ≤ 32768 → 32768 < n + i → ∃ g, fX6_format_L39 n (nI i) f = some (nI 32768, g) ∧ Put g f 0 i 32768 (fun _ => 0) := by
  intro n
  induction n with
  | zero => intro i f h1 h2; omega
  | succ n ih =>
    intro i f h1 h2
    rw [fX6_format_L39.eq_2, show (32768 : Int32) = nI 32768 from rfl]
    by_cases h : i = 32768
    · subst h
      exact ⟨f, by rw [if_pos (p_le (Nat.le_refl _) (by omega))], Put.end_⟩
    · obtain ⟨g, e, hg⟩ := ih (i + 1) (upd f i 0) (by omega) (by omega)
      refine ⟨g, ?_, Put.step (by omega) rfl (by rw [Nat.zero_add]; exact hg)⟩
      rw [if_neg (n_le (by omega) (by omega)), if_pos (p_in (by omega) (by omega)), nI_1, nI_clamp (n2 (by omega))]
      exact e
theorem m_fill0 (f : Nat → Int32) : ∃ g, fX6_format_L39 dkF 0 f = some (nI 32768, g) ∧ ∀ j, j < 32768 → g j = nI 0 := by
  obtain ⟨g, e, hg⟩ := m_fillL dkF 0 f (by omega) (by unfold dkF; omega)
  exact ⟨g, e, fun j hj => by rw [hg j, if_pos (by omega)]; rfl⟩
theorem m_thereL : ∀ (n i : Nat) (f : Nat → Int32), i ≤ 5100 → 5100 < n + i → ∃ g, fX6_format_L115 n (nI i) f = some (nI 5100, g) ∧ Put g f 0 i 5100 (fun _ => 0) := by
  intro n
  induction n with
  | zero => intro i f h1 h2; omega
  | succ n ih =>
    intro i f h1 h2
    rw [fX6_format_L115.eq_2, show (5100 : Int32) = nI 5100 from rfl]
    by_cases h : i = 5100
    · subst h
      exact ⟨f, by rw [if_pos (p_le (Nat.le_refl _) (by omega))], Put.end_⟩
    · obtain ⟨g, e, hg⟩ := ih (i + 1) (upd f i 0) (by omega) (by omega)
      refine ⟨g, ?_, Put.step (by omega) rfl (by rw [Nat.zero_add]; exact hg)⟩
      rw [if_neg (n_le (by omega) (by omega)), if_pos (p_in (by omega) (by omega)), nI_1, nI_clamp (n2 (by omega)), show vp_nar .boolean 0 = 0 from rfl]
      exact e
theorem m_there0L : ∀ (n i : Nat) (f : Nat → Int32), i ≤ 5100 → 5100 < n + i → ∃ g, fX6_start_L247 n (nI i) f = some (nI 5100, g) ∧ Put g f 0 i 5100 (fun _ => 0) := by
  intro n
  induction n with
  | zero => intro i f h1 h2; omega
  | succ n ih =>
    intro i f h1 h2
    rw [fX6_start_L247.eq_2, show (5100 : Int32) = nI 5100 from rfl]
    by_cases h : i = 5100
    · subst h
      exact ⟨f, by rw [if_pos (p_le (Nat.le_refl _) (by omega))], Put.end_⟩
    · obtain ⟨g, e, hg⟩ := ih (i + 1) (upd f i 0) (by omega) (by omega)
      refine ⟨g, ?_, Put.step (by omega) rfl (by rw [Nat.zero_add]; exact hg)⟩
      rw [if_neg (n_le (by omega) (by omega)), if_pos (p_in (by omega) (by omega)), nI_1, nI_clamp (n2 (by omega)), show vp_nar .boolean 0 = 0 from rfl]
      exact e
/-- the disk behind a write of the first k bytes of G at p -/
def wrB (B G : Nat → Nat) (p k : Nat) : Nat → Nat := fun j => if p ≤ j ∧ j < p + k then G (j - p) else B j
theorem wrB_lt {B G : Nat → Nat} (HB : ∀ j, B j < 256) (HG : ∀ j, G j < 256) {p k : Nat} : ∀ j, wrB B G p k j < 256 := fun j => by
  unfold wrB
  by_cases h : p ≤ j ∧ j < p + k
  · rw [if_pos h]; exact HG _
  · rw [if_neg h]; exact HB _
theorem c_copyTo {f g : Nat → Int32} {B G : Nat → Nat} (hf : ∀ j, j < 32768 → f j = qs (B j)) (hg : ∀ j, j < 512 → g j = qs (G j)) {p k : Nat} (hp : p + 512 ≤ 32768) (hk : k ≤ 512) : ∃ f', fX1_copyTo g 32768 f (nI p) (nI k) = some f' ∧ ∀ j, j < 32768 → f' j = qs (wrB B G p k j) := by
  refine ⟨va_cpy g f 0 p k, ?_, ?_⟩
  · unfold fX1_copyTo
    rw [if_neg (nI_pos (n2 (by omega))), if_neg (nI_pos (n2 (by omega))), show (512 : Int32) = nI 512 from rfl, if_neg (n_lt (by omega) (by omega)), pk_sub (by omega), if_neg (n_lt (by omega) (by omega))]
    have hcp : dk_cp .byte g 0 (nI p) (nI k) 512 32768 := by
      refine ⟨by decide, nI_pos (n2 (by omega)), nI_pos (n2 (by omega)), ?_, ?_, ?_⟩
      · rw [nI_clamp (n2 (by omega))]; show 0 + k ≤ 512; omega
      · rw [nI_clamp (n2 (by omega)), nI_clamp (n2 (by omega))]; omega
      · intro i hi
        rw [nI_clamp (n2 (by omega))] at hi
        show fits .byte (.int (g (0 + i))) = true
        rw [Nat.zero_add, hg _ (by omega)]
        exact f_qs _
    rw [if_pos hcp, nI_clamp (n2 (by omega)), nI_clamp (n2 (by omega))]
    rfl
  · intro j hj
    unfold va_cpy wrB
    by_cases h : p ≤ j ∧ j < p + k
    · rw [if_pos h, if_pos h, Nat.zero_add, hg _ (by omega)]
    · rw [if_neg h, if_neg h, hf _ hj]
theorem m_writeL {mk : Nat → Int32} {c s k : Nat} (hc : c < 2) (hs : s < 32) (hk : k ≤ 512) : ∀ (n i : Nat) (d : Nat → Int32), i ≤ k → k < n + i → ∃ g, fX6_writeTo_L21 mk (nI c) (nI s) (nI k) n (nI i) d = some (nI k, g) ∧ Put g d (pos c s) i k mk := by
  intro n
  induction n with
  | zero => intro i f h1 h2; omega
  | succ n ih =>
    intro i d h1 h2
    have hp := pos_lt hc hs
    have e1 : fX6_at (nI c) (nI s) = some (nI (pos c s)) := m_at
    rw [fX6_writeTo_L21.eq_2]
    by_cases h : i = k
    · subst h
      exact ⟨d, by rw [if_pos (p_le (Nat.le_refl _) (by omega))], Put.end_⟩
    · obtain ⟨g, e, hg⟩ := ih (i + 1) (upd d (pos c s + i) (mk i)) (by omega) (by omega)
      refine ⟨g, ?_, Put.step (by omega) rfl hg⟩
      rw [if_neg (n_le (by omega) (by omega)), e1, ob, if_pos (p_in (by omega) (by omega)), nI_add, if_pos (p_in (by omega) (by omega)), nI_1, nI_clamp (n2 (by omega)), nI_clamp (n2 (by omega))]
      exact e
theorem m_write1 {d mk : Nat → Int32} {B G : Nat → Nat} (hd : ∀ j, j < 32768 → d j = nI (B j)) (hm : ∀ j, j < 512 → mk j = nI (G j)) {c s k : Nat} (hc : c < 2) (hs : s < 32) (hk : k ≤ 512) : ∃ d', fX6_writeTo_L21 mk (nI c) (nI s) (nI k) dkF 0 d = some (nI k, d') ∧ ∀ j, j < 32768 → d' j = nI (wrB B G (pos c s) k j) := by
  obtain ⟨g, e, hg⟩ := m_writeL (mk := mk) hc hs hk dkF 0 d (by omega) (by unfold dkF; omega)
  refine ⟨g, e, fun j hj => ?_⟩
  rw [hg j]
  unfold wrB
  by_cases h : pos c s ≤ j ∧ j < pos c s + k
  · rw [if_pos (by omega), if_pos h, hm _ (by omega)]
  · rw [if_neg (by omega), if_neg h, hd _ hj]
/-- the disk behind a repair: a sector's other copy is the one -/
def cpB (B : Nat → Nat) (a b : Nat) : Nat → Nat := fun j => if b ≤ j ∧ j < b + 512 then B (a + (j - b)) else B j
theorem cpB_lt {B : Nat → Nat} (HB : ∀ j, B j < 256) {a b : Nat} : ∀ j, cpB B a b j < 256 := fun j => by
  unfold cpB
  by_cases h : b ≤ j ∧ j < b + 512
  · rw [if_pos h]; exact HB _
  · rw [if_neg h]; exact HB _
theorem c_copyOver {f : Nat → Int32} {B : Nat → Nat} (hf : ∀ j, j < 32768 → f j = qs (B j)) {c s : Nat} (hc : c < 2) (hs : s < 32) : ∃ f', fX0_copyOver f (nI c) (nI s) = some f' ∧ ∀ j, j < 32768 → f' j = qs (cpB B (pos c s) (pos (1 - c) s) j) := by
  have hp := pos_lt hc hs
  have hp2 := pos_lt (c := 1 - c) (by omega) hs
  have e1 : fX0_firstCell (nI c) (nI s) = some (nI (pos c s)) := c_first
  have e2 : fX0_firstCell (1 - nI c) (nI s) = some (nI (pos (1 - c) s)) := by
    rw [show (1 : Int32) - nI c = nI (1 - c) from pk_sub (a := 1) (by omega)]
    exact c_first
  refine ⟨va_cpy f f (pos c s) (pos (1 - c) s) 512, ?_, ?_⟩
  · unfold fX0_copyOver
    rw [e1, ob, e2, ob, show (nI 32768 - 512 : Int32) = nI 32256 from pk_sub (a := 32768) (b := 512) (by omega), if_neg (nI_pos (n2 (by omega))), if_neg (n_lt (by omega) (by omega)), if_neg (nI_pos (n2 (by omega))), if_neg (n_lt (by omega) (by omega))]
    have hcp : dk_cp .byte f (nI (pos c s)) (nI (pos (1 - c) s)) 512 32768 32768 := by
      refine ⟨nI_pos (n2 (by omega)), nI_pos (n2 (by omega)), by decide, ?_, ?_, ?_⟩
      · rw [nI_clamp (n2 (by omega))]; show _ + 512 ≤ 32768; omega
      · rw [nI_clamp (n2 (by omega))]; show _ + 512 ≤ 32768; omega
      · intro i hi
        have hi : i < 512 := hi
        rw [nI_clamp (n2 (by omega)), hf _ (by omega)]
        exact f_qs _
    rw [if_pos hcp, nI_clamp (n2 (by omega)), nI_clamp (n2 (by omega))]
    rfl
  · intro j hj
    unfold va_cpy cpB
    by_cases h : pos (1 - c) s ≤ j ∧ j < pos (1 - c) s + 512
    · rw [if_pos h, if_pos h, hf _ (by omega)]
    · rw [if_neg h, if_neg h, hf _ hj]
theorem m_repL {c s : Nat} (hc : c < 2) (hs : s < 32) (d0 : Nat → Int32) : ∀ (n i : Nat) (d : Nat → Int32), i ≤ 512 → 512 < n + i → (∀ j, pos c s ≤ j → j < pos c s + 512 → d j = d0 j) → ∃ g, fX6_repair_L25 (nI s) (nI c) n (nI i) d = some (nI 512, g) ∧ Put g d (pos (1 - c) s) i 512 (fun i => d0 (pos c s + i)) := by
  have hp := pos_lt hc hs
  have hp2 := pos_lt (c := 1 - c) (by omega) hs
  have e1 : fX6_at (nI c) (nI s) = some (nI (pos c s)) := m_at
  have e2 : fX6_at (1 - nI c) (nI s) = some (nI (pos (1 - c) s)) := by
    rw [show (1 : Int32) - nI c = nI (1 - c) from pk_sub (a := 1) (by omega)]
    exact m_at
  intro n
  induction n with
  | zero => intro i f h1 h2; omega
  | succ n ih =>
    intro i d h1 h2 h3
    rw [fX6_repair_L25.eq_2, show (512 : Int32) = nI 512 from rfl]
    by_cases h : i = 512
    · subst h
      exact ⟨d, by rw [if_pos (p_le (Nat.le_refl _) (by omega))], Put.end_⟩
    · obtain ⟨g, e, hg⟩ := ih (i + 1) (upd d (pos (1 - c) s + i) (d0 (pos c s + i))) (by omega) (by omega) (fun j j1 j2 => by
        rw [upd_n (by unfold pos at *; omega)]; exact h3 j j1 j2)
      refine ⟨g, ?_, Put.step (by omega) rfl hg⟩
      rw [if_neg (n_le (by omega) (by omega)), e2, ob, e1, ob, nI_add, if_pos (p_in (by omega) (by omega)), nI_add, if_pos (p_in (by omega) (by omega)), nI_1, nI_clamp (n2 (by omega)), nI_clamp (n2 (by omega)), h3 _ (by omega) (by omega)]
      exact e
theorem m_rep {d : Nat → Int32} {B : Nat → Nat} (hd : ∀ j, j < 32768 → d j = nI (B j)) {c s : Nat} (hc : c < 2) (hs : s < 32) : ∃ d', fX6_repair_L25 (nI s) (nI c) dkF 0 d = some (nI 512, d') ∧ ∀ j, j < 32768 → d' j = nI (cpB B (pos c s) (pos (1 - c) s) j) := by
  have hp := pos_lt hc hs
  obtain ⟨g, e, hg⟩ := m_repL hc hs d dkF 0 d (by omega) (by unfold dkF; omega) (fun _ _ _ => rfl)
  refine ⟨g, e, fun j hj => ?_⟩
  rw [hg j]
  unfold cpB
  by_cases h : pos (1 - c) s ≤ j ∧ j < pos (1 - c) s + 512
  · rw [if_pos (by omega), if_pos h]
    show d (pos c s + (j - pos (1 - c) s)) = _
    exact hd _ (by omega)
  · rw [if_neg (by omega), if_neg h, hd _ hj]
