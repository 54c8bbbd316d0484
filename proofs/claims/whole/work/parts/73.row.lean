/-! ROW AND SYNC WITH POWER, on both sides -/
theorem updL_s {f : Nat → Int64} {k : Nat} {x : Int64} : vp_updL f k x k = x := if_pos rfl
theorem updL_n {f : Nat → Int64} {k j : Nat} {x : Int64} (h : j ≠ k) : vp_updL f k x j = f j := if_neg h
theorem neg_sub : ∀ a, a < 8 → ∀ q, q < 9 → a < q → nI a - nI q < 0 := by decide
theorem le_sub {N a q : Nat} (hN : N < 200) (ha : a < 40) (hq : q ≤ 8) (h : nI N ≤ nI a - nI q) : N ≤ a := by
  by_cases h1 : q ≤ a
  · rw [pk_sub h1] at h
    have := (nI_leI (n2 (by omega)) (n2 (by omega))).mp h
    omega
  · have h2 := neg_sub a (by omega) q (by omega) (by omega)
    exact absurd (Int32.lt_of_le_of_lt h h2) (nI_pos (n2 (by omega)))
theorem need_pos {M : Nat → Nat} {k i : Nat} : 0 < need M (k + 1) i 0 := by
  rw [need_n (by omega)]
  omega
theorem on_row {n u w r rs : Nat} {M : Nat → Nat} {ks ls wk wm : Nat → Int32} {vs wv : Nat → Int64} (hW : Wt w M ks ls vs wk wm wv) (hw : w ≤ 100) (hn : 8 ≤ n) (hn2 : n ≤ 32) (hu : u + 2 ≤ n) (hrs : rs ≤ 8) (v1 v3 : Int32) (x : Int64) (out : Nat → Int64) :
    (∃ c, ¬ c = 0 ∧ fL_row 1 (nI rs) (nI u) (nI n) (nI w) ks ls vs (nI r) 1 out v1 x v3 = some (c, nI w, ks, ls, vs, out) ∧ fX6_row (nI n) 1 (nI u) (nI rs) (nI r) (nI w) wk wm wv v1 x v3 = some (0, c, nI w, wk, wm, wv)) ∨ (∃ l : Nat, 1 ≤ l ∧ l ≤ 8 ∧ w < 100 ∧ u + need (fun j => if j = w then l else M j) (w + 1) 0 0 + 2 ≤ n ∧ fL_row 1 (nI rs) (nI u) (nI n) (nI w) ks ls vs (nI r) 1 out v1 x v3 = some (0, nI (w + 1), upd ks w v1, upd ls w (nI l), vp_updL vs w x, vp_updL out (0 : Int32).toNatClampNeg (nI (r + w)).toInt64) ∧ fX6_row (nI n) 1 (nI u) (nI rs) (nI r) (nI w) wk wm wv v1 x v3 = some (nI (r + w), 0, nI (w + 1), upd wk w v1, upd wm w (nI l), vp_updL wv w x)) := by
  unfold fL_row fX5_row fX6_row
  rw [show fX5_requirePower 1 = some (.inl ()) from rfl, if_neg (show ¬ (1 : Int32) = 0 by decide)]
  -- rows that wait, and the new one
  have hneed : ∀ l, 1 ≤ l → l ≤ 8 → fX4_sectorsWith (nI w) ls (2 + nI l) = some (nI (need (fun j => if j = w then l else M j) (w + 1) 0 0)) ∧ fX6_needed (nI w) wm (nI l) = some (nI (need (fun j => if j = w then l else M j) (w + 1) 0 0)) := by
    intro l h1 h2
    have hl : ∀ j, j ≤ w → 1 ≤ (fun j => if j = w then l else M j) j ∧ (fun j => if j = w then l else M j) j ≤ 8 := by
      intro j hj
      show 1 ≤ (if j = w then l else M j) ∧ (if j = w then l else M j) ≤ 8
      by_cases e : j = w
      · rw [if_pos e]; omega
      · rw [if_neg e]
        have := hW j (by omega)
        exact ⟨this.2.2.1, this.2.2.2.1⟩
    have hc : ∀ j, j < w → (fun j => if j = w then l else M j) j = M j := fun j hj => if_neg (by omega)
    have e : (fun j => if j = w then l else M j) w = l := if_pos rfl
    have a1 := c_sec (ls := ls) (M := fun j => if j = w then l else M j) hw (fun j hj => by show ls j = nI (if j = w then l else M j); rw [if_neg (by omega)]; exact (hW j hj).1) (fun j hj => (hl j hj).2)
    have a2 := m_need (wm := wm) (M := fun j => if j = w then l else M j) hw (fun j hj => by show wm j = nI (if j = w then l else M j); rw [if_neg (by omega)]; exact (hW j hj).2.1) hl
    rw [if_pos rfl] at a1 a2
    exact ⟨a1, a2⟩
  have hA : nI n - 2 - nI u = nI (n - 2 - u) := by rw [s_2 (by omega), pk_sub (by omega)]
  rcases knw v1 (n := 8) (by omega) with ⟨k, h1, h2, e1, e2⟩ | ⟨e1, e2⟩
  · have e1 : fX5_requireKnown v1 8 = some (.inl ()) := e1
    have e2 : fX6_in v1 0 7 = some 1 := e2
    rcases rng v3 (a := 1) (b := 8) (by omega) (by omega) with ⟨l, g1, g2, g3, e3, e4⟩ | ⟨e3, e4⟩
    · have e3 : fX5_requireRange v3 1 8 = some (.inl ()) := e3
      have e4 : fX6_in v3 1 8 = some 1 := e4
      subst g1
      obtain ⟨a1, a2⟩ := hneed l g2 g3
      rw [e1, e2, e3, e4]
      simp only [ob, Sum.elim_inl]
      rw [if_pos (show (if (1 : Int32) = 0 then (1 : Int32) else 0) = 0 from rfl)]
      by_cases hf : w = 100
      · left
        refine ⟨4, by decide, ?_, ?_⟩
        · subst hf
          rfl
        · rw [if_pos (show nI w = 100 by rw [hf]; rfl)]
          rfl
      · have f1 : fX4_isFull (nI w) = some 0 := by
          unfold fX4_isFull
          rw [q_z', if_pos (show nI w < 100 from p_lt (b := 100) (by omega) (by omega))]
        have hleft : fX5_sectorsLeftFor (nI rs) (nI u) (nI n) v1 = some (((nI n - 2) - nI u) - (if v1 ≤ (3 : Int32) then 0 else nI rs)) := by
          unfold fX5_sectorsLeftFor fX0_rowSectors
          rw [ob]
          subst h1
          by_cases hk : k < 4
          · rw [if_pos (show nI k < 4 from p_lt (b := 4) hk (by omega)), if_pos (show nI k ≤ 3 from p_le (b := 3) (by omega) (by omega)), i_sub0]
          · rw [if_neg (show ¬ nI k < 4 from n_lt (b := 4) (by omega) (by omega)), if_neg (show ¬ nI k ≤ 3 from n_le (b := 3) (by omega) (by omega))]
        rw [if_neg (show ¬ nI w = 100 from n_eq (b := 100) hf (by omega) (by omega)), f1, a1, hleft, a2]
        simp only [ob]
        rw [if_pos trivial]
        generalize hN : need (fun j => if j = w then l else M j) (w + 1) 0 0 = N
        have hNle : N ≤ 101 := by
          have := need_le (fun j => if j = w then l else M j) (w + 1) 0 0
          omega
        by_cases hle : nI N ≤ (nI n - 2) - nI u - (if v1 ≤ (3 : Int32) then 0 else nI rs)
        · right
          have hfit : N ≤ n - 2 - u := by
            rw [hA] at hle
            by_cases h3 : v1 ≤ (3 : Int32)
            · rw [if_pos h3, i_sub0] at hle
              exact (nI_leI (n2 (by omega)) (n2 (by omega))).mp hle
            · rw [if_neg h3] at hle
              exact le_sub (by omega) (by omega) hrs hle
          refine ⟨l, g2, g3, by omega, by rw [hN]; omega, ?_, ?_⟩
          · rw [if_pos hle]
            have ad : fX4_add (nI w) ks ls vs v1 x (nI l) = some (nI (w + 1), upd ks w v1, upd ls w (nI l), vp_updL vs w x) := by
              unfold fX4_add
              rw [if_neg (show ¬ (100 : Int32) ≤ nI w from n_le (a := 100) (by omega) (by omega)), if_pos (p_in (by omega) (by omega)), if_pos (p_in (by omega) (by omega)), if_pos (p_in (by omega) (by omega)), nI_1, nI_clamp (n2 (by omega))]
            rw [ad, show fX2_size (nI r) = some (nI r) from rfl, show fX4_size (nI w) = some (nI w) from rfl]
            simp only [ob, Sum.elim_inl]
            rw [nI_add]
            rfl
          · rw [if_pos hle]
            simp only [if_neg (show ¬ (1 : Int32) = 0 by decide)]
            rw [th_0, ob, if_pos rfl, if_pos (p_in (by omega) (by omega)), if_pos (p_in (by omega) (by omega)), if_pos (p_in (by omega) (by omega)), nI_1, nI_clamp (n2 (by omega)), nI_add, show nI (r + (w + 1)) - 1 = nI (r + w) from by rw [← Nat.add_assoc]; exact nI_pred _]
        · left
          refine ⟨4, by decide, ?_, ?_⟩
          · rw [if_neg hle]
            rfl
          · rw [if_neg hle]
            rfl
    · have e3 : fX5_requireRange v3 1 8 = some (.inr 1) := e3
      have e4 : fX6_in v3 1 8 = some 0 := e4
      rw [e1, e2, e3, e4]
      exact Or.inl ⟨2, by decide, rfl, rfl⟩
  · have e1 : fX5_requireKnown v1 8 = some (.inr 0) := e1
    have e2 : fX6_in v1 0 7 = some 0 := e2
    rw [e1, e2]
    rcases rng v3 (a := 1) (b := 8) (by omega) (by omega) with ⟨l, g1, g2, g3, e3, e4⟩ | ⟨e3, e4⟩
    · have e4 : fX6_in v3 1 8 = some 1 := e4
      subst g1
      obtain ⟨a1, a2⟩ := hneed l g2 g3
      rw [e4, a2]
      refine Or.inl ⟨1, by decide, rfl, ?_⟩
      simp only [ob]
      rw [if_pos (show (if (1 : Int32) = 0 then (1 : Int32) else 0) = 0 from rfl)]
      by_cases hf : nI w = 100
      · rw [if_pos hf]
        rfl
      · rw [if_neg hf]
        rfl
    · have e4 : fX6_in v3 1 8 = some 0 := e4
      rw [e4]
      exact Or.inl ⟨1, by decide, rfl, rfl⟩
theorem on_sync {n u w r : Nat} {M : Nat → Nat} {ks ls wk wm f d pk so po mo : Nat → Int32} {vs wv : Nat → Int64} {B : Nat → Nat} {cw wb bc cwr cb : Int32} (hW : Wt w M ks ls vs wk wm wv) (hw : w ≤ 100) (hn2 : n ≤ 32) (hfit : u + need M w 0 0 + 2 ≤ n) (hr : r ≤ 167 * u) (hC : Cut cw wb bc cwr cb) (hD : Dk B f d) (hP : Pl r u pk so po mo) (e : Int32) (g mk : Nat → Int32) (out : Nat → Int64) :
    (∃ (u' : Nat) (cw' wb' cwr' e' : Int32) (f' d' g' mk' pk' so' po' mo' : Nat → Int32) (B' : Nat → Nat), fL_sync 1 (nI u) cw wb bc f e g (nI w) ks ls vs (nI r) pk 1 out = some (0, 1, nI u', cw', wb', f', e', g', nI 0, nI (r + w), pk', vp_updL out (0 : Int32).toNatClampNeg (nI (r + w)).toInt64) ∧ fX6_sync 1 (nI u) cwr cb (nI r) (nI w) d mk so po mo wk wm wv = some (nI (r + w), 0, 1, nI u', cwr', nI (r + w), nI 0, d', mk', so', po', mo') ∧ u' + 2 ≤ n ∧ r + w ≤ 167 * u' ∧ Cut cw' wb' bc cwr' cb ∧ Dk B' f' d' ∧ Pl (r + w) u' pk' so' po' mo')
    ∨ (∃ (u' z : Nat) (cw' wb' cwr' e' : Int32) (f' d' g' mk' pk' so' po' mo' : Nat → Int32) (B' : Nat → Nat), fL_sync 1 (nI u) cw wb bc f e g (nI w) ks ls vs (nI r) pk 1 out = some (0, 0, nI u', cw', wb', f', e', g', nI w, nI z, pk', vp_updL out (0 : Int32).toNatClampNeg (-1 : Int32).toInt64) ∧ fX6_sync 1 (nI u) cwr cb (nI r) (nI w) d mk so po mo wk wm wv = some (-1, 0, 0, nI u', cwr', nI r, nI w, d', mk', so', po', mo') ∧ u' + 2 ≤ n ∧ z ≤ 5010 ∧ Cut cw' wb' bc cwr' cb ∧ Dk B' f' d') := by
  have hrw : r + w ≤ 5010 := by
    rcases Nat.eq_zero_or_pos w with h | h
    · omega
    · have : 0 < need M w 0 0 := by
        obtain ⟨k, rfl⟩ : ∃ k, w = k + 1 := ⟨w - 1, by omega⟩
        exact need_pos
      omega
  unfold fL_sync fX5_sync fX6_sync
  rw [show fX5_requirePower 1 = some (.inl ()) from rfl, ob, Sum.elim_inl, show fX6_throwing (if (1 : Int32) = 0 then 1 else 0) 0 0 0 = some (0, 0) from rfl, ob, if_pos rfl]
  rcases sync_L (N := n - 2) (bc := bc) (cb := cb) (th := 0) hW hw hrw (by omega) dkF 0 0 u cw wb cwr e f d g mk pk so po mo B (by omega) (by omega) (by unfold dkF; omega) (by rw [Nat.sub_zero]; omega) hr hC hD hP with ⟨u', cw', wb', cwr', e', f', d', g', mk', pk', so', po', mo', B', q1, q2, q3, q4, q5, q6, q7⟩ | ⟨u', z, cw', wb', cwr', e', f', d', g', mk', pk', so', po', mo', B', q1, q2, q3, q4, q5, q6⟩
  · have q1 : fX5_sync_L8 bc ks ls vs dkF 0 0 1 (nI u) cw wb f e g (nI w) (nI r) pk = some (.inl (nI (r + w)), 1, nI u', cw', wb', f', e', g', 0, nI (r + w), pk') := q1
    have q2 : fX6_sync_L26 0 cb wk wm wv dkF 0 1 (nI u) cwr (nI r) (nI w) d mk so po mo = some (nI (r + w), 0, 1, nI u', cwr', nI (r + w), 0, d', mk', so', po', mo') := q2
    refine Or.inl ⟨u', cw', wb', cwr', e', f', d', g', mk', pk', so', po', mo', B', ?_, ?_, by omega, q4, q5, q6, q7⟩
    · rw [q1, ob, Sum.elim_inl]
      rfl
    · rw [q2]
      rfl
  · have q1 : fX5_sync_L8 bc ks ls vs dkF 0 0 1 (nI u) cw wb f e g (nI w) (nI r) pk = some (.inl (-1), 0, nI u', cw', wb', f', e', g', nI w, nI z, pk') := q1
    have q2 : fX6_sync_L26 0 cb wk wm wv dkF 0 1 (nI u) cwr (nI r) (nI w) d mk so po mo = some (-1, 0, 0, nI u', cwr', nI r, nI w, d', mk', so', po', mo') := q2
    refine Or.inr ⟨u', z, cw', wb', cwr', e', f', d', g', mk', pk', so', po', mo', B', ?_, ?_, by omega, q4, q5, q6⟩
    · rw [q1, ob, Sum.elim_inl]
      rfl
    · exact q2
