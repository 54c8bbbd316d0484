/-! CALLS WITHOUT POWER, on both sides: all stays as it is -/
theorem off_reserve (rs mrs v : Int32) : ∃ c, fL_reserve 0 rs v = some (c, rs) ∧ fX6_reserve 0 mrs v = some (c, mrs) := by
  unfold fL_reserve fX5_reserve fX6_reserve
  rcases rng v (a := 0) (b := 8) (by omega) (by omega) with ⟨k, h1, h2, h3, e1, e2⟩ | ⟨e1, e2⟩
  · have e1 : fX5_requireRange v 0 8 = some (.inl ()) := e1
    have e2 : fX6_in v 0 8 = some 1 := e2
    rw [e1, e2]
    exact ⟨2, rfl, rfl⟩
  · have e1 : fX5_requireRange v 0 8 = some (.inr 1) := e1
    have e2 : fX6_in v 0 8 = some 0 := e2
    rw [e1, e2]
    exact ⟨1, rfl, rfl⟩
theorem off_row (rs u n w z mn mu mrs mr mw v1 v3 : Int32) (x : Int64) (ks ls wk wm : Nat → Int32) (vs wv out : Nat → Int64) : ∃ c, ¬ c = 0 ∧ fL_row 0 rs u n w ks ls vs z 1 out v1 x v3 = some (c, w, ks, ls, vs, out) ∧ fX6_row mn 0 mu mrs mr mw wk wm wv v1 x v3 = some (0, c, mw, wk, wm, wv) := by
  unfold fL_row fX5_row fX6_row
  rcases knw v1 (n := 8) (by omega) with ⟨k, h1, h2, e1, e2⟩ | ⟨e1, e2⟩
  · have e1 : fX5_requireKnown v1 8 = some (.inl ()) := e1
    have e2 : fX6_in v1 0 7 = some 1 := e2
    rcases rng v3 (a := 1) (b := 8) (by omega) (by omega) with ⟨k, h1, h2, h3, e3, e4⟩ | ⟨e3, e4⟩
    · have e3 : fX5_requireRange v3 1 8 = some (.inl ()) := e3
      have e4 : fX6_in v3 1 8 = some 1 := e4
      rw [e1, e2, e3, e4]
      exact ⟨3, by decide, rfl, rfl⟩
    · have e3 : fX5_requireRange v3 1 8 = some (.inr 1) := e3
      have e4 : fX6_in v3 1 8 = some 0 := e4
      rw [e1, e2, e3, e4]
      exact ⟨2, by decide, rfl, rfl⟩
  · have e1 : fX5_requireKnown v1 8 = some (.inr 0) := e1
    have e2 : fX6_in v1 0 7 = some 0 := e2
    rw [e1, e2, in_g]
    exact ⟨1, by decide, rfl, rfl⟩
theorem off_sync (u cw wb bc e w z mu mcw mcb mr mw : Int32) (f g ks ls pk d mk so po mo wk wm : Nat → Int32) (vs wv out : Nat → Int64) : fL_sync 0 u cw wb bc f e g w ks ls vs z pk 1 out = some (1, 0, u, cw, wb, f, e, g, w, z, pk, out) ∧ fX6_sync 0 mu mcw mcb mr mw d mk so po mo wk wm wv = some (0, 1, 0, mu, mcw, mr, mw, d, mk, so, po, mo) := ⟨rfl, rfl⟩
theorem off_save (st mst x : Int64) (nu mnu n mn cw wb bc mcw mcb e : Int32) (f g d mk : Nat → Int32) (out : Nat → Int64) : fL_save 0 st nu n cw wb bc f e g 1 out x = some (1, 0, st, nu, cw, wb, f, e, g, out) ∧ fX6_save mn 0 mcw mcb mnu mst d mk x = some (0, 1, 0, mcw, mnu, mst, d, mk) := ⟨rfl, rfl⟩
theorem off_state (st mst : Int64) (out : Nat → Int64) : fL_state 0 st 1 out = some (1, out) ∧ fX6_state 0 mst = some (0, 1) := ⟨rfl, rfl⟩
theorem off_cut (cw wb bc mcw mcb v1 v2 : Int32) : ∃ c, fL_cut 0 cw wb bc v1 v2 = some (c, cw, wb, bc) ∧ fX6_cut 0 mcw mcb v1 v2 = some (c, mcw, mcb) := by
  unfold fL_cut fX5_cut fX6_cut
  rcases rng v1 (a := 0) (b := 20) (by omega) (by omega) with ⟨k, h1, h2, h3, e1, e2⟩ | ⟨e1, e2⟩
  · have e1 : fX5_requireRange v1 0 20 = some (.inl ()) := e1
    have e2 : fX6_in v1 0 20 = some 1 := e2
    rcases rng v2 (a := 0) (b := 511) (by omega) (by omega) with ⟨k, h1, h2, h3, e3, e4⟩ | ⟨e3, e4⟩
    · have e3 : fX5_requireRange v2 0 511 = some (.inl ()) := e3
      have e4 : fX6_in v2 0 511 = some 1 := e4
      rw [e1, e2, e3, e4]
      exact ⟨2, rfl, rfl⟩
    · have e3 : fX5_requireRange v2 0 511 = some (.inr 1) := e3
      have e4 : fX6_in v2 0 511 = some 0 := e4
      rw [e1, e2, e3, e4]
      exact ⟨1, rfl, rfl⟩
  · have e1 : fX5_requireRange v1 0 20 = some (.inr 1) := e1
    have e2 : fX6_in v1 0 20 = some 0 := e2
    rw [e1, e2]
    exact ⟨1, rfl, rfl⟩
theorem off_read (sc n z mn mr msc v1 v2 : Int32) (f pk d so po mo : Nat → Int32) (out : Nat → Int64) : fL_read 0 sc n f z pk 1 out v1 v2 = some (3, sc, out) ∧ fX6_read mn 0 mr msc d so po mo v1 v2 = some (0, 3, msc) := by
  refine ⟨rfl, ?_⟩
  unfold fX6_read fX6_refuses
  rw [in_g]
  rfl
theorem off_kind (sc n z mn mr msc v1 : Int32) (f pk d so po : Nat → Int32) (out : Nat → Int64) : fL_kind 0 sc n f z pk 1 out v1 = some (2, sc, out) ∧ fX6_kind mn 0 mr msc d so po v1 = some (0, 2, msc) := by
  refine ⟨rfl, ?_⟩
  unfold fX6_kind fX6_refuses
  rw [in_g]
  rfl
theorem off_extract (sc n z mn mr msc v1 v2 : Int32) (f pk d so po mo : Nat → Int32) (out : Nat → Int64) : fL_extract 0 sc n f z pk 1 out v1 v2 = some (2, sc, out) ∧ fX6_extract mn 0 mr msc d so po mo v1 v2 = some (0, 2, msc) := ⟨rfl, rfl⟩
theorem off_line (up mup v : Int32) : fL_line 0 up v = some (1, up) ∧ fX6_line 0 mup v = some (1, mup) := ⟨rfl, rfl⟩
theorem off_send (z t pr up mr mup mt v : Int32) (th mth : Nat → Int32) (out : Nat → Int64) : ∃ c, ¬ c = 0 ∧ fL_send 0 z t pr up th 1 out v = some (c, t, pr, th, out) ∧ fX6_send 0 mr mup mt mth v = some (0, c, mt, mth) := by
  unfold fL_send fX5_send fX6_send
  rcases rng v (a := 0) (b := 100) (by omega) (by omega) with ⟨k, h1, h2, h3, e1, e2⟩ | ⟨e1, e2⟩
  · have e1 : fX5_requireRange v 0 100 = some (.inl ()) := e1
    have e2 : fX6_in v 0 100 = some 1 := e2
    rw [e1, e2]
    exact ⟨2, by decide, rfl, rfl⟩
  · have e1 : fX5_requireRange v 0 100 = some (.inr 1) := e1
    have e2 : fX6_in v 0 100 = some 0 := e2
    rw [e1, e2]
    exact ⟨1, by decide, rfl, rfl⟩
theorem off_gap (t mt v : Int32) (th mth : Nat → Int32) (out : Nat → Int64) : fL_gap 0 t th 1 out v = some (2, out) ∧ fX6_gap 0 mt mth v = some (0, 2) := ⟨rfl, rfl⟩
theorem off_fill (t pr up mup mt v : Int32) (th mth : Nat → Int32) (out : Nat → Int64) : ∃ c, ¬ c = 0 ∧ fL_fill 0 t pr up th 1 out v = some (c, pr, th, out) ∧ fX6_fill 0 mup mt mth v = some (0, c, mth) := by
  unfold fL_fill fX5_fill fX6_fill
  rcases rng v (a := 0) (b := 100) (by omega) (by omega) with ⟨k, h1, h2, h3, e1, e2⟩ | ⟨e1, e2⟩
  · have e1 : fX5_requireRange v 0 100 = some (.inl ()) := e1
    have e2 : fX6_in v 0 100 = some 1 := e2
    rw [e1, e2]
    exact ⟨2, by decide, rfl, rfl⟩
  · have e1 : fX5_requireRange v 0 100 = some (.inr 1) := e1
    have e2 : fX6_in v 0 100 = some 0 := e2
    rw [e1, e2]
    exact ⟨1, by decide, rfl, rfl⟩
theorem off_count (u nu sc rp w z t pr mu mr mw mnu msc mrp mt v : Int32) (mth : Nat → Int32) (out : Nat → Int64) : fL_count 0 u nu sc rp w z t pr 1 out v = some (2, out) ∧ fX6_count 0 mu mr mw mnu msc mrp mt mth v = some (0, 2) := ⟨rfl, rfl⟩
