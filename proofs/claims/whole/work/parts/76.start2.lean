/-! START AND FORMAT, on both sides -/
theorem off_start (pw u nu rp cw w z t pr mpw mu mcw mr mw mnu mrp mt : Int32) (st mst : Int64) (f pk th d so po mo mth : Nat → Int32) (out : Nat → Int64) : fL_start pw u st nu rp 0 cw f w z pk t pr th 1 out = some (1, pw, u, st, nu, rp, cw, f, w, z, pk, t, pr, out) ∧ fX6_start 0 mpw mu mcw mr mw mnu mst mrp mt d so po mo mth = some (0, 1, mpw, mu, mcw, mr, mw, mnu, mst, mrp, mt, d, so, po, mo, mth) := ⟨rfl, rfl⟩
theorem on_start {n t : Nat} {f d th mt : Nat → Int32} {B : Nat → Nat} {pr : Int32} (hD : Dk B f d) (hn : 8 ≤ n) (hn2 : n ≤ 32) (hR : Rm t th mt pr) (pw u nu rp cw w z mpw mu mcw mr mw mnu : Int32) (st mst : Int64) (pk so po mo : Nat → Int32) (out : Nat → Int64) :
    ∃ (u' r' t' : Nat) (nu' rp' pr' : Int32) (st' : Int64) (f' d' pk' so' po' mo' mt' : Nat → Int32) (B' : Nat → Nat), fL_start pw u st nu rp (nI n) cw f w z pk (nI t) pr th 1 out = some (0, 1, nI u', st', nu', rp', 0, f', nI 0, nI r', pk', nI t', pr', vp_updL out (0 : Int32).toNatClampNeg (nI r').toInt64) ∧ fX6_start (nI n) mpw mu mcw mr mw mnu mst rp (nI t) d so po mo mt = some (nI r', 0, 1, nI u', -1, nI r', nI 0, nu', st', rp', nI t', d', so', po', mo', mt') ∧ u' + 2 ≤ n ∧ r' ≤ 167 * u' ∧ t' ≤ r' ∧ Dk B' f' d' ∧ Pl r' u' pk' so' po' mo' ∧ Rm t' th mt' pr' := by
  obtain ⟨u', r', rp1, f1, d1, pk', so', po', mo', B1, a1, a2, a3, a4, a5, a6⟩ := fR_L hn hn2 dkF 0 0 rp f d pk so po mo B (by omega) (by unfold dkF; omega) (by omega) hD Pl_0
  obtain ⟨nu', rp', nu1, rp2, st', st1, f', d', d2, B', b1, b2, b3, b4⟩ := ts_2 a5 hn hn2 rp1
  obtain ⟨t', pr', k', mt', c1, c2, c3, c4, c5⟩ := keep hR (show r' ≤ 5010 by omega)
  have a1 : fX5_findRows_L14 (nI n) dkF 0 0 rp f 0 pk = some (nI u', rp1, f1, nI r', pk') := a1
  have a2 : fX6_start_L49 (nI n) dkF 0 0 rp d so po mo = some (nI u', nI r', rp1, d1, so', po', mo') := a2
  have hn0 : ¬ nI n = 0 := n_e0 (by omega) (by omega)
  refine ⟨u', r', t', nu', rp', pr', st', f', d', pk', so', po', mo', mt', B', ?_, ?_, a3, a4, c4, b4, a6, c5⟩
  · have m1 : fX0_isMade (nI n) = some 1 := by
      unfold fX0_isMade
      rw [q_z', if_neg (nI_nle (by omega) (n2 (by omega)))]
    have m2 : fX5_findRows rp (nI n) f pk = some (nI u', rp1, f1, nI r', pk') := by
      unfold fX5_findRows
      rw [show fX2_clear = some 0 from rfl, ob]
      exact a1
    unfold fL_start fX5_start
    rw [m1, ob, if_neg (show ¬ (1 : Int32) = 0 by decide), show fX0_forgetCut = some 0 from rfl, ob, show fX4_clear = some 0 from rfl, ob, m2, ob, b1, ob, show fX2_size (nI r') = some (nI r') from rfl, ob, c1, ob, ob, ob, Sum.elim_inl]
    rfl
  · unfold fX6_start
    rw [if_neg hn0, show fX6_throwing 0 0 0 0 = some (0, 0) from rfl, ob, if_pos rfl, a2, ob, b2, ob, b3, ob, c3, ob, c2]
    rfl
theorem on_format (pw rs u nu sc rp n cw w z t pr up mpw mu mrs mcw mr mw mnu msc mrp mup mt mn v : Int32) (st mst : Int64) (f d mth : Nat → Int32) : (∃ c, fL_format pw rs u st nu sc rp n cw f w z t pr up v = some (c, pw, rs, u, st, nu, sc, rp, n, cw, f, w, z, t, pr, up) ∧ fX6_format mn mpw mu mrs mcw mr mw mnu mst msc mrp mup mt d mth v = some (c, mn, mpw, mu, mrs, mcw, mr, mw, mnu, mst, msc, mrp, mup, mt, d, mth)) ∨ (∃ (k : Nat) (f' d' mt' : Nat → Int32), 8 ≤ k ∧ k ≤ 32 ∧ Dk (fun _ => 0) f' d' ∧ (∀ j, j < 5100 → mt' j = 0) ∧ fL_format pw rs u st nu sc rp n cw f w z t pr up v = some (0, 1, nI 2, nI 0, 0, 0, 0, 0, nI k, 0, f', nI 0, nI 0, nI 0, 0, 1) ∧ fX6_format mn mpw mu mrs mcw mr mw mnu mst msc mrp mup mt d mth v = some (0, nI k, 1, nI 0, nI 2, -1, nI 0, nI 0, 0, 0, 0, 0, 1, nI 0, d', mt')) := by
  unfold fL_format fX5_format fX6_format
  rcases rng v (a := 8) (b := 32) (by omega) (by omega) with ⟨k, h1, h2, h3, e1, e2⟩ | ⟨e1, e2⟩
  · have e1 : fX5_requireRange v 8 32 = some (.inl ()) := e1
    have e2 : fX6_in v 8 32 = some 1 := e2
    subst h1
    obtain ⟨f', a1, b1⟩ := c_fill (N := 32768) (by omega) f
    obtain ⟨d', a2, b2⟩ := m_fill0 d
    obtain ⟨mt', a3, b3⟩ := m_thereL dkF 0 mth (by omega) (by unfold dkF; omega)
    have a3 : fX6_format_L115 dkF 0 mth = some (nI 5100, mt') := a3
    have m1 : fX0_make f (nI k) = some (nI k, 0, f') := by
      unfold fX0_make
      rw [a1, ob]
    refine Or.inr ⟨k, f', d', mt', h2, h3, ⟨fun _ => show 0 < 256 by decide, b1, b2⟩, fun j hj => by rw [b3 j, if_pos (by omega)], ?_, ?_⟩
    · rw [e1, ob, Sum.elim_inl, m1, ob]
      rfl
    · rw [e2, ob, show fX6_throwing (if (1 : Int32) = 0 then 1 else 0) 0 0 0 = some (0, 0) from rfl, ob, if_pos rfl, a2, ob, a3, ob]
      rfl
  · have e1 : fX5_requireRange v 8 32 = some (.inr 1) := e1
    have e2 : fX6_in v 8 32 = some 0 := e2
    rw [e1, e2]
    exact Or.inl ⟨1, rfl, rfl⟩
