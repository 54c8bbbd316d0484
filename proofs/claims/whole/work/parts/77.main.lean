/-! THE LAW'S LOOP KEEPS PROGRAM AND REFERENCE ALIKE -/
theorem op_c (o : Int32) : (o.toInt < 0 ∨ 16 < o.toInt) ∨ (∃ k : Nat, k ≤ 16 ∧ o = nI k) := by
  by_cases h : o.toInt < 0 ∨ 16 < o.toInt
  · exact Or.inl h
  · right
    have h0 : ¬ o < 0 := fun q => by
      have := Int32.lt_iff_toInt_lt.mp q
      rw [show (0 : Int32).toInt = 0 from rfl] at this
      omega
    obtain ⟨k, hk, rfl⟩ := nI_of h0
    rw [nI_toInt hk] at h
    exact ⟨k, by omega, rfl⟩
theorem nz01 : ¬ (0 : Int32) = 1 := by decide
theorem nz1 : ¬ (1 : Int32) = 0 := by decide
theorem nz2 : ¬ (2 : Int32) = 0 := by decide
theorem nz3 : ¬ (3 : Int32) = 0 := by decide
theorem law_off {L : Nat} {xs : Nat → Int32} {F : Nat} {x4 : Int32} {rs u nu sc rp n cw wb bc e w z t pr up thr mn mu mrs mcw mcb mr mw mnu msc mrp mup mt : Int32} {st mst : Int64} {f g ks ls pk th d mk so po mo mth wk wm : Nat → Int32} {vs wv out : Nat → Int64} (hx : ¬ ((Int32.ofNat L) - 5) < x4) (hi : dk_in x4 L) (hj : dk_in (x4 + 1) L ∧ dk_in (x4 + 2) L ∧ dk_in (x4 + 3) L ∧ dk_in (x4 + 4) L) {k : Nat} (hk : ((xs x4.toNatClampNeg) &&& 31) = nI k) (hk2 : k ≤ 16) (hk0 : ¬ k = 0) (hk7 : ¬ k = 7) (hk8 : ¬ k = 8) (hU : ∀ thr, fL_law_L23 L xs F (x4 + 5) 0 rs u st nu sc rp n cw wb bc f e g w ks ls vs z pk t pr up th thr mn 0 mu mrs mcw mcb mr mw mnu mst msc mrp mup mt d mk so po mo mth wk wm wv out = some ()) : fL_law_L23 L xs (F + 1) x4 0 rs u st nu sc rp n cw wb bc f e g w ks ls vs z pk t pr up th thr mn 0 mu mrs mcw mcb mr mw mnu mst msc mrp mup mt d mk so po mo mth wk wm wv out = some () := by
  rcases (show k = 1 ∨ k = 2 ∨ k = 3 ∨ k = 4 ∨ k = 5 ∨ k = 6 ∨ k = 9 ∨ k = 10 ∨ k = 11 ∨ k = 12 ∨ k = 13 ∨ k = 14 ∨ k = 15 ∨ k = 16 by omega) with h | h | h | h | h | h | h | h | h | h | h | h | h | h <;> subst h
  · obtain ⟨c, e1, e2⟩ := off_reserve rs mrs (xs (x4 + 1).toNatClampNeg)
    rw [lw_1 hx hi hj hk e1 e2 rfl]
    exact hU _
  · obtain ⟨c, hc, e1, e2⟩ := off_row rs u n w z mn mu mrs mr mw (xs (x4 + 1).toNatClampNeg) (xs (x4 + 4).toNatClampNeg) ((dk_lshl ((xs (x4 + 2).toNatClampNeg).toInt64) 32) ||| ((xs (x4 + 3).toNatClampNeg).toInt64 &&& 4294967295)) ks ls wk wm vs wv out
    rw [lw_2 hx hi hj hk e1 e2 rfl (fun q => absurd q hc)]
    exact hU _
  · obtain ⟨e1, e2⟩ := off_sync u cw wb bc e w z mu mcw mcb mr mw f g ks ls pk d mk so po mo wk wm vs wv out
    rw [lw_3 hx hi hj hk e1 e2 rfl (fun q => absurd q nz1)]
    exact hU _
  · obtain ⟨e1, e2⟩ := off_save st mst ((dk_lshl ((xs (x4 + 1).toNatClampNeg).toInt64) 32) ||| ((xs (x4 + 2).toNatClampNeg).toInt64 &&& 4294967295)) nu mnu n mn cw wb bc mcw mcb e f g d mk out
    rw [lw_4 hx hi hj hk e1 e2 rfl (fun q => absurd q nz1)]
    exact hU _
  · obtain ⟨e1, e2⟩ := off_state st mst out
    rw [lw_5 hx hi hj hk e1 e2 rfl (fun q => absurd q nz1)]
    exact hU _
  · obtain ⟨c, e1, e2⟩ := off_cut cw wb bc mcw mcb (xs (x4 + 1).toNatClampNeg) (xs (x4 + 2).toNatClampNeg)
    rw [lw_6 hx hi hj hk e1 e2 rfl]
    exact hU _
  · obtain ⟨e1, e2⟩ := off_read sc n z mn mr msc (xs (x4 + 1).toNatClampNeg) (xs (x4 + 2).toNatClampNeg) f pk d so po mo out
    rw [lw_9 hx hi hj hk e1 e2 rfl (fun q => absurd q nz3)]
    exact hU _
  · obtain ⟨e1, e2⟩ := off_kind sc n z mn mr msc (xs (x4 + 1).toNatClampNeg) f pk d so po out
    rw [lw_10 hx hi hj hk e1 e2 rfl (fun q => absurd q nz2)]
    exact hU _
  · obtain ⟨e1, e2⟩ := off_extract sc n z mn mr msc (xs (x4 + 1).toNatClampNeg) (xs (x4 + 2).toNatClampNeg) f pk d so po mo out
    rw [lw_11 hx hi hj hk e1 e2 rfl (fun q => absurd q nz2)]
    exact hU _
  · obtain ⟨e1, e2⟩ := off_line up mup (if (xs (x4 + 1).toNatClampNeg) = 0 then 0 else 1)
    rw [lw_12 hx hi hj hk e1 e2 rfl]
    exact hU _
  · obtain ⟨c, hc, e1, e2⟩ := off_send z t pr up mr mup mt (xs (x4 + 1).toNatClampNeg) th mth out
    rw [lw_13 hx hi hj hk e1 e2 rfl (fun q => absurd q hc)]
    exact hU _
  · obtain ⟨e1, e2⟩ := off_gap t mt (xs (x4 + 1).toNatClampNeg) th mth out
    rw [lw_14 hx hi hj hk e1 e2 rfl (fun q => absurd q nz2)]
    exact hU _
  · obtain ⟨c, hc, e1, e2⟩ := off_fill t pr up mup mt (xs (x4 + 1).toNatClampNeg) th mth out
    rw [lw_15 hx hi hj hk e1 e2 rfl (fun q => absurd q hc)]
    exact hU _
  · obtain ⟨e1, e2⟩ := off_count u nu sc rp w z t pr mu mr mw mnu msc mrp mt (xs (x4 + 1).toNatClampNeg) mth out
    rw [lw_16 hx hi hj hk e1 e2 rfl (fun q => absurd q nz2)]
    exact hU _
def Good (n u w r z t rs : Nat) (pw up pr cw wb bc cwr cb : Int32) (f d pk so po mo th mt ks ls wk wm : Nat → Int32) (vs wv : Nat → Int64) : Prop :=
  8 ≤ n ∧ n ≤ 32 ∧ u + 2 ≤ n ∧ rs ≤ 8 ∧ w ≤ 100 ∧ z ≤ 5010 ∧ r ≤ 5010 ∧ t ≤ r ∧ dk_01 pw ∧ dk_01 up ∧ Cut cw wb bc cwr cb ∧ Rm t th mt pr ∧ (∃ B, Dk B f d) ∧ (∃ M, Wt w M ks ls vs wk wm wv ∧ (pw = 1 → u + need M w 0 0 + 2 ≤ n)) ∧ (pw = 1 → z = r ∧ r ≤ 167 * u ∧ Pl r u pk so po mo)
def GoodOK (L : Nat) (xs : Nat → Int32) (F : Nat) (x4 : Int32) : Prop := ∀ (n u w r z t rs : Nat) (pw nu sc rp cw wb bc e pr up thr mcw mcb : Int32) (st : Int64) (f g ks ls pk th d mk so po mo mth wk wm : Nat → Int32) (vs wv out : Nat → Int64), Good n u w r z t rs pw up pr cw wb bc mcw mcb f d pk so po mo th mth ks ls wk wm vs wv → fL_law_L23 L xs F x4 pw (nI rs) (nI u) st nu sc rp (nI n) cw wb bc f e g (nI w) ks ls vs (nI z) pk (nI t) pr up th thr (nI n) pw (nI u) (nI rs) mcw mcb (nI r) (nI w) nu st sc rp up (nI t) d mk so po mo mth wk wm wv out = some ()
def FreshOK (L : Nat) (xs : Nat → Int32) (F : Nat) (x4 : Int32) : Prop := ∀ (rs u nu sc rp cw wb bc e w z t pr up thr mu mrs mcw mcb mr mw mnu msc mrp mup mt : Int32) (st mst : Int64) (f g ks ls pk th d mk so po mo mth wk wm : Nat → Int32) (vs wv out : Nat → Int64), fL_law_L23 L xs F x4 0 rs u st nu sc rp 0 cw wb bc f e g w ks ls vs z pk t pr up th thr 0 0 mu mrs mcw mcb mr mw mnu mst msc mrp mup mt d mk so po mo mth wk wm wv out = some ()
theorem law_fresh {L : Nat} {xs : Nat → Int32} {F : Nat} {x4 : Int32} (hx : ¬ ((Int32.ofNat L) - 5) < x4) (hi : dk_in x4 L) (hj : dk_in (x4 + 1) L ∧ dk_in (x4 + 2) L ∧ dk_in (x4 + 3) L ∧ dk_in (x4 + 4) L) (hG : GoodOK L xs F (x4 + 5)) (hF : FreshOK L xs F (x4 + 5)) : FreshOK L xs (F + 1) x4 := by
  intro rs u nu sc rp cw wb bc e w z t pr up thr mu mrs mcw mcb mr mw mnu msc mrp mup mt st mst f g ks ls pk th d mk so po mo mth wk wm vs wv out
  rcases op_c ((xs x4.toNatClampNeg) &&& 31) with hk | ⟨k, hk2, hk⟩
  · rw [lw_d hx hi hj hk]
    exact hF _ _ _ _ _ _ _ _ _ _ _ _ _ _ _ _ _ _ _ _ _ _ _ _ _ _ _ _ _ _ _ _ _ _ _ _ _ _ _ _ _ _ _ _ _
  · by_cases h0 : k = 0
    · subst h0
      rcases on_format 0 rs u nu sc rp 0 cw w z t pr up 0 mu mrs mcw mr mw mnu msc mrp mup mt 0 (xs (x4 + 1).toNatClampNeg) st mst f d mth with ⟨c, e1, e2⟩ | ⟨k, f2, d2, mt2, a1, a2, a3, a4, e1, e2⟩
      · rw [lw_0 hx hi hj hk e1 e2 rfl]
        exact hF _ _ _ _ _ _ _ _ _ _ _ _ _ _ _ _ _ _ _ _ _ _ _ _ _ _ _ _ _ _ _ _ _ _ _ _ _ _ _ _ _ _ _ _ _
      · rw [lw_0 hx hi hj hk e1 e2 rfl]
        exact hG _ _ _ _ _ _ _ _ _ _ _ _ _ _ _ _ _ _ _ _ _ _ _ _ _ _ _ _ _ _ _ _ _ _ _ _ _ _ ⟨a1, a2, by omega, by omega, by omega, by omega, by omega, by omega, q_o1, q_o1, Or.inl ⟨rfl, rfl⟩, ⟨by omega, fun j hj => absurd hj (by omega), fun j _ hj => a4 j hj, rfl⟩, ⟨_, a3⟩, ⟨fun _ => 0, fun j hj => absurd hj (by omega), fun _ => by rw [need]; omega⟩, fun _ => ⟨rfl, by omega, Pl_0⟩⟩
    · by_cases h7 : k = 7
      · subst h7
        obtain ⟨e1, e2⟩ := off_start 0 u nu rp cw w z t pr 0 mu mcw mr mw mnu mrp mt st mst f pk th d so po mo mth out
        rw [lw_7 hx hi hj hk e1 e2 rfl (fun q => absurd q nz1)]
        exact hF _ _ _ _ _ _ _ _ _ _ _ _ _ _ _ _ _ _ _ _ _ _ _ _ _ _ _ _ _ _ _ _ _ _ _ _ _ _ _ _ _ _ _ _ _
      · by_cases h8 : k = 8
        · subst h8
          rcases alt_0 (n := 0) (by omega) f d (xs (x4 + 1).toNatClampNeg) (xs (x4 + 2).toNatClampNeg) (xs (x4 + 3).toNatClampNeg) (xs (x4 + 4).toNatClampNeg) with ⟨c, e1, e2⟩ | ⟨c, s, k, m, q1, q2, q3⟩
          · have e1 : fL_alter 0 f (xs (x4 + 1).toNatClampNeg) (xs (x4 + 2).toNatClampNeg) (xs (x4 + 3).toNatClampNeg) (xs (x4 + 4).toNatClampNeg) = some (c, f) := e1
            have e2 : fX6_alter 0 d (xs (x4 + 1).toNatClampNeg) (xs (x4 + 2).toNatClampNeg) (xs (x4 + 3).toNatClampNeg) (xs (x4 + 4).toNatClampNeg) = some (c, d) := e2
            rw [lw_8 hx hi hj hk e1 e2 rfl]
            exact hF _ _ _ _ _ _ _ _ _ _ _ _ _ _ _ _ _ _ _ _ _ _ _ _ _ _ _ _ _ _ _ _ _ _ _ _ _ _ _ _ _ _ _ _ _
          · omega
        · exact law_off hx hi hj hk hk2 h0 h7 h8 (fun _ => hF _ _ _ _ _ _ _ _ _ _ _ _ _ _ _ _ _ _ _ _ _ _ _ _ _ _ _ _ _ _ _ _ _ _ _ _ _ _ _ _ _ _ _ _ _)
theorem Wt_add {w l : Nat} {M : Nat → Nat} {ks ls wk wm : Nat → Int32} {vs wv : Nat → Int64} {v : Int32} {x : Int64} (h : Wt w M ks ls vs wk wm wv) (h1 : 1 ≤ l) (h2 : l ≤ 8) : Wt (w + 1) (fun j => if j = w then l else M j) (upd ks w v) (upd ls w (nI l)) (vp_updL vs w x) (upd wk w v) (upd wm w (nI l)) (vp_updL wv w x) := by
  intro j hj
  by_cases e : j = w
  · subst e
    rw [upd_s, upd_s, upd_s, upd_s, updL_s, updL_s]
    dsimp only
    rw [if_pos rfl]
    exact ⟨rfl, rfl, h1, h2, rfl, rfl⟩
  · rw [upd_n e, upd_n e, upd_n e, upd_n e, updL_n e, updL_n e]
    dsimp only
    rw [if_neg e]
    exact h j (by omega)
theorem law_good {L : Nat} {xs : Nat → Int32} {F : Nat} {x4 : Int32} (hx : ¬ ((Int32.ofNat L) - 5) < x4) (hi : dk_in x4 L) (hj : dk_in (x4 + 1) L ∧ dk_in (x4 + 2) L ∧ dk_in (x4 + 3) L ∧ dk_in (x4 + 4) L) (hG : GoodOK L xs F (x4 + 5)) : GoodOK L xs (F + 1) x4 := by
  intro n u w r z t rs pw nu sc rp cw wb bc e pr up thr mcw mcb st f g ks ls pk th d mk so po mo mth wk wm vs wv out hg
  obtain ⟨hn, hn2, hu, hrs, hw, hz, hr, ht, hpw, hup, hC, hR, ⟨B, hD⟩, ⟨M, hW, hfit⟩, hP⟩ := hg
  have hg : Good n u w r z t rs pw up pr cw wb bc mcw mcb f d pk so po mo th mth ks ls wk wm vs wv := ⟨hn, hn2, hu, hrs, hw, hz, hr, ht, hpw, hup, hC, hR, ⟨B, hD⟩, ⟨M, hW, hfit⟩, hP⟩
  rcases op_c ((xs x4.toNatClampNeg) &&& 31) with hk | ⟨k, hk2, hk⟩
  · rw [lw_d hx hi hj hk]
    exact hG _ _ _ _ _ _ _ _ _ _ _ _ _ _ _ _ _ _ _ _ _ _ _ _ _ _ _ _ _ _ _ _ _ _ _ _ _ _ hg
  · by_cases h0 : k = 0
    · subst h0
      rcases on_format pw (nI rs) (nI u) nu sc rp (nI n) cw (nI w) (nI z) (nI t) pr up pw (nI u) (nI rs) mcw (nI r) (nI w) nu sc rp up (nI t) (nI n) (xs (x4 + 1).toNatClampNeg) st st f d mth with ⟨c, e1, e2⟩ | ⟨k, f2, d2, mt2, a1, a2, a3, a4, e1, e2⟩
      · rw [lw_0 hx hi hj hk e1 e2 rfl]
        exact hG _ _ _ _ _ _ _ _ _ _ _ _ _ _ _ _ _ _ _ _ _ _ _ _ _ _ _ _ _ _ _ _ _ _ _ _ _ _ hg
      · rw [lw_0 hx hi hj hk e1 e2 rfl]
        exact hG _ _ _ _ _ _ _ _ _ _ _ _ _ _ _ _ _ _ _ _ _ _ _ _ _ _ _ _ _ _ _ _ _ _ _ _ _ _ ⟨a1, a2, by omega, by omega, by omega, by omega, by omega, by omega, q_o1, q_o1, Or.inl ⟨rfl, rfl⟩, ⟨by omega, fun j hj => absurd hj (by omega), fun j _ hj => a4 j hj, rfl⟩, ⟨_, a3⟩, ⟨fun _ => 0, fun j hj => absurd hj (by omega), fun _ => by rw [need]; omega⟩, fun _ => ⟨rfl, by omega, Pl_0⟩⟩
    · by_cases h7 : k = 7
      · subst h7
        obtain ⟨u2, r2, t2, nu2, rp2, pr2, st2, f2, d2, pk2, so2, po2, mo2, mt2, B2, e1, e2, q1, q2, q3, q4, q5, q6⟩ := on_start hD hn hn2 hR pw (nI u) nu rp cw (nI w) (nI z) pw (nI u) mcw (nI r) (nI w) nu st st pk so po mo out
        rw [lw_7 hx hi hj hk e1 e2 rfl (fun _ => by dsimp only; exact updL_s)]
        exact hG _ _ _ _ _ _ _ _ _ _ _ _ _ _ _ _ _ _ _ _ _ _ _ _ _ _ _ _ _ _ _ _ _ _ _ _ _ _ ⟨hn, hn2, q1, hrs, by omega, by omega, by omega, q3, q_o1, hup, Or.inl ⟨rfl, rfl⟩, q6, ⟨B2, q4⟩, ⟨fun _ => 0, fun j hj => absurd hj (by omega), fun _ => by rw [need]; omega⟩, fun _ => ⟨rfl, q2, q5⟩⟩
      · by_cases h8 : k = 8
        · subst h8
          rcases alt_0 (n := n) (by omega) f d (xs (x4 + 1).toNatClampNeg) (xs (x4 + 2).toNatClampNeg) (xs (x4 + 3).toNatClampNeg) (xs (x4 + 4).toNatClampNeg) with ⟨c, e1, e2⟩ | ⟨c, s, k, m, q1, q2, q3, q4, e1, e2⟩
          · rw [lw_8 hx hi hj hk e1 e2 rfl]
            exact hG _ _ _ _ _ _ _ _ _ _ _ _ _ _ _ _ _ _ _ _ _ _ _ _ _ _ _ _ _ _ _ _ _ _ _ _ _ _ hg
          · obtain ⟨f2, d2, B2, a1, a2, a3⟩ := alt_1 hD q1 (show s < 32 by omega) q3 q4
            rw [a1, ob] at e1
            rw [a2] at e2
            rw [lw_8 hx hi hj hk e1 e2 rfl]
            exact hG _ _ _ _ _ _ _ _ _ _ _ _ _ _ _ _ _ _ _ _ _ _ _ _ _ _ _ _ _ _ _ _ _ _ _ _ _ _ ⟨hn, hn2, hu, hrs, hw, hz, hr, ht, hpw, hup, hC, hR, ⟨B2, a3⟩, ⟨M, hW, hfit⟩, hP⟩
        · rcases hpw with hp | hp
          · subst hp
            exact law_off hx hi hj hk hk2 h0 h7 h8 (fun _ => hG _ _ _ _ _ _ _ _ _ _ _ _ _ _ _ _ _ _ _ _ _ _ _ _ _ _ _ _ _ _ _ _ _ _ _ _ _ _ hg)
          · subst hp
            obtain ⟨hzr, hru, hPl⟩ := hP rfl
            have hfit := hfit rfl
            have hpw : dk_01 1 := q_o1
            subst hzr
            rcases (show k = 1 ∨ k = 2 ∨ k = 3 ∨ k = 4 ∨ k = 5 ∨ k = 6 ∨ k = 9 ∨ k = 10 ∨ k = 11 ∨ k = 12 ∨ k = 13 ∨ k = 14 ∨ k = 15 ∨ k = 16 by omega) with h | h | h | h | h | h | h | h | h | h | h | h | h | h <;> subst h
            · rcases on_reserve (nI rs) (nI rs) (xs (x4 + 1).toNatClampNeg) with ⟨c, e1, e2⟩ | ⟨k, q1, e1, e2⟩
              · rw [lw_1 hx hi hj hk e1 e2 rfl]
                exact hG _ _ _ _ _ _ _ _ _ _ _ _ _ _ _ _ _ _ _ _ _ _ _ _ _ _ _ _ _ _ _ _ _ _ _ _ _ _ hg
              · rw [lw_1 hx hi hj hk e1 e2 rfl]
                exact hG _ _ _ _ _ _ _ _ _ _ _ _ _ _ _ _ _ _ _ _ _ _ _ _ _ _ _ _ _ _ _ _ _ _ _ _ _ _ ⟨hn, hn2, hu, q1, hw, hz, hr, ht, hpw, hup, hC, hR, ⟨B, hD⟩, ⟨M, hW, fun _ => hfit⟩, fun _ => ⟨rfl, hru, hPl⟩⟩
            · rcases on_row (r := z) hW hw hn hn2 hu hrs (xs (x4 + 1).toNatClampNeg) (xs (x4 + 4).toNatClampNeg) ((dk_lshl ((xs (x4 + 2).toNatClampNeg).toInt64) 32) ||| ((xs (x4 + 3).toNatClampNeg).toInt64 &&& 4294967295)) out with ⟨c, hc, e1, e2⟩ | ⟨l, q1, q2, q3, q4, e1, e2⟩
              · rw [lw_2 hx hi hj hk e1 e2 rfl (fun q => absurd q hc)]
                exact hG _ _ _ _ _ _ _ _ _ _ _ _ _ _ _ _ _ _ _ _ _ _ _ _ _ _ _ _ _ _ _ _ _ _ _ _ _ _ hg
              · rw [lw_2 hx hi hj hk e1 e2 rfl (fun _ => by dsimp only; exact updL_s)]
                exact hG _ _ _ _ _ _ _ _ _ _ _ _ _ _ _ _ _ _ _ _ _ _ _ _ _ _ _ _ _ _ _ _ _ _ _ _ _ _ ⟨hn, hn2, hu, hrs, by omega, hz, hr, ht, hpw, hup, hC, hR, ⟨B, hD⟩, ⟨fun j => if j = w then l else M j, Wt_add hW q1 q2, fun _ => q4⟩, fun _ => ⟨rfl, hru, hPl⟩⟩
            · rcases on_sync hW hw hn2 hfit hru hC hD hPl e g mk out with ⟨u2, cw2, wb2, cwr2, ee2, f2, d2, g2, mk2, pk2, so2, po2, mo2, B2, e1, e2, q1, q2, q3, q4, q5⟩ | ⟨u2, z2, cw2, wb2, cwr2, ee2, f2, d2, g2, mk2, pk2, so2, po2, mo2, B2, e1, e2, q1, q2, q3, q4⟩
              · rw [lw_3 hx hi hj hk e1 e2 rfl (fun _ => by dsimp only; exact updL_s)]
                exact hG _ _ _ _ _ _ _ _ _ _ _ _ _ _ _ _ _ _ _ _ _ _ _ _ _ _ _ _ _ _ _ _ _ _ _ _ _ _ ⟨hn, hn2, q1, hrs, by omega, by omega, by omega, by omega, hpw, hup, q3, hR, ⟨B2, q4⟩, ⟨fun _ => 0, fun j hj => absurd hj (by omega), fun _ => by rw [need]; omega⟩, fun _ => ⟨rfl, q2, q5⟩⟩
              · rw [lw_3 hx hi hj hk e1 e2 rfl (fun _ => by dsimp only; exact updL_s)]
                exact hG _ _ _ _ _ _ _ _ _ _ _ _ _ _ _ _ _ _ _ _ _ _ _ _ _ _ _ _ _ _ _ _ _ _ _ _ _ _ ⟨hn, hn2, q1, hrs, hw, q2, hr, ht, q_o0, hup, q3, hR, ⟨B2, q4⟩, ⟨M, hW, fun q => absurd q nz01⟩, fun q => absurd q nz01⟩
            · obtain ⟨ok, cw2, wb2, cwr2, ee2, f2, d2, g2, mk2, B2, q1, q2, q3⟩ := on_save hn hn2 hC hD st ((dk_lshl ((xs (x4 + 1).toNatClampNeg).toInt64) 32) ||| ((xs (x4 + 2).toNatClampNeg).toInt64 &&& 4294967295)) nu e g mk out
              rcases q3 with ⟨q3, e1, e2⟩ | ⟨q3, e1, e2⟩
              · rw [lw_4 hx hi hj hk e1 e2 rfl (fun _ => by dsimp only; exact updL_s)]
                exact hG _ _ _ _ _ _ _ _ _ _ _ _ _ _ _ _ _ _ _ _ _ _ _ _ _ _ _ _ _ _ _ _ _ _ _ _ _ _ ⟨hn, hn2, hu, hrs, hw, hz, hr, ht, q_o0, hup, q1, hR, ⟨B2, q2⟩, ⟨M, hW, fun q => absurd q nz01⟩, fun q => absurd q nz01⟩
              · rw [lw_4 hx hi hj hk e1 e2 rfl (fun _ => by dsimp only; exact updL_s)]
                exact hG _ _ _ _ _ _ _ _ _ _ _ _ _ _ _ _ _ _ _ _ _ _ _ _ _ _ _ _ _ _ _ _ _ _ _ _ _ _ ⟨hn, hn2, hu, hrs, hw, hz, hr, ht, hpw, hup, q1, hR, ⟨B2, q2⟩, ⟨M, hW, fun _ => hfit⟩, fun _ => ⟨rfl, hru, hPl⟩⟩
            · obtain ⟨e1, e2⟩ := on_state st out
              rw [lw_5 hx hi hj hk e1 e2 rfl (fun _ => by dsimp only; exact updL_s)]
              exact hG _ _ _ _ _ _ _ _ _ _ _ _ _ _ _ _ _ _ _ _ _ _ _ _ _ _ _ _ _ _ _ _ _ _ _ _ _ _ hg
            · rcases on_cut cw wb bc mcw mcb (xs (x4 + 1).toNatClampNeg) (xs (x4 + 2).toNatClampNeg) with ⟨c, e1, e2⟩ | ⟨a, b, q1, q2, e1, e2⟩
              · rw [lw_6 hx hi hj hk e1 e2 rfl]
                exact hG _ _ _ _ _ _ _ _ _ _ _ _ _ _ _ _ _ _ _ _ _ _ _ _ _ _ _ _ _ _ _ _ _ _ _ _ _ _ hg
              · rw [lw_6 hx hi hj hk e1 e2 rfl]
                exact hG _ _ _ _ _ _ _ _ _ _ _ _ _ _ _ _ _ _ _ _ _ _ _ _ _ _ _ _ _ _ _ _ _ _ _ _ _ _ ⟨hn, hn2, hu, hrs, hw, hz, hr, ht, hpw, hup, Or.inr ⟨a, b, rfl, rfl, rfl, rfl, rfl, q1, q2⟩, hR, ⟨B, hD⟩, ⟨M, hW, fun _ => hfit⟩, fun _ => ⟨rfl, hru, hPl⟩⟩
            · rcases on_read hD hn hn2 hu hz hPl sc (xs (x4 + 1).toNatClampNeg) (xs (x4 + 2).toNatClampNeg) out with ⟨c, hc, e1, e2⟩ | ⟨y, sc2, e1, e2⟩
              · rw [lw_9 hx hi hj hk e1 e2 rfl (fun q => absurd q hc)]
                exact hG _ _ _ _ _ _ _ _ _ _ _ _ _ _ _ _ _ _ _ _ _ _ _ _ _ _ _ _ _ _ _ _ _ _ _ _ _ _ hg
              · rw [lw_9 hx hi hj hk e1 e2 rfl (fun _ => by dsimp only; exact updL_s)]
                exact hG _ _ _ _ _ _ _ _ _ _ _ _ _ _ _ _ _ _ _ _ _ _ _ _ _ _ _ _ _ _ _ _ _ _ _ _ _ _ hg
            · rcases on_kind hD hn hn2 hu hz hPl sc (xs (x4 + 1).toNatClampNeg) out with ⟨c, hc, e1, e2⟩ | ⟨y, sc2, e1, e2⟩
              · rw [lw_10 hx hi hj hk e1 e2 rfl (fun q => absurd q hc)]
                exact hG _ _ _ _ _ _ _ _ _ _ _ _ _ _ _ _ _ _ _ _ _ _ _ _ _ _ _ _ _ _ _ _ _ _ _ _ _ _ hg
              · rw [lw_10 hx hi hj hk e1 e2 rfl (fun _ => by dsimp only; exact updL_s)]
                exact hG _ _ _ _ _ _ _ _ _ _ _ _ _ _ _ _ _ _ _ _ _ _ _ _ _ _ _ _ _ _ _ _ _ _ _ _ _ _ hg
            · rcases on_extract hD hn hn2 hu hz hPl sc (xs (x4 + 1).toNatClampNeg) (xs (x4 + 2).toNatClampNeg) out with ⟨c, hc, e1, e2⟩ | ⟨y, sc2, e1, e2⟩
              · rw [lw_11 hx hi hj hk e1 e2 rfl (fun q => absurd q hc)]
                exact hG _ _ _ _ _ _ _ _ _ _ _ _ _ _ _ _ _ _ _ _ _ _ _ _ _ _ _ _ _ _ _ _ _ _ _ _ _ _ hg
              · rw [lw_11 hx hi hj hk e1 e2 rfl (fun _ => by dsimp only; exact updL_s)]
                exact hG _ _ _ _ _ _ _ _ _ _ _ _ _ _ _ _ _ _ _ _ _ _ _ _ _ _ _ _ _ _ _ _ _ _ _ _ _ _ hg
            · obtain ⟨c, e1, e2⟩ := on_line hup (v := (if (xs (x4 + 1).toNatClampNeg) = 0 then 0 else 1)) (q_01 q_o0 q_o1)
              rw [lw_12 hx hi hj hk e1 e2 rfl]
              exact hG _ _ _ _ _ _ _ _ _ _ _ _ _ _ _ _ _ _ _ _ _ _ _ _ _ _ _ _ _ _ _ _ _ _ _ _ _ _ ⟨hn, hn2, hu, hrs, hw, hz, hr, ht, hpw, q_01 q_o0 q_o1, hC, hR, ⟨B, hD⟩, ⟨M, hW, fun _ => hfit⟩, fun _ => ⟨rfl, hru, hPl⟩⟩
            · rcases on_send hR hz ht hup (xs (x4 + 1).toNatClampNeg) out with ⟨c, hc, e1, e2⟩ | ⟨t2, pr2, th2, mt2, q1, q2, e1, e2⟩
              · rw [lw_13 hx hi hj hk e1 e2 rfl (fun q => absurd q hc)]
                exact hG _ _ _ _ _ _ _ _ _ _ _ _ _ _ _ _ _ _ _ _ _ _ _ _ _ _ _ _ _ _ _ _ _ _ _ _ _ _ hg
              · rw [lw_13 hx hi hj hk e1 e2 rfl (fun _ => by dsimp only; exact updL_s)]
                exact hG _ _ _ _ _ _ _ _ _ _ _ _ _ _ _ _ _ _ _ _ _ _ _ _ _ _ _ _ _ _ _ _ _ _ _ _ _ _ ⟨hn, hn2, hu, hrs, hw, hz, hr, q1, hpw, hup, hC, q2, ⟨B, hD⟩, ⟨M, hW, fun _ => hfit⟩, fun _ => ⟨rfl, hru, hPl⟩⟩
            · rcases on_gap hR (xs (x4 + 1).toNatClampNeg) out with ⟨e1, e2⟩ | ⟨y, e1, e2⟩
              · rw [lw_14 hx hi hj hk e1 e2 rfl (fun q => absurd q nz1)]
                exact hG _ _ _ _ _ _ _ _ _ _ _ _ _ _ _ _ _ _ _ _ _ _ _ _ _ _ _ _ _ _ _ _ _ _ _ _ _ _ hg
              · rw [lw_14 hx hi hj hk e1 e2 rfl (fun _ => by dsimp only; exact updL_s)]
                exact hG _ _ _ _ _ _ _ _ _ _ _ _ _ _ _ _ _ _ _ _ _ _ _ _ _ _ _ _ _ _ _ _ _ _ _ _ _ _ hg
            · rcases on_fill hR hup (xs (x4 + 1).toNatClampNeg) out with ⟨c, hc, e1, e2⟩ | ⟨y, pr2, th2, mt2, q2, e1, e2⟩
              · rw [lw_15 hx hi hj hk e1 e2 rfl (fun q => absurd q hc)]
                exact hG _ _ _ _ _ _ _ _ _ _ _ _ _ _ _ _ _ _ _ _ _ _ _ _ _ _ _ _ _ _ _ _ _ _ _ _ _ _ hg
              · rw [lw_15 hx hi hj hk e1 e2 rfl (fun _ => by dsimp only; exact updL_s)]
                exact hG _ _ _ _ _ _ _ _ _ _ _ _ _ _ _ _ _ _ _ _ _ _ _ _ _ _ _ _ _ _ _ _ _ _ _ _ _ _ ⟨hn, hn2, hu, hrs, hw, hz, hr, ht, hpw, hup, hC, q2, ⟨B, hD⟩, ⟨M, hW, fun _ => hfit⟩, fun _ => ⟨rfl, hru, hPl⟩⟩
            · rcases on_count hR hz ht (nI u) nu sc rp (nI w) (xs (x4 + 1).toNatClampNeg) out with ⟨e1, e2⟩ | ⟨y, e1, e2⟩
              · rw [lw_16 hx hi hj hk e1 e2 rfl (fun q => absurd q nz1)]
                exact hG _ _ _ _ _ _ _ _ _ _ _ _ _ _ _ _ _ _ _ _ _ _ _ _ _ _ _ _ _ _ _ _ _ _ _ _ _ _ hg
              · rw [lw_16 hx hi hj hk e1 e2 rfl (fun _ => by dsimp only; exact updL_s)]
                exact hG _ _ _ _ _ _ _ _ _ _ _ _ _ _ _ _ _ _ _ _ _ _ _ _ _ _ _ _ _ _ _ _ _ _ _ _ _ _ hg
theorem law_all {L : Nat} (hL : L ≤ 2560) {xs : Nat → Int32} : ∀ (F p : Nat), p ≤ L + 5 → L + 5 < 5 * F + p → FreshOK L xs F (nI p) ∧ GoodOK L xs F (nI p) := by
  have hend : ∀ p, p ≤ L + 5 → L < p + 5 → ((Int32.ofNat L) - 5) < nI p := by
    intro p h1 h2
    by_cases h : 5 ≤ L
    · rw [show Int32.ofNat L - 5 = nI (L - 5) from pk_sub (a := L) (b := 5) h]
      exact p_lt (by omega) (by omega)
    · have h3 : ∀ a, a < 5 → nI a - nI 5 < 0 := fun a ha => neg_sub a (by omega) 5 (by omega) ha
      exact Int32.lt_of_lt_of_le (h3 L (by omega)) (nI_pos' (n2 (by omega)))
  intro F
  induction F with
  | zero => intro p h1 h2; omega
  | succ F ih =>
    intro p h1 h2
    by_cases h : L < p + 5
    · constructor
      · intro rs u nu sc rp cw wb bc e w z t pr up thr mu mrs mcw mcb mr mw mnu msc mrp mup mt st mst f g ks ls pk th d mk so po mo mth wk wm vs wv out
        rw [fL_law_L23.eq_2, if_pos (hend p h1 h)]
      · intro n u w r z t rs pw nu sc rp cw wb bc e pr up thr mcw mcb st f g ks ls pk th d mk so po mo mth wk wm vs wv out hg
        rw [fL_law_L23.eq_2, if_pos (hend p h1 h)]
    · have hx : ¬ ((Int32.ofNat L) - 5) < nI p := by
        rw [show Int32.ofNat L - 5 = nI (L - 5) from pk_sub (a := L) (b := 5) (by omega)]
        exact n_lt (by omega) (by omega)
      have hi : dk_in (nI p) L := p_in (by omega) (by omega)
      have hj : dk_in (nI p + 1) L ∧ dk_in (nI p + 2) L ∧ dk_in (nI p + 3) L ∧ dk_in (nI p + 4) L := by
        rw [show nI p + 1 = nI (p + 1) from nI_add p 1, show nI p + 2 = nI (p + 2) from nI_add p 2, show nI p + 3 = nI (p + 3) from nI_add p 3, show nI p + 4 = nI (p + 4) from nI_add p 4]
        exact ⟨p_in (by omega) (by omega), p_in (by omega) (by omega), p_in (by omega) (by omega), p_in (by omega) (by omega)⟩
      have q := ih (p + 5) (by omega) (by omega)
      rw [show nI (p + 5) = nI p + 5 from (nI_add p 5).symm] at q
      exact ⟨law_fresh hx hi hj q.2 q.1, law_good hx hi hj q.2⟩
