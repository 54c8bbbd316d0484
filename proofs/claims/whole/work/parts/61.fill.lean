/-! WAITING ROWS INTO A DRAFT, on both sides -/
def Wt (w : Nat) (M : Nat → Nat) (ks ls : Nat → Int32) (vs : Nat → Int64) (wk wm : Nat → Int32) (wv : Nat → Int64) : Prop := ∀ j, j < w → ls j = nI (M j) ∧ wm j = nI (M j) ∧ 1 ≤ M j ∧ M j ≤ 8 ∧ ks j = wk j ∧ vs j = wv j
theorem c_kindOf {w i : Nat} (hw : w ≤ 100) (hi : i < w) (ks : Nat → Int32) : fX4_kindOf (nI w) ks (nI i) = some (ks i) := by
  unfold fX4_kindOf
  rw [if_neg (nI_pos (n2 (by omega))), if_neg (n_le hi (by omega)), if_pos (p_in (by omega) (by omega)), nI_clamp (n2 (by omega))]
theorem c_bytesOf {w i : Nat} (hw : w ≤ 100) (hi : i < w) (vs : Nat → Int64) : fX4_bytesOf (nI w) vs (nI i) = some (vs i) := by
  unfold fX4_bytesOf
  rw [if_neg (nI_pos (n2 (by omega))), if_neg (n_le hi (by omega)), if_pos (p_in (by omega) (by omega)), nI_clamp (n2 (by omega))]
theorem m_bytesL {wm : Nat → Int32} {wv : Nat → Int64} {i e l : Nat} (hi : i < 100) (hl : wm i = nI l) (hl2 : l ≤ 8) (he : e + 2 + l ≤ 508) : ∀ (n t : Nat) (f : Nat → Int32), t ≤ l → l < n + t → ∃ g, fX6_fillFrom_L56 wm wv (nI i) (nI e) n (nI t) f = some (nI l, g) ∧ Put g f (e + 2) t l (fun t => nI (bL (wv i) (l - 1 - t))) := by
  intro n
  induction n with
  | zero => intro t f h1 h2; omega
  | succ n ih =>
    intro t f h1 h2
    have wc : wm (nI i).toNatClampNeg = nI l := by rw [nI_clamp (n2 (by omega)), hl]
    rw [fX6_fillFrom_L56.eq_2, if_pos (p_in hi (by omega))]
    by_cases h : t = l
    · subst h
      exact ⟨f, by rw [if_pos (show wm (nI i).toNatClampNeg ≤ nI t by rw [wc]; exact p_le (Nat.le_refl _) (by omega))], Put.end_⟩
    · obtain ⟨g, e1, hg⟩ := ih (t + 1) (upd f (e + 2 + t) (nI (bL (wv i) (l - 1 - t)))) (by omega) (by omega)
      refine ⟨g, ?_, Put.step (by omega) rfl hg⟩
      have ea : (8 : Int32) * ((nI l - 1) - nI t) = nI (8 * (l - 1 - t)) := by
        rw [show nI l - 1 = nI (l - 1) from pk_sub (b := 1) (by omega), pk_sub (by omega)]
        exact pk_mul 8 _
      rw [if_neg (show ¬ wm (nI i).toNatClampNeg ≤ nI t by rw [wc]; exact n_le (by omega) (by omega)), if_pos (p_in hi (by omega)), if_pos (p_in hi (by omega)), wc, nI_clamp (n2 (by omega)), ea, show nI e + 2 = nI (e + 2) from nI_add e 2, nI_add, m_put (by omega), ob, b_lshr _ (by omega), nI_1]
      exact e1
/-- a row's bytes on a draft -/
def rowG (G : Nat → Nat) (e : Nat) (y : Int32) (l : Nat) (x : Int64) : Nat → Nat := wrB (wrB (wrB G (fun _ => bt y 0) e 1) (fun _ => bt (nI l) 0) (e + 1) 1) (fun t => bL x (l - 1 - t)) (e + 2) l
theorem rowG_lt {G : Nat → Nat} (HG : ∀ j, G j < 256) (e : Nat) (y : Int32) (l : Nat) (x : Int64) : ∀ j, rowG G e y l x j < 256 := wrB_lt (wrB_lt (wrB_lt HG (fun _ => bt_lt _ _)) (fun _ => bt_lt _ _)) (fun _ => bL_lt _ _)
theorem fill_L {w u r : Nat} {M : Nat → Nat} {ks ls : Nat → Int32} {vs : Nat → Int64} {wk wm : Nat → Int32} {wv : Nat → Int64} (hW : Wt w M ks ls vs wk wm wv) (hw : w ≤ 100) (hr : r + w ≤ 5010) : ∀ (n i e : Nat) (f mk pk so po mo : Nat → Int32) (G : Nat → Nat), i ≤ w → w < n + i → 6 ≤ e → e ≤ 508 → Mk G f mk → Pl (r + i) (u + 1) pk so po mo →
    ∃ (i' e' : Nat) (f' mk' pk' so' po' mo' : Nat → Int32) (G' : Nat → Nat), fX5_draftRowsFrom_L15 (nI u) (nI w) ks ls vs n (nI i) (nI e) f (nI (r + i)) pk = some (nI i', nI e', f', nI (r + i'), pk') ∧ fX6_fillFrom_L5 (nI u) (nI r) (nI w) wk wm wv n (nI i) (nI e) mk so po mo = some (nI i', nI e', mk', so', po', mo') ∧ Mk G' f' mk' ∧ Pl (r + i') (u + 1) pk' so' po' mo' ∧ i ≤ i' ∧ i' ≤ w ∧ e ≤ e' ∧ e' ≤ 508 ∧ 3 * i' + e ≤ 3 * i + e' ∧ need M (w - i) i (508 - e) = need M (w - i') i' 0 ∧ (i < w → e ≤ 498 → i < i') := by
  intro n
  induction n with
  | zero => intro i e f mk pk so po mo G h1 h2; omega
  | succ n ih =>
    intro i e f mk pk so po mo G h1 h2 h3 h4 hM hP
    rw [fX5_draftRowsFrom_L15.eq_2, fX6_fillFrom_L5.eq_2, show fX4_size (nI w) = some (nI w) from rfl, ob]
    by_cases h : i = w
    · subst h
      refine ⟨i, e, f, mk, pk, so, po, mo, G, ?_, ?_, hM, hP, by omega, by omega, by omega, by omega, by omega, ?_, by omega⟩
      · rw [if_pos (p_le (Nat.le_refl _) (by omega))]
      · rw [if_pos (p_le (Nat.le_refl _) (by omega))]
      · rw [Nat.sub_self, need, need]
    · obtain ⟨w1, w2, w3, w4, w5, w6⟩ := hW i (by omega)
      have e1 : fX4_lengthOf (nI w) ls (nI i) = some (nI (M i)) := c_lenOf hw (fun j hj => (hW j hj).1) (by omega)
      have wc : wm (nI i).toNatClampNeg = nI (M i) := by rw [nI_clamp (n2 (by omega)), w2]
      have kc : wk (nI i).toNatClampNeg = wk i := by rw [nI_clamp (n2 (by omega))]
      have ws : nI e + 2 + wm (nI i).toNatClampNeg = nI (e + (2 + M i)) := by rw [wc, show nI e + 2 = nI (e + 2) from nI_add e 2, nI_add, Nat.add_assoc]
      rw [if_neg (n_le (by omega) (by omega)), if_neg (n_le (by omega) (by omega)), if_pos (p_in (by omega) (by omega)), e1, ob, show (2 : Int32) + nI (M i) = nI (2 + M i) from nI_add 2 _, c_room (by omega) (by omega), ob]
      have ek : w - i = (w - i - 1) + 1 := by omega
      by_cases h5 : 508 < e + (2 + M i)
      · refine ⟨i, e, f, mk, pk, so, po, mo, G, ?_, ?_, hM, hP, by omega, by omega, by omega, by omega, by omega, ?_, by omega⟩
        · rw [if_pos h5, if_pos rfl]
        · rw [if_pos (show (508 : Int32) < nI e + 2 + wm (nI i).toNatClampNeg by rw [ws]; exact p_lt (a := 508) (by omega) (by omega))]
        · rw [ek, need_n (by omega), need_n (by omega)]
      · obtain ⟨f1, a1, b1⟩ := c_append hM.hg (x := (ks i).toInt64) (e := e) (s := 1) (by omega) (by omega)
        rw [F1_w] at b1
        obtain ⟨f2, a2, b2⟩ := c_append b1 (x := (nI (M i)).toInt64) (e := e + 1) (s := 1) (by omega) (by omega)
        rw [F1_w] at b2
        obtain ⟨f3, a3, b3⟩ := c_append b2 (x := vs i) (e := e + 1 + 1) (s := M i) (by omega) (by omega)
        have a1 : fX1_append (nI e) f (ks i).toInt64 1 = some (nI (e + 1), f1) := a1
        have a2 : fX1_append (nI (e + 1)) f1 (nI (M i)).toInt64 1 = some (nI (e + 1 + 1), f2) := a2
        have p1 := Put_1 (p := e) (b := bt (wk i) 0) hM.hm
        have p2 := Put_1 (p := e + 1) (b := bt (nI (M i)) 0) p1
        obtain ⟨g, a4, hg⟩ := m_bytesL (wv := wv) (i := i) (e := e) (by omega) w2 w4 (by omega) dkF 0 (upd (upd mk e (nI (bt (wk i) 0))) (e + 1) (nI (bt (nI (M i)) 0))) (by omega) (by unfold dkF; omega)
        have a4 : fX6_fillFrom_L56 wm wv (nI i) (nI e) dkF 0 (upd (upd mk e (nI (bt (wk i) 0))) (e + 1) (nI (bt (nI (M i)) 0))) = some (nI (M i), g) := a4
        have p3 := Put_wr (q := nI) hg p2
        have hM2 : Mk (rowG G e (wk i) (M i) (wv i)) f3 g := ⟨rowG_lt hM.HG _ _ _ _, by rw [w5, w6] at b3; exact b3, p3⟩
        obtain ⟨i', e', f', mk', pk', so', po', mo', G', q1, q2, q3, q4, q5, q6, q7, q8, q9, q10, q11⟩ := ih (i + 1) (e + 1 + 1 + M i) f3 g _ _ _ _ _ (by omega) (by omega) (by omega) (by omega) hM2 (Pl_add hP (s := u) (p := e) (l := M i) (by omega) (by omega) (by omega) (by omega) (by omega))
        refine ⟨i', e', f', mk', pk', so', po', mo', G', ?_, ?_, q3, q4, by omega, q6, by omega, q8, by omega, ?_, fun _ _ => by omega⟩
        · rw [if_neg h5, if_neg (show ¬ (1 : Int32) = 0 by decide), ob, show fX1_end (nI e) = some (nI e) from rfl, ob, c_addP (by omega) (by omega) (by omega), ob, c_kindOf hw (by omega), ob, a1, ob, a2, ob, c_bytesOf hw (by omega), ob, a3, ob, nI_1]
          exact q1
        · rw [if_neg (show ¬ (508 : Int32) < nI e + 2 + wm (nI i).toNatClampNeg by rw [ws]; exact n_lt (a := 508) (by omega) (by omega)), if_pos (p_in (j := i) (by omega) (by omega)), wc, kc, m_put (by omega), ob, bt_0, if_pos (p_in (j := i) (by omega) (by omega)), nI_1, m_put (by omega), ob, bt_0, a4, ob, nI_add, if_pos (p_in (by omega) (by omega)), if_pos (p_in (by omega) (by omega)), if_pos (p_in (by omega) (by omega)), if_pos (p_in (by omega) (by omega)), if_pos (p_in (by omega) (by omega)), nI_1, show (2 : Int32) + nI (M i) = nI (2 + M i) from nI_add 2 _, nI_add, nI_clamp (n2 (by omega)), show e + (2 + M i) = e + 1 + 1 + M i by omega]
          exact q2
        · rw [ek, need_s (by omega), show 508 - e - (M i + 2) = 508 - (e + 1 + 1 + M i) by omega, show w - i - 1 = w - (i + 1) by omega]
          exact q10
theorem fill_1 {w u r i : Nat} {M : Nat → Nat} {ks ls : Nat → Int32} {vs : Nat → Int64} {wk wm : Nat → Int32} {wv : Nat → Int64} (hW : Wt w M ks ls vs wk wm wv) (hw : w ≤ 100) (hr : r + w ≤ 5010) (hi : i < w) {g mk pk so po mo : Nat → Int32} (hP : Pl (r + i) u pk so po mo) :
    ∃ (i' e' : Nat) (g' mk1 mk' pk' so' po' mo' : Nat → Int32) (G' : Nat → Nat), fX5_draftRowsFrom (nI u) g (nI w) ks ls vs (nI (r + i)) pk (nI i) = some (nI i', nI e', g', nI (r + i'), pk') ∧ fX6_clear mk (nI u + 1) = some mk1 ∧ fX6_fillFrom (nI u) (nI r) (nI w) mk1 so po mo wk wm wv (nI i) = some (nI i', mk', so', po', mo') ∧ Mk G' g' mk' ∧ Pl (r + i') (u + 1) pk' so' po' mo' ∧ i < i' ∧ i' ≤ w ∧ i' ≤ i + 167 ∧ need M (w - i) i 0 = need M (w - i') i' 0 + 1 := by
  obtain ⟨g1, a1, b1⟩ := c_open g (nI u + 1)
  obtain ⟨mk1, a2, b2⟩ := m_clear mk (nI u + 1)
  obtain ⟨i', e', f', mk', pk', so', po', mo', G', q1, q2, q3, q4, q5, q6, q7, q8, q9, q10, q11⟩ := fill_L (u := u) hW hw hr dkF i 6 g1 mk1 pk so po mo (opG (nI u + 1)) (by omega) (by unfold dkF; omega) (by omega) (by omega) ⟨opG_lt _, b1, b2⟩ (Pl_m hP (by omega))
  obtain ⟨g2, a3, b3⟩ := c_seal q3.HG q3.hg (e := e') (by omega)
  obtain ⟨mk2, a4, b4⟩ := m_finish q3.hm (l := e' - 6)
  have hm := (hW i hi).2.2.2.1
  refine ⟨i', e', g2, mk1, mk2, pk', so', po', mo', _, ?_, a2, ?_, ⟨sealG_lt q3.HG _, b3, b4⟩, q4, q11 hi (by omega), q6, by omega, ?_⟩
  · unfold fX5_draftRowsFrom
    rw [a1, ob, q1, ob, a3, ob]
  · unfold fX6_fillFrom
    have q2 : fX6_fillFrom_L5 (nI u) (nI r) (nI w) wk wm wv dkF (nI i) 6 mk1 so po mo = some (nI i', nI e', mk', so', po', mo') := q2
    rw [q2, ob, show nI e' - 6 = nI (e' - 6) from pk_sub (b := 6) (by omega), a4, ob]
  · rw [show w - i = (w - i - 1) + 1 by omega, need_502 hm, show (w - i - 1) + 1 = w - i by omega]
    exact congrArg (· + 1) q10
