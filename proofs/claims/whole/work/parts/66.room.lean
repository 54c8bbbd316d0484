/-! THE SECOND ROOM, on both sides -/
def cnt (th : Nat → Int32) : Nat → Nat
  | 0 => 0
  | k + 1 => cnt th k + (if th k = 0 then 0 else 1)
theorem cnt_le (th : Nat → Int32) : ∀ k, cnt th k ≤ k := by
  intro k
  induction k with
  | zero => exact Nat.le_refl 0
  | succ k ih =>
    rw [cnt]
    by_cases h : th k = 0
    · rw [if_pos h]; omega
    · rw [if_neg h]; omega
theorem cnt_c {th mt : Nat → Int32} : ∀ k, (∀ j, j < k → th j = mt j) → cnt th k = cnt mt k := by
  intro k
  induction k with
  | zero => intro _; rfl
  | succ k ih => intro h; rw [cnt, cnt, ih (fun j hj => h j (by omega)), h k (by omega)]
theorem cnt_z {th : Nat → Int32} {t : Nat} : ∀ z, t ≤ z → (∀ j, t ≤ j → j < z → th j = 0) → cnt th z = cnt th t := by
  intro z
  induction z with
  | zero => intro h _; rw [show t = 0 by omega]
  | succ z ih =>
    intro h hz
    by_cases e : t = z + 1
    · rw [e]
    · rw [cnt, ih (by omega) (fun j h1 h2 => hz j h1 (by omega)), hz z (by omega) (by omega), if_pos rfl, Nat.add_zero]
theorem cnt_set {th : Nat → Int32} {k : Nat} {v : Int32} (h0 : th k = 0) (hv : ¬ v = 0) : ∀ t, k < t → cnt (upd th k v) t = cnt th t + 1 := by
  intro t
  induction t with
  | zero => intro h; omega
  | succ t ih =>
    intro h
    rw [cnt, cnt]
    by_cases e : t = k
    · subst e
      rw [upd_s, if_neg hv, h0, if_pos rfl, cnt_c t (fun j hj => upd_n (by omega))]
    · rw [ih (by omega), upd_n e]
      omega
/-- the rooms say the same -/
def Rm (t : Nat) (th mt : Nat → Int32) (pr : Int32) : Prop := t ≤ 5010 ∧ (∀ j, j < t → th j = mt j) ∧ (∀ j, t ≤ j → j < 5100 → mt j = 0) ∧ pr = nI (cnt th t)
theorem Rm_add {t : Nat} {th mt : Nat → Int32} {pr v : Int32} (h : Rm t th mt pr) (ht : t < 5010) : Rm (t + 1) (upd th t v) (upd mt t v) (if v = 0 then pr else pr + 1) := by
  obtain ⟨h1, h2, h3, h4⟩ := h
  refine ⟨by omega, ?_, ?_, ?_⟩
  · intro j hj
    by_cases e : j = t
    · subst e; rw [upd_s, upd_s]
    · rw [upd_n e, upd_n e, h2 j (by omega)]
  · intro j h5 h6
    rw [upd_n (by omega), h3 j (by omega) h6]
  · rw [cnt, upd_s, cnt_c t (fun j hj => upd_n (show j ≠ t by omega)), h4]
    by_cases e : v = 0
    · rw [if_pos e, if_pos e, Nat.add_zero]
    · rw [if_neg e, if_neg e, nI_1]
theorem take_L {z q : Nat} {up : Int32} (hz : z ≤ 5010) (hq : q ≤ 100) (hu : dk_01 up) : ∀ (n k t : Nat) (th mt : Nat → Int32) (pr : Int32), k ≤ q → q < n + k → t ≤ z → Rm t th mt pr →
    ∃ (k' pr' : Int32) (t' : Nat) (th' mt' : Nat → Int32), fX3_take_L11 up (nI q) (nI z) n (nI k) (nI t) pr th = some (k', nI t', pr', th') ∧ fX6_send_L40 (nI z) up (nI q) n (nI k) (nI t) mt = some (k', nI t', mt') ∧ t' ≤ z ∧ Rm t' th' mt' pr' := by
  intro n
  induction n with
  | zero => intro k t th mt pr h1 h2; omega
  | succ n ih =>
    intro k t th mt pr h1 h2 h3 hR
    rw [fX3_take_L11.eq_2, fX6_send_L40.eq_2]
    by_cases h : k = q
    · subst h
      refine ⟨nI k, pr, t, th, mt, ?_, ?_, h3, hR⟩
      · rw [if_pos (p_le (Nat.le_refl _) (by omega))]
      · rw [if_pos (p_le (Nat.le_refl _) (by omega))]
    · rw [if_neg (n_le (a := q) (b := k) (by omega) (by omega)), if_neg (n_le (a := q) (b := k) (by omega) (by omega))]
      by_cases h4 : t = z
      · subst h4
        refine ⟨nI k, pr, t, th, mt, ?_, ?_, h3, hR⟩
        · rw [if_pos (p_le (Nat.le_refl _) (by omega))]
        · rw [if_pos (p_le (Nat.le_refl _) (by omega))]
      · have hv : vp_nar .boolean up = up := by rcases hu with e | e <;> subst e <;> rfl
        obtain ⟨k', pr', t', th', mt', q1, q2, q3, q4⟩ := ih (k + 1) (t + 1) (upd th t up) (upd mt t up) _ (by omega) (by omega) (by omega) (Rm_add (v := up) hR (by omega))
        refine ⟨k', pr', t', th', mt', ?_, ?_, q3, q4⟩
        · rw [if_neg (n_le (by omega) (by omega)), if_pos (p_in (by omega) (by omega)), hv, nI_clamp (n2 (by omega)), nI_1, nI_1]
          by_cases e : up = 0
          · rw [if_pos e]
            rw [if_pos e] at q1
            exact q1
          · rw [if_neg e]
            rw [if_neg e] at q1
            exact q1
        · rw [if_neg (n_le (by omega) (by omega)), if_pos (p_in (by omega) (by omega)), hv, nI_clamp (n2 (by omega)), nI_1, nI_1]
          exact q2
theorem m_roomL {z : Nat} {mt : Nat → Int32} (hz : z ≤ 5100) : ∀ (n k : Nat), k ≤ z → z < n + k → fX6_inRoom_L4 (nI z) mt n (nI (cnt mt k)) (nI k) = some (nI (cnt mt z), nI z) := by
  intro n
  induction n with
  | zero => intro k h1 h2; omega
  | succ n ih =>
    intro k h1 h2
    rw [fX6_inRoom_L4.eq_2]
    by_cases h : k = z
    · subst h
      rw [if_pos (p_le (Nat.le_refl _) (by omega))]
    · have := ih (k + 1) (by omega) (by omega)
      rw [cnt] at this
      rw [if_neg (n_le (by omega) (by omega)), if_pos (p_in (by omega) (by omega)), nI_clamp (n2 (by omega)), nI_1]
      by_cases e : mt k = 0
      · rw [if_pos e] at this ⊢
        rw [show nI (cnt mt k) + 0 = nI (cnt mt k + 0) from nI_add _ 0]
        exact this
      · rw [if_neg e] at this ⊢
        rw [nI_1]
        exact this
theorem m_room {t z : Nat} {th mt : Nat → Int32} {pr : Int32} (hR : Rm t th mt pr) (hz : z ≤ 5010) (ht : t ≤ z) : fX6_inRoom (nI z) mt = some pr := by
  obtain ⟨h1, h2, h3, h4⟩ := hR
  have h : fX6_inRoom_L4 (nI z) mt dkF 0 0 = some (nI (cnt mt z), nI z) := m_roomL (by omega) dkF 0 (by omega) (by unfold dkF; omega)
  unfold fX6_inRoom
  rw [h, ob, h4, cnt_z z ht (fun j a b => h3 j a (by omega)), cnt_c t h2]
theorem fillr_L {t q : Nat} (hq : q ≤ 100) (ht : t ≤ 5010) : ∀ (n a k : Nat) (th mt : Nat → Int32), k ≤ t → t < n + k → a ≤ q → (∀ j, j < t → th j = mt j) → (∀ j, t ≤ j → j < 5100 → mt j = 0) →
    ∃ (a' : Nat) (k' : Int32) (th' mt' : Nat → Int32), fX3_fillLowest_L4 (nI t) (nI q) n (nI a) (nI k) th = some (nI a', k', th') ∧ fX6_fill_L49 (nI t) (nI q) n (nI a) (nI k) mt = some (nI a', k', mt') ∧ a ≤ a' ∧ (∀ j, j < t → th' j = mt' j) ∧ (∀ j, t ≤ j → j < 5100 → mt' j = 0) ∧ cnt th' t = cnt th t + (a' - a) := by
  intro n
  induction n with
  | zero => intro a k th mt h1 h2; omega
  | succ n ih =>
    intro a k th mt h1 h2 h3 h4 h5
    rw [fX3_fillLowest_L4.eq_2, fX6_fill_L49.eq_2]
    by_cases h : k = t
    · subst h
      refine ⟨a, nI k, th, mt, ?_, ?_, Nat.le_refl _, h4, h5, by rw [Nat.sub_self]; rfl⟩
      · rw [if_pos (p_le (Nat.le_refl _) (by omega))]
      · rw [if_pos (p_le (Nat.le_refl _) (by omega))]
    · rw [if_neg (n_le (a := t) (b := k) (by omega) (by omega)), if_neg (n_le (a := t) (b := k) (by omega) (by omega))]
      by_cases h6 : a = q
      · subst h6
        refine ⟨a, nI k, th, mt, ?_, ?_, Nat.le_refl _, h4, h5, by rw [Nat.sub_self]; rfl⟩
        · rw [if_pos (p_le (Nat.le_refl _) (by omega))]
        · rw [if_pos (p_le (Nat.le_refl _) (by omega))]
      · rw [if_neg (n_le (a := q) (b := a) (by omega) (by omega)), if_neg (n_le (a := q) (b := a) (by omega) (by omega)), if_pos (p_in (j := k) (N := 5010) (by omega) (by omega)), if_pos (p_in (j := k) (N := 5100) (by omega) (by omega))]
        have c1 : th (nI k).toNatClampNeg = th k := by rw [nI_clamp (n2 (by omega))]
        have c2 : mt (nI k).toNatClampNeg = th k := by rw [nI_clamp (n2 (by omega)), h4 k (by omega)]
        by_cases h7 : th k = 0
        · obtain ⟨a', k', th', mt', q1, q2, q3, q4, q5, q6⟩ := ih (a + 1) (k + 1) (upd th k 1) (upd mt k 1) (by omega) (by omega) (by omega) (fun j hj => by
            by_cases e : j = k
            · subst e; rw [upd_s, upd_s]
            · rw [upd_n e, upd_n e, h4 j hj]) (fun j ja jb => by rw [upd_n (by omega), h5 j ja jb])
          refine ⟨a', k', th', mt', ?_, ?_, by omega, q4, q5, ?_⟩
          · rw [if_pos (c1.trans h7), if_pos (p_in (by omega) (by omega)), show vp_nar .boolean 1 = 1 from rfl, nI_clamp (n2 (by omega)), nI_1, nI_1]
            exact q1
          · rw [if_pos (c2.trans h7), if_pos (p_in (by omega) (by omega)), show vp_nar .boolean 1 = 1 from rfl, nI_clamp (n2 (by omega)), nI_1, nI_1]
            exact q2
          · rw [q6, cnt_set h7 (by decide) t (by omega)]
            omega
        · obtain ⟨a', k', th', mt', q1, q2, q3, q4, q5, q6⟩ := ih a (k + 1) th mt (by omega) (by omega) (by omega) h4 h5
          refine ⟨a', k', th', mt', ?_, ?_, by omega, q4, q5, q6⟩
          · rw [if_neg (by rw [c1]; exact h7), nI_1]
            exact q1
          · rw [if_neg (by rw [c2]; exact h7), nI_1]
            exact q2
theorem fillr {t q : Nat} {th mt : Nat → Int32} {pr : Int32} (hq : q ≤ 100) (hR : Rm t th mt pr) : ∃ (a pr' k' : Int32) (th' mt' : Nat → Int32), fX3_fillLowest (nI t) pr th (nI q) = some (a, pr', th') ∧ fX6_fill_L49 (nI t) (nI q) dkF 0 0 mt = some (a, k', mt') ∧ Rm t th' mt' pr' := by
  obtain ⟨h1, h2, h3, h4⟩ := hR
  obtain ⟨a', k', th', mt', q1, q2, q3, q4, q5, q6⟩ := fillr_L hq h1 dkF 0 0 th mt (by omega) (by unfold dkF; omega) (by omega) h2 h3
  refine ⟨nI a', nI (cnt th' t), k', th', mt', ?_, q2, h1, q4, q5, rfl⟩
  have q1 : fX3_fillLowest_L4 (nI t) (nI q) dkF 0 0 th = some (nI a', k', th') := q1
  unfold fX3_fillLowest
  rw [q1, ob, h4, nI_add, q6, Nat.sub_zero]
theorem keep_L {t : Nat} {th : Nat → Int32} (ht : t ≤ 5010) : ∀ (n k : Nat), k ≤ t → t < n + k → fX3_keepBelow_L19 (nI t) th n (nI k) (nI (cnt th k)) = some (nI t, nI (cnt th t)) := by
  intro n
  induction n with
  | zero => intro k h1 h2; omega
  | succ n ih =>
    intro k h1 h2
    rw [fX3_keepBelow_L19.eq_2]
    by_cases h : k = t
    · subst h
      rw [if_pos (p_le (Nat.le_refl _) (by omega))]
    · have := ih (k + 1) (by omega) (by omega)
      rw [cnt] at this
      have c1 : th (nI k).toNatClampNeg = th k := by rw [nI_clamp (n2 (by omega))]
      rw [if_neg (n_le (by omega) (by omega)), if_pos (p_in (by omega) (by omega)), nI_1]
      by_cases e : th k = 0
      · rw [if_pos e] at this
        rw [if_pos (c1.trans e)]
        exact this
      · rw [if_neg e] at this
        rw [if_neg (by rw [c1]; exact e), nI_1]
        exact this
theorem keep {t r : Nat} {th mt : Nat → Int32} {pr : Int32} (hR : Rm t th mt pr) (hr : r ≤ 5010) : ∃ (t' : Nat) (pr' k' : Int32) (mt' : Nat → Int32), fX3_keepBelow (nI t) th (nI r) = some (nI t', pr') ∧ (if nI r ≤ nI t then nI r else nI t) = nI t' ∧ fX6_start_L247 dkF (nI r) mt = some (k', mt') ∧ t' ≤ r ∧ Rm t' th mt' pr' := by
  obtain ⟨h1, h2, h3, h4⟩ := hR
  obtain ⟨g, e, hg⟩ := m_there0L dkF r mt (by omega) (by unfold dkF; omega)
  have hmin : ∃ t', t' ≤ r ∧ t' ≤ t ∧ (t' = r ∨ t' = t) ∧ (if nI r ≤ nI t then nI r else nI t) = nI t' ∧ (if nI r < nI t then nI r else nI t) = nI t' := by
    by_cases h : r < t
    · exact ⟨r, by omega, by omega, Or.inl rfl, by rw [if_pos (p_le (by omega) (by omega))], by rw [if_pos (p_lt (by omega) (by omega))]⟩
    · by_cases h5 : r = t
      · subst h5
        exact ⟨r, by omega, by omega, Or.inl rfl, by rw [if_pos (p_le (by omega) (by omega))], by rw [if_neg (n_lt (by omega) (by omega))]⟩
      · exact ⟨t, by omega, by omega, Or.inr rfl, by rw [if_neg (n_le (by omega) (by omega))], by rw [if_neg (n_lt (by omega) (by omega))]⟩
  obtain ⟨t', m1, m2, m3, m4, m5⟩ := hmin
  refine ⟨t', nI (cnt th t'), nI 5100, g, ?_, m4, e, m1, by omega, ?_, ?_, rfl⟩
  · have k1 : fX3_keepBelow_L19 (nI t') th dkF 0 0 = some (nI t', nI (cnt th t')) := keep_L (by omega) dkF 0 (by omega) (by unfold dkF; omega)
    unfold fX3_keepBelow
    rw [m5, k1, ob]
  · intro j hj
    rw [hg j, if_neg (by omega), h2 j (by omega)]
  · intro j ja jb
    rw [hg j]
    by_cases hj : r ≤ j
    · rw [if_pos (by omega)]
    · rw [if_neg (by omega), h3 j (by omega) jb]
