/-! ServiceDiskModel.thrown()I: ro, frames 0, locals 0 -/
def fX6_thrown (v_thrown : Int32) : Option (Int32) :=
  some v_thrown
set_option maxHeartbeats 4000000 in
set_option maxRecDepth 100000 in
theorem mX6_thrown (l : Launch) (D : va_G) (k : Nat → ClassId) (h0 a_disk a_made a_sectorOf a_placeOf a_manyOf a_there a_waitKind a_waitMany a_waitBytes : Nat) (v_thrown : Int32) (v_sectors : Int32) (v_power : Int32) (v_used : Int32) (v_reserve : Int32) (v_cutWrites : Int32) (v_cutBytes : Int32) (v_rows : Int32) (v_waits : Int32) (v_stateNumber : Int32) (v_stateNow : Int64) (v_second : Int32) (v_repaired : Int32) (v_up : Int32) (v_sent : Int32) (v_disk : Nat → Int32) (v_made : Nat → Int32) (v_sectorOf : Nat → Int32) (v_placeOf : Nat → Int32) (v_manyOf : Nat → Int32) (v_there : Nat → Int32) (v_waitKind : Nat → Int32) (v_waitMany : Nat → Int32) (v_waitBytes : Nat → Int64) (o : Int32) (h : fX6_thrown v_thrown = some o) : Met l yX6_thrown wsX6_thrown { frames := 0, cells := 0, slots := 0, locals := 0 } (dk_Pr D k [.ref h0] [(h0, .inr (6, [.int v_thrown, .int v_sectors, .int v_power, .ref a_disk, .ref a_made, .int v_used, .int v_reserve, .int v_cutWrites, .int v_cutBytes, .int v_rows, .ref a_sectorOf, .ref a_placeOf, .ref a_manyOf, .ref a_there, .int v_waits, .ref a_waitKind, .ref a_waitMany, .ref a_waitBytes, .int v_stateNumber, .long v_stateNow, .int v_second, .int v_repaired, .int v_up, .int v_sent])), (a_disk, .inl ((k 2), 32768, .inl v_disk)), (a_made, .inl ((k 2), 512, .inl v_made)), (a_sectorOf, .inl ((k 2), 5100, .inl v_sectorOf)), (a_placeOf, .inl ((k 2), 5100, .inl v_placeOf)), (a_manyOf, .inl ((k 2), 5100, .inl v_manyOf)), (a_there, .inl ((k 1), 5100, .inl v_there)), (a_waitKind, .inl ((k 2), 100, .inl v_waitKind)), (a_waitMany, .inl ((k 2), 100, .inl v_waitMany)), (a_waitBytes, .inl ((k 3), 100, .inr (.inl v_waitBytes)))]) (vp_Si (fun r => r = o)) 0 0 (fun _ => False) := by
  unfold fX6_thrown at h
  refine dk_ofR (cc := cX6_thrown) (maxL := 1) (ret := (some .int)) (lv := [(0, .ref h0)]) (by decide) rfl (Nat.le_of_ble_eq_true rfl) rfl ?_
  intro p e s m below meth c C hK hN hP ls hl
  obtain ⟨hx, hb, hr, hml, hown, hts, hlocks⟩ := id C
  refine lv_aload_n hx hb dX6_thrown_0 rfl (lv_at hl 0 rfl) ?_
  refine va_get (D := D) (ci := 6) (v := .int v_thrown) (C := "ServiceDiskModel") (T := TX6) (N := 24) hx hb hts inX6 hown hK hP 0 rfl rfl 0 (by decide) (hts _ w_737) (fun _ h9 => h9) rfl dX6_thrown_1 ?_
  have h := dk_r h
  subst h
  exact dk_rri hx hb hr hlocks dX6_thrown_4 rfl
/-! ServiceDiskModel.throwing(ZZZZ)Z: rw, frames 0, locals 0 -/
def fX6_throwing (p1 : Int32) (p2 : Int32) (p3 : Int32) (p4 : Int32) : Option (Int32 × Int32) :=
  if dk_01 (if ((if p1 = 0 then (if p2 = 0 then (if p3 = 0 then (if p4 = 0 then 0 else 4) else 3) else 2) else 1) : Int32) ≤ 0 then 0 else 1) then some ((if ((if p1 = 0 then (if p2 = 0 then (if p3 = 0 then (if p4 = 0 then 0 else 4) else 3) else 2) else 1) : Int32) ≤ 0 then 0 else 1), (if p1 = 0 then (if p2 = 0 then (if p3 = 0 then (if p4 = 0 then 0 else 4) else 3) else 2) else 1)) else none
set_option maxHeartbeats 4000000 in
set_option maxRecDepth 100000 in
theorem mX6_throwing (l : Launch) (D : va_G) (k : Nat → ClassId) (h0 a_disk a_made a_sectorOf a_placeOf a_manyOf a_there a_waitKind a_waitMany a_waitBytes : Nat) (sz : Nat) (v_thrown : Int32) (v_sectors : Int32) (v_power : Int32) (v_used : Int32) (v_reserve : Int32) (v_cutWrites : Int32) (v_cutBytes : Int32) (v_rows : Int32) (v_waits : Int32) (v_stateNumber : Int32) (v_stateNow : Int64) (v_second : Int32) (v_repaired : Int32) (v_up : Int32) (v_sent : Int32) (v_disk : Nat → Int32) (v_made : Nat → Int32) (v_sectorOf : Nat → Int32) (v_placeOf : Nat → Int32) (v_manyOf : Nat → Int32) (v_there : Nat → Int32) (v_waitKind : Nat → Int32) (v_waitMany : Nat → Int32) (v_waitBytes : Nat → Int64) (p1 : Int32) (p2 : Int32) (p3 : Int32) (p4 : Int32) (o : Int32 × Int32) (h : fX6_throwing p1 p2 p3 p4 = some o) : Met l yX6_throwing wsX6_throwing { frames := 0, cells := 0, slots := 0, locals := 0 } (dk_Pw D k [.ref h0, .int p1, .int p2, .int p3, .int p4] [(h0, .inr (6, [.int v_thrown, .int v_sectors, .int v_power, .ref a_disk, .ref a_made, .int v_used, .int v_reserve, .int v_cutWrites, .int v_cutBytes, .int v_rows, .ref a_sectorOf, .ref a_placeOf, .ref a_manyOf, .ref a_there, .int v_waits, .ref a_waitKind, .ref a_waitMany, .ref a_waitBytes, .int v_stateNumber, .long v_stateNow, .int v_second, .int v_repaired, .int v_up, .int v_sent])), (a_disk, .inl ((k 2), 32768, .inl v_disk)), (a_made, .inl ((k 2), 512, .inl v_made)), (a_sectorOf, .inl ((k 2), 5100, .inl v_sectorOf)), (a_placeOf, .inl ((k 2), 5100, .inl v_placeOf)), (a_manyOf, .inl ((k 2), 5100, .inl v_manyOf)), (a_there, .inl ((k 1), 5100, .inl v_there)), (a_waitKind, .inl ((k 2), 100, .inl v_waitKind)), (a_waitMany, .inl ((k 2), 100, .inl v_waitMany)), (a_waitBytes, .inl ((k 3), 100, .inr (.inl v_waitBytes)))] sz) (dk_Qi o.1 D [(h0, .inr (6, [.int o.2, .int v_sectors, .int v_power, .ref a_disk, .ref a_made, .int v_used, .int v_reserve, .int v_cutWrites, .int v_cutBytes, .int v_rows, .ref a_sectorOf, .ref a_placeOf, .ref a_manyOf, .ref a_there, .int v_waits, .ref a_waitKind, .ref a_waitMany, .ref a_waitBytes, .int v_stateNumber, .long v_stateNow, .int v_second, .int v_repaired, .int v_up, .int v_sent])), (a_disk, .inl ((k 2), 32768, .inl v_disk)), (a_made, .inl ((k 2), 512, .inl v_made)), (a_sectorOf, .inl ((k 2), 5100, .inl v_sectorOf)), (a_placeOf, .inl ((k 2), 5100, .inl v_placeOf)), (a_manyOf, .inl ((k 2), 5100, .inl v_manyOf)), (a_there, .inl ((k 1), 5100, .inl v_there)), (a_waitKind, .inl ((k 2), 100, .inl v_waitKind)), (a_waitMany, .inl ((k 2), 100, .inl v_waitMany)), (a_waitBytes, .inl ((k 3), 100, .inr (.inl v_waitBytes)))] (va_A [(h0, .inr (6, [.int v_thrown, .int v_sectors, .int v_power, .ref a_disk, .ref a_made, .int v_used, .int v_reserve, .int v_cutWrites, .int v_cutBytes, .int v_rows, .ref a_sectorOf, .ref a_placeOf, .ref a_manyOf, .ref a_there, .int v_waits, .ref a_waitKind, .ref a_waitMany, .ref a_waitBytes, .int v_stateNumber, .long v_stateNow, .int v_second, .int v_repaired, .int v_up, .int v_sent])), (a_disk, .inl ((k 2), 32768, .inl v_disk)), (a_made, .inl ((k 2), 512, .inl v_made)), (a_sectorOf, .inl ((k 2), 5100, .inl v_sectorOf)), (a_placeOf, .inl ((k 2), 5100, .inl v_placeOf)), (a_manyOf, .inl ((k 2), 5100, .inl v_manyOf)), (a_there, .inl ((k 1), 5100, .inl v_there)), (a_waitKind, .inl ((k 2), 100, .inl v_waitKind)), (a_waitMany, .inl ((k 2), 100, .inl v_waitMany)), (a_waitBytes, .inl ((k 3), 100, .inr (.inl v_waitBytes)))] sz)) 0 0 (va_A [(h0, .inr (6, [.int v_thrown, .int v_sectors, .int v_power, .ref a_disk, .ref a_made, .int v_used, .int v_reserve, .int v_cutWrites, .int v_cutBytes, .int v_rows, .ref a_sectorOf, .ref a_placeOf, .ref a_manyOf, .ref a_there, .int v_waits, .ref a_waitKind, .ref a_waitMany, .ref a_waitBytes, .int v_stateNumber, .long v_stateNow, .int v_second, .int v_repaired, .int v_up, .int v_sent])), (a_disk, .inl ((k 2), 32768, .inl v_disk)), (a_made, .inl ((k 2), 512, .inl v_made)), (a_sectorOf, .inl ((k 2), 5100, .inl v_sectorOf)), (a_placeOf, .inl ((k 2), 5100, .inl v_placeOf)), (a_manyOf, .inl ((k 2), 5100, .inl v_manyOf)), (a_there, .inl ((k 1), 5100, .inl v_there)), (a_waitKind, .inl ((k 2), 100, .inl v_waitKind)), (a_waitMany, .inl ((k 2), 100, .inl v_waitMany)), (a_waitBytes, .inl ((k 3), 100, .inr (.inl v_waitBytes)))] sz) := by
  unfold fX6_throwing at h
  refine dk_ofW (Qc := fun A => dk_Qi o.1 D [(h0, .inr (6, [.int o.2, .int v_sectors, .int v_power, .ref a_disk, .ref a_made, .int v_used, .int v_reserve, .int v_cutWrites, .int v_cutBytes, .int v_rows, .ref a_sectorOf, .ref a_placeOf, .ref a_manyOf, .ref a_there, .int v_waits, .ref a_waitKind, .ref a_waitMany, .ref a_waitBytes, .int v_stateNumber, .long v_stateNow, .int v_second, .int v_repaired, .int v_up, .int v_sent])), (a_disk, .inl ((k 2), 32768, .inl v_disk)), (a_made, .inl ((k 2), 512, .inl v_made)), (a_sectorOf, .inl ((k 2), 5100, .inl v_sectorOf)), (a_placeOf, .inl ((k 2), 5100, .inl v_placeOf)), (a_manyOf, .inl ((k 2), 5100, .inl v_manyOf)), (a_there, .inl ((k 1), 5100, .inl v_there)), (a_waitKind, .inl ((k 2), 100, .inl v_waitKind)), (a_waitMany, .inl ((k 2), 100, .inl v_waitMany)), (a_waitBytes, .inl ((k 3), 100, .inr (.inl v_waitBytes)))] A) (cc := cX6_throwing) (maxL := 5) (ret := (some .boolean)) (lv := [(0, .ref h0), (1, .int p1), (2, .int p2), (3, .int p3), (4, .int p4)]) (by decide) rfl (Nat.le_of_ble_eq_true rfl) rfl ?_
  intro p e s m below meth c C hK hN hP A hA hD hS ls hl
  obtain ⟨hx, hb, hr, hml, hown, hts, hlocks⟩ := id C
  refine lv_aload_n hx hb dX6_throwing_0 rfl (lv_at hl 0 rfl) ?_
  refine lv_iload_n hx hb dX6_throwing_1 rfl (lv_at hl 1 rfl) ?_
  refine dk_jn (F0 m 35 ls [.int (if p1 = 0 then (if p2 = 0 then (if p3 = 0 then (if p4 = 0 then 0 else 4) else 3) else 2) else 1), .ref h0]) (fun K => ?_) ?_
  · refine lv_if_eq (tgt := 9) hx hb dX6_throwing_2 (by decide) (fun q1 => ?_) (fun q1 => ?_)
    · refine lv_iload_n hx hb dX6_throwing_9 rfl (lv_at hl 2 rfl) ?_
      refine lv_if_eq (tgt := 17) hx hb dX6_throwing_10 (by decide) (fun q2 => ?_) (fun q2 => ?_)
      · refine lv_iload_n hx hb dX6_throwing_17 rfl (lv_at hl 3 rfl) ?_
        refine lv_if_eq (tgt := 25) hx hb dX6_throwing_18 (by decide) (fun q3 => ?_) (fun q3 => ?_)
        · refine lv_iload hx hb dX6_throwing_25 (lv_at hl 4 rfl) ?_
          refine lv_if_eq (tgt := 34) hx hb dX6_throwing_27 (by decide) (fun q4 => ?_) (fun q4 => ?_)
          · refine lv_iconst (v := 0) hx hb dX6_throwing_34 (by decide) ?_
            have K := K
            rw [if_pos q1, if_pos q2, if_pos q3, if_pos q4] at K
            exact K
          · refine lv_iconst (v := 4) hx hb dX6_throwing_30 (by decide) ?_
            refine lv_goto (tgt := 35) hx hb dX6_throwing_31 (by decide) ?_
            have K := K
            rw [if_pos q1, if_pos q2, if_pos q3, if_neg q4] at K
            exact K
        · refine lv_iconst (v := 3) hx hb dX6_throwing_21 (by decide) ?_
          refine lv_goto (tgt := 35) hx hb dX6_throwing_22 (by decide) ?_
          have K := K
          rw [if_pos q1, if_pos q2, if_neg q3] at K
          exact K
      · refine lv_iconst (v := 2) hx hb dX6_throwing_13 (by decide) ?_
        refine lv_goto (tgt := 35) hx hb dX6_throwing_14 (by decide) ?_
        have K := K
        rw [if_pos q1, if_neg q2] at K
        exact K
    · refine lv_iconst (v := 1) hx hb dX6_throwing_5 (by decide) ?_
      refine lv_goto (tgt := 35) hx hb dX6_throwing_6 (by decide) ?_
      have K := K
      rw [if_neg q1] at K
      exact K
  refine va_put (D := D) (ci := 6) (v := .int (if p1 = 0 then (if p2 = 0 then (if p3 = 0 then (if p4 = 0 then 0 else 4) else 3) else 2) else 1)) (ty := .int) (C := "ServiceDiskModel") (T := TX6) (N := 24) hx hb hts inX6 tyX6 tyX6_ok nmX6 hown hK hP hD hS 0 rfl rfl 0 (by decide) (hts _ w_737) (fun _ h9 => h9) rfl (by decide +kernel) rfl rfl (Nat.le_of_ble_eq_true rfl) dX6_throwing_35 (fun H locs hP hD hS => ?_)
  have hP : va_P D vwCl [(h0, .inr (6, [.int (if p1 = 0 then (if p2 = 0 then (if p3 = 0 then (if p4 = 0 then 0 else 4) else 3) else 2) else 1), .int v_sectors, .int v_power, .ref a_disk, .ref a_made, .int v_used, .int v_reserve, .int v_cutWrites, .int v_cutBytes, .int v_rows, .ref a_sectorOf, .ref a_placeOf, .ref a_manyOf, .ref a_there, .int v_waits, .ref a_waitKind, .ref a_waitMany, .ref a_waitBytes, .int v_stateNumber, .long v_stateNow, .int v_second, .int v_repaired, .int v_up, .int v_sent])), (a_disk, .inl ((k 2), 32768, .inl v_disk)), (a_made, .inl ((k 2), 512, .inl v_made)), (a_sectorOf, .inl ((k 2), 5100, .inl v_sectorOf)), (a_placeOf, .inl ((k 2), 5100, .inl v_placeOf)), (a_manyOf, .inl ((k 2), 5100, .inl v_manyOf)), (a_there, .inl ((k 1), 5100, .inl v_there)), (a_waitKind, .inl ((k 2), 100, .inl v_waitKind)), (a_waitMany, .inl ((k 2), 100, .inl v_waitMany)), (a_waitBytes, .inl ((k 3), 100, .inr (.inl v_waitBytes)))] H := hP
  have hD : va_D A [(h0, .inr (6, [.int (if p1 = 0 then (if p2 = 0 then (if p3 = 0 then (if p4 = 0 then 0 else 4) else 3) else 2) else 1), .int v_sectors, .int v_power, .ref a_disk, .ref a_made, .int v_used, .int v_reserve, .int v_cutWrites, .int v_cutBytes, .int v_rows, .ref a_sectorOf, .ref a_placeOf, .ref a_manyOf, .ref a_there, .int v_waits, .ref a_waitKind, .ref a_waitMany, .ref a_waitBytes, .int v_stateNumber, .long v_stateNow, .int v_second, .int v_repaired, .int v_up, .int v_sent])), (a_disk, .inl ((k 2), 32768, .inl v_disk)), (a_made, .inl ((k 2), 512, .inl v_made)), (a_sectorOf, .inl ((k 2), 5100, .inl v_sectorOf)), (a_placeOf, .inl ((k 2), 5100, .inl v_placeOf)), (a_manyOf, .inl ((k 2), 5100, .inl v_manyOf)), (a_there, .inl ((k 1), 5100, .inl v_there)), (a_waitKind, .inl ((k 2), 100, .inl v_waitKind)), (a_waitMany, .inl ((k 2), 100, .inl v_waitMany)), (a_waitBytes, .inl ((k 3), 100, .inr (.inl v_waitBytes)))] := hD
  refine lv_aload_n hx hb dX6_throwing_38 rfl (lv_at hl 0 rfl) ?_
  refine va_get (D := D) (ci := 6) (v := .int (if p1 = 0 then (if p2 = 0 then (if p3 = 0 then (if p4 = 0 then 0 else 4) else 3) else 2) else 1)) (C := "ServiceDiskModel") (T := TX6) (N := 24) hx hb hts inX6 hown hK hP 0 rfl rfl 0 (by decide) (hts _ w_737) (fun _ h9 => h9) rfl dX6_throwing_39 ?_
  refine dk_jn (F0 m 50 ls [.int (if ((if p1 = 0 then (if p2 = 0 then (if p3 = 0 then (if p4 = 0 then 0 else 4) else 3) else 2) else 1) : Int32) ≤ 0 then 0 else 1)]) (fun K => ?_) ?_
  · refine lv_if_le (tgt := 49) hx hb dX6_throwing_42 (by decide) (fun q1 => ?_) (fun q1 => ?_)
    · refine lv_iconst (v := 0) hx hb dX6_throwing_49 (by decide) ?_
      have K := K
      rw [if_pos q1] at K
      exact K
    · refine lv_iconst (v := 1) hx hb dX6_throwing_45 (by decide) ?_
      refine lv_goto (tgt := 50) hx hb dX6_throwing_46 (by decide) ?_
      have K := K
      rw [if_neg q1] at K
      exact K
  obtain ⟨q, h⟩ := dk_g h
  have h := dk_r h
  subst h
  exact dk_rwz hx hb hr q hlocks (hP.sub [0, 1, 2, 3, 4, 5, 6, 7, 8, 9] rfl) (hD.sub [0, 1, 2, 3, 4, 5, 6, 7, 8, 9] (by decide) rfl) hS dX6_throwing_50 rfl
/-! ServiceDiskModel.in(III)Z: ro, frames 0, locals 0 -/
def fX6_in (p1 : Int32) (p2 : Int32) (p3 : Int32) : Option (Int32) :=
  if dk_01 (if p1 < p2 then 0 else (if p3 < p1 then 0 else 1)) then some (if p1 < p2 then 0 else (if p3 < p1 then 0 else 1)) else none
set_option maxHeartbeats 4000000 in
set_option maxRecDepth 100000 in
theorem mX6_in (l : Launch) (D : va_G) (k : Nat → ClassId) (p1 : Int32) (p2 : Int32) (p3 : Int32) (o : Int32) (h : fX6_in p1 p2 p3 = some o) : Met l yX6_in wsX6_in { frames := 0, cells := 0, slots := 0, locals := 0 } (dk_Pr D k [.int p1, .int p2, .int p3] []) (vp_Si (fun r => r = o)) 0 0 (fun _ => False) := by
  unfold fX6_in at h
  refine dk_ofR (cc := cX6_in) (maxL := 3) (ret := (some .boolean)) (lv := [(0, .int p1), (1, .int p2), (2, .int p3)]) (by decide) rfl (Nat.le_of_ble_eq_true rfl) rfl ?_
  intro p e s m below meth c C hK hN hP ls hl
  obtain ⟨hx, hb, hr, hml, hown, hts, hlocks⟩ := id C
  refine lv_iload_n hx hb dX6_in_0 rfl (lv_at hl 0 rfl) ?_
  refine lv_iload_n hx hb dX6_in_1 rfl (lv_at hl 1 rfl) ?_
  refine dk_jn (F0 m 15 ls [.int (if p1 < p2 then 0 else (if p3 < p1 then 0 else 1))]) (fun K => ?_) ?_
  · refine lv_icmp_lt (tgt := 14) hx hb dX6_in_2 (by decide) (fun q1 => ?_) (fun q1 => ?_)
    · refine lv_iconst (v := 0) hx hb dX6_in_14 (by decide) ?_
      have K := K
      rw [if_pos q1] at K
      exact K
    · refine lv_iload_n hx hb dX6_in_5 rfl (lv_at hl 0 rfl) ?_
      refine lv_iload_n hx hb dX6_in_6 rfl (lv_at hl 2 rfl) ?_
      refine lv_icmp_gt (tgt := 14) hx hb dX6_in_7 (by decide) (fun q2 => ?_) (fun q2 => ?_)
      · refine lv_iconst (v := 0) hx hb dX6_in_14 (by decide) ?_
        have K := K
        rw [if_neg q1, if_pos q2] at K
        exact K
      · refine lv_iconst (v := 1) hx hb dX6_in_10 (by decide) ?_
        refine lv_goto (tgt := 15) hx hb dX6_in_11 (by decide) ?_
        have K := K
        rw [if_neg q1, if_neg q2] at K
        exact K
  obtain ⟨q, h⟩ := dk_g h
  have h := dk_r h
  subst h
  exact dk_rrz hx hb hr q hlocks dX6_in_15 rfl
/-! ServiceDiskModel.at(II)I: ro, frames 0, locals 0 -/
def fX6_at (p1 : Int32) (p2 : Int32) : Option (Int32) :=
  some (512 * ((32 * p1) + p2))
set_option maxHeartbeats 4000000 in
set_option maxRecDepth 100000 in
theorem mX6_at (l : Launch) (D : va_G) (k : Nat → ClassId) (p1 : Int32) (p2 : Int32) (o : Int32) (h : fX6_at p1 p2 = some o) : Met l yX6_at wsX6_at { frames := 0, cells := 0, slots := 0, locals := 0 } (dk_Pr D k [.int p1, .int p2] []) (vp_Si (fun r => r = o)) 0 0 (fun _ => False) := by
  unfold fX6_at at h
  refine dk_ofR (cc := cX6_at) (maxL := 2) (ret := (some .int)) (lv := [(0, .int p1), (1, .int p2)]) (by decide) rfl (Nat.le_of_ble_eq_true rfl) rfl ?_
  intro p e s m below meth c C hK hN hP ls hl
  obtain ⟨hx, hb, hr, hml, hown, hts, hlocks⟩ := id C
  refine lv_sipush (v := 512) hx hb dX6_at_0 (by decide) ?_
  refine lv_bipush (v := 32) hx hb dX6_at_3 (by decide) ?_
  refine lv_iload_n hx hb dX6_at_5 rfl (lv_at hl 0 rfl) ?_
  refine lv_imul hx hb dX6_at_6 ?_
  refine lv_iload_n hx hb dX6_at_7 rfl (lv_at hl 1 rfl) ?_
  refine lv_iadd hx hb dX6_at_8 ?_
  refine lv_imul hx hb dX6_at_9 ?_
  have h := dk_r h
  subst h
  exact dk_rri hx hb hr hlocks dX6_at_10 rfl
/-! ServiceDiskModel.with(II)I: ro, frames 0, locals 0 -/
def fX6_with (p1 : Int32) (p2 : Int32) : Option (Int32) :=
  some ((((p1 ^^^ p2) <<< (5 &&& 31)) ||| (dk_iushr (p1 ^^^ p2) 27)) * (-2048144789))
set_option maxHeartbeats 4000000 in
set_option maxRecDepth 100000 in
theorem mX6_with (l : Launch) (D : va_G) (k : Nat → ClassId) (p1 : Int32) (p2 : Int32) (o : Int32) (h : fX6_with p1 p2 = some o) : Met l yX6_with wsX6_with { frames := 0, cells := 0, slots := 0, locals := 0 } (dk_Pr D k [.int p1, .int p2] []) (vp_Si (fun r => r = o)) 0 0 (fun _ => False) := by
  unfold fX6_with at h
  refine dk_ofR (cc := cX6_with) (maxL := 3) (ret := (some .int)) (lv := [(0, .int p1), (1, .int p2)]) (by decide) rfl (Nat.le_of_ble_eq_true rfl) rfl ?_
  intro p e s m below meth c C hK hN hP ls hl
  obtain ⟨hx, hb, hr, hml, hown, hts, hlocks⟩ := id C
  refine lv_iload_n hx hb dX6_with_0 rfl (lv_at hl 0 rfl) ?_
  refine lv_iload_n hx hb dX6_with_1 rfl (lv_at hl 1 rfl) ?_
  refine lv_ixor hx hb dX6_with_2 ?_
  refine lv_istore_n (lv' := [(2, .int (p1 ^^^ p2)), (0, .int p1), (1, .int p2)]) hx hb dX6_with_3 rfl hl (by decide) rfl (fun ls hl => ?_)
  refine lv_iload_n hx hb dX6_with_4 rfl (lv_at hl 0 rfl) ?_
  refine lv_iconst (v := 5) hx hb dX6_with_5 (by decide) ?_
  refine lv_ishl hx hb dX6_with_6 ?_
  refine lv_iload_n hx hb dX6_with_7 rfl (lv_at hl 0 rfl) ?_
  refine lv_bipush (v := 27) hx hb dX6_with_8 (by decide) ?_
  refine lv_iushr (v := (dk_iushr (p1 ^^^ p2) 27)) hx hb dX6_with_10 rfl ?_
  refine lv_ior hx hb dX6_with_11 ?_
  refine lv_ldc (v := -2048144789) hx hb hown (hts _ w_860) dX6_with_12 ?_
  refine lv_imul hx hb dX6_with_14 ?_
  have h := dk_r h
  subst h
  exact dk_rri hx hb hr hlocks dX6_with_15 rfl
/-! ServiceDiskModel.four(I)I: ro, frames 0, locals 0 -/
def fX6_four (v_disk : Nat → Int32) (p1 : Int32) : Option (Int32) :=
  if dk_in p1 32768 then
  if dk_in (p1 + 1) 32768 then
  if dk_in (p1 + 2) 32768 then
  if dk_in (p1 + 3) 32768 then
  some (((((v_disk p1.toNatClampNeg) <<< (24 &&& 31)) ||| ((v_disk (p1 + 1).toNatClampNeg) <<< (16 &&& 31))) ||| ((v_disk (p1 + 2).toNatClampNeg) <<< (8 &&& 31))) ||| (v_disk (p1 + 3).toNatClampNeg))
  else none
  else none
  else none
  else none
set_option maxHeartbeats 4000000 in
set_option maxRecDepth 100000 in
theorem mX6_four (l : Launch) (D : va_G) (k : Nat → ClassId) (h0 a_disk a_made a_sectorOf a_placeOf a_manyOf a_there a_waitKind a_waitMany a_waitBytes : Nat) (v_thrown : Int32) (v_sectors : Int32) (v_power : Int32) (v_used : Int32) (v_reserve : Int32) (v_cutWrites : Int32) (v_cutBytes : Int32) (v_rows : Int32) (v_waits : Int32) (v_stateNumber : Int32) (v_stateNow : Int64) (v_second : Int32) (v_repaired : Int32) (v_up : Int32) (v_sent : Int32) (v_disk : Nat → Int32) (v_made : Nat → Int32) (v_sectorOf : Nat → Int32) (v_placeOf : Nat → Int32) (v_manyOf : Nat → Int32) (v_there : Nat → Int32) (v_waitKind : Nat → Int32) (v_waitMany : Nat → Int32) (v_waitBytes : Nat → Int64) (p1 : Int32) (o : Int32) (h : fX6_four v_disk p1 = some o) : Met l yX6_four wsX6_four { frames := 0, cells := 0, slots := 0, locals := 0 } (dk_Pr D k [.ref h0, .int p1] [(h0, .inr (6, [.int v_thrown, .int v_sectors, .int v_power, .ref a_disk, .ref a_made, .int v_used, .int v_reserve, .int v_cutWrites, .int v_cutBytes, .int v_rows, .ref a_sectorOf, .ref a_placeOf, .ref a_manyOf, .ref a_there, .int v_waits, .ref a_waitKind, .ref a_waitMany, .ref a_waitBytes, .int v_stateNumber, .long v_stateNow, .int v_second, .int v_repaired, .int v_up, .int v_sent])), (a_disk, .inl ((k 2), 32768, .inl v_disk)), (a_made, .inl ((k 2), 512, .inl v_made)), (a_sectorOf, .inl ((k 2), 5100, .inl v_sectorOf)), (a_placeOf, .inl ((k 2), 5100, .inl v_placeOf)), (a_manyOf, .inl ((k 2), 5100, .inl v_manyOf)), (a_there, .inl ((k 1), 5100, .inl v_there)), (a_waitKind, .inl ((k 2), 100, .inl v_waitKind)), (a_waitMany, .inl ((k 2), 100, .inl v_waitMany)), (a_waitBytes, .inl ((k 3), 100, .inr (.inl v_waitBytes)))]) (vp_Si (fun r => r = o)) 0 0 (fun _ => False) := by
  unfold fX6_four at h
  refine dk_ofR (cc := cX6_four) (maxL := 2) (ret := (some .int)) (lv := [(0, .ref h0), (1, .int p1)]) (by decide) rfl (Nat.le_of_ble_eq_true rfl) rfl ?_
  intro p e s m below meth c C hK hN hP ls hl
  obtain ⟨hx, hb, hr, hml, hown, hts, hlocks⟩ := id C
  refine lv_aload_n hx hb dX6_four_0 rfl (lv_at hl 0 rfl) ?_
  refine va_get (D := D) (ci := 6) (v := .ref a_disk) (C := "ServiceDiskModel") (T := TX6) (N := 24) hx hb hts inX6 hown hK hP 0 rfl rfl 3 (by decide) (hts _ w_740) (fun _ h9 => h9) rfl dX6_four_1 ?_
  refine lv_iload_n hx hb dX6_four_4 rfl (lv_at hl 1 rfl) ?_
  obtain ⟨q, h⟩ := dk_g h
  refine va_iald hx hb hK hP 1 2 rfl rfl q dX6_four_5 ?_
  refine lv_bipush (v := 24) hx hb dX6_four_6 (by decide) ?_
  refine lv_ishl hx hb dX6_four_8 ?_
  refine lv_aload_n hx hb dX6_four_9 rfl (lv_at hl 0 rfl) ?_
  refine va_get (D := D) (ci := 6) (v := .ref a_disk) (C := "ServiceDiskModel") (T := TX6) (N := 24) hx hb hts inX6 hown hK hP 0 rfl rfl 3 (by decide) (hts _ w_740) (fun _ h9 => h9) rfl dX6_four_10 ?_
  refine lv_iload_n hx hb dX6_four_13 rfl (lv_at hl 1 rfl) ?_
  refine lv_iconst (v := 1) hx hb dX6_four_14 (by decide) ?_
  refine lv_iadd hx hb dX6_four_15 ?_
  obtain ⟨q, h⟩ := dk_g h
  refine va_iald hx hb hK hP 1 2 rfl rfl q dX6_four_16 ?_
  refine lv_bipush (v := 16) hx hb dX6_four_17 (by decide) ?_
  refine lv_ishl hx hb dX6_four_19 ?_
  refine lv_ior hx hb dX6_four_20 ?_
  refine lv_aload_n hx hb dX6_four_21 rfl (lv_at hl 0 rfl) ?_
  refine va_get (D := D) (ci := 6) (v := .ref a_disk) (C := "ServiceDiskModel") (T := TX6) (N := 24) hx hb hts inX6 hown hK hP 0 rfl rfl 3 (by decide) (hts _ w_740) (fun _ h9 => h9) rfl dX6_four_22 ?_
  refine lv_iload_n hx hb dX6_four_25 rfl (lv_at hl 1 rfl) ?_
  refine lv_iconst (v := 2) hx hb dX6_four_26 (by decide) ?_
  refine lv_iadd hx hb dX6_four_27 ?_
  obtain ⟨q, h⟩ := dk_g h
  refine va_iald hx hb hK hP 1 2 rfl rfl q dX6_four_28 ?_
  refine lv_bipush (v := 8) hx hb dX6_four_29 (by decide) ?_
  refine lv_ishl hx hb dX6_four_31 ?_
  refine lv_ior hx hb dX6_four_32 ?_
  refine lv_aload_n hx hb dX6_four_33 rfl (lv_at hl 0 rfl) ?_
  refine va_get (D := D) (ci := 6) (v := .ref a_disk) (C := "ServiceDiskModel") (T := TX6) (N := 24) hx hb hts inX6 hown hK hP 0 rfl rfl 3 (by decide) (hts _ w_740) (fun _ h9 => h9) rfl dX6_four_34 ?_
  refine lv_iload_n hx hb dX6_four_37 rfl (lv_at hl 1 rfl) ?_
  refine lv_iconst (v := 3) hx hb dX6_four_38 (by decide) ?_
  refine lv_iadd hx hb dX6_four_39 ?_
  obtain ⟨q, h⟩ := dk_g h
  refine va_iald hx hb hK hP 1 2 rfl rfl q dX6_four_40 ?_
  refine lv_ior hx hb dX6_four_41 ?_
  have h := dk_r h
  subst h
  exact dk_rri hx hb hr hlocks dX6_four_42 rfl
/-! ServiceDiskModel.lengthOf(I)I: ro, frames 0, locals 0 -/
def fX6_lengthOf (v_disk : Nat → Int32) (p1 : Int32) : Option (Int32) :=
  if dk_in (p1 + 4) 32768 then
  if dk_in (p1 + 5) 32768 then
  some (((v_disk (p1 + 4).toNatClampNeg) <<< (8 &&& 31)) ||| (v_disk (p1 + 5).toNatClampNeg))
  else none
  else none
set_option maxHeartbeats 4000000 in
set_option maxRecDepth 100000 in
theorem mX6_lengthOf (l : Launch) (D : va_G) (k : Nat → ClassId) (h0 a_disk a_made a_sectorOf a_placeOf a_manyOf a_there a_waitKind a_waitMany a_waitBytes : Nat) (v_thrown : Int32) (v_sectors : Int32) (v_power : Int32) (v_used : Int32) (v_reserve : Int32) (v_cutWrites : Int32) (v_cutBytes : Int32) (v_rows : Int32) (v_waits : Int32) (v_stateNumber : Int32) (v_stateNow : Int64) (v_second : Int32) (v_repaired : Int32) (v_up : Int32) (v_sent : Int32) (v_disk : Nat → Int32) (v_made : Nat → Int32) (v_sectorOf : Nat → Int32) (v_placeOf : Nat → Int32) (v_manyOf : Nat → Int32) (v_there : Nat → Int32) (v_waitKind : Nat → Int32) (v_waitMany : Nat → Int32) (v_waitBytes : Nat → Int64) (p1 : Int32) (o : Int32) (h : fX6_lengthOf v_disk p1 = some o) : Met l yX6_lengthOf wsX6_lengthOf { frames := 0, cells := 0, slots := 0, locals := 0 } (dk_Pr D k [.ref h0, .int p1] [(h0, .inr (6, [.int v_thrown, .int v_sectors, .int v_power, .ref a_disk, .ref a_made, .int v_used, .int v_reserve, .int v_cutWrites, .int v_cutBytes, .int v_rows, .ref a_sectorOf, .ref a_placeOf, .ref a_manyOf, .ref a_there, .int v_waits, .ref a_waitKind, .ref a_waitMany, .ref a_waitBytes, .int v_stateNumber, .long v_stateNow, .int v_second, .int v_repaired, .int v_up, .int v_sent])), (a_disk, .inl ((k 2), 32768, .inl v_disk)), (a_made, .inl ((k 2), 512, .inl v_made)), (a_sectorOf, .inl ((k 2), 5100, .inl v_sectorOf)), (a_placeOf, .inl ((k 2), 5100, .inl v_placeOf)), (a_manyOf, .inl ((k 2), 5100, .inl v_manyOf)), (a_there, .inl ((k 1), 5100, .inl v_there)), (a_waitKind, .inl ((k 2), 100, .inl v_waitKind)), (a_waitMany, .inl ((k 2), 100, .inl v_waitMany)), (a_waitBytes, .inl ((k 3), 100, .inr (.inl v_waitBytes)))]) (vp_Si (fun r => r = o)) 0 0 (fun _ => False) := by
  unfold fX6_lengthOf at h
  refine dk_ofR (cc := cX6_lengthOf) (maxL := 2) (ret := (some .int)) (lv := [(0, .ref h0), (1, .int p1)]) (by decide) rfl (Nat.le_of_ble_eq_true rfl) rfl ?_
  intro p e s m below meth c C hK hN hP ls hl
  obtain ⟨hx, hb, hr, hml, hown, hts, hlocks⟩ := id C
  refine lv_aload_n hx hb dX6_lengthOf_0 rfl (lv_at hl 0 rfl) ?_
  refine va_get (D := D) (ci := 6) (v := .ref a_disk) (C := "ServiceDiskModel") (T := TX6) (N := 24) hx hb hts inX6 hown hK hP 0 rfl rfl 3 (by decide) (hts _ w_740) (fun _ h9 => h9) rfl dX6_lengthOf_1 ?_
  refine lv_iload_n hx hb dX6_lengthOf_4 rfl (lv_at hl 1 rfl) ?_
  refine lv_iconst (v := 4) hx hb dX6_lengthOf_5 (by decide) ?_
  refine lv_iadd hx hb dX6_lengthOf_6 ?_
  obtain ⟨q, h⟩ := dk_g h
  refine va_iald hx hb hK hP 1 2 rfl rfl q dX6_lengthOf_7 ?_
  refine lv_bipush (v := 8) hx hb dX6_lengthOf_8 (by decide) ?_
  refine lv_ishl hx hb dX6_lengthOf_10 ?_
  refine lv_aload_n hx hb dX6_lengthOf_11 rfl (lv_at hl 0 rfl) ?_
  refine va_get (D := D) (ci := 6) (v := .ref a_disk) (C := "ServiceDiskModel") (T := TX6) (N := 24) hx hb hts inX6 hown hK hP 0 rfl rfl 3 (by decide) (hts _ w_740) (fun _ h9 => h9) rfl dX6_lengthOf_12 ?_
  refine lv_iload_n hx hb dX6_lengthOf_15 rfl (lv_at hl 1 rfl) ?_
  refine lv_iconst (v := 5) hx hb dX6_lengthOf_16 (by decide) ?_
  refine lv_iadd hx hb dX6_lengthOf_17 ?_
  obtain ⟨q, h⟩ := dk_g h
  refine va_iald hx hb hK hP 1 2 rfl rfl q dX6_lengthOf_18 ?_
  refine lv_ior hx hb dX6_lengthOf_19 ?_
  have h := dk_r h
  subst h
  exact dk_rri hx hb hr hlocks dX6_lengthOf_20 rfl
/-! ServiceDiskModel.isSummed(I)Z: ro, frames 1, locals 22 -/
def fX6_isSummed_L4 (v_disk : Nat → Int32) (x1 : Int32) : Nat → (Int32) → (Int32) → Option (Int32 × Int32)
  | 0, _, _ => none
  | n + 1, x2, x3 =>
    if (508 : Int32) ≤ x3 then
      some (x2, x3)
    else
      if dk_in (x1 + x3) 32768 then
      (fX6_with x2 (v_disk (x1 + x3).toNatClampNeg)).bind fun o3 =>
      fX6_isSummed_L4 v_disk x1 n o3 (x3 + 1)
      else none
def fX6_isSummed (v_disk : Nat → Int32) (p1 : Int32) : Option (Int32) :=
  (fX6_isSummed_L4 v_disk p1 dkF 0 0).bind fun o1 =>
  (fX6_four v_disk (p1 + 508)).bind fun o2 =>
  if dk_01 (if o1.1 = o2 then 1 else 0) then some (if o1.1 = o2 then 1 else 0) else none
set_option maxHeartbeats 4000000 in
set_option maxRecDepth 100000 in
theorem lX6_isSummed_4 {p : Program} {l : Launch} {e : Env} {s : State} {m : MethodId} {below : List Frame} {meth : Method} {c : Code} {args : Array Value} {D : va_G} {k : Nat → ClassId} {h0 : Nat} {a_disk : Nat} {a_made : Nat} {a_sectorOf : Nat} {a_placeOf : Nat} {a_manyOf : Nat} {a_there : Nat} {a_waitKind : Nat} {a_waitMany : Nat} {a_waitBytes : Nat} {v_thrown : Int32} {v_sectors : Int32} {v_power : Int32} {v_used : Int32} {v_reserve : Int32} {v_cutWrites : Int32} {v_cutBytes : Int32} {v_rows : Int32} {v_waits : Int32} {v_stateNumber : Int32} {v_stateNow : Int64} {v_second : Int32} {v_repaired : Int32} {v_up : Int32} {v_sent : Int32} {v_disk : Nat → Int32} {v_made : Nat → Int32} {v_sectorOf : Nat → Int32} {v_placeOf : Nat → Int32} {v_manyOf : Nat → Int32} {v_there : Nat → Int32} {v_waitKind : Nat → Int32} {v_waitMany : Nat → Int32} {v_waitBytes : Nat → Int64} {x1 : Int32} {Q : State → Prop} {o : Int32 × Int32} (C : dk_Cx p s m meth c cX6_isSummed (some .boolean) 4 "ServiceDiskModel" dkB args) (hK : va_K D vwCl (dkT k) s) (hN : dk_N s) (hP : va_P D vwCl [(h0, .inr (6, [.int v_thrown, .int v_sectors, .int v_power, .ref a_disk, .ref a_made, .int v_used, .int v_reserve, .int v_cutWrites, .int v_cutBytes, .int v_rows, .ref a_sectorOf, .ref a_placeOf, .ref a_manyOf, .ref a_there, .int v_waits, .ref a_waitKind, .ref a_waitMany, .ref a_waitBytes, .int v_stateNumber, .long v_stateNow, .int v_second, .int v_repaired, .int v_up, .int v_sent])), (a_disk, .inl ((k 2), 32768, .inl v_disk)), (a_made, .inl ((k 2), 512, .inl v_made)), (a_sectorOf, .inl ((k 2), 5100, .inl v_sectorOf)), (a_placeOf, .inl ((k 2), 5100, .inl v_placeOf)), (a_manyOf, .inl ((k 2), 5100, .inl v_manyOf)), (a_there, .inl ((k 1), 5100, .inl v_there)), (a_waitKind, .inl ((k 2), 100, .inl v_waitKind)), (a_waitMany, .inl ((k 2), 100, .inl v_waitMany)), (a_waitBytes, .inl ((k 3), 100, .inr (.inl v_waitBytes)))] s.heap) :
    ∀ (n : Nat) (x2 : Int32) (x3 : Int32), fX6_isSummed_L4 v_disk x1 n x2 x3 = some o → (∀ ls : Array Slot, lv_has ls 4 [(0, .ref h0), (1, .int x1), (2, .int o.1), (3, .int o.2)] → W p l e { frames := 1, cells := 0, slots := 0, locals := 22 } s m args below meth c s.heap [] 0 0 Q (F0 m 30 ls [])) → ∀ ls : Array Slot, lv_has ls 4 [(0, .ref h0), (1, .int x1), (2, .int x2), (3, .int x3)] → W p l e { frames := 1, cells := 0, slots := 0, locals := 22 } s m args below meth c s.heap [] 0 0 Q (F0 m 4 ls []) := by
  obtain ⟨hx, hb, hr, hml, hown, hts, hlocks⟩ := id C
  intro n
  induction n with
  | zero =>
    intro x2 x3 h
    exact dk_n (o := o) h
  | succ n ih =>
    intro x2 x3 h K ls hl
    rw [fX6_isSummed_L4.eq_2] at h
    refine lv_iload_n hx hb dX6_isSummed_4 rfl (lv_at hl 3 rfl) ?_
    refine lv_sipush (v := 508) hx hb dX6_isSummed_5 (by decide) ?_
    refine lv_icmp_ge (tgt := 30) hx hb dX6_isSummed_8 (by decide) (fun q => ?_) (fun q => ?_)
    · replace h := dk_t q h
      have h := dk_r h
      subst h
      exact K ls (lv_sub hl [0, 1, 2, 3] rfl)
    · replace h := dk_f q h
      refine lv_iload_n hx hb dX6_isSummed_11 rfl (lv_at hl 2 rfl) ?_
      refine lv_aload_n hx hb dX6_isSummed_12 rfl (lv_at hl 0 rfl) ?_
      refine va_get (D := D) (ci := 6) (v := .ref a_disk) (C := "ServiceDiskModel") (T := TX6) (N := 24) hx hb hts inX6 hown hK hP 0 rfl rfl 3 (by decide) (hts _ w_740) (fun _ h9 => h9) rfl dX6_isSummed_13 ?_
      refine lv_iload_n hx hb dX6_isSummed_16 rfl (lv_at hl 1 rfl) ?_
      refine lv_iload_n hx hb dX6_isSummed_17 rfl (lv_at hl 3 rfl) ?_
      refine lv_iadd hx hb dX6_isSummed_18 ?_
      obtain ⟨q, h⟩ := dk_g h
      refine va_iald hx hb hK hP 1 2 rfl rfl q dX6_isSummed_19 ?_
      replace h := dk_b h
      obtain ⟨o3, e3, h⟩ := h
      refine dk_cri (va_runS (As := [.int x2, .int (v_disk (x1 + x3).toNatClampNeg)]) (rest := []) ⟨hx, hb, hml, hown, hts⟩ (mX6_with l D k x2 (v_disk (x1 + x3).toNatClampNeg) o3 e3) (va_cwS 2 hts (dk_gS w_857 w_858 w_46 w_859) rfl rfl rfl (by decide +kernel) ⟨Nat.le_of_ble_eq_true rfl, Nat.le_of_ble_eq_true rfl⟩) (dk_psr hK hN hP [] rfl) rfl rfl hl.1 rfl (lv_room (Nat.le_of_ble_eq_true rfl)) dX6_isSummed_20 ⟨Nat.le_of_ble_eq_true rfl, Nat.le_of_ble_eq_true rfl⟩) ?_
      refine lv_istore_n (lv' := [(2, .int o3), (0, .ref h0), (1, .int x1), (3, .int x3)]) hx hb dX6_isSummed_23 rfl hl (by decide) rfl (fun ls hl => ?_)
      refine lv_iinc (v := (x3 + 1)) (lv' := [(3, .int (x3 + 1)), (2, .int o3), (0, .ref h0), (1, .int x1)]) hx hb dX6_isSummed_24 hl (k := 3) rfl rfl (by decide) rfl (fun ls hl => ?_)
      refine lv_goto (tgt := 4) hx hb dX6_isSummed_27 (by decide) ?_
      exact ih o3 (x3 + 1) h K ls (lv_sub hl [2, 3, 1, 0] rfl)
set_option maxHeartbeats 4000000 in
set_option maxRecDepth 100000 in
theorem mX6_isSummed (l : Launch) (D : va_G) (k : Nat → ClassId) (h0 a_disk a_made a_sectorOf a_placeOf a_manyOf a_there a_waitKind a_waitMany a_waitBytes : Nat) (v_thrown : Int32) (v_sectors : Int32) (v_power : Int32) (v_used : Int32) (v_reserve : Int32) (v_cutWrites : Int32) (v_cutBytes : Int32) (v_rows : Int32) (v_waits : Int32) (v_stateNumber : Int32) (v_stateNow : Int64) (v_second : Int32) (v_repaired : Int32) (v_up : Int32) (v_sent : Int32) (v_disk : Nat → Int32) (v_made : Nat → Int32) (v_sectorOf : Nat → Int32) (v_placeOf : Nat → Int32) (v_manyOf : Nat → Int32) (v_there : Nat → Int32) (v_waitKind : Nat → Int32) (v_waitMany : Nat → Int32) (v_waitBytes : Nat → Int64) (p1 : Int32) (o : Int32) (h : fX6_isSummed v_disk p1 = some o) : Met l yX6_isSummed wsX6_isSummed { frames := 1, cells := 0, slots := 0, locals := 22 } (dk_Pr D k [.ref h0, .int p1] [(h0, .inr (6, [.int v_thrown, .int v_sectors, .int v_power, .ref a_disk, .ref a_made, .int v_used, .int v_reserve, .int v_cutWrites, .int v_cutBytes, .int v_rows, .ref a_sectorOf, .ref a_placeOf, .ref a_manyOf, .ref a_there, .int v_waits, .ref a_waitKind, .ref a_waitMany, .ref a_waitBytes, .int v_stateNumber, .long v_stateNow, .int v_second, .int v_repaired, .int v_up, .int v_sent])), (a_disk, .inl ((k 2), 32768, .inl v_disk)), (a_made, .inl ((k 2), 512, .inl v_made)), (a_sectorOf, .inl ((k 2), 5100, .inl v_sectorOf)), (a_placeOf, .inl ((k 2), 5100, .inl v_placeOf)), (a_manyOf, .inl ((k 2), 5100, .inl v_manyOf)), (a_there, .inl ((k 1), 5100, .inl v_there)), (a_waitKind, .inl ((k 2), 100, .inl v_waitKind)), (a_waitMany, .inl ((k 2), 100, .inl v_waitMany)), (a_waitBytes, .inl ((k 3), 100, .inr (.inl v_waitBytes)))]) (vp_Si (fun r => r = o)) 0 0 (fun _ => False) := by
  unfold fX6_isSummed at h
  refine dk_ofR (cc := cX6_isSummed) (maxL := 4) (ret := (some .boolean)) (lv := [(0, .ref h0), (1, .int p1)]) (by decide) rfl (Nat.le_of_ble_eq_true rfl) rfl ?_
  intro p e s m below meth c C hK hN hP ls hl
  obtain ⟨hx, hb, hr, hml, hown, hts, hlocks⟩ := id C
  refine lv_iconst (v := 0) hx hb dX6_isSummed_0 (by decide) ?_
  refine lv_istore_n (lv' := [(2, .int 0), (0, .ref h0), (1, .int p1)]) hx hb dX6_isSummed_1 rfl hl (by decide) rfl (fun ls hl => ?_)
  refine lv_iconst (v := 0) hx hb dX6_isSummed_2 (by decide) ?_
  refine lv_istore_n (lv' := [(3, .int 0), (2, .int 0), (0, .ref h0), (1, .int p1)]) hx hb dX6_isSummed_3 rfl hl (by decide) rfl (fun ls hl => ?_)
  replace h := dk_b h
  obtain ⟨o1, e1, h⟩ := h
  refine lX6_isSummed_4 C hK hN hP _ 0 0  e1 (fun ls hl => ?_) ls (lv_sub hl [2, 3, 1, 0] rfl)
  have hl : lv_has ls 4 [(0, .ref h0), (1, .int p1), (2, .int o1.1), (3, .int o1.2)] := hl
  refine lv_iload_n hx hb dX6_isSummed_30 rfl (lv_at hl 2 rfl) ?_
  refine lv_aload_n hx hb dX6_isSummed_31 rfl (lv_at hl 0 rfl) ?_
  refine lv_iload_n hx hb dX6_isSummed_32 rfl (lv_at hl 1 rfl) ?_
  refine lv_sipush (v := 508) hx hb dX6_isSummed_33 (by decide) ?_
  refine lv_iadd hx hb dX6_isSummed_36 ?_
  replace h := dk_b h
  obtain ⟨o2, e2, h⟩ := h
  refine dk_cri (va_runV (As := [.int (p1 + 508)]) (rest := [.int o1.1]) ⟨hx, hb, hml, hown, hts⟩ (mX6_four l D k h0 a_disk a_made a_sectorOf a_placeOf a_manyOf a_there a_waitKind a_waitMany a_waitBytes v_thrown v_sectors v_power v_used v_reserve v_cutWrites v_cutBytes v_rows v_waits v_stateNumber v_stateNow v_second v_repaired v_up v_sent v_disk v_made v_sectorOf v_placeOf v_manyOf v_there v_waitKind v_waitMany v_waitBytes (p1 + 508) o2 e2) (cwV 1 hts (dk_gV w_904 w_906 w_32 w_46 w_907) rfl rfl rfl (by decide +kernel) ⟨Nat.le_of_ble_eq_true rfl, Nat.le_of_ble_eq_true rfl⟩) (dk_pvr hK hN hP [0, 1, 2, 3, 4, 5, 6, 7, 8, 9] rfl rfl rfl) rfl rfl hl.1 rfl (lv_room (Nat.le_of_ble_eq_true rfl)) dX6_isSummed_37 ⟨Nat.le_of_ble_eq_true rfl, Nat.le_of_ble_eq_true rfl⟩) ?_
  refine dk_jn (F0 m 48 ls [.int (if o1.1 = o2 then 1 else 0)]) (fun K => ?_) ?_
  · refine lv_icmp_ne (tgt := 47) hx hb dX6_isSummed_40 (by decide) (fun q1 => ?_) (fun q1 => ?_)
    · refine lv_iconst (v := 0) hx hb dX6_isSummed_47 (by decide) ?_
      have K := K
      rw [if_neg q1] at K
      exact K
    · refine lv_iconst (v := 1) hx hb dX6_isSummed_43 (by decide) ?_
      refine lv_goto (tgt := 48) hx hb dX6_isSummed_44 (by decide) ?_
      have K := K
      rw [if_pos q1] at K
      exact K
  obtain ⟨q, h⟩ := dk_g h
  have h := dk_r h
  subst h
  exact dk_rrz hx hb hr q hlocks dX6_isSummed_48 rfl
/-! ServiceDiskModel.rowsOn(I)I: ro, frames 1, locals 22 -/
def fX6_rowsOn_L32 (v_disk : Nat → Int32) (x2 : Int32) : Nat → (Int32) → (Int32) → Option (Int32)
  | 0, _, _ => none
  | n + 1, x3, x4 =>
    if x2 ≤ x4 then
      some x3
    else
      if x2 < (x4 + 2) then
        some 0
      else
        if dk_in x4 32768 then
        (fX6_in (v_disk x4.toNatClampNeg) 0 7).bind fun o3 =>
        if o3 = 0 then
          some 0
        else
          if dk_in (x4 + 1) 32768 then
          (fX6_in (v_disk (x4 + 1).toNatClampNeg) 1 8).bind fun o4 =>
          if o4 = 0 then
            some 0
          else
            if dk_in (x4 + 1) 32768 then
            if ((if x2 < ((x4 + 2) + (v_disk (x4 + 1).toNatClampNeg)) then 0 else 1) : Int32) = 0 then
              some 0
            else
              if dk_in (x4 + 1) 32768 then
              fX6_rowsOn_L32 v_disk x2 n (x3 + 1) (x4 + (2 + (v_disk (x4 + 1).toNatClampNeg)))
              else none
            else none
          else none
        else none
def fX6_rowsOn (v_disk : Nat → Int32) (p1 : Int32) : Option (Int32) :=
  (fX6_lengthOf v_disk p1).bind fun o1 =>
  (fX6_lengthOf v_disk p1).bind fun o2 =>
  if o2 ≤ (502 : Int32) then
    fX6_rowsOn_L32 v_disk ((p1 + 6) + o1) dkF 0 (p1 + 6)
  else
    some 0
set_option maxHeartbeats 4000000 in
set_option maxRecDepth 100000 in
theorem lX6_rowsOn_32 {p : Program} {l : Launch} {e : Env} {s : State} {m : MethodId} {below : List Frame} {meth : Method} {c : Code} {args : Array Value} {D : va_G} {k : Nat → ClassId} {h0 : Nat} {a_disk : Nat} {a_made : Nat} {a_sectorOf : Nat} {a_placeOf : Nat} {a_manyOf : Nat} {a_there : Nat} {a_waitKind : Nat} {a_waitMany : Nat} {a_waitBytes : Nat} {v_thrown : Int32} {v_sectors : Int32} {v_power : Int32} {v_used : Int32} {v_reserve : Int32} {v_cutWrites : Int32} {v_cutBytes : Int32} {v_rows : Int32} {v_waits : Int32} {v_stateNumber : Int32} {v_stateNow : Int64} {v_second : Int32} {v_repaired : Int32} {v_up : Int32} {v_sent : Int32} {v_disk : Nat → Int32} {v_made : Nat → Int32} {v_sectorOf : Nat → Int32} {v_placeOf : Nat → Int32} {v_manyOf : Nat → Int32} {v_there : Nat → Int32} {v_waitKind : Nat → Int32} {v_waitMany : Nat → Int32} {v_waitBytes : Nat → Int64} {x2 : Int32} {o : Int32} (C : dk_Cx p s m meth c cX6_rowsOn (some .int) 6 "ServiceDiskModel" dkB args) (hK : va_K D vwCl (dkT k) s) (hN : dk_N s) (hP : va_P D vwCl [(h0, .inr (6, [.int v_thrown, .int v_sectors, .int v_power, .ref a_disk, .ref a_made, .int v_used, .int v_reserve, .int v_cutWrites, .int v_cutBytes, .int v_rows, .ref a_sectorOf, .ref a_placeOf, .ref a_manyOf, .ref a_there, .int v_waits, .ref a_waitKind, .ref a_waitMany, .ref a_waitBytes, .int v_stateNumber, .long v_stateNow, .int v_second, .int v_repaired, .int v_up, .int v_sent])), (a_disk, .inl ((k 2), 32768, .inl v_disk)), (a_made, .inl ((k 2), 512, .inl v_made)), (a_sectorOf, .inl ((k 2), 5100, .inl v_sectorOf)), (a_placeOf, .inl ((k 2), 5100, .inl v_placeOf)), (a_manyOf, .inl ((k 2), 5100, .inl v_manyOf)), (a_there, .inl ((k 1), 5100, .inl v_there)), (a_waitKind, .inl ((k 2), 100, .inl v_waitKind)), (a_waitMany, .inl ((k 2), 100, .inl v_waitMany)), (a_waitBytes, .inl ((k 3), 100, .inr (.inl v_waitBytes)))] s.heap) :
    ∀ (n : Nat) (x3 : Int32) (x4 : Int32), fX6_rowsOn_L32 v_disk x2 n x3 x4 = some o → ∀ ls : Array Slot, lv_has ls 6 [(0, .ref h0), (2, .int x2), (3, .int x3), (4, .int x4)] → W p l e { frames := 1, cells := 0, slots := 0, locals := 22 } s m args below meth c s.heap [] 0 0 (MQ below (vp_Si (fun r => r = o)) args s 0 0 (fun _ => False)) (F0 m 32 ls []) := by
  obtain ⟨hx, hb, hr, hml, hown, hts, hlocks⟩ := id C
  intro n
  induction n with
  | zero =>
    intro x3 x4 h
    exact dk_n (o := o) h
  | succ n ih =>
    intro x3 x4 h ls hl
    rw [fX6_rowsOn_L32.eq_2] at h
    refine lv_iload hx hb dX6_rowsOn_32 (lv_at hl 3 rfl) ?_
    refine lv_iload_n hx hb dX6_rowsOn_34 rfl (lv_at hl 1 rfl) ?_
    refine lv_icmp_ge (tgt := 134) hx hb dX6_rowsOn_35 (by decide) (fun q => ?_) (fun q => ?_)
    · replace h := dk_t q h
      refine lv_iload_n hx hb dX6_rowsOn_134 rfl (lv_at hl 2 rfl) ?_
      have h := dk_r h
      subst h
      exact dk_rri hx hb hr hlocks dX6_rowsOn_135 rfl
    · replace h := dk_f q h
      refine lv_iload hx hb dX6_rowsOn_38 (lv_at hl 3 rfl) ?_
      refine lv_iconst (v := 2) hx hb dX6_rowsOn_40 (by decide) ?_
      refine lv_iadd hx hb dX6_rowsOn_41 ?_
      refine lv_iload_n hx hb dX6_rowsOn_42 rfl (lv_at hl 1 rfl) ?_
      refine lv_icmp_gt (tgt := 102) hx hb dX6_rowsOn_43 (by decide) (fun q => ?_) (fun q => ?_)
      · replace h := dk_t q h
        refine lv_iconst (v := 0) hx hb dX6_rowsOn_102 (by decide) ?_
        refine lv_istore (lv' := [(5, .int 0), (0, .ref h0), (2, .int x2), (3, .int x3), (4, .int x4)]) hx hb dX6_rowsOn_103 hl (by decide) rfl (fun ls hl => ?_)
        refine lv_iload hx hb dX6_rowsOn_105 (lv_at hl 0 rfl) ?_
        refine lv_if_ne (tgt := 112) hx hb dX6_rowsOn_107 (by decide) (fun q => absurd q (by decide)) (fun _ => ?_)
        refine lv_iconst (v := 0) hx hb dX6_rowsOn_110 (by decide) ?_
        have h := dk_r h
        subst h
        exact dk_rri hx hb hr hlocks dX6_rowsOn_111 rfl
      · replace h := dk_f q h
        refine lv_aload_n hx hb dX6_rowsOn_46 rfl (lv_at hl 0 rfl) ?_
        refine va_get (D := D) (ci := 6) (v := .ref a_disk) (C := "ServiceDiskModel") (T := TX6) (N := 24) hx hb hts inX6 hown hK hP 0 rfl rfl 3 (by decide) (hts _ w_740) (fun _ h9 => h9) rfl dX6_rowsOn_47 ?_
        refine lv_iload hx hb dX6_rowsOn_50 (lv_at hl 3 rfl) ?_
        obtain ⟨q, h⟩ := dk_g h
        refine va_iald hx hb hK hP 1 2 rfl rfl q dX6_rowsOn_52 ?_
        refine lv_iconst (v := 0) hx hb dX6_rowsOn_53 (by decide) ?_
        refine lv_bipush (v := 7) hx hb dX6_rowsOn_54 (by decide) ?_
        replace h := dk_b h
        obtain ⟨o3, e3, h⟩ := h
        refine dk_cri (va_runS (As := [.int (v_disk x4.toNatClampNeg), .int 0, .int 7]) (rest := []) ⟨hx, hb, hml, hown, hts⟩ (mX6_in l D k (v_disk x4.toNatClampNeg) 0 7 o3 e3) (va_cwS 3 hts (dk_gS w_818 w_819 w_46 w_820) rfl rfl rfl (by decide +kernel) ⟨Nat.le_of_ble_eq_true rfl, Nat.le_of_ble_eq_true rfl⟩) (dk_psr hK hN hP [] rfl) rfl rfl hl.1 rfl (lv_room (Nat.le_of_ble_eq_true rfl)) dX6_rowsOn_56 ⟨Nat.le_of_ble_eq_true rfl, Nat.le_of_ble_eq_true rfl⟩) ?_
        refine lv_if_eq (tgt := 102) hx hb dX6_rowsOn_59 (by decide) (fun q => ?_) (fun q => ?_)
        · replace h := dk_t q h
          refine lv_iconst (v := 0) hx hb dX6_rowsOn_102 (by decide) ?_
          refine lv_istore (lv' := [(5, .int 0), (0, .ref h0), (2, .int x2), (3, .int x3), (4, .int x4)]) hx hb dX6_rowsOn_103 hl (by decide) rfl (fun ls hl => ?_)
          refine lv_iload hx hb dX6_rowsOn_105 (lv_at hl 0 rfl) ?_
          refine lv_if_ne (tgt := 112) hx hb dX6_rowsOn_107 (by decide) (fun q => absurd q (by decide)) (fun _ => ?_)
          refine lv_iconst (v := 0) hx hb dX6_rowsOn_110 (by decide) ?_
          have h := dk_r h
          subst h
          exact dk_rri hx hb hr hlocks dX6_rowsOn_111 rfl
        · replace h := dk_f q h
          refine lv_aload_n hx hb dX6_rowsOn_62 rfl (lv_at hl 0 rfl) ?_
          refine va_get (D := D) (ci := 6) (v := .ref a_disk) (C := "ServiceDiskModel") (T := TX6) (N := 24) hx hb hts inX6 hown hK hP 0 rfl rfl 3 (by decide) (hts _ w_740) (fun _ h9 => h9) rfl dX6_rowsOn_63 ?_
          refine lv_iload hx hb dX6_rowsOn_66 (lv_at hl 3 rfl) ?_
          refine lv_iconst (v := 1) hx hb dX6_rowsOn_68 (by decide) ?_
          refine lv_iadd hx hb dX6_rowsOn_69 ?_
          obtain ⟨q, h⟩ := dk_g h
          refine va_iald hx hb hK hP 1 2 rfl rfl q dX6_rowsOn_70 ?_
          refine lv_iconst (v := 1) hx hb dX6_rowsOn_71 (by decide) ?_
          refine lv_bipush (v := 8) hx hb dX6_rowsOn_72 (by decide) ?_
          replace h := dk_b h
          obtain ⟨o4, e4, h⟩ := h
          refine dk_cri (va_runS (As := [.int (v_disk (x4 + 1).toNatClampNeg), .int 1, .int 8]) (rest := []) ⟨hx, hb, hml, hown, hts⟩ (mX6_in l D k (v_disk (x4 + 1).toNatClampNeg) 1 8 o4 e4) (va_cwS 3 hts (dk_gS w_818 w_819 w_46 w_820) rfl rfl rfl (by decide +kernel) ⟨Nat.le_of_ble_eq_true rfl, Nat.le_of_ble_eq_true rfl⟩) (dk_psr hK hN hP [] rfl) rfl rfl hl.1 rfl (lv_room (Nat.le_of_ble_eq_true rfl)) dX6_rowsOn_74 ⟨Nat.le_of_ble_eq_true rfl, Nat.le_of_ble_eq_true rfl⟩) ?_
          refine lv_if_eq (tgt := 102) hx hb dX6_rowsOn_77 (by decide) (fun q => ?_) (fun q => ?_)
          · replace h := dk_t q h
            refine lv_iconst (v := 0) hx hb dX6_rowsOn_102 (by decide) ?_
            refine lv_istore (lv' := [(5, .int 0), (0, .ref h0), (2, .int x2), (3, .int x3), (4, .int x4)]) hx hb dX6_rowsOn_103 hl (by decide) rfl (fun ls hl => ?_)
            refine lv_iload hx hb dX6_rowsOn_105 (lv_at hl 0 rfl) ?_
            refine lv_if_ne (tgt := 112) hx hb dX6_rowsOn_107 (by decide) (fun q => absurd q (by decide)) (fun _ => ?_)
            refine lv_iconst (v := 0) hx hb dX6_rowsOn_110 (by decide) ?_
            have h := dk_r h
            subst h
            exact dk_rri hx hb hr hlocks dX6_rowsOn_111 rfl
          · replace h := dk_f q h
            refine lv_iload hx hb dX6_rowsOn_80 (lv_at hl 3 rfl) ?_
            refine lv_iconst (v := 2) hx hb dX6_rowsOn_82 (by decide) ?_
            refine lv_iadd hx hb dX6_rowsOn_83 ?_
            refine lv_aload_n hx hb dX6_rowsOn_84 rfl (lv_at hl 0 rfl) ?_
            refine va_get (D := D) (ci := 6) (v := .ref a_disk) (C := "ServiceDiskModel") (T := TX6) (N := 24) hx hb hts inX6 hown hK hP 0 rfl rfl 3 (by decide) (hts _ w_740) (fun _ h9 => h9) rfl dX6_rowsOn_85 ?_
            refine lv_iload hx hb dX6_rowsOn_88 (lv_at hl 3 rfl) ?_
            refine lv_iconst (v := 1) hx hb dX6_rowsOn_90 (by decide) ?_
            refine lv_iadd hx hb dX6_rowsOn_91 ?_
            obtain ⟨q, h⟩ := dk_g h
            refine va_iald hx hb hK hP 1 2 rfl rfl q dX6_rowsOn_92 ?_
            refine lv_iadd hx hb dX6_rowsOn_93 ?_
            refine lv_iload_n hx hb dX6_rowsOn_94 rfl (lv_at hl 1 rfl) ?_
            refine dk_jn (F0 m 103 ls [.int (if x2 < ((x4 + 2) + (v_disk (x4 + 1).toNatClampNeg)) then 0 else 1)]) (fun K => ?_) ?_
            · refine lv_icmp_gt (tgt := 102) hx hb dX6_rowsOn_95 (by decide) (fun q1 => ?_) (fun q1 => ?_)
              · refine lv_iconst (v := 0) hx hb dX6_rowsOn_102 (by decide) ?_
                have K := K
                rw [if_pos q1] at K
                exact K
              · refine lv_iconst (v := 1) hx hb dX6_rowsOn_98 (by decide) ?_
                refine lv_goto (tgt := 103) hx hb dX6_rowsOn_99 (by decide) ?_
                have K := K
                rw [if_neg q1] at K
                exact K
            refine lv_istore (lv' := [(5, .int (if x2 < ((x4 + 2) + (v_disk (x4 + 1).toNatClampNeg)) then 0 else 1)), (0, .ref h0), (2, .int x2), (3, .int x3), (4, .int x4)]) hx hb dX6_rowsOn_103 hl (by decide) rfl (fun ls hl => ?_)
            refine lv_iload hx hb dX6_rowsOn_105 (lv_at hl 0 rfl) ?_
            refine lv_if_ne (tgt := 112) hx hb dX6_rowsOn_107 (by decide) (fun q => ?_) (fun q => ?_)
            · replace h := dk_f q h
              refine lv_iload hx hb dX6_rowsOn_112 (lv_at hl 4 rfl) ?_
              refine lv_iconst (v := 2) hx hb dX6_rowsOn_114 (by decide) ?_
              refine lv_aload_n hx hb dX6_rowsOn_115 rfl (lv_at hl 1 rfl) ?_
              refine va_get (D := D) (ci := 6) (v := .ref a_disk) (C := "ServiceDiskModel") (T := TX6) (N := 24) hx hb hts inX6 hown hK hP 0 rfl rfl 3 (by decide) (hts _ w_740) (fun _ h9 => h9) rfl dX6_rowsOn_116 ?_
              refine lv_iload hx hb dX6_rowsOn_119 (lv_at hl 4 rfl) ?_
              refine lv_iconst (v := 1) hx hb dX6_rowsOn_121 (by decide) ?_
              refine lv_iadd hx hb dX6_rowsOn_122 ?_
              obtain ⟨q, h⟩ := dk_g h
              refine va_iald hx hb hK hP 1 2 rfl rfl q dX6_rowsOn_123 ?_
              refine lv_iadd hx hb dX6_rowsOn_124 ?_
              refine lv_iadd hx hb dX6_rowsOn_125 ?_
              refine lv_istore (lv' := [(4, .int (x4 + (2 + (v_disk (x4 + 1).toNatClampNeg)))), (5, .int (if x2 < ((x4 + 2) + (v_disk (x4 + 1).toNatClampNeg)) then 0 else 1)), (0, .ref h0), (2, .int x2), (3, .int x3)]) hx hb dX6_rowsOn_126 hl (by decide) rfl (fun ls hl => ?_)
              refine lv_iinc (v := (x3 + 1)) (lv' := [(3, .int (x3 + 1)), (4, .int (x4 + (2 + (v_disk (x4 + 1).toNatClampNeg)))), (5, .int (if x2 < ((x4 + 2) + (v_disk (x4 + 1).toNatClampNeg)) then 0 else 1)), (0, .ref h0), (2, .int x2)]) hx hb dX6_rowsOn_128 hl (k := 4) rfl rfl (by decide) rfl (fun ls hl => ?_)
              refine lv_goto (tgt := 32) hx hb dX6_rowsOn_131 (by decide) ?_
              exact ih (x3 + 1) (x4 + (2 + (v_disk (x4 + 1).toNatClampNeg))) h ls (lv_sub hl [3, 4, 0, 1] rfl)
            · replace h := dk_t q h
              refine lv_iconst (v := 0) hx hb dX6_rowsOn_110 (by decide) ?_
              have h := dk_r h
              subst h
              exact dk_rri hx hb hr hlocks dX6_rowsOn_111 rfl
set_option maxHeartbeats 4000000 in
set_option maxRecDepth 100000 in
theorem mX6_rowsOn (l : Launch) (D : va_G) (k : Nat → ClassId) (h0 a_disk a_made a_sectorOf a_placeOf a_manyOf a_there a_waitKind a_waitMany a_waitBytes : Nat) (v_thrown : Int32) (v_sectors : Int32) (v_power : Int32) (v_used : Int32) (v_reserve : Int32) (v_cutWrites : Int32) (v_cutBytes : Int32) (v_rows : Int32) (v_waits : Int32) (v_stateNumber : Int32) (v_stateNow : Int64) (v_second : Int32) (v_repaired : Int32) (v_up : Int32) (v_sent : Int32) (v_disk : Nat → Int32) (v_made : Nat → Int32) (v_sectorOf : Nat → Int32) (v_placeOf : Nat → Int32) (v_manyOf : Nat → Int32) (v_there : Nat → Int32) (v_waitKind : Nat → Int32) (v_waitMany : Nat → Int32) (v_waitBytes : Nat → Int64) (p1 : Int32) (o : Int32) (h : fX6_rowsOn v_disk p1 = some o) : Met l yX6_rowsOn wsX6_rowsOn { frames := 1, cells := 0, slots := 0, locals := 22 } (dk_Pr D k [.ref h0, .int p1] [(h0, .inr (6, [.int v_thrown, .int v_sectors, .int v_power, .ref a_disk, .ref a_made, .int v_used, .int v_reserve, .int v_cutWrites, .int v_cutBytes, .int v_rows, .ref a_sectorOf, .ref a_placeOf, .ref a_manyOf, .ref a_there, .int v_waits, .ref a_waitKind, .ref a_waitMany, .ref a_waitBytes, .int v_stateNumber, .long v_stateNow, .int v_second, .int v_repaired, .int v_up, .int v_sent])), (a_disk, .inl ((k 2), 32768, .inl v_disk)), (a_made, .inl ((k 2), 512, .inl v_made)), (a_sectorOf, .inl ((k 2), 5100, .inl v_sectorOf)), (a_placeOf, .inl ((k 2), 5100, .inl v_placeOf)), (a_manyOf, .inl ((k 2), 5100, .inl v_manyOf)), (a_there, .inl ((k 1), 5100, .inl v_there)), (a_waitKind, .inl ((k 2), 100, .inl v_waitKind)), (a_waitMany, .inl ((k 2), 100, .inl v_waitMany)), (a_waitBytes, .inl ((k 3), 100, .inr (.inl v_waitBytes)))]) (vp_Si (fun r => r = o)) 0 0 (fun _ => False) := by
  unfold fX6_rowsOn at h
  refine dk_ofR (cc := cX6_rowsOn) (maxL := 6) (ret := (some .int)) (lv := [(0, .ref h0), (1, .int p1)]) (by decide) rfl (Nat.le_of_ble_eq_true rfl) rfl ?_
  intro p e s m below meth c C hK hN hP ls hl
  obtain ⟨hx, hb, hr, hml, hown, hts, hlocks⟩ := id C
  refine lv_iload_n hx hb dX6_rowsOn_0 rfl (lv_at hl 1 rfl) ?_
  refine lv_bipush (v := 6) hx hb dX6_rowsOn_1 (by decide) ?_
  refine lv_iadd hx hb dX6_rowsOn_3 ?_
  refine lv_aload_n hx hb dX6_rowsOn_4 rfl (lv_at hl 0 rfl) ?_
  refine lv_iload_n hx hb dX6_rowsOn_5 rfl (lv_at hl 1 rfl) ?_
  replace h := dk_b h
  obtain ⟨o1, e1, h⟩ := h
  refine dk_cri (va_runV (As := [.int p1]) (rest := [.int (p1 + 6)]) ⟨hx, hb, hml, hown, hts⟩ (mX6_lengthOf l D k h0 a_disk a_made a_sectorOf a_placeOf a_manyOf a_there a_waitKind a_waitMany a_waitBytes v_thrown v_sectors v_power v_used v_reserve v_cutWrites v_cutBytes v_rows v_waits v_stateNumber v_stateNow v_second v_repaired v_up v_sent v_disk v_made v_sectorOf v_placeOf v_manyOf v_there v_waitKind v_waitMany v_waitBytes p1 o1 e1) (cwV 1 hts (dk_gV w_908 w_910 w_33 w_46 w_911) rfl rfl rfl (by decide +kernel) ⟨Nat.le_of_ble_eq_true rfl, Nat.le_of_ble_eq_true rfl⟩) (dk_pvr hK hN hP [0, 1, 2, 3, 4, 5, 6, 7, 8, 9] rfl rfl rfl) rfl rfl hl.1 rfl (lv_room (Nat.le_of_ble_eq_true rfl)) dX6_rowsOn_6 ⟨Nat.le_of_ble_eq_true rfl, Nat.le_of_ble_eq_true rfl⟩) ?_
  refine lv_iadd hx hb dX6_rowsOn_9 ?_
  refine lv_istore_n (lv' := [(2, .int ((p1 + 6) + o1)), (0, .ref h0), (1, .int p1)]) hx hb dX6_rowsOn_10 rfl hl (by decide) rfl (fun ls hl => ?_)
  refine lv_aload_n hx hb dX6_rowsOn_11 rfl (lv_at hl 1 rfl) ?_
  refine lv_iload_n hx hb dX6_rowsOn_12 rfl (lv_at hl 2 rfl) ?_
  replace h := dk_b h
  obtain ⟨o2, e2, h⟩ := h
  refine dk_cri (va_runV (As := [.int p1]) (rest := []) ⟨hx, hb, hml, hown, hts⟩ (mX6_lengthOf l D k h0 a_disk a_made a_sectorOf a_placeOf a_manyOf a_there a_waitKind a_waitMany a_waitBytes v_thrown v_sectors v_power v_used v_reserve v_cutWrites v_cutBytes v_rows v_waits v_stateNumber v_stateNow v_second v_repaired v_up v_sent v_disk v_made v_sectorOf v_placeOf v_manyOf v_there v_waitKind v_waitMany v_waitBytes p1 o2 e2) (cwV 1 hts (dk_gV w_908 w_910 w_33 w_46 w_911) rfl rfl rfl (by decide +kernel) ⟨Nat.le_of_ble_eq_true rfl, Nat.le_of_ble_eq_true rfl⟩) (dk_pvr hK hN hP [0, 1, 2, 3, 4, 5, 6, 7, 8, 9] rfl rfl rfl) rfl rfl hl.1 rfl (lv_room (Nat.le_of_ble_eq_true rfl)) dX6_rowsOn_13 ⟨Nat.le_of_ble_eq_true rfl, Nat.le_of_ble_eq_true rfl⟩) ?_
  refine lv_sipush (v := 502) hx hb dX6_rowsOn_16 (by decide) ?_
  refine lv_icmp_le (tgt := 24) hx hb dX6_rowsOn_19 (by decide) (fun q => ?_) (fun q => ?_)
  · replace h := dk_t q h
    refine lv_iconst (v := 0) hx hb dX6_rowsOn_24 (by decide) ?_
    refine lv_istore_n (lv' := [(3, .int 0), (2, .int ((p1 + 6) + o1)), (0, .ref h0), (1, .int p1)]) hx hb dX6_rowsOn_25 rfl hl (by decide) rfl (fun ls hl => ?_)
    refine lv_iload_n hx hb dX6_rowsOn_26 rfl (lv_at hl 3 rfl) ?_
    refine lv_bipush (v := 6) hx hb dX6_rowsOn_27 (by decide) ?_
    refine lv_iadd hx hb dX6_rowsOn_29 ?_
    refine lv_istore (lv' := [(4, .int (p1 + 6)), (3, .int 0), (2, .int ((p1 + 6) + o1)), (0, .ref h0), (1, .int p1)]) hx hb dX6_rowsOn_30 hl (by decide) rfl (fun ls hl => ?_)
    exact lX6_rowsOn_32 C hK hN hP _ 0 (p1 + 6) h ls (lv_sub hl [3, 2, 1, 0] rfl)
  · replace h := dk_f q h
    refine lv_iconst (v := 0) hx hb dX6_rowsOn_22 (by decide) ?_
    have h := dk_r h
    subst h
    exact dk_rri hx hb hr hlocks dX6_rowsOn_23 rfl
/-! ServiceDiskModel.isRight(II)Z: ro, frames 2, locals 47 -/
def fX6_isRight (v_sectors : Int32) (v_disk : Nat → Int32) (p1 : Int32) (p2 : Int32) : Option (Int32) :=
  (fX6_at p1 p2).bind fun o1 =>
  (fX6_isSummed v_disk o1).bind fun o2 =>
  if o2 = 0 then
    some 0
  else
    if p2 < (v_sectors - 2) then
      (fX6_four v_disk o1).bind fun o3 =>
      if o3 = (p2 + 1) then
        (fX6_rowsOn v_disk o1).bind fun o4 =>
        if dk_01 (if o4 ≤ 0 then 0 else 1) then some (if o4 ≤ 0 then 0 else 1) else none
      else
        some 0
    else
      (fX6_four v_disk o1).bind fun o5 =>
      if o5 = 0 then
        some 0
      else
        (fX6_lengthOf v_disk o1).bind fun o6 =>
        if dk_01 (if o6 = (8 : Int32) then 1 else 0) then some (if o6 = (8 : Int32) then 1 else 0) else none
set_option maxHeartbeats 4000000 in
set_option maxRecDepth 100000 in
theorem mX6_isRight (l : Launch) (D : va_G) (k : Nat → ClassId) (h0 a_disk a_made a_sectorOf a_placeOf a_manyOf a_there a_waitKind a_waitMany a_waitBytes : Nat) (v_thrown : Int32) (v_sectors : Int32) (v_power : Int32) (v_used : Int32) (v_reserve : Int32) (v_cutWrites : Int32) (v_cutBytes : Int32) (v_rows : Int32) (v_waits : Int32) (v_stateNumber : Int32) (v_stateNow : Int64) (v_second : Int32) (v_repaired : Int32) (v_up : Int32) (v_sent : Int32) (v_disk : Nat → Int32) (v_made : Nat → Int32) (v_sectorOf : Nat → Int32) (v_placeOf : Nat → Int32) (v_manyOf : Nat → Int32) (v_there : Nat → Int32) (v_waitKind : Nat → Int32) (v_waitMany : Nat → Int32) (v_waitBytes : Nat → Int64) (p1 : Int32) (p2 : Int32) (o : Int32) (h : fX6_isRight v_sectors v_disk p1 p2 = some o) : Met l yX6_isRight wsX6_isRight { frames := 2, cells := 0, slots := 0, locals := 47 } (dk_Pr D k [.ref h0, .int p1, .int p2] [(h0, .inr (6, [.int v_thrown, .int v_sectors, .int v_power, .ref a_disk, .ref a_made, .int v_used, .int v_reserve, .int v_cutWrites, .int v_cutBytes, .int v_rows, .ref a_sectorOf, .ref a_placeOf, .ref a_manyOf, .ref a_there, .int v_waits, .ref a_waitKind, .ref a_waitMany, .ref a_waitBytes, .int v_stateNumber, .long v_stateNow, .int v_second, .int v_repaired, .int v_up, .int v_sent])), (a_disk, .inl ((k 2), 32768, .inl v_disk)), (a_made, .inl ((k 2), 512, .inl v_made)), (a_sectorOf, .inl ((k 2), 5100, .inl v_sectorOf)), (a_placeOf, .inl ((k 2), 5100, .inl v_placeOf)), (a_manyOf, .inl ((k 2), 5100, .inl v_manyOf)), (a_there, .inl ((k 1), 5100, .inl v_there)), (a_waitKind, .inl ((k 2), 100, .inl v_waitKind)), (a_waitMany, .inl ((k 2), 100, .inl v_waitMany)), (a_waitBytes, .inl ((k 3), 100, .inr (.inl v_waitBytes)))]) (vp_Si (fun r => r = o)) 0 0 (fun _ => False) := by
  unfold fX6_isRight at h
  refine dk_ofR (cc := cX6_isRight) (maxL := 4) (ret := (some .boolean)) (lv := [(0, .ref h0), (1, .int p1), (2, .int p2)]) (by decide) rfl (Nat.le_of_ble_eq_true rfl) rfl ?_
  intro p e s m below meth c C hK hN hP ls hl
  obtain ⟨hx, hb, hr, hml, hown, hts, hlocks⟩ := id C
  refine lv_iload_n hx hb dX6_isRight_0 rfl (lv_at hl 1 rfl) ?_
  refine lv_iload_n hx hb dX6_isRight_1 rfl (lv_at hl 2 rfl) ?_
  replace h := dk_b h
  obtain ⟨o1, e1, h⟩ := h
  refine dk_cri (va_runS (As := [.int p1, .int p2]) (rest := []) ⟨hx, hb, hml, hown, hts⟩ (mX6_at l D k p1 p2 o1 e1) (va_cwS 2 hts (dk_gS w_869 w_870 w_46 w_871) rfl rfl rfl (by decide +kernel) ⟨Nat.le_of_ble_eq_true rfl, Nat.le_of_ble_eq_true rfl⟩) (dk_psr hK hN hP [] rfl) rfl rfl hl.1 rfl (lv_room (Nat.le_of_ble_eq_true rfl)) dX6_isRight_2 ⟨Nat.le_of_ble_eq_true rfl, Nat.le_of_ble_eq_true rfl⟩) ?_
  refine lv_istore_n (lv' := [(3, .int o1), (0, .ref h0), (1, .int p1), (2, .int p2)]) hx hb dX6_isRight_5 rfl hl (by decide) rfl (fun ls hl => ?_)
  refine lv_aload_n hx hb dX6_isRight_6 rfl (lv_at hl 1 rfl) ?_
  refine lv_iload_n hx hb dX6_isRight_7 rfl (lv_at hl 0 rfl) ?_
  replace h := dk_b h
  obtain ⟨o2, e2, h⟩ := h
  refine dk_cri (va_runV (As := [.int o1]) (rest := []) ⟨hx, hb, hml, hown, hts⟩ (mX6_isSummed l D k h0 a_disk a_made a_sectorOf a_placeOf a_manyOf a_there a_waitKind a_waitMany a_waitBytes v_thrown v_sectors v_power v_used v_reserve v_cutWrites v_cutBytes v_rows v_waits v_stateNumber v_stateNow v_second v_repaired v_up v_sent v_disk v_made v_sectorOf v_placeOf v_manyOf v_there v_waitKind v_waitMany v_waitBytes o1 o2 e2) (cwV 1 hts (dk_gV w_900 w_902 w_31 w_46 w_903) rfl rfl rfl (by decide +kernel) ⟨Nat.le_of_ble_eq_true rfl, Nat.le_of_ble_eq_true rfl⟩) (dk_pvr hK hN hP [0, 1, 2, 3, 4, 5, 6, 7, 8, 9] rfl rfl rfl) rfl rfl hl.1 rfl (lv_room (Nat.le_of_ble_eq_true rfl)) dX6_isRight_8 ⟨Nat.le_of_ble_eq_true rfl, Nat.le_of_ble_eq_true rfl⟩) ?_
  refine lv_if_ne (tgt := 16) hx hb dX6_isRight_11 (by decide) (fun q => ?_) (fun q => ?_)
  · replace h := dk_f q h
    refine lv_iload_n hx hb dX6_isRight_16 rfl (lv_at hl 3 rfl) ?_
    refine lv_aload_n hx hb dX6_isRight_17 rfl (lv_at hl 1 rfl) ?_
    refine va_get (D := D) (ci := 6) (v := .int v_sectors) (C := "ServiceDiskModel") (T := TX6) (N := 24) hx hb hts inX6 hown hK hP 0 rfl rfl 1 (by decide) (hts _ w_738) (fun _ h9 => h9) rfl dX6_isRight_18 ?_
    refine lv_iconst (v := 2) hx hb dX6_isRight_21 (by decide) ?_
    refine lv_isub hx hb dX6_isRight_22 ?_
    refine lv_icmp_lt (tgt := 50) hx hb dX6_isRight_23 (by decide) (fun q => ?_) (fun q => ?_)
    · replace h := dk_t q h
      refine lv_aload_n hx hb dX6_isRight_50 rfl (lv_at hl 1 rfl) ?_
      refine lv_iload_n hx hb dX6_isRight_51 rfl (lv_at hl 0 rfl) ?_
      replace h := dk_b h
      obtain ⟨o3, e3, h⟩ := h
      refine dk_cri (va_runV (As := [.int o1]) (rest := []) ⟨hx, hb, hml, hown, hts⟩ (mX6_four l D k h0 a_disk a_made a_sectorOf a_placeOf a_manyOf a_there a_waitKind a_waitMany a_waitBytes v_thrown v_sectors v_power v_used v_reserve v_cutWrites v_cutBytes v_rows v_waits v_stateNumber v_stateNow v_second v_repaired v_up v_sent v_disk v_made v_sectorOf v_placeOf v_manyOf v_there v_waitKind v_waitMany v_waitBytes o1 o3 e3) (cwV 1 hts (dk_gV w_904 w_906 w_32 w_46 w_907) rfl rfl rfl (by decide +kernel) ⟨Nat.le_of_ble_eq_true rfl, Nat.le_of_ble_eq_true rfl⟩) (dk_pvr hK hN hP [0, 1, 2, 3, 4, 5, 6, 7, 8, 9] rfl rfl rfl) rfl rfl hl.1 rfl (lv_room (Nat.le_of_ble_eq_true rfl)) dX6_isRight_52 ⟨Nat.le_of_ble_eq_true rfl, Nat.le_of_ble_eq_true rfl⟩) ?_
      refine lv_iload_n hx hb dX6_isRight_55 rfl (lv_at hl 3 rfl) ?_
      refine lv_iconst (v := 1) hx hb dX6_isRight_56 (by decide) ?_
      refine lv_iadd hx hb dX6_isRight_57 ?_
      refine lv_icmp_ne (tgt := 73) hx hb dX6_isRight_58 (by decide) (fun q => ?_) (fun q => ?_)
      · replace h := dk_f q h
        refine lv_iconst (v := 0) hx hb dX6_isRight_73 (by decide) ?_
        have h := dk_r h
        subst h
        exact dk_rrz hx hb hr (Or.inl rfl) hlocks dX6_isRight_74 rfl
      · replace h := dk_t q h
        refine lv_aload_n hx hb dX6_isRight_61 rfl (lv_at hl 1 rfl) ?_
        refine lv_iload_n hx hb dX6_isRight_62 rfl (lv_at hl 0 rfl) ?_
        replace h := dk_b h
        obtain ⟨o4, e4, h⟩ := h
        refine dk_cri (va_runV (As := [.int o1]) (rest := []) ⟨hx, hb, hml, hown, hts⟩ (mX6_rowsOn l D k h0 a_disk a_made a_sectorOf a_placeOf a_manyOf a_there a_waitKind a_waitMany a_waitBytes v_thrown v_sectors v_power v_used v_reserve v_cutWrites v_cutBytes v_rows v_waits v_stateNumber v_stateNow v_second v_repaired v_up v_sent v_disk v_made v_sectorOf v_placeOf v_manyOf v_there v_waitKind v_waitMany v_waitBytes o1 o4 e4) (cwV 1 hts (dk_gV w_912 w_914 w_34 w_46 w_915) rfl rfl rfl (by decide +kernel) ⟨Nat.le_of_ble_eq_true rfl, Nat.le_of_ble_eq_true rfl⟩) (dk_pvr hK hN hP [0, 1, 2, 3, 4, 5, 6, 7, 8, 9] rfl rfl rfl) rfl rfl hl.1 rfl (lv_room (Nat.le_of_ble_eq_true rfl)) dX6_isRight_63 ⟨Nat.le_of_ble_eq_true rfl, Nat.le_of_ble_eq_true rfl⟩) ?_
        refine dk_jn (F0 m 74 ls [.int (if o4 ≤ 0 then 0 else 1)]) (fun K => ?_) ?_
        · refine lv_if_le (tgt := 73) hx hb dX6_isRight_66 (by decide) (fun q1 => ?_) (fun q1 => ?_)
          · refine lv_iconst (v := 0) hx hb dX6_isRight_73 (by decide) ?_
            have K := K
            rw [if_pos q1] at K
            exact K
          · refine lv_iconst (v := 1) hx hb dX6_isRight_69 (by decide) ?_
            refine lv_goto (tgt := 74) hx hb dX6_isRight_70 (by decide) ?_
            have K := K
            rw [if_neg q1] at K
            exact K
        obtain ⟨q, h⟩ := dk_g h
        have h := dk_r h
        subst h
        exact dk_rrz hx hb hr q hlocks dX6_isRight_74 rfl
    · replace h := dk_f q h
      refine lv_aload_n hx hb dX6_isRight_26 rfl (lv_at hl 1 rfl) ?_
      refine lv_iload_n hx hb dX6_isRight_27 rfl (lv_at hl 0 rfl) ?_
      replace h := dk_b h
      obtain ⟨o5, e5, h⟩ := h
      refine dk_cri (va_runV (As := [.int o1]) (rest := []) ⟨hx, hb, hml, hown, hts⟩ (mX6_four l D k h0 a_disk a_made a_sectorOf a_placeOf a_manyOf a_there a_waitKind a_waitMany a_waitBytes v_thrown v_sectors v_power v_used v_reserve v_cutWrites v_cutBytes v_rows v_waits v_stateNumber v_stateNow v_second v_repaired v_up v_sent v_disk v_made v_sectorOf v_placeOf v_manyOf v_there v_waitKind v_waitMany v_waitBytes o1 o5 e5) (cwV 1 hts (dk_gV w_904 w_906 w_32 w_46 w_907) rfl rfl rfl (by decide +kernel) ⟨Nat.le_of_ble_eq_true rfl, Nat.le_of_ble_eq_true rfl⟩) (dk_pvr hK hN hP [0, 1, 2, 3, 4, 5, 6, 7, 8, 9] rfl rfl rfl) rfl rfl hl.1 rfl (lv_room (Nat.le_of_ble_eq_true rfl)) dX6_isRight_28 ⟨Nat.le_of_ble_eq_true rfl, Nat.le_of_ble_eq_true rfl⟩) ?_
      refine lv_if_eq (tgt := 48) hx hb dX6_isRight_31 (by decide) (fun q => ?_) (fun q => ?_)
      · replace h := dk_t q h
        refine lv_iconst (v := 0) hx hb dX6_isRight_48 (by decide) ?_
        have h := dk_r h
        subst h
        exact dk_rrz hx hb hr (Or.inl rfl) hlocks dX6_isRight_49 rfl
      · replace h := dk_f q h
        refine lv_aload_n hx hb dX6_isRight_34 rfl (lv_at hl 1 rfl) ?_
        refine lv_iload_n hx hb dX6_isRight_35 rfl (lv_at hl 0 rfl) ?_
        replace h := dk_b h
        obtain ⟨o6, e6, h⟩ := h
        refine dk_cri (va_runV (As := [.int o1]) (rest := []) ⟨hx, hb, hml, hown, hts⟩ (mX6_lengthOf l D k h0 a_disk a_made a_sectorOf a_placeOf a_manyOf a_there a_waitKind a_waitMany a_waitBytes v_thrown v_sectors v_power v_used v_reserve v_cutWrites v_cutBytes v_rows v_waits v_stateNumber v_stateNow v_second v_repaired v_up v_sent v_disk v_made v_sectorOf v_placeOf v_manyOf v_there v_waitKind v_waitMany v_waitBytes o1 o6 e6) (cwV 1 hts (dk_gV w_908 w_910 w_33 w_46 w_911) rfl rfl rfl (by decide +kernel) ⟨Nat.le_of_ble_eq_true rfl, Nat.le_of_ble_eq_true rfl⟩) (dk_pvr hK hN hP [0, 1, 2, 3, 4, 5, 6, 7, 8, 9] rfl rfl rfl) rfl rfl hl.1 rfl (lv_room (Nat.le_of_ble_eq_true rfl)) dX6_isRight_36 ⟨Nat.le_of_ble_eq_true rfl, Nat.le_of_ble_eq_true rfl⟩) ?_
        refine lv_bipush (v := 8) hx hb dX6_isRight_39 (by decide) ?_
        refine dk_jn (F0 m 49 ls [.int (if o6 = (8 : Int32) then 1 else 0)]) (fun K => ?_) ?_
        · refine lv_icmp_ne (tgt := 48) hx hb dX6_isRight_41 (by decide) (fun q1 => ?_) (fun q1 => ?_)
          · refine lv_iconst (v := 0) hx hb dX6_isRight_48 (by decide) ?_
            have K := K
            rw [if_neg q1] at K
            exact K
          · refine lv_iconst (v := 1) hx hb dX6_isRight_44 (by decide) ?_
            refine lv_goto (tgt := 49) hx hb dX6_isRight_45 (by decide) ?_
            have K := K
            rw [if_pos q1] at K
            exact K
        obtain ⟨q, h⟩ := dk_g h
        have h := dk_r h
        subst h
        exact dk_rrz hx hb hr q hlocks dX6_isRight_49 rfl
  · replace h := dk_t q h
    refine lv_iconst (v := 0) hx hb dX6_isRight_14 (by decide) ?_
    have h := dk_r h
    subst h
    exact dk_rrz hx hb hr (Or.inl rfl) hlocks dX6_isRight_15 rfl
/-! ServiceDiskModel.rightCopy(I)I: ro, frames 3, locals 70 -/
def fX6_rightCopy (v_sectors : Int32) (v_disk : Nat → Int32) (p1 : Int32) : Option (Int32) :=
  (fX6_isRight v_sectors v_disk 0 p1).bind fun o1 =>
  if o1 = 0 then
    (fX6_isRight v_sectors v_disk 1 p1).bind fun o2 =>
    some (if o2 = 0 then (-1) else 1)
  else
    some 0
set_option maxHeartbeats 4000000 in
set_option maxRecDepth 100000 in
theorem mX6_rightCopy (l : Launch) (D : va_G) (k : Nat → ClassId) (h0 a_disk a_made a_sectorOf a_placeOf a_manyOf a_there a_waitKind a_waitMany a_waitBytes : Nat) (v_thrown : Int32) (v_sectors : Int32) (v_power : Int32) (v_used : Int32) (v_reserve : Int32) (v_cutWrites : Int32) (v_cutBytes : Int32) (v_rows : Int32) (v_waits : Int32) (v_stateNumber : Int32) (v_stateNow : Int64) (v_second : Int32) (v_repaired : Int32) (v_up : Int32) (v_sent : Int32) (v_disk : Nat → Int32) (v_made : Nat → Int32) (v_sectorOf : Nat → Int32) (v_placeOf : Nat → Int32) (v_manyOf : Nat → Int32) (v_there : Nat → Int32) (v_waitKind : Nat → Int32) (v_waitMany : Nat → Int32) (v_waitBytes : Nat → Int64) (p1 : Int32) (o : Int32) (h : fX6_rightCopy v_sectors v_disk p1 = some o) : Met l yX6_rightCopy wsX6_rightCopy { frames := 3, cells := 0, slots := 0, locals := 70 } (dk_Pr D k [.ref h0, .int p1] [(h0, .inr (6, [.int v_thrown, .int v_sectors, .int v_power, .ref a_disk, .ref a_made, .int v_used, .int v_reserve, .int v_cutWrites, .int v_cutBytes, .int v_rows, .ref a_sectorOf, .ref a_placeOf, .ref a_manyOf, .ref a_there, .int v_waits, .ref a_waitKind, .ref a_waitMany, .ref a_waitBytes, .int v_stateNumber, .long v_stateNow, .int v_second, .int v_repaired, .int v_up, .int v_sent])), (a_disk, .inl ((k 2), 32768, .inl v_disk)), (a_made, .inl ((k 2), 512, .inl v_made)), (a_sectorOf, .inl ((k 2), 5100, .inl v_sectorOf)), (a_placeOf, .inl ((k 2), 5100, .inl v_placeOf)), (a_manyOf, .inl ((k 2), 5100, .inl v_manyOf)), (a_there, .inl ((k 1), 5100, .inl v_there)), (a_waitKind, .inl ((k 2), 100, .inl v_waitKind)), (a_waitMany, .inl ((k 2), 100, .inl v_waitMany)), (a_waitBytes, .inl ((k 3), 100, .inr (.inl v_waitBytes)))]) (vp_Si (fun r => r = o)) 0 0 (fun _ => False) := by
  unfold fX6_rightCopy at h
  refine dk_ofR (cc := cX6_rightCopy) (maxL := 2) (ret := (some .int)) (lv := [(0, .ref h0), (1, .int p1)]) (by decide) rfl (Nat.le_of_ble_eq_true rfl) rfl ?_
  intro p e s m below meth c C hK hN hP ls hl
  obtain ⟨hx, hb, hr, hml, hown, hts, hlocks⟩ := id C
  refine lv_aload_n hx hb dX6_rightCopy_0 rfl (lv_at hl 0 rfl) ?_
  refine lv_iconst (v := 0) hx hb dX6_rightCopy_1 (by decide) ?_
  refine lv_iload_n hx hb dX6_rightCopy_2 rfl (lv_at hl 1 rfl) ?_
  replace h := dk_b h
  obtain ⟨o1, e1, h⟩ := h
  refine dk_cri (va_runV (As := [.int 0, .int p1]) (rest := []) ⟨hx, hb, hml, hown, hts⟩ (mX6_isRight l D k h0 a_disk a_made a_sectorOf a_placeOf a_manyOf a_there a_waitKind a_waitMany a_waitBytes v_thrown v_sectors v_power v_used v_reserve v_cutWrites v_cutBytes v_rows v_waits v_stateNumber v_stateNow v_second v_repaired v_up v_sent v_disk v_made v_sectorOf v_placeOf v_manyOf v_there v_waitKind v_waitMany v_waitBytes 0 p1 o1 e1) (cwV 2 hts (dk_gV w_896 w_898 w_30 w_46 w_899) rfl rfl rfl (by decide +kernel) ⟨Nat.le_of_ble_eq_true rfl, Nat.le_of_ble_eq_true rfl⟩) (dk_pvr hK hN hP [0, 1, 2, 3, 4, 5, 6, 7, 8, 9] rfl rfl rfl) rfl rfl hl.1 rfl (lv_room (Nat.le_of_ble_eq_true rfl)) dX6_rightCopy_3 ⟨Nat.le_of_ble_eq_true rfl, Nat.le_of_ble_eq_true rfl⟩) ?_
  refine lv_if_eq (tgt := 13) hx hb dX6_rightCopy_6 (by decide) (fun q => ?_) (fun q => ?_)
  · replace h := dk_t q h
    refine lv_aload_n hx hb dX6_rightCopy_13 rfl (lv_at hl 0 rfl) ?_
    refine lv_iconst (v := 1) hx hb dX6_rightCopy_14 (by decide) ?_
    refine lv_iload_n hx hb dX6_rightCopy_15 rfl (lv_at hl 1 rfl) ?_
    replace h := dk_b h
    obtain ⟨o2, e2, h⟩ := h
    refine dk_cri (va_runV (As := [.int 1, .int p1]) (rest := []) ⟨hx, hb, hml, hown, hts⟩ (mX6_isRight l D k h0 a_disk a_made a_sectorOf a_placeOf a_manyOf a_there a_waitKind a_waitMany a_waitBytes v_thrown v_sectors v_power v_used v_reserve v_cutWrites v_cutBytes v_rows v_waits v_stateNumber v_stateNow v_second v_repaired v_up v_sent v_disk v_made v_sectorOf v_placeOf v_manyOf v_there v_waitKind v_waitMany v_waitBytes 1 p1 o2 e2) (cwV 2 hts (dk_gV w_896 w_898 w_30 w_46 w_899) rfl rfl rfl (by decide +kernel) ⟨Nat.le_of_ble_eq_true rfl, Nat.le_of_ble_eq_true rfl⟩) (dk_pvr hK hN hP [0, 1, 2, 3, 4, 5, 6, 7, 8, 9] rfl rfl rfl) rfl rfl hl.1 rfl (lv_room (Nat.le_of_ble_eq_true rfl)) dX6_rightCopy_16 ⟨Nat.le_of_ble_eq_true rfl, Nat.le_of_ble_eq_true rfl⟩) ?_
    refine dk_jn (F0 m 27 ls [.int (if o2 = 0 then (-1) else 1)]) (fun K => ?_) ?_
    · refine lv_if_eq (tgt := 26) hx hb dX6_rightCopy_19 (by decide) (fun q1 => ?_) (fun q1 => ?_)
      · refine lv_iconst (v := -1) hx hb dX6_rightCopy_26 (by decide) ?_
        have K := K
        rw [if_pos q1] at K
        exact K
      · refine lv_iconst (v := 1) hx hb dX6_rightCopy_22 (by decide) ?_
        refine lv_goto (tgt := 27) hx hb dX6_rightCopy_23 (by decide) ?_
        have K := K
        rw [if_neg q1] at K
        exact K
    have h := dk_r h
    subst h
    exact dk_rri hx hb hr hlocks dX6_rightCopy_27 rfl
  · replace h := dk_f q h
    refine lv_iconst (v := 0) hx hb dX6_rightCopy_9 (by decide) ?_
    refine lv_goto (tgt := 27) hx hb dX6_rightCopy_10 (by decide) ?_
    have h := dk_r h
    subst h
    exact dk_rri hx hb hr hlocks dX6_rightCopy_27 rfl
/-! ServiceDiskModel.put(II)V: rw, frames 0, locals 0 -/
def fX6_put (v_made : Nat → Int32) (p1 : Int32) (p2 : Int32) : Option ((Nat → Int32)) :=
  if dk_in p1 512 then
  some (upd v_made p1.toNatClampNeg (p2 &&& 255))
  else none
set_option maxHeartbeats 4000000 in
set_option maxRecDepth 100000 in
theorem mX6_put (l : Launch) (D : va_G) (k : Nat → ClassId) (h0 a_disk a_made a_sectorOf a_placeOf a_manyOf a_there a_waitKind a_waitMany a_waitBytes : Nat) (sz : Nat) (v_thrown : Int32) (v_sectors : Int32) (v_power : Int32) (v_used : Int32) (v_reserve : Int32) (v_cutWrites : Int32) (v_cutBytes : Int32) (v_rows : Int32) (v_waits : Int32) (v_stateNumber : Int32) (v_stateNow : Int64) (v_second : Int32) (v_repaired : Int32) (v_up : Int32) (v_sent : Int32) (v_disk : Nat → Int32) (v_made : Nat → Int32) (v_sectorOf : Nat → Int32) (v_placeOf : Nat → Int32) (v_manyOf : Nat → Int32) (v_there : Nat → Int32) (v_waitKind : Nat → Int32) (v_waitMany : Nat → Int32) (v_waitBytes : Nat → Int64) (p1 : Int32) (p2 : Int32) (o : (Nat → Int32)) (h : fX6_put v_made p1 p2 = some o) : Met l yX6_put wsX6_put { frames := 0, cells := 0, slots := 0, locals := 0 } (dk_Pw D k [.ref h0, .int p1, .int p2] [(h0, .inr (6, [.int v_thrown, .int v_sectors, .int v_power, .ref a_disk, .ref a_made, .int v_used, .int v_reserve, .int v_cutWrites, .int v_cutBytes, .int v_rows, .ref a_sectorOf, .ref a_placeOf, .ref a_manyOf, .ref a_there, .int v_waits, .ref a_waitKind, .ref a_waitMany, .ref a_waitBytes, .int v_stateNumber, .long v_stateNow, .int v_second, .int v_repaired, .int v_up, .int v_sent])), (a_disk, .inl ((k 2), 32768, .inl v_disk)), (a_made, .inl ((k 2), 512, .inl v_made)), (a_sectorOf, .inl ((k 2), 5100, .inl v_sectorOf)), (a_placeOf, .inl ((k 2), 5100, .inl v_placeOf)), (a_manyOf, .inl ((k 2), 5100, .inl v_manyOf)), (a_there, .inl ((k 1), 5100, .inl v_there)), (a_waitKind, .inl ((k 2), 100, .inl v_waitKind)), (a_waitMany, .inl ((k 2), 100, .inl v_waitMany)), (a_waitBytes, .inl ((k 3), 100, .inr (.inl v_waitBytes)))] sz) (dk_Qv D [(h0, .inr (6, [.int v_thrown, .int v_sectors, .int v_power, .ref a_disk, .ref a_made, .int v_used, .int v_reserve, .int v_cutWrites, .int v_cutBytes, .int v_rows, .ref a_sectorOf, .ref a_placeOf, .ref a_manyOf, .ref a_there, .int v_waits, .ref a_waitKind, .ref a_waitMany, .ref a_waitBytes, .int v_stateNumber, .long v_stateNow, .int v_second, .int v_repaired, .int v_up, .int v_sent])), (a_disk, .inl ((k 2), 32768, .inl v_disk)), (a_made, .inl ((k 2), 512, .inl o)), (a_sectorOf, .inl ((k 2), 5100, .inl v_sectorOf)), (a_placeOf, .inl ((k 2), 5100, .inl v_placeOf)), (a_manyOf, .inl ((k 2), 5100, .inl v_manyOf)), (a_there, .inl ((k 1), 5100, .inl v_there)), (a_waitKind, .inl ((k 2), 100, .inl v_waitKind)), (a_waitMany, .inl ((k 2), 100, .inl v_waitMany)), (a_waitBytes, .inl ((k 3), 100, .inr (.inl v_waitBytes)))] (va_A [(h0, .inr (6, [.int v_thrown, .int v_sectors, .int v_power, .ref a_disk, .ref a_made, .int v_used, .int v_reserve, .int v_cutWrites, .int v_cutBytes, .int v_rows, .ref a_sectorOf, .ref a_placeOf, .ref a_manyOf, .ref a_there, .int v_waits, .ref a_waitKind, .ref a_waitMany, .ref a_waitBytes, .int v_stateNumber, .long v_stateNow, .int v_second, .int v_repaired, .int v_up, .int v_sent])), (a_disk, .inl ((k 2), 32768, .inl v_disk)), (a_made, .inl ((k 2), 512, .inl v_made)), (a_sectorOf, .inl ((k 2), 5100, .inl v_sectorOf)), (a_placeOf, .inl ((k 2), 5100, .inl v_placeOf)), (a_manyOf, .inl ((k 2), 5100, .inl v_manyOf)), (a_there, .inl ((k 1), 5100, .inl v_there)), (a_waitKind, .inl ((k 2), 100, .inl v_waitKind)), (a_waitMany, .inl ((k 2), 100, .inl v_waitMany)), (a_waitBytes, .inl ((k 3), 100, .inr (.inl v_waitBytes)))] sz)) 0 0 (va_A [(h0, .inr (6, [.int v_thrown, .int v_sectors, .int v_power, .ref a_disk, .ref a_made, .int v_used, .int v_reserve, .int v_cutWrites, .int v_cutBytes, .int v_rows, .ref a_sectorOf, .ref a_placeOf, .ref a_manyOf, .ref a_there, .int v_waits, .ref a_waitKind, .ref a_waitMany, .ref a_waitBytes, .int v_stateNumber, .long v_stateNow, .int v_second, .int v_repaired, .int v_up, .int v_sent])), (a_disk, .inl ((k 2), 32768, .inl v_disk)), (a_made, .inl ((k 2), 512, .inl v_made)), (a_sectorOf, .inl ((k 2), 5100, .inl v_sectorOf)), (a_placeOf, .inl ((k 2), 5100, .inl v_placeOf)), (a_manyOf, .inl ((k 2), 5100, .inl v_manyOf)), (a_there, .inl ((k 1), 5100, .inl v_there)), (a_waitKind, .inl ((k 2), 100, .inl v_waitKind)), (a_waitMany, .inl ((k 2), 100, .inl v_waitMany)), (a_waitBytes, .inl ((k 3), 100, .inr (.inl v_waitBytes)))] sz) := by
  unfold fX6_put at h
  refine dk_ofW (Qc := fun A => dk_Qv D [(h0, .inr (6, [.int v_thrown, .int v_sectors, .int v_power, .ref a_disk, .ref a_made, .int v_used, .int v_reserve, .int v_cutWrites, .int v_cutBytes, .int v_rows, .ref a_sectorOf, .ref a_placeOf, .ref a_manyOf, .ref a_there, .int v_waits, .ref a_waitKind, .ref a_waitMany, .ref a_waitBytes, .int v_stateNumber, .long v_stateNow, .int v_second, .int v_repaired, .int v_up, .int v_sent])), (a_disk, .inl ((k 2), 32768, .inl v_disk)), (a_made, .inl ((k 2), 512, .inl o)), (a_sectorOf, .inl ((k 2), 5100, .inl v_sectorOf)), (a_placeOf, .inl ((k 2), 5100, .inl v_placeOf)), (a_manyOf, .inl ((k 2), 5100, .inl v_manyOf)), (a_there, .inl ((k 1), 5100, .inl v_there)), (a_waitKind, .inl ((k 2), 100, .inl v_waitKind)), (a_waitMany, .inl ((k 2), 100, .inl v_waitMany)), (a_waitBytes, .inl ((k 3), 100, .inr (.inl v_waitBytes)))] A) (cc := cX6_put) (maxL := 3) (ret := none) (lv := [(0, .ref h0), (1, .int p1), (2, .int p2)]) (by decide) rfl (Nat.le_of_ble_eq_true rfl) rfl ?_
  intro p e s m below meth c C hK hN hP A hA hD hS ls hl
  obtain ⟨hx, hb, hr, hml, hown, hts, hlocks⟩ := id C
  refine lv_aload_n hx hb dX6_put_0 rfl (lv_at hl 0 rfl) ?_
  refine va_get (D := D) (ci := 6) (v := .ref a_made) (C := "ServiceDiskModel") (T := TX6) (N := 24) hx hb hts inX6 hown hK hP 0 rfl rfl 4 (by decide) (hts _ w_741) (fun _ h9 => h9) rfl dX6_put_1 ?_
  refine lv_iload_n hx hb dX6_put_4 rfl (lv_at hl 1 rfl) ?_
  refine lv_iload_n hx hb dX6_put_5 rfl (lv_at hl 2 rfl) ?_
  refine lv_sipush (v := 255) hx hb dX6_put_6 (by decide) ?_
  refine lv_iand hx hb dX6_put_9 ?_
  obtain ⟨q, h⟩ := dk_g h
  refine va_iast hx hb hK hP hD hS 2 2 rfl rfl q dX6_put_10 (fun H locs hP hD hS => ?_)
  have hP : va_P D vwCl [(h0, .inr (6, [.int v_thrown, .int v_sectors, .int v_power, .ref a_disk, .ref a_made, .int v_used, .int v_reserve, .int v_cutWrites, .int v_cutBytes, .int v_rows, .ref a_sectorOf, .ref a_placeOf, .ref a_manyOf, .ref a_there, .int v_waits, .ref a_waitKind, .ref a_waitMany, .ref a_waitBytes, .int v_stateNumber, .long v_stateNow, .int v_second, .int v_repaired, .int v_up, .int v_sent])), (a_disk, .inl ((k 2), 32768, .inl v_disk)), (a_made, .inl ((k 2), 512, .inl (upd v_made p1.toNatClampNeg (p2 &&& 255)))), (a_sectorOf, .inl ((k 2), 5100, .inl v_sectorOf)), (a_placeOf, .inl ((k 2), 5100, .inl v_placeOf)), (a_manyOf, .inl ((k 2), 5100, .inl v_manyOf)), (a_there, .inl ((k 1), 5100, .inl v_there)), (a_waitKind, .inl ((k 2), 100, .inl v_waitKind)), (a_waitMany, .inl ((k 2), 100, .inl v_waitMany)), (a_waitBytes, .inl ((k 3), 100, .inr (.inl v_waitBytes)))] H := hP
  have hD : va_D A [(h0, .inr (6, [.int v_thrown, .int v_sectors, .int v_power, .ref a_disk, .ref a_made, .int v_used, .int v_reserve, .int v_cutWrites, .int v_cutBytes, .int v_rows, .ref a_sectorOf, .ref a_placeOf, .ref a_manyOf, .ref a_there, .int v_waits, .ref a_waitKind, .ref a_waitMany, .ref a_waitBytes, .int v_stateNumber, .long v_stateNow, .int v_second, .int v_repaired, .int v_up, .int v_sent])), (a_disk, .inl ((k 2), 32768, .inl v_disk)), (a_made, .inl ((k 2), 512, .inl (upd v_made p1.toNatClampNeg (p2 &&& 255)))), (a_sectorOf, .inl ((k 2), 5100, .inl v_sectorOf)), (a_placeOf, .inl ((k 2), 5100, .inl v_placeOf)), (a_manyOf, .inl ((k 2), 5100, .inl v_manyOf)), (a_there, .inl ((k 1), 5100, .inl v_there)), (a_waitKind, .inl ((k 2), 100, .inl v_waitKind)), (a_waitMany, .inl ((k 2), 100, .inl v_waitMany)), (a_waitBytes, .inl ((k 3), 100, .inr (.inl v_waitBytes)))] := hD
  have h := dk_r h
  subst h
  exact dk_rwv hx hb hr hlocks (hP.sub [0, 1, 2, 3, 4, 5, 6, 7, 8, 9] rfl) (hD.sub [0, 1, 2, 3, 4, 5, 6, 7, 8, 9] (by decide) rfl) hS dX6_put_11
/-! ServiceDiskModel.clear(I)V: rw, frames 1, locals 22 -/
def fX6_clear_L2 (x1 : Int32) : Nat → (Int32) → (Nat → Int32) → Option (Int32 × (Nat → Int32))
  | 0, _, _ => none
  | n + 1, x2, v_made =>
    if (512 : Int32) ≤ x2 then
      some (x2, v_made)
    else
      if dk_in x2 512 then
      fX6_clear_L2 x1 n (x2 + 1) (upd v_made x2.toNatClampNeg 0)
      else none
def fX6_clear_L24 (x1 : Int32) : Nat → (Int32) → (Nat → Int32) → Option (Int32 × (Nat → Int32))
  | 0, _, _ => none
  | n + 1, x2, v_made =>
    if (4 : Int32) ≤ x2 then
      some (x2, v_made)
    else
      (fX6_put v_made x2 (x1 >>> ((24 - (8 * x2)) &&& 31))).bind fun o3 =>
      fX6_clear_L24 x1 n (x2 + 1) o3
def fX6_clear (v_made : Nat → Int32) (p1 : Int32) : Option ((Nat → Int32)) :=
  (fX6_clear_L2 p1 dkF 0 v_made).bind fun o1 =>
  (fX6_clear_L24 p1 dkF 0 o1.2).bind fun o2 =>
  some (o2.2)
set_option maxHeartbeats 4000000 in
set_option maxRecDepth 100000 in
theorem lX6_clear_2 {p : Program} {l : Launch} {e : Env} {s : State} {m : MethodId} {below : List Frame} {meth : Method} {c : Code} {args : Array Value} {D : va_G} {k : Nat → ClassId} {h0 : Nat} {a_disk : Nat} {a_made : Nat} {a_sectorOf : Nat} {a_placeOf : Nat} {a_manyOf : Nat} {a_there : Nat} {a_waitKind : Nat} {a_waitMany : Nat} {a_waitBytes : Nat} {v_thrown : Int32} {v_sectors : Int32} {v_power : Int32} {v_used : Int32} {v_reserve : Int32} {v_cutWrites : Int32} {v_cutBytes : Int32} {v_rows : Int32} {v_waits : Int32} {v_stateNumber : Int32} {v_stateNow : Int64} {v_second : Int32} {v_repaired : Int32} {v_up : Int32} {v_sent : Int32} {v_disk : Nat → Int32} {v_sectorOf : Nat → Int32} {v_placeOf : Nat → Int32} {v_manyOf : Nat → Int32} {v_there : Nat → Int32} {v_waitKind : Nat → Int32} {v_waitMany : Nat → Int32} {v_waitBytes : Nat → Int64} {x1 : Int32} {Q : State → Prop} {o : Int32 × (Nat → Int32)} {A : Nat → Prop} (C : dk_Cx p s m meth c cX6_clear none 3 "ServiceDiskModel" dkB args) (hK : va_K D vwCl (dkT k) s) (hN : dk_N s) (hA : ∀ q : Nat, s.heap.size ≤ q → A q) :
    ∀ (n : Nat) (x2 : Int32) (v_made : Nat → Int32), fX6_clear_L2 x1 n x2 v_made = some o → (∀ (H : Heap) (locs : List Loc), va_P D vwCl [(h0, .inr (6, [.int v_thrown, .int v_sectors, .int v_power, .ref a_disk, .ref a_made, .int v_used, .int v_reserve, .int v_cutWrites, .int v_cutBytes, .int v_rows, .ref a_sectorOf, .ref a_placeOf, .ref a_manyOf, .ref a_there, .int v_waits, .ref a_waitKind, .ref a_waitMany, .ref a_waitBytes, .int v_stateNumber, .long v_stateNow, .int v_second, .int v_repaired, .int v_up, .int v_sent])), (a_disk, .inl ((k 2), 32768, .inl v_disk)), (a_made, .inl ((k 2), 512, .inl o.2)), (a_sectorOf, .inl ((k 2), 5100, .inl v_sectorOf)), (a_placeOf, .inl ((k 2), 5100, .inl v_placeOf)), (a_manyOf, .inl ((k 2), 5100, .inl v_manyOf)), (a_there, .inl ((k 1), 5100, .inl v_there)), (a_waitKind, .inl ((k 2), 100, .inl v_waitKind)), (a_waitMany, .inl ((k 2), 100, .inl v_waitMany)), (a_waitBytes, .inl ((k 3), 100, .inr (.inl v_waitBytes)))] H → va_D A [(h0, .inr (6, [.int v_thrown, .int v_sectors, .int v_power, .ref a_disk, .ref a_made, .int v_used, .int v_reserve, .int v_cutWrites, .int v_cutBytes, .int v_rows, .ref a_sectorOf, .ref a_placeOf, .ref a_manyOf, .ref a_there, .int v_waits, .ref a_waitKind, .ref a_waitMany, .ref a_waitBytes, .int v_stateNumber, .long v_stateNow, .int v_second, .int v_repaired, .int v_up, .int v_sent])), (a_disk, .inl ((k 2), 32768, .inl v_disk)), (a_made, .inl ((k 2), 512, .inl o.2)), (a_sectorOf, .inl ((k 2), 5100, .inl v_sectorOf)), (a_placeOf, .inl ((k 2), 5100, .inl v_placeOf)), (a_manyOf, .inl ((k 2), 5100, .inl v_manyOf)), (a_there, .inl ((k 1), 5100, .inl v_there)), (a_waitKind, .inl ((k 2), 100, .inl v_waitKind)), (a_waitMany, .inl ((k 2), 100, .inl v_waitMany)), (a_waitBytes, .inl ((k 3), 100, .inr (.inl v_waitBytes)))] → va_S A s.heap H locs → ∀ ls : Array Slot, lv_has ls 3 [(0, .ref h0), (1, .int x1), (2, .int o.1)] → W p l e { frames := 1, cells := 0, slots := 0, locals := 22 } s m args below meth c H locs 0 0 Q (F0 m 22 ls [])) → ∀ (H : Heap) (locs : List Loc), va_P D vwCl [(h0, .inr (6, [.int v_thrown, .int v_sectors, .int v_power, .ref a_disk, .ref a_made, .int v_used, .int v_reserve, .int v_cutWrites, .int v_cutBytes, .int v_rows, .ref a_sectorOf, .ref a_placeOf, .ref a_manyOf, .ref a_there, .int v_waits, .ref a_waitKind, .ref a_waitMany, .ref a_waitBytes, .int v_stateNumber, .long v_stateNow, .int v_second, .int v_repaired, .int v_up, .int v_sent])), (a_disk, .inl ((k 2), 32768, .inl v_disk)), (a_made, .inl ((k 2), 512, .inl v_made)), (a_sectorOf, .inl ((k 2), 5100, .inl v_sectorOf)), (a_placeOf, .inl ((k 2), 5100, .inl v_placeOf)), (a_manyOf, .inl ((k 2), 5100, .inl v_manyOf)), (a_there, .inl ((k 1), 5100, .inl v_there)), (a_waitKind, .inl ((k 2), 100, .inl v_waitKind)), (a_waitMany, .inl ((k 2), 100, .inl v_waitMany)), (a_waitBytes, .inl ((k 3), 100, .inr (.inl v_waitBytes)))] H → va_D A [(h0, .inr (6, [.int v_thrown, .int v_sectors, .int v_power, .ref a_disk, .ref a_made, .int v_used, .int v_reserve, .int v_cutWrites, .int v_cutBytes, .int v_rows, .ref a_sectorOf, .ref a_placeOf, .ref a_manyOf, .ref a_there, .int v_waits, .ref a_waitKind, .ref a_waitMany, .ref a_waitBytes, .int v_stateNumber, .long v_stateNow, .int v_second, .int v_repaired, .int v_up, .int v_sent])), (a_disk, .inl ((k 2), 32768, .inl v_disk)), (a_made, .inl ((k 2), 512, .inl v_made)), (a_sectorOf, .inl ((k 2), 5100, .inl v_sectorOf)), (a_placeOf, .inl ((k 2), 5100, .inl v_placeOf)), (a_manyOf, .inl ((k 2), 5100, .inl v_manyOf)), (a_there, .inl ((k 1), 5100, .inl v_there)), (a_waitKind, .inl ((k 2), 100, .inl v_waitKind)), (a_waitMany, .inl ((k 2), 100, .inl v_waitMany)), (a_waitBytes, .inl ((k 3), 100, .inr (.inl v_waitBytes)))] → va_S A s.heap H locs → ∀ ls : Array Slot, lv_has ls 3 [(0, .ref h0), (1, .int x1), (2, .int x2)] → W p l e { frames := 1, cells := 0, slots := 0, locals := 22 } s m args below meth c H locs 0 0 Q (F0 m 2 ls []) := by
  obtain ⟨hx, hb, hr, hml, hown, hts, hlocks⟩ := id C
  intro n
  induction n with
  | zero =>
    intro x2 v_made h
    exact dk_n (o := o) h
  | succ n ih =>
    intro x2 v_made h K H locs hP hD hS ls hl
    rw [fX6_clear_L2.eq_2] at h
    refine lv_iload_n hx hb dX6_clear_2 rfl (lv_at hl 2 rfl) ?_
    refine lv_sipush (v := 512) hx hb dX6_clear_3 (by decide) ?_
    refine lv_icmp_ge (tgt := 22) hx hb dX6_clear_6 (by decide) (fun q => ?_) (fun q => ?_)
    · replace h := dk_t q h
      have h := dk_r h
      subst h
      exact K _ _ (hP.sub [0, 1, 2, 3, 4, 5, 6, 7, 8, 9] rfl) (hD.sub [0, 1, 2, 3, 4, 5, 6, 7, 8, 9] (by decide) rfl) hS ls (lv_sub hl [0, 1, 2] rfl)
    · replace h := dk_f q h
      refine lv_aload_n hx hb dX6_clear_9 rfl (lv_at hl 0 rfl) ?_
      refine va_get (D := D) (ci := 6) (v := .ref a_made) (C := "ServiceDiskModel") (T := TX6) (N := 24) hx hb hts inX6 hown hK hP 0 rfl rfl 4 (by decide) (hts _ w_741) (fun _ h9 => h9) rfl dX6_clear_10 ?_
      refine lv_iload_n hx hb dX6_clear_13 rfl (lv_at hl 2 rfl) ?_
      refine lv_iconst (v := 0) hx hb dX6_clear_14 (by decide) ?_
      obtain ⟨q, h⟩ := dk_g h
      refine va_iast hx hb hK hP hD hS 2 2 rfl rfl q dX6_clear_15 (fun H locs hP hD hS => ?_)
      have hP : va_P D vwCl [(h0, .inr (6, [.int v_thrown, .int v_sectors, .int v_power, .ref a_disk, .ref a_made, .int v_used, .int v_reserve, .int v_cutWrites, .int v_cutBytes, .int v_rows, .ref a_sectorOf, .ref a_placeOf, .ref a_manyOf, .ref a_there, .int v_waits, .ref a_waitKind, .ref a_waitMany, .ref a_waitBytes, .int v_stateNumber, .long v_stateNow, .int v_second, .int v_repaired, .int v_up, .int v_sent])), (a_disk, .inl ((k 2), 32768, .inl v_disk)), (a_made, .inl ((k 2), 512, .inl (upd v_made x2.toNatClampNeg 0))), (a_sectorOf, .inl ((k 2), 5100, .inl v_sectorOf)), (a_placeOf, .inl ((k 2), 5100, .inl v_placeOf)), (a_manyOf, .inl ((k 2), 5100, .inl v_manyOf)), (a_there, .inl ((k 1), 5100, .inl v_there)), (a_waitKind, .inl ((k 2), 100, .inl v_waitKind)), (a_waitMany, .inl ((k 2), 100, .inl v_waitMany)), (a_waitBytes, .inl ((k 3), 100, .inr (.inl v_waitBytes)))] H := hP
      have hD : va_D A [(h0, .inr (6, [.int v_thrown, .int v_sectors, .int v_power, .ref a_disk, .ref a_made, .int v_used, .int v_reserve, .int v_cutWrites, .int v_cutBytes, .int v_rows, .ref a_sectorOf, .ref a_placeOf, .ref a_manyOf, .ref a_there, .int v_waits, .ref a_waitKind, .ref a_waitMany, .ref a_waitBytes, .int v_stateNumber, .long v_stateNow, .int v_second, .int v_repaired, .int v_up, .int v_sent])), (a_disk, .inl ((k 2), 32768, .inl v_disk)), (a_made, .inl ((k 2), 512, .inl (upd v_made x2.toNatClampNeg 0))), (a_sectorOf, .inl ((k 2), 5100, .inl v_sectorOf)), (a_placeOf, .inl ((k 2), 5100, .inl v_placeOf)), (a_manyOf, .inl ((k 2), 5100, .inl v_manyOf)), (a_there, .inl ((k 1), 5100, .inl v_there)), (a_waitKind, .inl ((k 2), 100, .inl v_waitKind)), (a_waitMany, .inl ((k 2), 100, .inl v_waitMany)), (a_waitBytes, .inl ((k 3), 100, .inr (.inl v_waitBytes)))] := hD
      refine lv_iinc (v := (x2 + 1)) (lv' := [(2, .int (x2 + 1)), (0, .ref h0), (1, .int x1)]) hx hb dX6_clear_16 hl (k := 2) rfl rfl (by decide) rfl (fun ls hl => ?_)
      refine lv_goto (tgt := 2) hx hb dX6_clear_19 (by decide) ?_
      exact ih (x2 + 1) (upd v_made x2.toNatClampNeg 0) h K _ _ (hP.sub [0, 1, 2, 3, 4, 5, 6, 7, 8, 9] rfl) (hD.sub [0, 1, 2, 3, 4, 5, 6, 7, 8, 9] (by decide) rfl) hS ls (lv_sub hl [1, 2, 0] rfl)
set_option maxHeartbeats 4000000 in
set_option maxRecDepth 100000 in
theorem lX6_clear_24 {p : Program} {l : Launch} {e : Env} {s : State} {m : MethodId} {below : List Frame} {meth : Method} {c : Code} {args : Array Value} {D : va_G} {k : Nat → ClassId} {h0 : Nat} {a_disk : Nat} {a_made : Nat} {a_sectorOf : Nat} {a_placeOf : Nat} {a_manyOf : Nat} {a_there : Nat} {a_waitKind : Nat} {a_waitMany : Nat} {a_waitBytes : Nat} {v_thrown : Int32} {v_sectors : Int32} {v_power : Int32} {v_used : Int32} {v_reserve : Int32} {v_cutWrites : Int32} {v_cutBytes : Int32} {v_rows : Int32} {v_waits : Int32} {v_stateNumber : Int32} {v_stateNow : Int64} {v_second : Int32} {v_repaired : Int32} {v_up : Int32} {v_sent : Int32} {v_disk : Nat → Int32} {v_sectorOf : Nat → Int32} {v_placeOf : Nat → Int32} {v_manyOf : Nat → Int32} {v_there : Nat → Int32} {v_waitKind : Nat → Int32} {v_waitMany : Nat → Int32} {v_waitBytes : Nat → Int64} {x1 : Int32} {Q : State → Prop} {o : Int32 × (Nat → Int32)} {A : Nat → Prop} (C : dk_Cx p s m meth c cX6_clear none 3 "ServiceDiskModel" dkB args) (hK : va_K D vwCl (dkT k) s) (hN : dk_N s) (hA : ∀ q : Nat, s.heap.size ≤ q → A q) :
    ∀ (n : Nat) (x2 : Int32) (v_made : Nat → Int32), fX6_clear_L24 x1 n x2 v_made = some o → (∀ (H : Heap) (locs : List Loc), va_P D vwCl [(h0, .inr (6, [.int v_thrown, .int v_sectors, .int v_power, .ref a_disk, .ref a_made, .int v_used, .int v_reserve, .int v_cutWrites, .int v_cutBytes, .int v_rows, .ref a_sectorOf, .ref a_placeOf, .ref a_manyOf, .ref a_there, .int v_waits, .ref a_waitKind, .ref a_waitMany, .ref a_waitBytes, .int v_stateNumber, .long v_stateNow, .int v_second, .int v_repaired, .int v_up, .int v_sent])), (a_disk, .inl ((k 2), 32768, .inl v_disk)), (a_made, .inl ((k 2), 512, .inl o.2)), (a_sectorOf, .inl ((k 2), 5100, .inl v_sectorOf)), (a_placeOf, .inl ((k 2), 5100, .inl v_placeOf)), (a_manyOf, .inl ((k 2), 5100, .inl v_manyOf)), (a_there, .inl ((k 1), 5100, .inl v_there)), (a_waitKind, .inl ((k 2), 100, .inl v_waitKind)), (a_waitMany, .inl ((k 2), 100, .inl v_waitMany)), (a_waitBytes, .inl ((k 3), 100, .inr (.inl v_waitBytes)))] H → va_D A [(h0, .inr (6, [.int v_thrown, .int v_sectors, .int v_power, .ref a_disk, .ref a_made, .int v_used, .int v_reserve, .int v_cutWrites, .int v_cutBytes, .int v_rows, .ref a_sectorOf, .ref a_placeOf, .ref a_manyOf, .ref a_there, .int v_waits, .ref a_waitKind, .ref a_waitMany, .ref a_waitBytes, .int v_stateNumber, .long v_stateNow, .int v_second, .int v_repaired, .int v_up, .int v_sent])), (a_disk, .inl ((k 2), 32768, .inl v_disk)), (a_made, .inl ((k 2), 512, .inl o.2)), (a_sectorOf, .inl ((k 2), 5100, .inl v_sectorOf)), (a_placeOf, .inl ((k 2), 5100, .inl v_placeOf)), (a_manyOf, .inl ((k 2), 5100, .inl v_manyOf)), (a_there, .inl ((k 1), 5100, .inl v_there)), (a_waitKind, .inl ((k 2), 100, .inl v_waitKind)), (a_waitMany, .inl ((k 2), 100, .inl v_waitMany)), (a_waitBytes, .inl ((k 3), 100, .inr (.inl v_waitBytes)))] → va_S A s.heap H locs → ∀ ls : Array Slot, lv_has ls 3 [(0, .ref h0), (1, .int x1), (2, .int o.1)] → W p l e { frames := 1, cells := 0, slots := 0, locals := 22 } s m args below meth c H locs 0 0 Q (F0 m 49 ls [])) → ∀ (H : Heap) (locs : List Loc), va_P D vwCl [(h0, .inr (6, [.int v_thrown, .int v_sectors, .int v_power, .ref a_disk, .ref a_made, .int v_used, .int v_reserve, .int v_cutWrites, .int v_cutBytes, .int v_rows, .ref a_sectorOf, .ref a_placeOf, .ref a_manyOf, .ref a_there, .int v_waits, .ref a_waitKind, .ref a_waitMany, .ref a_waitBytes, .int v_stateNumber, .long v_stateNow, .int v_second, .int v_repaired, .int v_up, .int v_sent])), (a_disk, .inl ((k 2), 32768, .inl v_disk)), (a_made, .inl ((k 2), 512, .inl v_made)), (a_sectorOf, .inl ((k 2), 5100, .inl v_sectorOf)), (a_placeOf, .inl ((k 2), 5100, .inl v_placeOf)), (a_manyOf, .inl ((k 2), 5100, .inl v_manyOf)), (a_there, .inl ((k 1), 5100, .inl v_there)), (a_waitKind, .inl ((k 2), 100, .inl v_waitKind)), (a_waitMany, .inl ((k 2), 100, .inl v_waitMany)), (a_waitBytes, .inl ((k 3), 100, .inr (.inl v_waitBytes)))] H → va_D A [(h0, .inr (6, [.int v_thrown, .int v_sectors, .int v_power, .ref a_disk, .ref a_made, .int v_used, .int v_reserve, .int v_cutWrites, .int v_cutBytes, .int v_rows, .ref a_sectorOf, .ref a_placeOf, .ref a_manyOf, .ref a_there, .int v_waits, .ref a_waitKind, .ref a_waitMany, .ref a_waitBytes, .int v_stateNumber, .long v_stateNow, .int v_second, .int v_repaired, .int v_up, .int v_sent])), (a_disk, .inl ((k 2), 32768, .inl v_disk)), (a_made, .inl ((k 2), 512, .inl v_made)), (a_sectorOf, .inl ((k 2), 5100, .inl v_sectorOf)), (a_placeOf, .inl ((k 2), 5100, .inl v_placeOf)), (a_manyOf, .inl ((k 2), 5100, .inl v_manyOf)), (a_there, .inl ((k 1), 5100, .inl v_there)), (a_waitKind, .inl ((k 2), 100, .inl v_waitKind)), (a_waitMany, .inl ((k 2), 100, .inl v_waitMany)), (a_waitBytes, .inl ((k 3), 100, .inr (.inl v_waitBytes)))] → va_S A s.heap H locs → ∀ ls : Array Slot, lv_has ls 3 [(0, .ref h0), (1, .int x1), (2, .int x2)] → W p l e { frames := 1, cells := 0, slots := 0, locals := 22 } s m args below meth c H locs 0 0 Q (F0 m 24 ls []) := by
  obtain ⟨hx, hb, hr, hml, hown, hts, hlocks⟩ := id C
  intro n
  induction n with
  | zero =>
    intro x2 v_made h
    exact dk_n (o := o) h
  | succ n ih =>
    intro x2 v_made h K H locs hP hD hS ls hl
    rw [fX6_clear_L24.eq_2] at h
    refine lv_iload_n hx hb dX6_clear_24 rfl (lv_at hl 2 rfl) ?_
    refine lv_iconst (v := 4) hx hb dX6_clear_25 (by decide) ?_
    refine lv_icmp_ge (tgt := 49) hx hb dX6_clear_26 (by decide) (fun q => ?_) (fun q => ?_)
    · replace h := dk_t q h
      have h := dk_r h
      subst h
      exact K _ _ (hP.sub [0, 1, 2, 3, 4, 5, 6, 7, 8, 9] rfl) (hD.sub [0, 1, 2, 3, 4, 5, 6, 7, 8, 9] (by decide) rfl) hS ls (lv_sub hl [0, 1, 2] rfl)
    · replace h := dk_f q h
      refine lv_aload_n hx hb dX6_clear_29 rfl (lv_at hl 0 rfl) ?_
      refine lv_iload_n hx hb dX6_clear_30 rfl (lv_at hl 2 rfl) ?_
      refine lv_iload_n hx hb dX6_clear_31 rfl (lv_at hl 1 rfl) ?_
      refine lv_bipush (v := 24) hx hb dX6_clear_32 (by decide) ?_
      refine lv_bipush (v := 8) hx hb dX6_clear_34 (by decide) ?_
      refine lv_iload_n hx hb dX6_clear_36 rfl (lv_at hl 2 rfl) ?_
      refine lv_imul hx hb dX6_clear_37 ?_
      refine lv_isub hx hb dX6_clear_38 ?_
      refine lv_ishr hx hb dX6_clear_39 ?_
      replace h := dk_b h
      obtain ⟨o3, e3, h⟩ := h
      refine dk_cwv (wr := []) (va_runV (As := [.int x2, .int (x1 >>> ((24 - (8 * x2)) &&& 31))]) (rest := []) ⟨hx, hb, hml, hown, hts⟩ (mX6_put l D k h0 a_disk a_made a_sectorOf a_placeOf a_manyOf a_there a_waitKind a_waitMany a_waitBytes H.size v_thrown v_sectors v_power v_used v_reserve v_cutWrites v_cutBytes v_rows v_waits v_stateNumber v_stateNow v_second v_repaired v_up v_sent v_disk v_made v_sectorOf v_placeOf v_manyOf v_there v_waitKind v_waitMany v_waitBytes x2 (x1 >>> ((24 - (8 * x2)) &&& 31)) o3 e3) (cwV 2 hts (dk_gV w_845 w_847 w_23 w_46 w_848) rfl rfl rfl (by decide +kernel) ⟨Nat.le_of_ble_eq_true rfl, Nat.le_of_ble_eq_true rfl⟩) (dk_pvw hK hN hP hD [0, 1, 2, 3, 4, 5, 6, 7, 8, 9] rfl rfl rfl rfl (hP.sub [0, 1, 2, 3, 4, 5, 6, 7, 8, 9] rfl)) rfl rfl hl.1 rfl (lv_room (Nat.le_of_ble_eq_true rfl)) dX6_clear_40 ⟨Nat.le_of_ble_eq_true rfl, Nat.le_of_ble_eq_true rfl⟩) hP hD hS hA [0, 1, 2, 3, 4, 5, 6, 7, 8, 9] [] rfl rfl rfl (by decide) (fun H locs hP hD hS => ?_)
      have hP : va_P D vwCl [(h0, .inr (6, [.int v_thrown, .int v_sectors, .int v_power, .ref a_disk, .ref a_made, .int v_used, .int v_reserve, .int v_cutWrites, .int v_cutBytes, .int v_rows, .ref a_sectorOf, .ref a_placeOf, .ref a_manyOf, .ref a_there, .int v_waits, .ref a_waitKind, .ref a_waitMany, .ref a_waitBytes, .int v_stateNumber, .long v_stateNow, .int v_second, .int v_repaired, .int v_up, .int v_sent])), (a_disk, .inl ((k 2), 32768, .inl v_disk)), (a_made, .inl ((k 2), 512, .inl o3)), (a_sectorOf, .inl ((k 2), 5100, .inl v_sectorOf)), (a_placeOf, .inl ((k 2), 5100, .inl v_placeOf)), (a_manyOf, .inl ((k 2), 5100, .inl v_manyOf)), (a_there, .inl ((k 1), 5100, .inl v_there)), (a_waitKind, .inl ((k 2), 100, .inl v_waitKind)), (a_waitMany, .inl ((k 2), 100, .inl v_waitMany)), (a_waitBytes, .inl ((k 3), 100, .inr (.inl v_waitBytes)))] H := hP
      have hD : va_D A [(h0, .inr (6, [.int v_thrown, .int v_sectors, .int v_power, .ref a_disk, .ref a_made, .int v_used, .int v_reserve, .int v_cutWrites, .int v_cutBytes, .int v_rows, .ref a_sectorOf, .ref a_placeOf, .ref a_manyOf, .ref a_there, .int v_waits, .ref a_waitKind, .ref a_waitMany, .ref a_waitBytes, .int v_stateNumber, .long v_stateNow, .int v_second, .int v_repaired, .int v_up, .int v_sent])), (a_disk, .inl ((k 2), 32768, .inl v_disk)), (a_made, .inl ((k 2), 512, .inl o3)), (a_sectorOf, .inl ((k 2), 5100, .inl v_sectorOf)), (a_placeOf, .inl ((k 2), 5100, .inl v_placeOf)), (a_manyOf, .inl ((k 2), 5100, .inl v_manyOf)), (a_there, .inl ((k 1), 5100, .inl v_there)), (a_waitKind, .inl ((k 2), 100, .inl v_waitKind)), (a_waitMany, .inl ((k 2), 100, .inl v_waitMany)), (a_waitBytes, .inl ((k 3), 100, .inr (.inl v_waitBytes)))] := hD
      refine lv_iinc (v := (x2 + 1)) (lv' := [(2, .int (x2 + 1)), (0, .ref h0), (1, .int x1)]) hx hb dX6_clear_43 hl (k := 2) rfl rfl (by decide) rfl (fun ls hl => ?_)
      refine lv_goto (tgt := 24) hx hb dX6_clear_46 (by decide) ?_
      exact ih (x2 + 1) o3 h K _ _ (hP.sub [0, 1, 2, 3, 4, 5, 6, 7, 8, 9] rfl) (hD.sub [0, 1, 2, 3, 4, 5, 6, 7, 8, 9] (by decide) rfl) hS ls (lv_sub hl [1, 2, 0] rfl)
set_option maxHeartbeats 4000000 in
set_option maxRecDepth 100000 in
theorem mX6_clear (l : Launch) (D : va_G) (k : Nat → ClassId) (h0 a_disk a_made a_sectorOf a_placeOf a_manyOf a_there a_waitKind a_waitMany a_waitBytes : Nat) (sz : Nat) (v_thrown : Int32) (v_sectors : Int32) (v_power : Int32) (v_used : Int32) (v_reserve : Int32) (v_cutWrites : Int32) (v_cutBytes : Int32) (v_rows : Int32) (v_waits : Int32) (v_stateNumber : Int32) (v_stateNow : Int64) (v_second : Int32) (v_repaired : Int32) (v_up : Int32) (v_sent : Int32) (v_disk : Nat → Int32) (v_made : Nat → Int32) (v_sectorOf : Nat → Int32) (v_placeOf : Nat → Int32) (v_manyOf : Nat → Int32) (v_there : Nat → Int32) (v_waitKind : Nat → Int32) (v_waitMany : Nat → Int32) (v_waitBytes : Nat → Int64) (p1 : Int32) (o : (Nat → Int32)) (h : fX6_clear v_made p1 = some o) : Met l yX6_clear wsX6_clear { frames := 1, cells := 0, slots := 0, locals := 22 } (dk_Pw D k [.ref h0, .int p1] [(h0, .inr (6, [.int v_thrown, .int v_sectors, .int v_power, .ref a_disk, .ref a_made, .int v_used, .int v_reserve, .int v_cutWrites, .int v_cutBytes, .int v_rows, .ref a_sectorOf, .ref a_placeOf, .ref a_manyOf, .ref a_there, .int v_waits, .ref a_waitKind, .ref a_waitMany, .ref a_waitBytes, .int v_stateNumber, .long v_stateNow, .int v_second, .int v_repaired, .int v_up, .int v_sent])), (a_disk, .inl ((k 2), 32768, .inl v_disk)), (a_made, .inl ((k 2), 512, .inl v_made)), (a_sectorOf, .inl ((k 2), 5100, .inl v_sectorOf)), (a_placeOf, .inl ((k 2), 5100, .inl v_placeOf)), (a_manyOf, .inl ((k 2), 5100, .inl v_manyOf)), (a_there, .inl ((k 1), 5100, .inl v_there)), (a_waitKind, .inl ((k 2), 100, .inl v_waitKind)), (a_waitMany, .inl ((k 2), 100, .inl v_waitMany)), (a_waitBytes, .inl ((k 3), 100, .inr (.inl v_waitBytes)))] sz) (dk_Qv D [(h0, .inr (6, [.int v_thrown, .int v_sectors, .int v_power, .ref a_disk, .ref a_made, .int v_used, .int v_reserve, .int v_cutWrites, .int v_cutBytes, .int v_rows, .ref a_sectorOf, .ref a_placeOf, .ref a_manyOf, .ref a_there, .int v_waits, .ref a_waitKind, .ref a_waitMany, .ref a_waitBytes, .int v_stateNumber, .long v_stateNow, .int v_second, .int v_repaired, .int v_up, .int v_sent])), (a_disk, .inl ((k 2), 32768, .inl v_disk)), (a_made, .inl ((k 2), 512, .inl o)), (a_sectorOf, .inl ((k 2), 5100, .inl v_sectorOf)), (a_placeOf, .inl ((k 2), 5100, .inl v_placeOf)), (a_manyOf, .inl ((k 2), 5100, .inl v_manyOf)), (a_there, .inl ((k 1), 5100, .inl v_there)), (a_waitKind, .inl ((k 2), 100, .inl v_waitKind)), (a_waitMany, .inl ((k 2), 100, .inl v_waitMany)), (a_waitBytes, .inl ((k 3), 100, .inr (.inl v_waitBytes)))] (va_A [(h0, .inr (6, [.int v_thrown, .int v_sectors, .int v_power, .ref a_disk, .ref a_made, .int v_used, .int v_reserve, .int v_cutWrites, .int v_cutBytes, .int v_rows, .ref a_sectorOf, .ref a_placeOf, .ref a_manyOf, .ref a_there, .int v_waits, .ref a_waitKind, .ref a_waitMany, .ref a_waitBytes, .int v_stateNumber, .long v_stateNow, .int v_second, .int v_repaired, .int v_up, .int v_sent])), (a_disk, .inl ((k 2), 32768, .inl v_disk)), (a_made, .inl ((k 2), 512, .inl v_made)), (a_sectorOf, .inl ((k 2), 5100, .inl v_sectorOf)), (a_placeOf, .inl ((k 2), 5100, .inl v_placeOf)), (a_manyOf, .inl ((k 2), 5100, .inl v_manyOf)), (a_there, .inl ((k 1), 5100, .inl v_there)), (a_waitKind, .inl ((k 2), 100, .inl v_waitKind)), (a_waitMany, .inl ((k 2), 100, .inl v_waitMany)), (a_waitBytes, .inl ((k 3), 100, .inr (.inl v_waitBytes)))] sz)) 0 0 (va_A [(h0, .inr (6, [.int v_thrown, .int v_sectors, .int v_power, .ref a_disk, .ref a_made, .int v_used, .int v_reserve, .int v_cutWrites, .int v_cutBytes, .int v_rows, .ref a_sectorOf, .ref a_placeOf, .ref a_manyOf, .ref a_there, .int v_waits, .ref a_waitKind, .ref a_waitMany, .ref a_waitBytes, .int v_stateNumber, .long v_stateNow, .int v_second, .int v_repaired, .int v_up, .int v_sent])), (a_disk, .inl ((k 2), 32768, .inl v_disk)), (a_made, .inl ((k 2), 512, .inl v_made)), (a_sectorOf, .inl ((k 2), 5100, .inl v_sectorOf)), (a_placeOf, .inl ((k 2), 5100, .inl v_placeOf)), (a_manyOf, .inl ((k 2), 5100, .inl v_manyOf)), (a_there, .inl ((k 1), 5100, .inl v_there)), (a_waitKind, .inl ((k 2), 100, .inl v_waitKind)), (a_waitMany, .inl ((k 2), 100, .inl v_waitMany)), (a_waitBytes, .inl ((k 3), 100, .inr (.inl v_waitBytes)))] sz) := by
  unfold fX6_clear at h
  refine dk_ofW (Qc := fun A => dk_Qv D [(h0, .inr (6, [.int v_thrown, .int v_sectors, .int v_power, .ref a_disk, .ref a_made, .int v_used, .int v_reserve, .int v_cutWrites, .int v_cutBytes, .int v_rows, .ref a_sectorOf, .ref a_placeOf, .ref a_manyOf, .ref a_there, .int v_waits, .ref a_waitKind, .ref a_waitMany, .ref a_waitBytes, .int v_stateNumber, .long v_stateNow, .int v_second, .int v_repaired, .int v_up, .int v_sent])), (a_disk, .inl ((k 2), 32768, .inl v_disk)), (a_made, .inl ((k 2), 512, .inl o)), (a_sectorOf, .inl ((k 2), 5100, .inl v_sectorOf)), (a_placeOf, .inl ((k 2), 5100, .inl v_placeOf)), (a_manyOf, .inl ((k 2), 5100, .inl v_manyOf)), (a_there, .inl ((k 1), 5100, .inl v_there)), (a_waitKind, .inl ((k 2), 100, .inl v_waitKind)), (a_waitMany, .inl ((k 2), 100, .inl v_waitMany)), (a_waitBytes, .inl ((k 3), 100, .inr (.inl v_waitBytes)))] A) (cc := cX6_clear) (maxL := 3) (ret := none) (lv := [(0, .ref h0), (1, .int p1)]) (by decide) rfl (Nat.le_of_ble_eq_true rfl) rfl ?_
  intro p e s m below meth c C hK hN hP A hA hD hS ls hl
  obtain ⟨hx, hb, hr, hml, hown, hts, hlocks⟩ := id C
  refine lv_iconst (v := 0) hx hb dX6_clear_0 (by decide) ?_
  refine lv_istore_n (lv' := [(2, .int 0), (0, .ref h0), (1, .int p1)]) hx hb dX6_clear_1 rfl hl (by decide) rfl (fun ls hl => ?_)
  replace h := dk_b h
  obtain ⟨o1, e1, h⟩ := h
  refine lX6_clear_2 C hK hN hA _ 0 v_made  e1 (fun H locs hP hD hS ls hl => ?_) _ _ (hP.sub [0, 1, 2, 3, 4, 5, 6, 7, 8, 9] rfl) (hD.sub [0, 1, 2, 3, 4, 5, 6, 7, 8, 9] (by decide) rfl) hS ls (lv_sub hl [1, 2, 0] rfl)
  have hP : va_P D vwCl [(h0, .inr (6, [.int v_thrown, .int v_sectors, .int v_power, .ref a_disk, .ref a_made, .int v_used, .int v_reserve, .int v_cutWrites, .int v_cutBytes, .int v_rows, .ref a_sectorOf, .ref a_placeOf, .ref a_manyOf, .ref a_there, .int v_waits, .ref a_waitKind, .ref a_waitMany, .ref a_waitBytes, .int v_stateNumber, .long v_stateNow, .int v_second, .int v_repaired, .int v_up, .int v_sent])), (a_disk, .inl ((k 2), 32768, .inl v_disk)), (a_made, .inl ((k 2), 512, .inl o1.2)), (a_sectorOf, .inl ((k 2), 5100, .inl v_sectorOf)), (a_placeOf, .inl ((k 2), 5100, .inl v_placeOf)), (a_manyOf, .inl ((k 2), 5100, .inl v_manyOf)), (a_there, .inl ((k 1), 5100, .inl v_there)), (a_waitKind, .inl ((k 2), 100, .inl v_waitKind)), (a_waitMany, .inl ((k 2), 100, .inl v_waitMany)), (a_waitBytes, .inl ((k 3), 100, .inr (.inl v_waitBytes)))] H := hP
  have hD : va_D A [(h0, .inr (6, [.int v_thrown, .int v_sectors, .int v_power, .ref a_disk, .ref a_made, .int v_used, .int v_reserve, .int v_cutWrites, .int v_cutBytes, .int v_rows, .ref a_sectorOf, .ref a_placeOf, .ref a_manyOf, .ref a_there, .int v_waits, .ref a_waitKind, .ref a_waitMany, .ref a_waitBytes, .int v_stateNumber, .long v_stateNow, .int v_second, .int v_repaired, .int v_up, .int v_sent])), (a_disk, .inl ((k 2), 32768, .inl v_disk)), (a_made, .inl ((k 2), 512, .inl o1.2)), (a_sectorOf, .inl ((k 2), 5100, .inl v_sectorOf)), (a_placeOf, .inl ((k 2), 5100, .inl v_placeOf)), (a_manyOf, .inl ((k 2), 5100, .inl v_manyOf)), (a_there, .inl ((k 1), 5100, .inl v_there)), (a_waitKind, .inl ((k 2), 100, .inl v_waitKind)), (a_waitMany, .inl ((k 2), 100, .inl v_waitMany)), (a_waitBytes, .inl ((k 3), 100, .inr (.inl v_waitBytes)))] := hD
  have hl : lv_has ls 3 [(0, .ref h0), (1, .int p1), (2, .int o1.1)] := hl
  refine lv_iconst (v := 0) hx hb dX6_clear_22 (by decide) ?_
  refine lv_istore_n (lv' := [(2, .int 0), (0, .ref h0), (1, .int p1)]) hx hb dX6_clear_23 rfl hl (by decide) rfl (fun ls hl => ?_)
  replace h := dk_b h
  obtain ⟨o2, e2, h⟩ := h
  refine lX6_clear_24 C hK hN hA _ 0 o1.2  e2 (fun H locs hP hD hS ls hl => ?_) _ _ (hP.sub [0, 1, 2, 3, 4, 5, 6, 7, 8, 9] rfl) (hD.sub [0, 1, 2, 3, 4, 5, 6, 7, 8, 9] (by decide) rfl) hS ls (lv_sub hl [1, 2, 0] rfl)
  have hP : va_P D vwCl [(h0, .inr (6, [.int v_thrown, .int v_sectors, .int v_power, .ref a_disk, .ref a_made, .int v_used, .int v_reserve, .int v_cutWrites, .int v_cutBytes, .int v_rows, .ref a_sectorOf, .ref a_placeOf, .ref a_manyOf, .ref a_there, .int v_waits, .ref a_waitKind, .ref a_waitMany, .ref a_waitBytes, .int v_stateNumber, .long v_stateNow, .int v_second, .int v_repaired, .int v_up, .int v_sent])), (a_disk, .inl ((k 2), 32768, .inl v_disk)), (a_made, .inl ((k 2), 512, .inl o2.2)), (a_sectorOf, .inl ((k 2), 5100, .inl v_sectorOf)), (a_placeOf, .inl ((k 2), 5100, .inl v_placeOf)), (a_manyOf, .inl ((k 2), 5100, .inl v_manyOf)), (a_there, .inl ((k 1), 5100, .inl v_there)), (a_waitKind, .inl ((k 2), 100, .inl v_waitKind)), (a_waitMany, .inl ((k 2), 100, .inl v_waitMany)), (a_waitBytes, .inl ((k 3), 100, .inr (.inl v_waitBytes)))] H := hP
  have hD : va_D A [(h0, .inr (6, [.int v_thrown, .int v_sectors, .int v_power, .ref a_disk, .ref a_made, .int v_used, .int v_reserve, .int v_cutWrites, .int v_cutBytes, .int v_rows, .ref a_sectorOf, .ref a_placeOf, .ref a_manyOf, .ref a_there, .int v_waits, .ref a_waitKind, .ref a_waitMany, .ref a_waitBytes, .int v_stateNumber, .long v_stateNow, .int v_second, .int v_repaired, .int v_up, .int v_sent])), (a_disk, .inl ((k 2), 32768, .inl v_disk)), (a_made, .inl ((k 2), 512, .inl o2.2)), (a_sectorOf, .inl ((k 2), 5100, .inl v_sectorOf)), (a_placeOf, .inl ((k 2), 5100, .inl v_placeOf)), (a_manyOf, .inl ((k 2), 5100, .inl v_manyOf)), (a_there, .inl ((k 1), 5100, .inl v_there)), (a_waitKind, .inl ((k 2), 100, .inl v_waitKind)), (a_waitMany, .inl ((k 2), 100, .inl v_waitMany)), (a_waitBytes, .inl ((k 3), 100, .inr (.inl v_waitBytes)))] := hD
  have hl : lv_has ls 3 [(0, .ref h0), (1, .int p1), (2, .int o2.1)] := hl
  have h := dk_r h
  subst h
  exact dk_rwv hx hb hr hlocks (hP.sub [0, 1, 2, 3, 4, 5, 6, 7, 8, 9] rfl) (hD.sub [0, 1, 2, 3, 4, 5, 6, 7, 8, 9] (by decide) rfl) hS dX6_clear_49
/-! ServiceDiskModel.finish(I)V: rw, frames 1, locals 22 -/
def fX6_finish_L19 (v_made : Nat → Int32)  : Nat → (Int32) → (Int32) → Option (Int32 × Int32)
  | 0, _, _ => none
  | n + 1, x2, x3 =>
    if (508 : Int32) ≤ x3 then
      some (x2, x3)
    else
      if dk_in x3 512 then
      (fX6_with x2 (v_made x3.toNatClampNeg)).bind fun o5 =>
      fX6_finish_L19 v_made n o5 (x3 + 1)
      else none
def fX6_finish_L45 (x2 : Int32) : Nat → (Int32) → (Nat → Int32) → Option (Int32 × (Nat → Int32))
  | 0, _, _ => none
  | n + 1, x3, v_made =>
    if (4 : Int32) ≤ x3 then
      some (x3, v_made)
    else
      (fX6_put v_made (508 + x3) (x2 >>> ((24 - (8 * x3)) &&& 31))).bind fun o6 =>
      fX6_finish_L45 x2 n (x3 + 1) o6
def fX6_finish (v_made : Nat → Int32) (p1 : Int32) : Option ((Nat → Int32)) :=
  (fX6_put v_made 4 (p1 >>> (8 &&& 31))).bind fun o1 =>
  (fX6_put o1 5 p1).bind fun o2 =>
  (fX6_finish_L19 o2 dkF 0 0).bind fun o3 =>
  (fX6_finish_L45 o3.1 dkF 0 o2).bind fun o4 =>
  some (o4.2)
set_option maxHeartbeats 4000000 in
set_option maxRecDepth 100000 in
theorem lX6_finish_19 {p : Program} {l : Launch} {e : Env} {s : State} {m : MethodId} {below : List Frame} {meth : Method} {c : Code} {args : Array Value} {D : va_G} {k : Nat → ClassId} {h0 : Nat} {a_disk : Nat} {a_made : Nat} {a_sectorOf : Nat} {a_placeOf : Nat} {a_manyOf : Nat} {a_there : Nat} {a_waitKind : Nat} {a_waitMany : Nat} {a_waitBytes : Nat} {v_thrown : Int32} {v_sectors : Int32} {v_power : Int32} {v_used : Int32} {v_reserve : Int32} {v_cutWrites : Int32} {v_cutBytes : Int32} {v_rows : Int32} {v_waits : Int32} {v_stateNumber : Int32} {v_stateNow : Int64} {v_second : Int32} {v_repaired : Int32} {v_up : Int32} {v_sent : Int32} {v_disk : Nat → Int32} {v_made : Nat → Int32} {v_sectorOf : Nat → Int32} {v_placeOf : Nat → Int32} {v_manyOf : Nat → Int32} {v_there : Nat → Int32} {v_waitKind : Nat → Int32} {v_waitMany : Nat → Int32} {v_waitBytes : Nat → Int64} {Q : State → Prop} {o : Int32 × Int32} {A : Nat → Prop} (C : dk_Cx p s m meth c cX6_finish none 4 "ServiceDiskModel" dkB args) (hK : va_K D vwCl (dkT k) s) (hN : dk_N s) (hA : ∀ q : Nat, s.heap.size ≤ q → A q) :
    ∀ (n : Nat) (x2 : Int32) (x3 : Int32), fX6_finish_L19 v_made n x2 x3 = some o → (∀ (H : Heap) (locs : List Loc), va_P D vwCl [(h0, .inr (6, [.int v_thrown, .int v_sectors, .int v_power, .ref a_disk, .ref a_made, .int v_used, .int v_reserve, .int v_cutWrites, .int v_cutBytes, .int v_rows, .ref a_sectorOf, .ref a_placeOf, .ref a_manyOf, .ref a_there, .int v_waits, .ref a_waitKind, .ref a_waitMany, .ref a_waitBytes, .int v_stateNumber, .long v_stateNow, .int v_second, .int v_repaired, .int v_up, .int v_sent])), (a_disk, .inl ((k 2), 32768, .inl v_disk)), (a_made, .inl ((k 2), 512, .inl v_made)), (a_sectorOf, .inl ((k 2), 5100, .inl v_sectorOf)), (a_placeOf, .inl ((k 2), 5100, .inl v_placeOf)), (a_manyOf, .inl ((k 2), 5100, .inl v_manyOf)), (a_there, .inl ((k 1), 5100, .inl v_there)), (a_waitKind, .inl ((k 2), 100, .inl v_waitKind)), (a_waitMany, .inl ((k 2), 100, .inl v_waitMany)), (a_waitBytes, .inl ((k 3), 100, .inr (.inl v_waitBytes)))] H → va_D A [(h0, .inr (6, [.int v_thrown, .int v_sectors, .int v_power, .ref a_disk, .ref a_made, .int v_used, .int v_reserve, .int v_cutWrites, .int v_cutBytes, .int v_rows, .ref a_sectorOf, .ref a_placeOf, .ref a_manyOf, .ref a_there, .int v_waits, .ref a_waitKind, .ref a_waitMany, .ref a_waitBytes, .int v_stateNumber, .long v_stateNow, .int v_second, .int v_repaired, .int v_up, .int v_sent])), (a_disk, .inl ((k 2), 32768, .inl v_disk)), (a_made, .inl ((k 2), 512, .inl v_made)), (a_sectorOf, .inl ((k 2), 5100, .inl v_sectorOf)), (a_placeOf, .inl ((k 2), 5100, .inl v_placeOf)), (a_manyOf, .inl ((k 2), 5100, .inl v_manyOf)), (a_there, .inl ((k 1), 5100, .inl v_there)), (a_waitKind, .inl ((k 2), 100, .inl v_waitKind)), (a_waitMany, .inl ((k 2), 100, .inl v_waitMany)), (a_waitBytes, .inl ((k 3), 100, .inr (.inl v_waitBytes)))] → va_S A s.heap H locs → ∀ ls : Array Slot, lv_has ls 4 [(0, .ref h0), (2, .int o.1), (3, .int o.2)] → W p l e { frames := 1, cells := 0, slots := 0, locals := 22 } s m args below meth c H locs 0 0 Q (F0 m 43 ls [])) → ∀ (H : Heap) (locs : List Loc), va_P D vwCl [(h0, .inr (6, [.int v_thrown, .int v_sectors, .int v_power, .ref a_disk, .ref a_made, .int v_used, .int v_reserve, .int v_cutWrites, .int v_cutBytes, .int v_rows, .ref a_sectorOf, .ref a_placeOf, .ref a_manyOf, .ref a_there, .int v_waits, .ref a_waitKind, .ref a_waitMany, .ref a_waitBytes, .int v_stateNumber, .long v_stateNow, .int v_second, .int v_repaired, .int v_up, .int v_sent])), (a_disk, .inl ((k 2), 32768, .inl v_disk)), (a_made, .inl ((k 2), 512, .inl v_made)), (a_sectorOf, .inl ((k 2), 5100, .inl v_sectorOf)), (a_placeOf, .inl ((k 2), 5100, .inl v_placeOf)), (a_manyOf, .inl ((k 2), 5100, .inl v_manyOf)), (a_there, .inl ((k 1), 5100, .inl v_there)), (a_waitKind, .inl ((k 2), 100, .inl v_waitKind)), (a_waitMany, .inl ((k 2), 100, .inl v_waitMany)), (a_waitBytes, .inl ((k 3), 100, .inr (.inl v_waitBytes)))] H → va_D A [(h0, .inr (6, [.int v_thrown, .int v_sectors, .int v_power, .ref a_disk, .ref a_made, .int v_used, .int v_reserve, .int v_cutWrites, .int v_cutBytes, .int v_rows, .ref a_sectorOf, .ref a_placeOf, .ref a_manyOf, .ref a_there, .int v_waits, .ref a_waitKind, .ref a_waitMany, .ref a_waitBytes, .int v_stateNumber, .long v_stateNow, .int v_second, .int v_repaired, .int v_up, .int v_sent])), (a_disk, .inl ((k 2), 32768, .inl v_disk)), (a_made, .inl ((k 2), 512, .inl v_made)), (a_sectorOf, .inl ((k 2), 5100, .inl v_sectorOf)), (a_placeOf, .inl ((k 2), 5100, .inl v_placeOf)), (a_manyOf, .inl ((k 2), 5100, .inl v_manyOf)), (a_there, .inl ((k 1), 5100, .inl v_there)), (a_waitKind, .inl ((k 2), 100, .inl v_waitKind)), (a_waitMany, .inl ((k 2), 100, .inl v_waitMany)), (a_waitBytes, .inl ((k 3), 100, .inr (.inl v_waitBytes)))] → va_S A s.heap H locs → ∀ ls : Array Slot, lv_has ls 4 [(0, .ref h0), (2, .int x2), (3, .int x3)] → W p l e { frames := 1, cells := 0, slots := 0, locals := 22 } s m args below meth c H locs 0 0 Q (F0 m 19 ls []) := by
  obtain ⟨hx, hb, hr, hml, hown, hts, hlocks⟩ := id C
  intro n
  induction n with
  | zero =>
    intro x2 x3 h
    exact dk_n (o := o) h
  | succ n ih =>
    intro x2 x3 h K H locs hP hD hS ls hl
    rw [fX6_finish_L19.eq_2] at h
    refine lv_iload_n hx hb dX6_finish_19 rfl (lv_at hl 2 rfl) ?_
    refine lv_sipush (v := 508) hx hb dX6_finish_20 (by decide) ?_
    refine lv_icmp_ge (tgt := 43) hx hb dX6_finish_23 (by decide) (fun q => ?_) (fun q => ?_)
    · replace h := dk_t q h
      have h := dk_r h
      subst h
      exact K _ _ (hP.sub [0, 1, 2, 3, 4, 5, 6, 7, 8, 9] rfl) (hD.sub [0, 1, 2, 3, 4, 5, 6, 7, 8, 9] (by decide) rfl) hS ls (lv_sub hl [0, 1, 2] rfl)
    · replace h := dk_f q h
      refine lv_iload_n hx hb dX6_finish_26 rfl (lv_at hl 1 rfl) ?_
      refine lv_aload_n hx hb dX6_finish_27 rfl (lv_at hl 0 rfl) ?_
      refine va_get (D := D) (ci := 6) (v := .ref a_made) (C := "ServiceDiskModel") (T := TX6) (N := 24) hx hb hts inX6 hown hK hP 0 rfl rfl 4 (by decide) (hts _ w_741) (fun _ h9 => h9) rfl dX6_finish_28 ?_
      refine lv_iload_n hx hb dX6_finish_31 rfl (lv_at hl 2 rfl) ?_
      obtain ⟨q, h⟩ := dk_g h
      refine va_iald hx hb hK hP 2 2 rfl rfl q dX6_finish_32 ?_
      replace h := dk_b h
      obtain ⟨o5, e5, h⟩ := h
      refine dk_cri (va_runS (As := [.int x2, .int (v_made x3.toNatClampNeg)]) (rest := []) ⟨hx, hb, hml, hown, hts⟩ (mX6_with l D k x2 (v_made x3.toNatClampNeg) o5 e5) (va_cwS 2 hts (dk_gS w_857 w_858 w_46 w_859) rfl rfl rfl (by decide +kernel) ⟨Nat.le_of_ble_eq_true rfl, Nat.le_of_ble_eq_true rfl⟩) (dk_psr hK hN hP [] rfl) rfl rfl hl.1 rfl (lv_room (Nat.le_of_ble_eq_true rfl)) dX6_finish_33 ⟨Nat.le_of_ble_eq_true rfl, Nat.le_of_ble_eq_true rfl⟩) ?_
      refine lv_istore_n (lv' := [(2, .int o5), (0, .ref h0), (3, .int x3)]) hx hb dX6_finish_36 rfl hl (by decide) rfl (fun ls hl => ?_)
      refine lv_iinc (v := (x3 + 1)) (lv' := [(3, .int (x3 + 1)), (2, .int o5), (0, .ref h0)]) hx hb dX6_finish_37 hl (k := 2) rfl rfl (by decide) rfl (fun ls hl => ?_)
      refine lv_goto (tgt := 19) hx hb dX6_finish_40 (by decide) ?_
      exact ih o5 (x3 + 1) h K _ _ (hP.sub [0, 1, 2, 3, 4, 5, 6, 7, 8, 9] rfl) (hD.sub [0, 1, 2, 3, 4, 5, 6, 7, 8, 9] (by decide) rfl) hS ls (lv_sub hl [2, 1, 0] rfl)
set_option maxHeartbeats 4000000 in
set_option maxRecDepth 100000 in
theorem lX6_finish_45 {p : Program} {l : Launch} {e : Env} {s : State} {m : MethodId} {below : List Frame} {meth : Method} {c : Code} {args : Array Value} {D : va_G} {k : Nat → ClassId} {h0 : Nat} {a_disk : Nat} {a_made : Nat} {a_sectorOf : Nat} {a_placeOf : Nat} {a_manyOf : Nat} {a_there : Nat} {a_waitKind : Nat} {a_waitMany : Nat} {a_waitBytes : Nat} {v_thrown : Int32} {v_sectors : Int32} {v_power : Int32} {v_used : Int32} {v_reserve : Int32} {v_cutWrites : Int32} {v_cutBytes : Int32} {v_rows : Int32} {v_waits : Int32} {v_stateNumber : Int32} {v_stateNow : Int64} {v_second : Int32} {v_repaired : Int32} {v_up : Int32} {v_sent : Int32} {v_disk : Nat → Int32} {v_sectorOf : Nat → Int32} {v_placeOf : Nat → Int32} {v_manyOf : Nat → Int32} {v_there : Nat → Int32} {v_waitKind : Nat → Int32} {v_waitMany : Nat → Int32} {v_waitBytes : Nat → Int64} {x2 : Int32} {Q : State → Prop} {o : Int32 × (Nat → Int32)} {A : Nat → Prop} (C : dk_Cx p s m meth c cX6_finish none 4 "ServiceDiskModel" dkB args) (hK : va_K D vwCl (dkT k) s) (hN : dk_N s) (hA : ∀ q : Nat, s.heap.size ≤ q → A q) :
    ∀ (n : Nat) (x3 : Int32) (v_made : Nat → Int32), fX6_finish_L45 x2 n x3 v_made = some o → (∀ (H : Heap) (locs : List Loc), va_P D vwCl [(h0, .inr (6, [.int v_thrown, .int v_sectors, .int v_power, .ref a_disk, .ref a_made, .int v_used, .int v_reserve, .int v_cutWrites, .int v_cutBytes, .int v_rows, .ref a_sectorOf, .ref a_placeOf, .ref a_manyOf, .ref a_there, .int v_waits, .ref a_waitKind, .ref a_waitMany, .ref a_waitBytes, .int v_stateNumber, .long v_stateNow, .int v_second, .int v_repaired, .int v_up, .int v_sent])), (a_disk, .inl ((k 2), 32768, .inl v_disk)), (a_made, .inl ((k 2), 512, .inl o.2)), (a_sectorOf, .inl ((k 2), 5100, .inl v_sectorOf)), (a_placeOf, .inl ((k 2), 5100, .inl v_placeOf)), (a_manyOf, .inl ((k 2), 5100, .inl v_manyOf)), (a_there, .inl ((k 1), 5100, .inl v_there)), (a_waitKind, .inl ((k 2), 100, .inl v_waitKind)), (a_waitMany, .inl ((k 2), 100, .inl v_waitMany)), (a_waitBytes, .inl ((k 3), 100, .inr (.inl v_waitBytes)))] H → va_D A [(h0, .inr (6, [.int v_thrown, .int v_sectors, .int v_power, .ref a_disk, .ref a_made, .int v_used, .int v_reserve, .int v_cutWrites, .int v_cutBytes, .int v_rows, .ref a_sectorOf, .ref a_placeOf, .ref a_manyOf, .ref a_there, .int v_waits, .ref a_waitKind, .ref a_waitMany, .ref a_waitBytes, .int v_stateNumber, .long v_stateNow, .int v_second, .int v_repaired, .int v_up, .int v_sent])), (a_disk, .inl ((k 2), 32768, .inl v_disk)), (a_made, .inl ((k 2), 512, .inl o.2)), (a_sectorOf, .inl ((k 2), 5100, .inl v_sectorOf)), (a_placeOf, .inl ((k 2), 5100, .inl v_placeOf)), (a_manyOf, .inl ((k 2), 5100, .inl v_manyOf)), (a_there, .inl ((k 1), 5100, .inl v_there)), (a_waitKind, .inl ((k 2), 100, .inl v_waitKind)), (a_waitMany, .inl ((k 2), 100, .inl v_waitMany)), (a_waitBytes, .inl ((k 3), 100, .inr (.inl v_waitBytes)))] → va_S A s.heap H locs → ∀ ls : Array Slot, lv_has ls 4 [(0, .ref h0), (2, .int x2), (3, .int o.1)] → W p l e { frames := 1, cells := 0, slots := 0, locals := 22 } s m args below meth c H locs 0 0 Q (F0 m 74 ls [])) → ∀ (H : Heap) (locs : List Loc), va_P D vwCl [(h0, .inr (6, [.int v_thrown, .int v_sectors, .int v_power, .ref a_disk, .ref a_made, .int v_used, .int v_reserve, .int v_cutWrites, .int v_cutBytes, .int v_rows, .ref a_sectorOf, .ref a_placeOf, .ref a_manyOf, .ref a_there, .int v_waits, .ref a_waitKind, .ref a_waitMany, .ref a_waitBytes, .int v_stateNumber, .long v_stateNow, .int v_second, .int v_repaired, .int v_up, .int v_sent])), (a_disk, .inl ((k 2), 32768, .inl v_disk)), (a_made, .inl ((k 2), 512, .inl v_made)), (a_sectorOf, .inl ((k 2), 5100, .inl v_sectorOf)), (a_placeOf, .inl ((k 2), 5100, .inl v_placeOf)), (a_manyOf, .inl ((k 2), 5100, .inl v_manyOf)), (a_there, .inl ((k 1), 5100, .inl v_there)), (a_waitKind, .inl ((k 2), 100, .inl v_waitKind)), (a_waitMany, .inl ((k 2), 100, .inl v_waitMany)), (a_waitBytes, .inl ((k 3), 100, .inr (.inl v_waitBytes)))] H → va_D A [(h0, .inr (6, [.int v_thrown, .int v_sectors, .int v_power, .ref a_disk, .ref a_made, .int v_used, .int v_reserve, .int v_cutWrites, .int v_cutBytes, .int v_rows, .ref a_sectorOf, .ref a_placeOf, .ref a_manyOf, .ref a_there, .int v_waits, .ref a_waitKind, .ref a_waitMany, .ref a_waitBytes, .int v_stateNumber, .long v_stateNow, .int v_second, .int v_repaired, .int v_up, .int v_sent])), (a_disk, .inl ((k 2), 32768, .inl v_disk)), (a_made, .inl ((k 2), 512, .inl v_made)), (a_sectorOf, .inl ((k 2), 5100, .inl v_sectorOf)), (a_placeOf, .inl ((k 2), 5100, .inl v_placeOf)), (a_manyOf, .inl ((k 2), 5100, .inl v_manyOf)), (a_there, .inl ((k 1), 5100, .inl v_there)), (a_waitKind, .inl ((k 2), 100, .inl v_waitKind)), (a_waitMany, .inl ((k 2), 100, .inl v_waitMany)), (a_waitBytes, .inl ((k 3), 100, .inr (.inl v_waitBytes)))] → va_S A s.heap H locs → ∀ ls : Array Slot, lv_has ls 4 [(0, .ref h0), (2, .int x2), (3, .int x3)] → W p l e { frames := 1, cells := 0, slots := 0, locals := 22 } s m args below meth c H locs 0 0 Q (F0 m 45 ls []) := by
  obtain ⟨hx, hb, hr, hml, hown, hts, hlocks⟩ := id C
  intro n
  induction n with
  | zero =>
    intro x3 v_made h
    exact dk_n (o := o) h
  | succ n ih =>
    intro x3 v_made h K H locs hP hD hS ls hl
    rw [fX6_finish_L45.eq_2] at h
    refine lv_iload_n hx hb dX6_finish_45 rfl (lv_at hl 2 rfl) ?_
    refine lv_iconst (v := 4) hx hb dX6_finish_46 (by decide) ?_
    refine lv_icmp_ge (tgt := 74) hx hb dX6_finish_47 (by decide) (fun q => ?_) (fun q => ?_)
    · replace h := dk_t q h
      have h := dk_r h
      subst h
      exact K _ _ (hP.sub [0, 1, 2, 3, 4, 5, 6, 7, 8, 9] rfl) (hD.sub [0, 1, 2, 3, 4, 5, 6, 7, 8, 9] (by decide) rfl) hS ls (lv_sub hl [0, 1, 2] rfl)
    · replace h := dk_f q h
      refine lv_aload_n hx hb dX6_finish_50 rfl (lv_at hl 0 rfl) ?_
      refine lv_sipush (v := 508) hx hb dX6_finish_51 (by decide) ?_
      refine lv_iload_n hx hb dX6_finish_54 rfl (lv_at hl 2 rfl) ?_
      refine lv_iadd hx hb dX6_finish_55 ?_
      refine lv_iload_n hx hb dX6_finish_56 rfl (lv_at hl 1 rfl) ?_
      refine lv_bipush (v := 24) hx hb dX6_finish_57 (by decide) ?_
      refine lv_bipush (v := 8) hx hb dX6_finish_59 (by decide) ?_
      refine lv_iload_n hx hb dX6_finish_61 rfl (lv_at hl 2 rfl) ?_
      refine lv_imul hx hb dX6_finish_62 ?_
      refine lv_isub hx hb dX6_finish_63 ?_
      refine lv_ishr hx hb dX6_finish_64 ?_
      replace h := dk_b h
      obtain ⟨o6, e6, h⟩ := h
      refine dk_cwv (wr := []) (va_runV (As := [.int (508 + x3), .int (x2 >>> ((24 - (8 * x3)) &&& 31))]) (rest := []) ⟨hx, hb, hml, hown, hts⟩ (mX6_put l D k h0 a_disk a_made a_sectorOf a_placeOf a_manyOf a_there a_waitKind a_waitMany a_waitBytes H.size v_thrown v_sectors v_power v_used v_reserve v_cutWrites v_cutBytes v_rows v_waits v_stateNumber v_stateNow v_second v_repaired v_up v_sent v_disk v_made v_sectorOf v_placeOf v_manyOf v_there v_waitKind v_waitMany v_waitBytes (508 + x3) (x2 >>> ((24 - (8 * x3)) &&& 31)) o6 e6) (cwV 2 hts (dk_gV w_845 w_847 w_23 w_46 w_848) rfl rfl rfl (by decide +kernel) ⟨Nat.le_of_ble_eq_true rfl, Nat.le_of_ble_eq_true rfl⟩) (dk_pvw hK hN hP hD [0, 1, 2, 3, 4, 5, 6, 7, 8, 9] rfl rfl rfl rfl (hP.sub [0, 1, 2, 3, 4, 5, 6, 7, 8, 9] rfl)) rfl rfl hl.1 rfl (lv_room (Nat.le_of_ble_eq_true rfl)) dX6_finish_65 ⟨Nat.le_of_ble_eq_true rfl, Nat.le_of_ble_eq_true rfl⟩) hP hD hS hA [0, 1, 2, 3, 4, 5, 6, 7, 8, 9] [] rfl rfl rfl (by decide) (fun H locs hP hD hS => ?_)
      have hP : va_P D vwCl [(h0, .inr (6, [.int v_thrown, .int v_sectors, .int v_power, .ref a_disk, .ref a_made, .int v_used, .int v_reserve, .int v_cutWrites, .int v_cutBytes, .int v_rows, .ref a_sectorOf, .ref a_placeOf, .ref a_manyOf, .ref a_there, .int v_waits, .ref a_waitKind, .ref a_waitMany, .ref a_waitBytes, .int v_stateNumber, .long v_stateNow, .int v_second, .int v_repaired, .int v_up, .int v_sent])), (a_disk, .inl ((k 2), 32768, .inl v_disk)), (a_made, .inl ((k 2), 512, .inl o6)), (a_sectorOf, .inl ((k 2), 5100, .inl v_sectorOf)), (a_placeOf, .inl ((k 2), 5100, .inl v_placeOf)), (a_manyOf, .inl ((k 2), 5100, .inl v_manyOf)), (a_there, .inl ((k 1), 5100, .inl v_there)), (a_waitKind, .inl ((k 2), 100, .inl v_waitKind)), (a_waitMany, .inl ((k 2), 100, .inl v_waitMany)), (a_waitBytes, .inl ((k 3), 100, .inr (.inl v_waitBytes)))] H := hP
      have hD : va_D A [(h0, .inr (6, [.int v_thrown, .int v_sectors, .int v_power, .ref a_disk, .ref a_made, .int v_used, .int v_reserve, .int v_cutWrites, .int v_cutBytes, .int v_rows, .ref a_sectorOf, .ref a_placeOf, .ref a_manyOf, .ref a_there, .int v_waits, .ref a_waitKind, .ref a_waitMany, .ref a_waitBytes, .int v_stateNumber, .long v_stateNow, .int v_second, .int v_repaired, .int v_up, .int v_sent])), (a_disk, .inl ((k 2), 32768, .inl v_disk)), (a_made, .inl ((k 2), 512, .inl o6)), (a_sectorOf, .inl ((k 2), 5100, .inl v_sectorOf)), (a_placeOf, .inl ((k 2), 5100, .inl v_placeOf)), (a_manyOf, .inl ((k 2), 5100, .inl v_manyOf)), (a_there, .inl ((k 1), 5100, .inl v_there)), (a_waitKind, .inl ((k 2), 100, .inl v_waitKind)), (a_waitMany, .inl ((k 2), 100, .inl v_waitMany)), (a_waitBytes, .inl ((k 3), 100, .inr (.inl v_waitBytes)))] := hD
      refine lv_iinc (v := (x3 + 1)) (lv' := [(3, .int (x3 + 1)), (0, .ref h0), (2, .int x2)]) hx hb dX6_finish_68 hl (k := 2) rfl rfl (by decide) rfl (fun ls hl => ?_)
      refine lv_goto (tgt := 45) hx hb dX6_finish_71 (by decide) ?_
      exact ih (x3 + 1) o6 h K _ _ (hP.sub [0, 1, 2, 3, 4, 5, 6, 7, 8, 9] rfl) (hD.sub [0, 1, 2, 3, 4, 5, 6, 7, 8, 9] (by decide) rfl) hS ls (lv_sub hl [1, 2, 0] rfl)
set_option maxHeartbeats 4000000 in
set_option maxRecDepth 100000 in
theorem mX6_finish (l : Launch) (D : va_G) (k : Nat → ClassId) (h0 a_disk a_made a_sectorOf a_placeOf a_manyOf a_there a_waitKind a_waitMany a_waitBytes : Nat) (sz : Nat) (v_thrown : Int32) (v_sectors : Int32) (v_power : Int32) (v_used : Int32) (v_reserve : Int32) (v_cutWrites : Int32) (v_cutBytes : Int32) (v_rows : Int32) (v_waits : Int32) (v_stateNumber : Int32) (v_stateNow : Int64) (v_second : Int32) (v_repaired : Int32) (v_up : Int32) (v_sent : Int32) (v_disk : Nat → Int32) (v_made : Nat → Int32) (v_sectorOf : Nat → Int32) (v_placeOf : Nat → Int32) (v_manyOf : Nat → Int32) (v_there : Nat → Int32) (v_waitKind : Nat → Int32) (v_waitMany : Nat → Int32) (v_waitBytes : Nat → Int64) (p1 : Int32) (o : (Nat → Int32)) (h : fX6_finish v_made p1 = some o) : Met l yX6_finish wsX6_finish { frames := 1, cells := 0, slots := 0, locals := 22 } (dk_Pw D k [.ref h0, .int p1] [(h0, .inr (6, [.int v_thrown, .int v_sectors, .int v_power, .ref a_disk, .ref a_made, .int v_used, .int v_reserve, .int v_cutWrites, .int v_cutBytes, .int v_rows, .ref a_sectorOf, .ref a_placeOf, .ref a_manyOf, .ref a_there, .int v_waits, .ref a_waitKind, .ref a_waitMany, .ref a_waitBytes, .int v_stateNumber, .long v_stateNow, .int v_second, .int v_repaired, .int v_up, .int v_sent])), (a_disk, .inl ((k 2), 32768, .inl v_disk)), (a_made, .inl ((k 2), 512, .inl v_made)), (a_sectorOf, .inl ((k 2), 5100, .inl v_sectorOf)), (a_placeOf, .inl ((k 2), 5100, .inl v_placeOf)), (a_manyOf, .inl ((k 2), 5100, .inl v_manyOf)), (a_there, .inl ((k 1), 5100, .inl v_there)), (a_waitKind, .inl ((k 2), 100, .inl v_waitKind)), (a_waitMany, .inl ((k 2), 100, .inl v_waitMany)), (a_waitBytes, .inl ((k 3), 100, .inr (.inl v_waitBytes)))] sz) (dk_Qv D [(h0, .inr (6, [.int v_thrown, .int v_sectors, .int v_power, .ref a_disk, .ref a_made, .int v_used, .int v_reserve, .int v_cutWrites, .int v_cutBytes, .int v_rows, .ref a_sectorOf, .ref a_placeOf, .ref a_manyOf, .ref a_there, .int v_waits, .ref a_waitKind, .ref a_waitMany, .ref a_waitBytes, .int v_stateNumber, .long v_stateNow, .int v_second, .int v_repaired, .int v_up, .int v_sent])), (a_disk, .inl ((k 2), 32768, .inl v_disk)), (a_made, .inl ((k 2), 512, .inl o)), (a_sectorOf, .inl ((k 2), 5100, .inl v_sectorOf)), (a_placeOf, .inl ((k 2), 5100, .inl v_placeOf)), (a_manyOf, .inl ((k 2), 5100, .inl v_manyOf)), (a_there, .inl ((k 1), 5100, .inl v_there)), (a_waitKind, .inl ((k 2), 100, .inl v_waitKind)), (a_waitMany, .inl ((k 2), 100, .inl v_waitMany)), (a_waitBytes, .inl ((k 3), 100, .inr (.inl v_waitBytes)))] (va_A [(h0, .inr (6, [.int v_thrown, .int v_sectors, .int v_power, .ref a_disk, .ref a_made, .int v_used, .int v_reserve, .int v_cutWrites, .int v_cutBytes, .int v_rows, .ref a_sectorOf, .ref a_placeOf, .ref a_manyOf, .ref a_there, .int v_waits, .ref a_waitKind, .ref a_waitMany, .ref a_waitBytes, .int v_stateNumber, .long v_stateNow, .int v_second, .int v_repaired, .int v_up, .int v_sent])), (a_disk, .inl ((k 2), 32768, .inl v_disk)), (a_made, .inl ((k 2), 512, .inl v_made)), (a_sectorOf, .inl ((k 2), 5100, .inl v_sectorOf)), (a_placeOf, .inl ((k 2), 5100, .inl v_placeOf)), (a_manyOf, .inl ((k 2), 5100, .inl v_manyOf)), (a_there, .inl ((k 1), 5100, .inl v_there)), (a_waitKind, .inl ((k 2), 100, .inl v_waitKind)), (a_waitMany, .inl ((k 2), 100, .inl v_waitMany)), (a_waitBytes, .inl ((k 3), 100, .inr (.inl v_waitBytes)))] sz)) 0 0 (va_A [(h0, .inr (6, [.int v_thrown, .int v_sectors, .int v_power, .ref a_disk, .ref a_made, .int v_used, .int v_reserve, .int v_cutWrites, .int v_cutBytes, .int v_rows, .ref a_sectorOf, .ref a_placeOf, .ref a_manyOf, .ref a_there, .int v_waits, .ref a_waitKind, .ref a_waitMany, .ref a_waitBytes, .int v_stateNumber, .long v_stateNow, .int v_second, .int v_repaired, .int v_up, .int v_sent])), (a_disk, .inl ((k 2), 32768, .inl v_disk)), (a_made, .inl ((k 2), 512, .inl v_made)), (a_sectorOf, .inl ((k 2), 5100, .inl v_sectorOf)), (a_placeOf, .inl ((k 2), 5100, .inl v_placeOf)), (a_manyOf, .inl ((k 2), 5100, .inl v_manyOf)), (a_there, .inl ((k 1), 5100, .inl v_there)), (a_waitKind, .inl ((k 2), 100, .inl v_waitKind)), (a_waitMany, .inl ((k 2), 100, .inl v_waitMany)), (a_waitBytes, .inl ((k 3), 100, .inr (.inl v_waitBytes)))] sz) := by
  unfold fX6_finish at h
  refine dk_ofW (Qc := fun A => dk_Qv D [(h0, .inr (6, [.int v_thrown, .int v_sectors, .int v_power, .ref a_disk, .ref a_made, .int v_used, .int v_reserve, .int v_cutWrites, .int v_cutBytes, .int v_rows, .ref a_sectorOf, .ref a_placeOf, .ref a_manyOf, .ref a_there, .int v_waits, .ref a_waitKind, .ref a_waitMany, .ref a_waitBytes, .int v_stateNumber, .long v_stateNow, .int v_second, .int v_repaired, .int v_up, .int v_sent])), (a_disk, .inl ((k 2), 32768, .inl v_disk)), (a_made, .inl ((k 2), 512, .inl o)), (a_sectorOf, .inl ((k 2), 5100, .inl v_sectorOf)), (a_placeOf, .inl ((k 2), 5100, .inl v_placeOf)), (a_manyOf, .inl ((k 2), 5100, .inl v_manyOf)), (a_there, .inl ((k 1), 5100, .inl v_there)), (a_waitKind, .inl ((k 2), 100, .inl v_waitKind)), (a_waitMany, .inl ((k 2), 100, .inl v_waitMany)), (a_waitBytes, .inl ((k 3), 100, .inr (.inl v_waitBytes)))] A) (cc := cX6_finish) (maxL := 4) (ret := none) (lv := [(0, .ref h0), (1, .int p1)]) (by decide) rfl (Nat.le_of_ble_eq_true rfl) rfl ?_
  intro p e s m below meth c C hK hN hP A hA hD hS ls hl
  obtain ⟨hx, hb, hr, hml, hown, hts, hlocks⟩ := id C
  refine lv_aload_n hx hb dX6_finish_0 rfl (lv_at hl 0 rfl) ?_
  refine lv_iconst (v := 4) hx hb dX6_finish_1 (by decide) ?_
  refine lv_iload_n hx hb dX6_finish_2 rfl (lv_at hl 1 rfl) ?_
  refine lv_bipush (v := 8) hx hb dX6_finish_3 (by decide) ?_
  refine lv_ishr hx hb dX6_finish_5 ?_
  replace h := dk_b h
  obtain ⟨o1, e1, h⟩ := h
  refine dk_cwv (wr := []) (va_runV (As := [.int 4, .int (p1 >>> (8 &&& 31))]) (rest := []) ⟨hx, hb, hml, hown, hts⟩ (mX6_put l D k h0 a_disk a_made a_sectorOf a_placeOf a_manyOf a_there a_waitKind a_waitMany a_waitBytes s.heap.size v_thrown v_sectors v_power v_used v_reserve v_cutWrites v_cutBytes v_rows v_waits v_stateNumber v_stateNow v_second v_repaired v_up v_sent v_disk v_made v_sectorOf v_placeOf v_manyOf v_there v_waitKind v_waitMany v_waitBytes 4 (p1 >>> (8 &&& 31)) o1 e1) (cwV 2 hts (dk_gV w_845 w_847 w_23 w_46 w_848) rfl rfl rfl (by decide +kernel) ⟨Nat.le_of_ble_eq_true rfl, Nat.le_of_ble_eq_true rfl⟩) (dk_pvw hK hN hP hD [0, 1, 2, 3, 4, 5, 6, 7, 8, 9] rfl rfl rfl rfl (hP.sub [0, 1, 2, 3, 4, 5, 6, 7, 8, 9] rfl)) rfl rfl hl.1 rfl (lv_room (Nat.le_of_ble_eq_true rfl)) dX6_finish_6 ⟨Nat.le_of_ble_eq_true rfl, Nat.le_of_ble_eq_true rfl⟩) hP hD hS hA [0, 1, 2, 3, 4, 5, 6, 7, 8, 9] [] rfl rfl rfl (by decide) (fun H locs hP hD hS => ?_)
  have hP : va_P D vwCl [(h0, .inr (6, [.int v_thrown, .int v_sectors, .int v_power, .ref a_disk, .ref a_made, .int v_used, .int v_reserve, .int v_cutWrites, .int v_cutBytes, .int v_rows, .ref a_sectorOf, .ref a_placeOf, .ref a_manyOf, .ref a_there, .int v_waits, .ref a_waitKind, .ref a_waitMany, .ref a_waitBytes, .int v_stateNumber, .long v_stateNow, .int v_second, .int v_repaired, .int v_up, .int v_sent])), (a_disk, .inl ((k 2), 32768, .inl v_disk)), (a_made, .inl ((k 2), 512, .inl o1)), (a_sectorOf, .inl ((k 2), 5100, .inl v_sectorOf)), (a_placeOf, .inl ((k 2), 5100, .inl v_placeOf)), (a_manyOf, .inl ((k 2), 5100, .inl v_manyOf)), (a_there, .inl ((k 1), 5100, .inl v_there)), (a_waitKind, .inl ((k 2), 100, .inl v_waitKind)), (a_waitMany, .inl ((k 2), 100, .inl v_waitMany)), (a_waitBytes, .inl ((k 3), 100, .inr (.inl v_waitBytes)))] H := hP
  have hD : va_D A [(h0, .inr (6, [.int v_thrown, .int v_sectors, .int v_power, .ref a_disk, .ref a_made, .int v_used, .int v_reserve, .int v_cutWrites, .int v_cutBytes, .int v_rows, .ref a_sectorOf, .ref a_placeOf, .ref a_manyOf, .ref a_there, .int v_waits, .ref a_waitKind, .ref a_waitMany, .ref a_waitBytes, .int v_stateNumber, .long v_stateNow, .int v_second, .int v_repaired, .int v_up, .int v_sent])), (a_disk, .inl ((k 2), 32768, .inl v_disk)), (a_made, .inl ((k 2), 512, .inl o1)), (a_sectorOf, .inl ((k 2), 5100, .inl v_sectorOf)), (a_placeOf, .inl ((k 2), 5100, .inl v_placeOf)), (a_manyOf, .inl ((k 2), 5100, .inl v_manyOf)), (a_there, .inl ((k 1), 5100, .inl v_there)), (a_waitKind, .inl ((k 2), 100, .inl v_waitKind)), (a_waitMany, .inl ((k 2), 100, .inl v_waitMany)), (a_waitBytes, .inl ((k 3), 100, .inr (.inl v_waitBytes)))] := hD
  refine lv_aload_n hx hb dX6_finish_9 rfl (lv_at hl 0 rfl) ?_
  refine lv_iconst (v := 5) hx hb dX6_finish_10 (by decide) ?_
  refine lv_iload_n hx hb dX6_finish_11 rfl (lv_at hl 1 rfl) ?_
  replace h := dk_b h
  obtain ⟨o2, e2, h⟩ := h
  refine dk_cwv (wr := []) (va_runV (As := [.int 5, .int p1]) (rest := []) ⟨hx, hb, hml, hown, hts⟩ (mX6_put l D k h0 a_disk a_made a_sectorOf a_placeOf a_manyOf a_there a_waitKind a_waitMany a_waitBytes H.size v_thrown v_sectors v_power v_used v_reserve v_cutWrites v_cutBytes v_rows v_waits v_stateNumber v_stateNow v_second v_repaired v_up v_sent v_disk o1 v_sectorOf v_placeOf v_manyOf v_there v_waitKind v_waitMany v_waitBytes 5 p1 o2 e2) (cwV 2 hts (dk_gV w_845 w_847 w_23 w_46 w_848) rfl rfl rfl (by decide +kernel) ⟨Nat.le_of_ble_eq_true rfl, Nat.le_of_ble_eq_true rfl⟩) (dk_pvw hK hN hP hD [0, 1, 2, 3, 4, 5, 6, 7, 8, 9] rfl rfl rfl rfl (hP.sub [0, 1, 2, 3, 4, 5, 6, 7, 8, 9] rfl)) rfl rfl hl.1 rfl (lv_room (Nat.le_of_ble_eq_true rfl)) dX6_finish_12 ⟨Nat.le_of_ble_eq_true rfl, Nat.le_of_ble_eq_true rfl⟩) hP hD hS hA [0, 1, 2, 3, 4, 5, 6, 7, 8, 9] [] rfl rfl rfl (by decide) (fun H locs hP hD hS => ?_)
  have hP : va_P D vwCl [(h0, .inr (6, [.int v_thrown, .int v_sectors, .int v_power, .ref a_disk, .ref a_made, .int v_used, .int v_reserve, .int v_cutWrites, .int v_cutBytes, .int v_rows, .ref a_sectorOf, .ref a_placeOf, .ref a_manyOf, .ref a_there, .int v_waits, .ref a_waitKind, .ref a_waitMany, .ref a_waitBytes, .int v_stateNumber, .long v_stateNow, .int v_second, .int v_repaired, .int v_up, .int v_sent])), (a_disk, .inl ((k 2), 32768, .inl v_disk)), (a_made, .inl ((k 2), 512, .inl o2)), (a_sectorOf, .inl ((k 2), 5100, .inl v_sectorOf)), (a_placeOf, .inl ((k 2), 5100, .inl v_placeOf)), (a_manyOf, .inl ((k 2), 5100, .inl v_manyOf)), (a_there, .inl ((k 1), 5100, .inl v_there)), (a_waitKind, .inl ((k 2), 100, .inl v_waitKind)), (a_waitMany, .inl ((k 2), 100, .inl v_waitMany)), (a_waitBytes, .inl ((k 3), 100, .inr (.inl v_waitBytes)))] H := hP
  have hD : va_D A [(h0, .inr (6, [.int v_thrown, .int v_sectors, .int v_power, .ref a_disk, .ref a_made, .int v_used, .int v_reserve, .int v_cutWrites, .int v_cutBytes, .int v_rows, .ref a_sectorOf, .ref a_placeOf, .ref a_manyOf, .ref a_there, .int v_waits, .ref a_waitKind, .ref a_waitMany, .ref a_waitBytes, .int v_stateNumber, .long v_stateNow, .int v_second, .int v_repaired, .int v_up, .int v_sent])), (a_disk, .inl ((k 2), 32768, .inl v_disk)), (a_made, .inl ((k 2), 512, .inl o2)), (a_sectorOf, .inl ((k 2), 5100, .inl v_sectorOf)), (a_placeOf, .inl ((k 2), 5100, .inl v_placeOf)), (a_manyOf, .inl ((k 2), 5100, .inl v_manyOf)), (a_there, .inl ((k 1), 5100, .inl v_there)), (a_waitKind, .inl ((k 2), 100, .inl v_waitKind)), (a_waitMany, .inl ((k 2), 100, .inl v_waitMany)), (a_waitBytes, .inl ((k 3), 100, .inr (.inl v_waitBytes)))] := hD
  refine lv_iconst (v := 0) hx hb dX6_finish_15 (by decide) ?_
  refine lv_istore_n (lv' := [(2, .int 0), (0, .ref h0), (1, .int p1)]) hx hb dX6_finish_16 rfl hl (by decide) rfl (fun ls hl => ?_)
  refine lv_iconst (v := 0) hx hb dX6_finish_17 (by decide) ?_
  refine lv_istore_n (lv' := [(3, .int 0), (2, .int 0), (0, .ref h0), (1, .int p1)]) hx hb dX6_finish_18 rfl hl (by decide) rfl (fun ls hl => ?_)
  replace h := dk_b h
  obtain ⟨o3, e3, h⟩ := h
  refine lX6_finish_19 C hK hN hA _ 0 0  e3 (fun H locs hP hD hS ls hl => ?_) _ _ (hP.sub [0, 1, 2, 3, 4, 5, 6, 7, 8, 9] rfl) (hD.sub [0, 1, 2, 3, 4, 5, 6, 7, 8, 9] (by decide) rfl) hS ls (lv_sub hl [2, 1, 0] rfl)
  have hP : va_P D vwCl [(h0, .inr (6, [.int v_thrown, .int v_sectors, .int v_power, .ref a_disk, .ref a_made, .int v_used, .int v_reserve, .int v_cutWrites, .int v_cutBytes, .int v_rows, .ref a_sectorOf, .ref a_placeOf, .ref a_manyOf, .ref a_there, .int v_waits, .ref a_waitKind, .ref a_waitMany, .ref a_waitBytes, .int v_stateNumber, .long v_stateNow, .int v_second, .int v_repaired, .int v_up, .int v_sent])), (a_disk, .inl ((k 2), 32768, .inl v_disk)), (a_made, .inl ((k 2), 512, .inl o2)), (a_sectorOf, .inl ((k 2), 5100, .inl v_sectorOf)), (a_placeOf, .inl ((k 2), 5100, .inl v_placeOf)), (a_manyOf, .inl ((k 2), 5100, .inl v_manyOf)), (a_there, .inl ((k 1), 5100, .inl v_there)), (a_waitKind, .inl ((k 2), 100, .inl v_waitKind)), (a_waitMany, .inl ((k 2), 100, .inl v_waitMany)), (a_waitBytes, .inl ((k 3), 100, .inr (.inl v_waitBytes)))] H := hP
  have hD : va_D A [(h0, .inr (6, [.int v_thrown, .int v_sectors, .int v_power, .ref a_disk, .ref a_made, .int v_used, .int v_reserve, .int v_cutWrites, .int v_cutBytes, .int v_rows, .ref a_sectorOf, .ref a_placeOf, .ref a_manyOf, .ref a_there, .int v_waits, .ref a_waitKind, .ref a_waitMany, .ref a_waitBytes, .int v_stateNumber, .long v_stateNow, .int v_second, .int v_repaired, .int v_up, .int v_sent])), (a_disk, .inl ((k 2), 32768, .inl v_disk)), (a_made, .inl ((k 2), 512, .inl o2)), (a_sectorOf, .inl ((k 2), 5100, .inl v_sectorOf)), (a_placeOf, .inl ((k 2), 5100, .inl v_placeOf)), (a_manyOf, .inl ((k 2), 5100, .inl v_manyOf)), (a_there, .inl ((k 1), 5100, .inl v_there)), (a_waitKind, .inl ((k 2), 100, .inl v_waitKind)), (a_waitMany, .inl ((k 2), 100, .inl v_waitMany)), (a_waitBytes, .inl ((k 3), 100, .inr (.inl v_waitBytes)))] := hD
  have hl : lv_has ls 4 [(0, .ref h0), (2, .int o3.1), (3, .int o3.2)] := hl
  refine lv_iconst (v := 0) hx hb dX6_finish_43 (by decide) ?_
  refine lv_istore_n (lv' := [(3, .int 0), (0, .ref h0), (2, .int o3.1)]) hx hb dX6_finish_44 rfl hl (by decide) rfl (fun ls hl => ?_)
  replace h := dk_b h
  obtain ⟨o4, e4, h⟩ := h
  refine lX6_finish_45 C hK hN hA _ 0 o2  e4 (fun H locs hP hD hS ls hl => ?_) _ _ (hP.sub [0, 1, 2, 3, 4, 5, 6, 7, 8, 9] rfl) (hD.sub [0, 1, 2, 3, 4, 5, 6, 7, 8, 9] (by decide) rfl) hS ls (lv_sub hl [1, 2, 0] rfl)
  have hP : va_P D vwCl [(h0, .inr (6, [.int v_thrown, .int v_sectors, .int v_power, .ref a_disk, .ref a_made, .int v_used, .int v_reserve, .int v_cutWrites, .int v_cutBytes, .int v_rows, .ref a_sectorOf, .ref a_placeOf, .ref a_manyOf, .ref a_there, .int v_waits, .ref a_waitKind, .ref a_waitMany, .ref a_waitBytes, .int v_stateNumber, .long v_stateNow, .int v_second, .int v_repaired, .int v_up, .int v_sent])), (a_disk, .inl ((k 2), 32768, .inl v_disk)), (a_made, .inl ((k 2), 512, .inl o4.2)), (a_sectorOf, .inl ((k 2), 5100, .inl v_sectorOf)), (a_placeOf, .inl ((k 2), 5100, .inl v_placeOf)), (a_manyOf, .inl ((k 2), 5100, .inl v_manyOf)), (a_there, .inl ((k 1), 5100, .inl v_there)), (a_waitKind, .inl ((k 2), 100, .inl v_waitKind)), (a_waitMany, .inl ((k 2), 100, .inl v_waitMany)), (a_waitBytes, .inl ((k 3), 100, .inr (.inl v_waitBytes)))] H := hP
  have hD : va_D A [(h0, .inr (6, [.int v_thrown, .int v_sectors, .int v_power, .ref a_disk, .ref a_made, .int v_used, .int v_reserve, .int v_cutWrites, .int v_cutBytes, .int v_rows, .ref a_sectorOf, .ref a_placeOf, .ref a_manyOf, .ref a_there, .int v_waits, .ref a_waitKind, .ref a_waitMany, .ref a_waitBytes, .int v_stateNumber, .long v_stateNow, .int v_second, .int v_repaired, .int v_up, .int v_sent])), (a_disk, .inl ((k 2), 32768, .inl v_disk)), (a_made, .inl ((k 2), 512, .inl o4.2)), (a_sectorOf, .inl ((k 2), 5100, .inl v_sectorOf)), (a_placeOf, .inl ((k 2), 5100, .inl v_placeOf)), (a_manyOf, .inl ((k 2), 5100, .inl v_manyOf)), (a_there, .inl ((k 1), 5100, .inl v_there)), (a_waitKind, .inl ((k 2), 100, .inl v_waitKind)), (a_waitMany, .inl ((k 2), 100, .inl v_waitMany)), (a_waitBytes, .inl ((k 3), 100, .inr (.inl v_waitBytes)))] := hD
  have hl : lv_has ls 4 [(0, .ref h0), (2, .int o3.1), (3, .int o4.1)] := hl
  have h := dk_r h
  subst h
  exact dk_rwv hx hb hr hlocks (hP.sub [0, 1, 2, 3, 4, 5, 6, 7, 8, 9] rfl) (hD.sub [0, 1, 2, 3, 4, 5, 6, 7, 8, 9] (by decide) rfl) hS dX6_finish_74
/-! ServiceDiskModel.writeTo(II)Z: rw, frames 1, locals 21 -/
def fX6_writeTo_L21 (v_made : Nat → Int32) (x1 : Int32) (x2 : Int32) (x3 : Int32) : Nat → (Int32) → (Nat → Int32) → Option (Int32 × (Nat → Int32))
  | 0, _, _ => none
  | n + 1, x4, v_disk =>
    if x3 ≤ x4 then
      some (x4, v_disk)
    else
      (fX6_at x1 x2).bind fun o2 =>
      if dk_in x4 512 then
      if dk_in (o2 + x4) 32768 then
      fX6_writeTo_L21 v_made x1 x2 x3 n (x4 + 1) (upd v_disk (o2 + x4).toNatClampNeg (v_made x4.toNatClampNeg))
      else none
      else none
def fX6_writeTo (v_power : Int32) (v_cutWrites : Int32) (v_cutBytes : Int32) (v_disk : Nat → Int32) (v_made : Nat → Int32) (p1 : Int32) (p2 : Int32) : Option (Int32 × Int32 × Int32 × (Nat → Int32)) :=
  (fX6_writeTo_L21 v_made p1 p2 (if v_cutWrites = 0 then v_cutBytes else 512) dkF 0 v_disk).bind fun o1 =>
  if v_cutWrites = 0 then
    if v_cutWrites < 0 then
      some (0, 0, v_cutWrites, o1.2)
    else
      some (0, 0, (v_cutWrites - 1), o1.2)
  else
    if v_cutWrites < 0 then
      if dk_01 v_power then some (v_power, v_power, v_cutWrites, o1.2) else none
    else
      if dk_01 v_power then some (v_power, v_power, (v_cutWrites - 1), o1.2) else none
set_option maxHeartbeats 4000000 in
set_option maxRecDepth 100000 in
theorem lX6_writeTo_21 {p : Program} {l : Launch} {e : Env} {s : State} {m : MethodId} {below : List Frame} {meth : Method} {c : Code} {args : Array Value} {D : va_G} {k : Nat → ClassId} {h0 : Nat} {a_disk : Nat} {a_made : Nat} {a_sectorOf : Nat} {a_placeOf : Nat} {a_manyOf : Nat} {a_there : Nat} {a_waitKind : Nat} {a_waitMany : Nat} {a_waitBytes : Nat} {v_thrown : Int32} {v_sectors : Int32} {v_power : Int32} {v_used : Int32} {v_reserve : Int32} {v_cutWrites : Int32} {v_cutBytes : Int32} {v_rows : Int32} {v_waits : Int32} {v_stateNumber : Int32} {v_stateNow : Int64} {v_second : Int32} {v_repaired : Int32} {v_up : Int32} {v_sent : Int32} {v_made : Nat → Int32} {v_sectorOf : Nat → Int32} {v_placeOf : Nat → Int32} {v_manyOf : Nat → Int32} {v_there : Nat → Int32} {v_waitKind : Nat → Int32} {v_waitMany : Nat → Int32} {v_waitBytes : Nat → Int64} {x1 : Int32} {x2 : Int32} {x3 : Int32} {Q : State → Prop} {o : Int32 × (Nat → Int32)} {A : Nat → Prop} (C : dk_Cx p s m meth c cX6_writeTo (some .boolean) 5 "ServiceDiskModel" dkB args) (hK : va_K D vwCl (dkT k) s) (hN : dk_N s) (hA : ∀ q : Nat, s.heap.size ≤ q → A q) :
    ∀ (n : Nat) (x4 : Int32) (v_disk : Nat → Int32), fX6_writeTo_L21 v_made x1 x2 x3 n x4 v_disk = some o → (∀ (H : Heap) (locs : List Loc), va_P D vwCl [(h0, .inr (6, [.int v_thrown, .int v_sectors, .int v_power, .ref a_disk, .ref a_made, .int v_used, .int v_reserve, .int v_cutWrites, .int v_cutBytes, .int v_rows, .ref a_sectorOf, .ref a_placeOf, .ref a_manyOf, .ref a_there, .int v_waits, .ref a_waitKind, .ref a_waitMany, .ref a_waitBytes, .int v_stateNumber, .long v_stateNow, .int v_second, .int v_repaired, .int v_up, .int v_sent])), (a_disk, .inl ((k 2), 32768, .inl o.2)), (a_made, .inl ((k 2), 512, .inl v_made)), (a_sectorOf, .inl ((k 2), 5100, .inl v_sectorOf)), (a_placeOf, .inl ((k 2), 5100, .inl v_placeOf)), (a_manyOf, .inl ((k 2), 5100, .inl v_manyOf)), (a_there, .inl ((k 1), 5100, .inl v_there)), (a_waitKind, .inl ((k 2), 100, .inl v_waitKind)), (a_waitMany, .inl ((k 2), 100, .inl v_waitMany)), (a_waitBytes, .inl ((k 3), 100, .inr (.inl v_waitBytes)))] H → va_D A [(h0, .inr (6, [.int v_thrown, .int v_sectors, .int v_power, .ref a_disk, .ref a_made, .int v_used, .int v_reserve, .int v_cutWrites, .int v_cutBytes, .int v_rows, .ref a_sectorOf, .ref a_placeOf, .ref a_manyOf, .ref a_there, .int v_waits, .ref a_waitKind, .ref a_waitMany, .ref a_waitBytes, .int v_stateNumber, .long v_stateNow, .int v_second, .int v_repaired, .int v_up, .int v_sent])), (a_disk, .inl ((k 2), 32768, .inl o.2)), (a_made, .inl ((k 2), 512, .inl v_made)), (a_sectorOf, .inl ((k 2), 5100, .inl v_sectorOf)), (a_placeOf, .inl ((k 2), 5100, .inl v_placeOf)), (a_manyOf, .inl ((k 2), 5100, .inl v_manyOf)), (a_there, .inl ((k 1), 5100, .inl v_there)), (a_waitKind, .inl ((k 2), 100, .inl v_waitKind)), (a_waitMany, .inl ((k 2), 100, .inl v_waitMany)), (a_waitBytes, .inl ((k 3), 100, .inr (.inl v_waitBytes)))] → va_S A s.heap H locs → ∀ ls : Array Slot, lv_has ls 5 [(0, .ref h0), (1, .int x1), (2, .int x2), (3, .int x3), (4, .int o.1)] → W p l e { frames := 1, cells := 0, slots := 0, locals := 21 } s m args below meth c H locs 0 0 Q (F0 m 53 ls [])) → ∀ (H : Heap) (locs : List Loc), va_P D vwCl [(h0, .inr (6, [.int v_thrown, .int v_sectors, .int v_power, .ref a_disk, .ref a_made, .int v_used, .int v_reserve, .int v_cutWrites, .int v_cutBytes, .int v_rows, .ref a_sectorOf, .ref a_placeOf, .ref a_manyOf, .ref a_there, .int v_waits, .ref a_waitKind, .ref a_waitMany, .ref a_waitBytes, .int v_stateNumber, .long v_stateNow, .int v_second, .int v_repaired, .int v_up, .int v_sent])), (a_disk, .inl ((k 2), 32768, .inl v_disk)), (a_made, .inl ((k 2), 512, .inl v_made)), (a_sectorOf, .inl ((k 2), 5100, .inl v_sectorOf)), (a_placeOf, .inl ((k 2), 5100, .inl v_placeOf)), (a_manyOf, .inl ((k 2), 5100, .inl v_manyOf)), (a_there, .inl ((k 1), 5100, .inl v_there)), (a_waitKind, .inl ((k 2), 100, .inl v_waitKind)), (a_waitMany, .inl ((k 2), 100, .inl v_waitMany)), (a_waitBytes, .inl ((k 3), 100, .inr (.inl v_waitBytes)))] H → va_D A [(h0, .inr (6, [.int v_thrown, .int v_sectors, .int v_power, .ref a_disk, .ref a_made, .int v_used, .int v_reserve, .int v_cutWrites, .int v_cutBytes, .int v_rows, .ref a_sectorOf, .ref a_placeOf, .ref a_manyOf, .ref a_there, .int v_waits, .ref a_waitKind, .ref a_waitMany, .ref a_waitBytes, .int v_stateNumber, .long v_stateNow, .int v_second, .int v_repaired, .int v_up, .int v_sent])), (a_disk, .inl ((k 2), 32768, .inl v_disk)), (a_made, .inl ((k 2), 512, .inl v_made)), (a_sectorOf, .inl ((k 2), 5100, .inl v_sectorOf)), (a_placeOf, .inl ((k 2), 5100, .inl v_placeOf)), (a_manyOf, .inl ((k 2), 5100, .inl v_manyOf)), (a_there, .inl ((k 1), 5100, .inl v_there)), (a_waitKind, .inl ((k 2), 100, .inl v_waitKind)), (a_waitMany, .inl ((k 2), 100, .inl v_waitMany)), (a_waitBytes, .inl ((k 3), 100, .inr (.inl v_waitBytes)))] → va_S A s.heap H locs → ∀ ls : Array Slot, lv_has ls 5 [(0, .ref h0), (1, .int x1), (2, .int x2), (3, .int x3), (4, .int x4)] → W p l e { frames := 1, cells := 0, slots := 0, locals := 21 } s m args below meth c H locs 0 0 Q (F0 m 21 ls []) := by
  obtain ⟨hx, hb, hr, hml, hown, hts, hlocks⟩ := id C
  intro n
  induction n with
  | zero =>
    intro x4 v_disk h
    exact dk_n (o := o) h
  | succ n ih =>
    intro x4 v_disk h K H locs hP hD hS ls hl
    rw [fX6_writeTo_L21.eq_2] at h
    refine lv_iload hx hb dX6_writeTo_21 (lv_at hl 4 rfl) ?_
    refine lv_iload_n hx hb dX6_writeTo_23 rfl (lv_at hl 3 rfl) ?_
    refine lv_icmp_ge (tgt := 53) hx hb dX6_writeTo_24 (by decide) (fun q => ?_) (fun q => ?_)
    · replace h := dk_t q h
      have h := dk_r h
      subst h
      exact K _ _ (hP.sub [0, 1, 2, 3, 4, 5, 6, 7, 8, 9] rfl) (hD.sub [0, 1, 2, 3, 4, 5, 6, 7, 8, 9] (by decide) rfl) hS ls (lv_sub hl [0, 1, 2, 3, 4] rfl)
    · replace h := dk_f q h
      refine lv_aload_n hx hb dX6_writeTo_27 rfl (lv_at hl 0 rfl) ?_
      refine va_get (D := D) (ci := 6) (v := .ref a_disk) (C := "ServiceDiskModel") (T := TX6) (N := 24) hx hb hts inX6 hown hK hP 0 rfl rfl 3 (by decide) (hts _ w_740) (fun _ h9 => h9) rfl dX6_writeTo_28 ?_
      refine lv_iload_n hx hb dX6_writeTo_31 rfl (lv_at hl 1 rfl) ?_
      refine lv_iload_n hx hb dX6_writeTo_32 rfl (lv_at hl 2 rfl) ?_
      replace h := dk_b h
      obtain ⟨o2, e2, h⟩ := h
      refine dk_cri (va_runS (As := [.int x1, .int x2]) (rest := [.ref a_disk]) ⟨hx, hb, hml, hown, hts⟩ (mX6_at l D k x1 x2 o2 e2) (va_cwS 2 hts (dk_gS w_869 w_870 w_46 w_871) rfl rfl rfl (by decide +kernel) ⟨Nat.le_of_ble_eq_true rfl, Nat.le_of_ble_eq_true rfl⟩) (dk_psr hK hN hP [] rfl) rfl rfl hl.1 rfl (lv_room (Nat.le_of_ble_eq_true rfl)) dX6_writeTo_33 ⟨Nat.le_of_ble_eq_true rfl, Nat.le_of_ble_eq_true rfl⟩) ?_
      refine lv_iload hx hb dX6_writeTo_36 (lv_at hl 4 rfl) ?_
      refine lv_iadd hx hb dX6_writeTo_38 ?_
      refine lv_aload_n hx hb dX6_writeTo_39 rfl (lv_at hl 0 rfl) ?_
      refine va_get (D := D) (ci := 6) (v := .ref a_made) (C := "ServiceDiskModel") (T := TX6) (N := 24) hx hb hts inX6 hown hK hP 0 rfl rfl 4 (by decide) (hts _ w_741) (fun _ h9 => h9) rfl dX6_writeTo_40 ?_
      refine lv_iload hx hb dX6_writeTo_43 (lv_at hl 4 rfl) ?_
      obtain ⟨q, h⟩ := dk_g h
      refine va_iald hx hb hK hP 2 2 rfl rfl q dX6_writeTo_45 ?_
      obtain ⟨q, h⟩ := dk_g h
      refine va_iast hx hb hK hP hD hS 1 2 rfl rfl q dX6_writeTo_46 (fun H locs hP hD hS => ?_)
      have hP : va_P D vwCl [(h0, .inr (6, [.int v_thrown, .int v_sectors, .int v_power, .ref a_disk, .ref a_made, .int v_used, .int v_reserve, .int v_cutWrites, .int v_cutBytes, .int v_rows, .ref a_sectorOf, .ref a_placeOf, .ref a_manyOf, .ref a_there, .int v_waits, .ref a_waitKind, .ref a_waitMany, .ref a_waitBytes, .int v_stateNumber, .long v_stateNow, .int v_second, .int v_repaired, .int v_up, .int v_sent])), (a_disk, .inl ((k 2), 32768, .inl (upd v_disk (o2 + x4).toNatClampNeg (v_made x4.toNatClampNeg)))), (a_made, .inl ((k 2), 512, .inl v_made)), (a_sectorOf, .inl ((k 2), 5100, .inl v_sectorOf)), (a_placeOf, .inl ((k 2), 5100, .inl v_placeOf)), (a_manyOf, .inl ((k 2), 5100, .inl v_manyOf)), (a_there, .inl ((k 1), 5100, .inl v_there)), (a_waitKind, .inl ((k 2), 100, .inl v_waitKind)), (a_waitMany, .inl ((k 2), 100, .inl v_waitMany)), (a_waitBytes, .inl ((k 3), 100, .inr (.inl v_waitBytes)))] H := hP
      have hD : va_D A [(h0, .inr (6, [.int v_thrown, .int v_sectors, .int v_power, .ref a_disk, .ref a_made, .int v_used, .int v_reserve, .int v_cutWrites, .int v_cutBytes, .int v_rows, .ref a_sectorOf, .ref a_placeOf, .ref a_manyOf, .ref a_there, .int v_waits, .ref a_waitKind, .ref a_waitMany, .ref a_waitBytes, .int v_stateNumber, .long v_stateNow, .int v_second, .int v_repaired, .int v_up, .int v_sent])), (a_disk, .inl ((k 2), 32768, .inl (upd v_disk (o2 + x4).toNatClampNeg (v_made x4.toNatClampNeg)))), (a_made, .inl ((k 2), 512, .inl v_made)), (a_sectorOf, .inl ((k 2), 5100, .inl v_sectorOf)), (a_placeOf, .inl ((k 2), 5100, .inl v_placeOf)), (a_manyOf, .inl ((k 2), 5100, .inl v_manyOf)), (a_there, .inl ((k 1), 5100, .inl v_there)), (a_waitKind, .inl ((k 2), 100, .inl v_waitKind)), (a_waitMany, .inl ((k 2), 100, .inl v_waitMany)), (a_waitBytes, .inl ((k 3), 100, .inr (.inl v_waitBytes)))] := hD
      refine lv_iinc (v := (x4 + 1)) (lv' := [(4, .int (x4 + 1)), (0, .ref h0), (1, .int x1), (2, .int x2), (3, .int x3)]) hx hb dX6_writeTo_47 hl (k := 4) rfl rfl (by decide) rfl (fun ls hl => ?_)
      refine lv_goto (tgt := 21) hx hb dX6_writeTo_50 (by decide) ?_
      exact ih (x4 + 1) (upd v_disk (o2 + x4).toNatClampNeg (v_made x4.toNatClampNeg)) h K _ _ (hP.sub [0, 1, 2, 3, 4, 5, 6, 7, 8, 9] rfl) (hD.sub [0, 1, 2, 3, 4, 5, 6, 7, 8, 9] (by decide) rfl) hS ls (lv_sub hl [1, 2, 3, 4, 0] rfl)
set_option maxHeartbeats 4000000 in
set_option maxRecDepth 100000 in
theorem mX6_writeTo (l : Launch) (D : va_G) (k : Nat → ClassId) (h0 a_disk a_made a_sectorOf a_placeOf a_manyOf a_there a_waitKind a_waitMany a_waitBytes : Nat) (sz : Nat) (v_thrown : Int32) (v_sectors : Int32) (v_power : Int32) (v_used : Int32) (v_reserve : Int32) (v_cutWrites : Int32) (v_cutBytes : Int32) (v_rows : Int32) (v_waits : Int32) (v_stateNumber : Int32) (v_stateNow : Int64) (v_second : Int32) (v_repaired : Int32) (v_up : Int32) (v_sent : Int32) (v_disk : Nat → Int32) (v_made : Nat → Int32) (v_sectorOf : Nat → Int32) (v_placeOf : Nat → Int32) (v_manyOf : Nat → Int32) (v_there : Nat → Int32) (v_waitKind : Nat → Int32) (v_waitMany : Nat → Int32) (v_waitBytes : Nat → Int64) (p1 : Int32) (p2 : Int32) (o : Int32 × Int32 × Int32 × (Nat → Int32)) (h : fX6_writeTo v_power v_cutWrites v_cutBytes v_disk v_made p1 p2 = some o) : Met l yX6_writeTo wsX6_writeTo { frames := 1, cells := 0, slots := 0, locals := 21 } (dk_Pw D k [.ref h0, .int p1, .int p2] [(h0, .inr (6, [.int v_thrown, .int v_sectors, .int v_power, .ref a_disk, .ref a_made, .int v_used, .int v_reserve, .int v_cutWrites, .int v_cutBytes, .int v_rows, .ref a_sectorOf, .ref a_placeOf, .ref a_manyOf, .ref a_there, .int v_waits, .ref a_waitKind, .ref a_waitMany, .ref a_waitBytes, .int v_stateNumber, .long v_stateNow, .int v_second, .int v_repaired, .int v_up, .int v_sent])), (a_disk, .inl ((k 2), 32768, .inl v_disk)), (a_made, .inl ((k 2), 512, .inl v_made)), (a_sectorOf, .inl ((k 2), 5100, .inl v_sectorOf)), (a_placeOf, .inl ((k 2), 5100, .inl v_placeOf)), (a_manyOf, .inl ((k 2), 5100, .inl v_manyOf)), (a_there, .inl ((k 1), 5100, .inl v_there)), (a_waitKind, .inl ((k 2), 100, .inl v_waitKind)), (a_waitMany, .inl ((k 2), 100, .inl v_waitMany)), (a_waitBytes, .inl ((k 3), 100, .inr (.inl v_waitBytes)))] sz) (dk_Qi o.1 D [(h0, .inr (6, [.int v_thrown, .int v_sectors, .int o.2.1, .ref a_disk, .ref a_made, .int v_used, .int v_reserve, .int o.2.2.1, .int v_cutBytes, .int v_rows, .ref a_sectorOf, .ref a_placeOf, .ref a_manyOf, .ref a_there, .int v_waits, .ref a_waitKind, .ref a_waitMany, .ref a_waitBytes, .int v_stateNumber, .long v_stateNow, .int v_second, .int v_repaired, .int v_up, .int v_sent])), (a_disk, .inl ((k 2), 32768, .inl o.2.2.2)), (a_made, .inl ((k 2), 512, .inl v_made)), (a_sectorOf, .inl ((k 2), 5100, .inl v_sectorOf)), (a_placeOf, .inl ((k 2), 5100, .inl v_placeOf)), (a_manyOf, .inl ((k 2), 5100, .inl v_manyOf)), (a_there, .inl ((k 1), 5100, .inl v_there)), (a_waitKind, .inl ((k 2), 100, .inl v_waitKind)), (a_waitMany, .inl ((k 2), 100, .inl v_waitMany)), (a_waitBytes, .inl ((k 3), 100, .inr (.inl v_waitBytes)))] (va_A [(h0, .inr (6, [.int v_thrown, .int v_sectors, .int v_power, .ref a_disk, .ref a_made, .int v_used, .int v_reserve, .int v_cutWrites, .int v_cutBytes, .int v_rows, .ref a_sectorOf, .ref a_placeOf, .ref a_manyOf, .ref a_there, .int v_waits, .ref a_waitKind, .ref a_waitMany, .ref a_waitBytes, .int v_stateNumber, .long v_stateNow, .int v_second, .int v_repaired, .int v_up, .int v_sent])), (a_disk, .inl ((k 2), 32768, .inl v_disk)), (a_made, .inl ((k 2), 512, .inl v_made)), (a_sectorOf, .inl ((k 2), 5100, .inl v_sectorOf)), (a_placeOf, .inl ((k 2), 5100, .inl v_placeOf)), (a_manyOf, .inl ((k 2), 5100, .inl v_manyOf)), (a_there, .inl ((k 1), 5100, .inl v_there)), (a_waitKind, .inl ((k 2), 100, .inl v_waitKind)), (a_waitMany, .inl ((k 2), 100, .inl v_waitMany)), (a_waitBytes, .inl ((k 3), 100, .inr (.inl v_waitBytes)))] sz)) 0 0 (va_A [(h0, .inr (6, [.int v_thrown, .int v_sectors, .int v_power, .ref a_disk, .ref a_made, .int v_used, .int v_reserve, .int v_cutWrites, .int v_cutBytes, .int v_rows, .ref a_sectorOf, .ref a_placeOf, .ref a_manyOf, .ref a_there, .int v_waits, .ref a_waitKind, .ref a_waitMany, .ref a_waitBytes, .int v_stateNumber, .long v_stateNow, .int v_second, .int v_repaired, .int v_up, .int v_sent])), (a_disk, .inl ((k 2), 32768, .inl v_disk)), (a_made, .inl ((k 2), 512, .inl v_made)), (a_sectorOf, .inl ((k 2), 5100, .inl v_sectorOf)), (a_placeOf, .inl ((k 2), 5100, .inl v_placeOf)), (a_manyOf, .inl ((k 2), 5100, .inl v_manyOf)), (a_there, .inl ((k 1), 5100, .inl v_there)), (a_waitKind, .inl ((k 2), 100, .inl v_waitKind)), (a_waitMany, .inl ((k 2), 100, .inl v_waitMany)), (a_waitBytes, .inl ((k 3), 100, .inr (.inl v_waitBytes)))] sz) := by
  unfold fX6_writeTo at h
  refine dk_ofW (Qc := fun A => dk_Qi o.1 D [(h0, .inr (6, [.int v_thrown, .int v_sectors, .int o.2.1, .ref a_disk, .ref a_made, .int v_used, .int v_reserve, .int o.2.2.1, .int v_cutBytes, .int v_rows, .ref a_sectorOf, .ref a_placeOf, .ref a_manyOf, .ref a_there, .int v_waits, .ref a_waitKind, .ref a_waitMany, .ref a_waitBytes, .int v_stateNumber, .long v_stateNow, .int v_second, .int v_repaired, .int v_up, .int v_sent])), (a_disk, .inl ((k 2), 32768, .inl o.2.2.2)), (a_made, .inl ((k 2), 512, .inl v_made)), (a_sectorOf, .inl ((k 2), 5100, .inl v_sectorOf)), (a_placeOf, .inl ((k 2), 5100, .inl v_placeOf)), (a_manyOf, .inl ((k 2), 5100, .inl v_manyOf)), (a_there, .inl ((k 1), 5100, .inl v_there)), (a_waitKind, .inl ((k 2), 100, .inl v_waitKind)), (a_waitMany, .inl ((k 2), 100, .inl v_waitMany)), (a_waitBytes, .inl ((k 3), 100, .inr (.inl v_waitBytes)))] A) (cc := cX6_writeTo) (maxL := 5) (ret := (some .boolean)) (lv := [(0, .ref h0), (1, .int p1), (2, .int p2)]) (by decide) rfl (Nat.le_of_ble_eq_true rfl) rfl ?_
  intro p e s m below meth c C hK hN hP A hA hD hS ls hl
  obtain ⟨hx, hb, hr, hml, hown, hts, hlocks⟩ := id C
  refine lv_aload_n hx hb dX6_writeTo_0 rfl (lv_at hl 0 rfl) ?_
  refine va_get (D := D) (ci := 6) (v := .int v_cutWrites) (C := "ServiceDiskModel") (T := TX6) (N := 24) hx hb hts inX6 hown hK hP 0 rfl rfl 7 (by decide) (hts _ w_744) (fun _ h9 => h9) rfl dX6_writeTo_1 ?_
  refine dk_jn (F0 m 17 ls [.int (if v_cutWrites = 0 then v_cutBytes else 512)]) (fun K => ?_) ?_
  · refine lv_if_ne (tgt := 14) hx hb dX6_writeTo_4 (by decide) (fun q1 => ?_) (fun q1 => ?_)
    · refine lv_sipush (v := 512) hx hb dX6_writeTo_14 (by decide) ?_
      have K := K
      rw [if_neg q1] at K
      exact K
    · refine lv_aload_n hx hb dX6_writeTo_7 rfl (lv_at hl 0 rfl) ?_
      refine va_get (D := D) (ci := 6) (v := .int v_cutBytes) (C := "ServiceDiskModel") (T := TX6) (N := 24) hx hb hts inX6 hown hK hP 0 rfl rfl 8 (by decide) (hts _ w_745) (fun _ h9 => h9) rfl dX6_writeTo_8 ?_
      refine lv_goto (tgt := 17) hx hb dX6_writeTo_11 (by decide) ?_
      have K := K
      rw [if_pos q1] at K
      exact K
  refine lv_istore_n (lv' := [(3, .int (if v_cutWrites = 0 then v_cutBytes else 512)), (0, .ref h0), (1, .int p1), (2, .int p2)]) hx hb dX6_writeTo_17 rfl hl (by decide) rfl (fun ls hl => ?_)
  refine lv_iconst (v := 0) hx hb dX6_writeTo_18 (by decide) ?_
  refine lv_istore (lv' := [(4, .int 0), (3, .int (if v_cutWrites = 0 then v_cutBytes else 512)), (0, .ref h0), (1, .int p1), (2, .int p2)]) hx hb dX6_writeTo_19 hl (by decide) rfl (fun ls hl => ?_)
  replace h := dk_b h
  obtain ⟨o1, e1, h⟩ := h
  refine lX6_writeTo_21 C hK hN hA _ 0 v_disk  e1 (fun H locs hP hD hS ls hl => ?_) _ _ (hP.sub [0, 1, 2, 3, 4, 5, 6, 7, 8, 9] rfl) (hD.sub [0, 1, 2, 3, 4, 5, 6, 7, 8, 9] (by decide) rfl) hS ls (lv_sub hl [2, 3, 4, 1, 0] rfl)
  have hP : va_P D vwCl [(h0, .inr (6, [.int v_thrown, .int v_sectors, .int v_power, .ref a_disk, .ref a_made, .int v_used, .int v_reserve, .int v_cutWrites, .int v_cutBytes, .int v_rows, .ref a_sectorOf, .ref a_placeOf, .ref a_manyOf, .ref a_there, .int v_waits, .ref a_waitKind, .ref a_waitMany, .ref a_waitBytes, .int v_stateNumber, .long v_stateNow, .int v_second, .int v_repaired, .int v_up, .int v_sent])), (a_disk, .inl ((k 2), 32768, .inl o1.2)), (a_made, .inl ((k 2), 512, .inl v_made)), (a_sectorOf, .inl ((k 2), 5100, .inl v_sectorOf)), (a_placeOf, .inl ((k 2), 5100, .inl v_placeOf)), (a_manyOf, .inl ((k 2), 5100, .inl v_manyOf)), (a_there, .inl ((k 1), 5100, .inl v_there)), (a_waitKind, .inl ((k 2), 100, .inl v_waitKind)), (a_waitMany, .inl ((k 2), 100, .inl v_waitMany)), (a_waitBytes, .inl ((k 3), 100, .inr (.inl v_waitBytes)))] H := hP
  have hD : va_D A [(h0, .inr (6, [.int v_thrown, .int v_sectors, .int v_power, .ref a_disk, .ref a_made, .int v_used, .int v_reserve, .int v_cutWrites, .int v_cutBytes, .int v_rows, .ref a_sectorOf, .ref a_placeOf, .ref a_manyOf, .ref a_there, .int v_waits, .ref a_waitKind, .ref a_waitMany, .ref a_waitBytes, .int v_stateNumber, .long v_stateNow, .int v_second, .int v_repaired, .int v_up, .int v_sent])), (a_disk, .inl ((k 2), 32768, .inl o1.2)), (a_made, .inl ((k 2), 512, .inl v_made)), (a_sectorOf, .inl ((k 2), 5100, .inl v_sectorOf)), (a_placeOf, .inl ((k 2), 5100, .inl v_placeOf)), (a_manyOf, .inl ((k 2), 5100, .inl v_manyOf)), (a_there, .inl ((k 1), 5100, .inl v_there)), (a_waitKind, .inl ((k 2), 100, .inl v_waitKind)), (a_waitMany, .inl ((k 2), 100, .inl v_waitMany)), (a_waitBytes, .inl ((k 3), 100, .inr (.inl v_waitBytes)))] := hD
  have hl : lv_has ls 5 [(0, .ref h0), (1, .int p1), (2, .int p2), (3, .int (if v_cutWrites = 0 then v_cutBytes else 512)), (4, .int o1.1)] := hl
  refine lv_aload_n hx hb dX6_writeTo_53 rfl (lv_at hl 0 rfl) ?_
  refine va_get (D := D) (ci := 6) (v := .int v_cutWrites) (C := "ServiceDiskModel") (T := TX6) (N := 24) hx hb hts inX6 hown hK hP 0 rfl rfl 7 (by decide) (hts _ w_744) (fun _ h9 => h9) rfl dX6_writeTo_54 ?_
  refine lv_if_ne (tgt := 65) hx hb dX6_writeTo_57 (by decide) (fun q => ?_) (fun q => ?_)
  · replace h := dk_f q h
    refine lv_aload_n hx hb dX6_writeTo_65 rfl (lv_at hl 0 rfl) ?_
    refine va_get (D := D) (ci := 6) (v := .int v_cutWrites) (C := "ServiceDiskModel") (T := TX6) (N := 24) hx hb hts inX6 hown hK hP 0 rfl rfl 7 (by decide) (hts _ w_744) (fun _ h9 => h9) rfl dX6_writeTo_66 ?_
    refine lv_if_lt (tgt := 82) hx hb dX6_writeTo_69 (by decide) (fun q => ?_) (fun q => ?_)
    · replace h := dk_t q h
      refine lv_aload_n hx hb dX6_writeTo_82 rfl (lv_at hl 0 rfl) ?_
      refine va_get (D := D) (ci := 6) (v := .int v_power) (C := "ServiceDiskModel") (T := TX6) (N := 24) hx hb hts inX6 hown hK hP 0 rfl rfl 2 (by decide) (hts _ w_739) (fun _ h9 => h9) rfl dX6_writeTo_83 ?_
      obtain ⟨q, h⟩ := dk_g h
      have h := dk_r h
      subst h
      exact dk_rwz hx hb hr q hlocks (hP.sub [0, 1, 2, 3, 4, 5, 6, 7, 8, 9] rfl) (hD.sub [0, 1, 2, 3, 4, 5, 6, 7, 8, 9] (by decide) rfl) hS dX6_writeTo_86 rfl
    · replace h := dk_f q h
      refine lv_aload_n hx hb dX6_writeTo_72 rfl (lv_at hl 0 rfl) ?_
      refine lv_dup hx hb dX6_writeTo_73 rfl ?_
      refine va_get (D := D) (ci := 6) (v := .int v_cutWrites) (C := "ServiceDiskModel") (T := TX6) (N := 24) hx hb hts inX6 hown hK hP 0 rfl rfl 7 (by decide) (hts _ w_744) (fun _ h9 => h9) rfl dX6_writeTo_74 ?_
      refine lv_iconst (v := 1) hx hb dX6_writeTo_77 (by decide) ?_
      refine lv_isub hx hb dX6_writeTo_78 ?_
      refine va_put (D := D) (ci := 6) (v := .int (v_cutWrites - 1)) (ty := .int) (C := "ServiceDiskModel") (T := TX6) (N := 24) hx hb hts inX6 tyX6 tyX6_ok nmX6 hown hK hP hD hS 0 rfl rfl 7 (by decide) (hts _ w_744) (fun _ h9 => h9) rfl (by decide +kernel) rfl rfl (Nat.le_of_ble_eq_true rfl) dX6_writeTo_79 (fun H locs hP hD hS => ?_)
      have hP : va_P D vwCl [(h0, .inr (6, [.int v_thrown, .int v_sectors, .int v_power, .ref a_disk, .ref a_made, .int v_used, .int v_reserve, .int (v_cutWrites - 1), .int v_cutBytes, .int v_rows, .ref a_sectorOf, .ref a_placeOf, .ref a_manyOf, .ref a_there, .int v_waits, .ref a_waitKind, .ref a_waitMany, .ref a_waitBytes, .int v_stateNumber, .long v_stateNow, .int v_second, .int v_repaired, .int v_up, .int v_sent])), (a_disk, .inl ((k 2), 32768, .inl o1.2)), (a_made, .inl ((k 2), 512, .inl v_made)), (a_sectorOf, .inl ((k 2), 5100, .inl v_sectorOf)), (a_placeOf, .inl ((k 2), 5100, .inl v_placeOf)), (a_manyOf, .inl ((k 2), 5100, .inl v_manyOf)), (a_there, .inl ((k 1), 5100, .inl v_there)), (a_waitKind, .inl ((k 2), 100, .inl v_waitKind)), (a_waitMany, .inl ((k 2), 100, .inl v_waitMany)), (a_waitBytes, .inl ((k 3), 100, .inr (.inl v_waitBytes)))] H := hP
      have hD : va_D A [(h0, .inr (6, [.int v_thrown, .int v_sectors, .int v_power, .ref a_disk, .ref a_made, .int v_used, .int v_reserve, .int (v_cutWrites - 1), .int v_cutBytes, .int v_rows, .ref a_sectorOf, .ref a_placeOf, .ref a_manyOf, .ref a_there, .int v_waits, .ref a_waitKind, .ref a_waitMany, .ref a_waitBytes, .int v_stateNumber, .long v_stateNow, .int v_second, .int v_repaired, .int v_up, .int v_sent])), (a_disk, .inl ((k 2), 32768, .inl o1.2)), (a_made, .inl ((k 2), 512, .inl v_made)), (a_sectorOf, .inl ((k 2), 5100, .inl v_sectorOf)), (a_placeOf, .inl ((k 2), 5100, .inl v_placeOf)), (a_manyOf, .inl ((k 2), 5100, .inl v_manyOf)), (a_there, .inl ((k 1), 5100, .inl v_there)), (a_waitKind, .inl ((k 2), 100, .inl v_waitKind)), (a_waitMany, .inl ((k 2), 100, .inl v_waitMany)), (a_waitBytes, .inl ((k 3), 100, .inr (.inl v_waitBytes)))] := hD
      refine lv_aload_n hx hb dX6_writeTo_82 rfl (lv_at hl 0 rfl) ?_
      refine va_get (D := D) (ci := 6) (v := .int v_power) (C := "ServiceDiskModel") (T := TX6) (N := 24) hx hb hts inX6 hown hK hP 0 rfl rfl 2 (by decide) (hts _ w_739) (fun _ h9 => h9) rfl dX6_writeTo_83 ?_
      obtain ⟨q, h⟩ := dk_g h
      have h := dk_r h
      subst h
      exact dk_rwz hx hb hr q hlocks (hP.sub [0, 1, 2, 3, 4, 5, 6, 7, 8, 9] rfl) (hD.sub [0, 1, 2, 3, 4, 5, 6, 7, 8, 9] (by decide) rfl) hS dX6_writeTo_86 rfl
  · replace h := dk_t q h
    refine lv_aload_n hx hb dX6_writeTo_60 rfl (lv_at hl 0 rfl) ?_
    refine lv_iconst (v := 0) hx hb dX6_writeTo_61 (by decide) ?_
    refine va_put (D := D) (ci := 6) (v := .int 0) (ty := .boolean) (C := "ServiceDiskModel") (T := TX6) (N := 24) hx hb hts inX6 tyX6 tyX6_ok nmX6 hown hK hP hD hS 0 rfl rfl 2 (by decide) (hts _ w_739) (fun _ h9 => h9) rfl (by decide +kernel) rfl rfl (Nat.le_of_ble_eq_true rfl) dX6_writeTo_62 (fun H locs hP hD hS => ?_)
    have hP : va_P D vwCl [(h0, .inr (6, [.int v_thrown, .int v_sectors, .int 0, .ref a_disk, .ref a_made, .int v_used, .int v_reserve, .int v_cutWrites, .int v_cutBytes, .int v_rows, .ref a_sectorOf, .ref a_placeOf, .ref a_manyOf, .ref a_there, .int v_waits, .ref a_waitKind, .ref a_waitMany, .ref a_waitBytes, .int v_stateNumber, .long v_stateNow, .int v_second, .int v_repaired, .int v_up, .int v_sent])), (a_disk, .inl ((k 2), 32768, .inl o1.2)), (a_made, .inl ((k 2), 512, .inl v_made)), (a_sectorOf, .inl ((k 2), 5100, .inl v_sectorOf)), (a_placeOf, .inl ((k 2), 5100, .inl v_placeOf)), (a_manyOf, .inl ((k 2), 5100, .inl v_manyOf)), (a_there, .inl ((k 1), 5100, .inl v_there)), (a_waitKind, .inl ((k 2), 100, .inl v_waitKind)), (a_waitMany, .inl ((k 2), 100, .inl v_waitMany)), (a_waitBytes, .inl ((k 3), 100, .inr (.inl v_waitBytes)))] H := hP
    have hD : va_D A [(h0, .inr (6, [.int v_thrown, .int v_sectors, .int 0, .ref a_disk, .ref a_made, .int v_used, .int v_reserve, .int v_cutWrites, .int v_cutBytes, .int v_rows, .ref a_sectorOf, .ref a_placeOf, .ref a_manyOf, .ref a_there, .int v_waits, .ref a_waitKind, .ref a_waitMany, .ref a_waitBytes, .int v_stateNumber, .long v_stateNow, .int v_second, .int v_repaired, .int v_up, .int v_sent])), (a_disk, .inl ((k 2), 32768, .inl o1.2)), (a_made, .inl ((k 2), 512, .inl v_made)), (a_sectorOf, .inl ((k 2), 5100, .inl v_sectorOf)), (a_placeOf, .inl ((k 2), 5100, .inl v_placeOf)), (a_manyOf, .inl ((k 2), 5100, .inl v_manyOf)), (a_there, .inl ((k 1), 5100, .inl v_there)), (a_waitKind, .inl ((k 2), 100, .inl v_waitKind)), (a_waitMany, .inl ((k 2), 100, .inl v_waitMany)), (a_waitBytes, .inl ((k 3), 100, .inr (.inl v_waitBytes)))] := hD
    refine lv_aload_n hx hb dX6_writeTo_65 rfl (lv_at hl 0 rfl) ?_
    refine va_get (D := D) (ci := 6) (v := .int v_cutWrites) (C := "ServiceDiskModel") (T := TX6) (N := 24) hx hb hts inX6 hown hK hP 0 rfl rfl 7 (by decide) (hts _ w_744) (fun _ h9 => h9) rfl dX6_writeTo_66 ?_
    refine lv_if_lt (tgt := 82) hx hb dX6_writeTo_69 (by decide) (fun q => ?_) (fun q => ?_)
    · replace h := dk_t q h
      refine lv_aload_n hx hb dX6_writeTo_82 rfl (lv_at hl 0 rfl) ?_
      refine va_get (D := D) (ci := 6) (v := .int 0) (C := "ServiceDiskModel") (T := TX6) (N := 24) hx hb hts inX6 hown hK hP 0 rfl rfl 2 (by decide) (hts _ w_739) (fun _ h9 => h9) rfl dX6_writeTo_83 ?_
      have h := dk_r h
      subst h
      exact dk_rwz hx hb hr (Or.inl rfl) hlocks (hP.sub [0, 1, 2, 3, 4, 5, 6, 7, 8, 9] rfl) (hD.sub [0, 1, 2, 3, 4, 5, 6, 7, 8, 9] (by decide) rfl) hS dX6_writeTo_86 rfl
    · replace h := dk_f q h
      refine lv_aload_n hx hb dX6_writeTo_72 rfl (lv_at hl 0 rfl) ?_
      refine lv_dup hx hb dX6_writeTo_73 rfl ?_
      refine va_get (D := D) (ci := 6) (v := .int v_cutWrites) (C := "ServiceDiskModel") (T := TX6) (N := 24) hx hb hts inX6 hown hK hP 0 rfl rfl 7 (by decide) (hts _ w_744) (fun _ h9 => h9) rfl dX6_writeTo_74 ?_
      refine lv_iconst (v := 1) hx hb dX6_writeTo_77 (by decide) ?_
      refine lv_isub hx hb dX6_writeTo_78 ?_
      refine va_put (D := D) (ci := 6) (v := .int (v_cutWrites - 1)) (ty := .int) (C := "ServiceDiskModel") (T := TX6) (N := 24) hx hb hts inX6 tyX6 tyX6_ok nmX6 hown hK hP hD hS 0 rfl rfl 7 (by decide) (hts _ w_744) (fun _ h9 => h9) rfl (by decide +kernel) rfl rfl (Nat.le_of_ble_eq_true rfl) dX6_writeTo_79 (fun H locs hP hD hS => ?_)
      have hP : va_P D vwCl [(h0, .inr (6, [.int v_thrown, .int v_sectors, .int 0, .ref a_disk, .ref a_made, .int v_used, .int v_reserve, .int (v_cutWrites - 1), .int v_cutBytes, .int v_rows, .ref a_sectorOf, .ref a_placeOf, .ref a_manyOf, .ref a_there, .int v_waits, .ref a_waitKind, .ref a_waitMany, .ref a_waitBytes, .int v_stateNumber, .long v_stateNow, .int v_second, .int v_repaired, .int v_up, .int v_sent])), (a_disk, .inl ((k 2), 32768, .inl o1.2)), (a_made, .inl ((k 2), 512, .inl v_made)), (a_sectorOf, .inl ((k 2), 5100, .inl v_sectorOf)), (a_placeOf, .inl ((k 2), 5100, .inl v_placeOf)), (a_manyOf, .inl ((k 2), 5100, .inl v_manyOf)), (a_there, .inl ((k 1), 5100, .inl v_there)), (a_waitKind, .inl ((k 2), 100, .inl v_waitKind)), (a_waitMany, .inl ((k 2), 100, .inl v_waitMany)), (a_waitBytes, .inl ((k 3), 100, .inr (.inl v_waitBytes)))] H := hP
      have hD : va_D A [(h0, .inr (6, [.int v_thrown, .int v_sectors, .int 0, .ref a_disk, .ref a_made, .int v_used, .int v_reserve, .int (v_cutWrites - 1), .int v_cutBytes, .int v_rows, .ref a_sectorOf, .ref a_placeOf, .ref a_manyOf, .ref a_there, .int v_waits, .ref a_waitKind, .ref a_waitMany, .ref a_waitBytes, .int v_stateNumber, .long v_stateNow, .int v_second, .int v_repaired, .int v_up, .int v_sent])), (a_disk, .inl ((k 2), 32768, .inl o1.2)), (a_made, .inl ((k 2), 512, .inl v_made)), (a_sectorOf, .inl ((k 2), 5100, .inl v_sectorOf)), (a_placeOf, .inl ((k 2), 5100, .inl v_placeOf)), (a_manyOf, .inl ((k 2), 5100, .inl v_manyOf)), (a_there, .inl ((k 1), 5100, .inl v_there)), (a_waitKind, .inl ((k 2), 100, .inl v_waitKind)), (a_waitMany, .inl ((k 2), 100, .inl v_waitMany)), (a_waitBytes, .inl ((k 3), 100, .inr (.inl v_waitBytes)))] := hD
      refine lv_aload_n hx hb dX6_writeTo_82 rfl (lv_at hl 0 rfl) ?_
      refine va_get (D := D) (ci := 6) (v := .int 0) (C := "ServiceDiskModel") (T := TX6) (N := 24) hx hb hts inX6 hown hK hP 0 rfl rfl 2 (by decide) (hts _ w_739) (fun _ h9 => h9) rfl dX6_writeTo_83 ?_
      have h := dk_r h
      subst h
      exact dk_rwz hx hb hr (Or.inl rfl) hlocks (hP.sub [0, 1, 2, 3, 4, 5, 6, 7, 8, 9] rfl) (hD.sub [0, 1, 2, 3, 4, 5, 6, 7, 8, 9] (by decide) rfl) hS dX6_writeTo_86 rfl
/-! ServiceDiskModel.write(I)Z: rw, frames 2, locals 45 -/
def fX6_write (v_power : Int32) (v_cutWrites : Int32) (v_cutBytes : Int32) (v_disk : Nat → Int32) (v_made : Nat → Int32) (p1 : Int32) : Option (Int32 × Int32 × Int32 × (Nat → Int32)) :=
  (fX6_writeTo v_power v_cutWrites v_cutBytes v_disk v_made 0 p1).bind fun o1 =>
  if o1.1 = 0 then
    some (0, o1.2.1, o1.2.2.1, o1.2.2.2)
  else
    (fX6_writeTo o1.2.1 o1.2.2.1 v_cutBytes o1.2.2.2 v_made 1 p1).bind fun o2 =>
    if dk_01 (if o2.1 = 0 then 0 else 1) then some ((if o2.1 = 0 then 0 else 1), o2.2.1, o2.2.2.1, o2.2.2.2) else none
set_option maxHeartbeats 4000000 in
set_option maxRecDepth 100000 in
theorem mX6_write (l : Launch) (D : va_G) (k : Nat → ClassId) (h0 a_disk a_made a_sectorOf a_placeOf a_manyOf a_there a_waitKind a_waitMany a_waitBytes : Nat) (sz : Nat) (v_thrown : Int32) (v_sectors : Int32) (v_power : Int32) (v_used : Int32) (v_reserve : Int32) (v_cutWrites : Int32) (v_cutBytes : Int32) (v_rows : Int32) (v_waits : Int32) (v_stateNumber : Int32) (v_stateNow : Int64) (v_second : Int32) (v_repaired : Int32) (v_up : Int32) (v_sent : Int32) (v_disk : Nat → Int32) (v_made : Nat → Int32) (v_sectorOf : Nat → Int32) (v_placeOf : Nat → Int32) (v_manyOf : Nat → Int32) (v_there : Nat → Int32) (v_waitKind : Nat → Int32) (v_waitMany : Nat → Int32) (v_waitBytes : Nat → Int64) (p1 : Int32) (o : Int32 × Int32 × Int32 × (Nat → Int32)) (h : fX6_write v_power v_cutWrites v_cutBytes v_disk v_made p1 = some o) : Met l yX6_write wsX6_write { frames := 2, cells := 0, slots := 0, locals := 45 } (dk_Pw D k [.ref h0, .int p1] [(h0, .inr (6, [.int v_thrown, .int v_sectors, .int v_power, .ref a_disk, .ref a_made, .int v_used, .int v_reserve, .int v_cutWrites, .int v_cutBytes, .int v_rows, .ref a_sectorOf, .ref a_placeOf, .ref a_manyOf, .ref a_there, .int v_waits, .ref a_waitKind, .ref a_waitMany, .ref a_waitBytes, .int v_stateNumber, .long v_stateNow, .int v_second, .int v_repaired, .int v_up, .int v_sent])), (a_disk, .inl ((k 2), 32768, .inl v_disk)), (a_made, .inl ((k 2), 512, .inl v_made)), (a_sectorOf, .inl ((k 2), 5100, .inl v_sectorOf)), (a_placeOf, .inl ((k 2), 5100, .inl v_placeOf)), (a_manyOf, .inl ((k 2), 5100, .inl v_manyOf)), (a_there, .inl ((k 1), 5100, .inl v_there)), (a_waitKind, .inl ((k 2), 100, .inl v_waitKind)), (a_waitMany, .inl ((k 2), 100, .inl v_waitMany)), (a_waitBytes, .inl ((k 3), 100, .inr (.inl v_waitBytes)))] sz) (dk_Qi o.1 D [(h0, .inr (6, [.int v_thrown, .int v_sectors, .int o.2.1, .ref a_disk, .ref a_made, .int v_used, .int v_reserve, .int o.2.2.1, .int v_cutBytes, .int v_rows, .ref a_sectorOf, .ref a_placeOf, .ref a_manyOf, .ref a_there, .int v_waits, .ref a_waitKind, .ref a_waitMany, .ref a_waitBytes, .int v_stateNumber, .long v_stateNow, .int v_second, .int v_repaired, .int v_up, .int v_sent])), (a_disk, .inl ((k 2), 32768, .inl o.2.2.2)), (a_made, .inl ((k 2), 512, .inl v_made)), (a_sectorOf, .inl ((k 2), 5100, .inl v_sectorOf)), (a_placeOf, .inl ((k 2), 5100, .inl v_placeOf)), (a_manyOf, .inl ((k 2), 5100, .inl v_manyOf)), (a_there, .inl ((k 1), 5100, .inl v_there)), (a_waitKind, .inl ((k 2), 100, .inl v_waitKind)), (a_waitMany, .inl ((k 2), 100, .inl v_waitMany)), (a_waitBytes, .inl ((k 3), 100, .inr (.inl v_waitBytes)))] (va_A [(h0, .inr (6, [.int v_thrown, .int v_sectors, .int v_power, .ref a_disk, .ref a_made, .int v_used, .int v_reserve, .int v_cutWrites, .int v_cutBytes, .int v_rows, .ref a_sectorOf, .ref a_placeOf, .ref a_manyOf, .ref a_there, .int v_waits, .ref a_waitKind, .ref a_waitMany, .ref a_waitBytes, .int v_stateNumber, .long v_stateNow, .int v_second, .int v_repaired, .int v_up, .int v_sent])), (a_disk, .inl ((k 2), 32768, .inl v_disk)), (a_made, .inl ((k 2), 512, .inl v_made)), (a_sectorOf, .inl ((k 2), 5100, .inl v_sectorOf)), (a_placeOf, .inl ((k 2), 5100, .inl v_placeOf)), (a_manyOf, .inl ((k 2), 5100, .inl v_manyOf)), (a_there, .inl ((k 1), 5100, .inl v_there)), (a_waitKind, .inl ((k 2), 100, .inl v_waitKind)), (a_waitMany, .inl ((k 2), 100, .inl v_waitMany)), (a_waitBytes, .inl ((k 3), 100, .inr (.inl v_waitBytes)))] sz)) 0 0 (va_A [(h0, .inr (6, [.int v_thrown, .int v_sectors, .int v_power, .ref a_disk, .ref a_made, .int v_used, .int v_reserve, .int v_cutWrites, .int v_cutBytes, .int v_rows, .ref a_sectorOf, .ref a_placeOf, .ref a_manyOf, .ref a_there, .int v_waits, .ref a_waitKind, .ref a_waitMany, .ref a_waitBytes, .int v_stateNumber, .long v_stateNow, .int v_second, .int v_repaired, .int v_up, .int v_sent])), (a_disk, .inl ((k 2), 32768, .inl v_disk)), (a_made, .inl ((k 2), 512, .inl v_made)), (a_sectorOf, .inl ((k 2), 5100, .inl v_sectorOf)), (a_placeOf, .inl ((k 2), 5100, .inl v_placeOf)), (a_manyOf, .inl ((k 2), 5100, .inl v_manyOf)), (a_there, .inl ((k 1), 5100, .inl v_there)), (a_waitKind, .inl ((k 2), 100, .inl v_waitKind)), (a_waitMany, .inl ((k 2), 100, .inl v_waitMany)), (a_waitBytes, .inl ((k 3), 100, .inr (.inl v_waitBytes)))] sz) := by
  unfold fX6_write at h
  refine dk_ofW (Qc := fun A => dk_Qi o.1 D [(h0, .inr (6, [.int v_thrown, .int v_sectors, .int o.2.1, .ref a_disk, .ref a_made, .int v_used, .int v_reserve, .int o.2.2.1, .int v_cutBytes, .int v_rows, .ref a_sectorOf, .ref a_placeOf, .ref a_manyOf, .ref a_there, .int v_waits, .ref a_waitKind, .ref a_waitMany, .ref a_waitBytes, .int v_stateNumber, .long v_stateNow, .int v_second, .int v_repaired, .int v_up, .int v_sent])), (a_disk, .inl ((k 2), 32768, .inl o.2.2.2)), (a_made, .inl ((k 2), 512, .inl v_made)), (a_sectorOf, .inl ((k 2), 5100, .inl v_sectorOf)), (a_placeOf, .inl ((k 2), 5100, .inl v_placeOf)), (a_manyOf, .inl ((k 2), 5100, .inl v_manyOf)), (a_there, .inl ((k 1), 5100, .inl v_there)), (a_waitKind, .inl ((k 2), 100, .inl v_waitKind)), (a_waitMany, .inl ((k 2), 100, .inl v_waitMany)), (a_waitBytes, .inl ((k 3), 100, .inr (.inl v_waitBytes)))] A) (cc := cX6_write) (maxL := 2) (ret := (some .boolean)) (lv := [(0, .ref h0), (1, .int p1)]) (by decide) rfl (Nat.le_of_ble_eq_true rfl) rfl ?_
  intro p e s m below meth c C hK hN hP A hA hD hS ls hl
  obtain ⟨hx, hb, hr, hml, hown, hts, hlocks⟩ := id C
  refine lv_aload_n hx hb dX6_write_0 rfl (lv_at hl 0 rfl) ?_
  refine lv_iconst (v := 0) hx hb dX6_write_1 (by decide) ?_
  refine lv_iload_n hx hb dX6_write_2 rfl (lv_at hl 1 rfl) ?_
  replace h := dk_b h
  obtain ⟨o1, e1, h⟩ := h
  refine dk_cwi (wr := []) (va_runV (As := [.int 0, .int p1]) (rest := []) ⟨hx, hb, hml, hown, hts⟩ (mX6_writeTo l D k h0 a_disk a_made a_sectorOf a_placeOf a_manyOf a_there a_waitKind a_waitMany a_waitBytes s.heap.size v_thrown v_sectors v_power v_used v_reserve v_cutWrites v_cutBytes v_rows v_waits v_stateNumber v_stateNow v_second v_repaired v_up v_sent v_disk v_made v_sectorOf v_placeOf v_manyOf v_there v_waitKind v_waitMany v_waitBytes 0 p1 o1 e1) (cwV 2 hts (dk_gV w_865 w_867 w_27 w_46 w_868) rfl rfl rfl (by decide +kernel) ⟨Nat.le_of_ble_eq_true rfl, Nat.le_of_ble_eq_true rfl⟩) (dk_pvw hK hN hP hD [0, 1, 2, 3, 4, 5, 6, 7, 8, 9] rfl rfl rfl rfl (hP.sub [0, 1, 2, 3, 4, 5, 6, 7, 8, 9] rfl)) rfl rfl hl.1 rfl (lv_room (Nat.le_of_ble_eq_true rfl)) dX6_write_3 ⟨Nat.le_of_ble_eq_true rfl, Nat.le_of_ble_eq_true rfl⟩) hP hD hS hA [0, 1, 2, 3, 4, 5, 6, 7, 8, 9] [] rfl rfl rfl (by decide) (fun H locs hP hD hS => ?_)
  have hP : va_P D vwCl [(h0, .inr (6, [.int v_thrown, .int v_sectors, .int o1.2.1, .ref a_disk, .ref a_made, .int v_used, .int v_reserve, .int o1.2.2.1, .int v_cutBytes, .int v_rows, .ref a_sectorOf, .ref a_placeOf, .ref a_manyOf, .ref a_there, .int v_waits, .ref a_waitKind, .ref a_waitMany, .ref a_waitBytes, .int v_stateNumber, .long v_stateNow, .int v_second, .int v_repaired, .int v_up, .int v_sent])), (a_disk, .inl ((k 2), 32768, .inl o1.2.2.2)), (a_made, .inl ((k 2), 512, .inl v_made)), (a_sectorOf, .inl ((k 2), 5100, .inl v_sectorOf)), (a_placeOf, .inl ((k 2), 5100, .inl v_placeOf)), (a_manyOf, .inl ((k 2), 5100, .inl v_manyOf)), (a_there, .inl ((k 1), 5100, .inl v_there)), (a_waitKind, .inl ((k 2), 100, .inl v_waitKind)), (a_waitMany, .inl ((k 2), 100, .inl v_waitMany)), (a_waitBytes, .inl ((k 3), 100, .inr (.inl v_waitBytes)))] H := hP
  have hD : va_D A [(h0, .inr (6, [.int v_thrown, .int v_sectors, .int o1.2.1, .ref a_disk, .ref a_made, .int v_used, .int v_reserve, .int o1.2.2.1, .int v_cutBytes, .int v_rows, .ref a_sectorOf, .ref a_placeOf, .ref a_manyOf, .ref a_there, .int v_waits, .ref a_waitKind, .ref a_waitMany, .ref a_waitBytes, .int v_stateNumber, .long v_stateNow, .int v_second, .int v_repaired, .int v_up, .int v_sent])), (a_disk, .inl ((k 2), 32768, .inl o1.2.2.2)), (a_made, .inl ((k 2), 512, .inl v_made)), (a_sectorOf, .inl ((k 2), 5100, .inl v_sectorOf)), (a_placeOf, .inl ((k 2), 5100, .inl v_placeOf)), (a_manyOf, .inl ((k 2), 5100, .inl v_manyOf)), (a_there, .inl ((k 1), 5100, .inl v_there)), (a_waitKind, .inl ((k 2), 100, .inl v_waitKind)), (a_waitMany, .inl ((k 2), 100, .inl v_waitMany)), (a_waitBytes, .inl ((k 3), 100, .inr (.inl v_waitBytes)))] := hD
  refine lv_if_eq (tgt := 22) hx hb dX6_write_6 (by decide) (fun q => ?_) (fun q => ?_)
  · replace h := dk_t q h
    refine lv_iconst (v := 0) hx hb dX6_write_22 (by decide) ?_
    have h := dk_r h
    subst h
    exact dk_rwz hx hb hr (Or.inl rfl) hlocks (hP.sub [0, 1, 2, 3, 4, 5, 6, 7, 8, 9] rfl) (hD.sub [0, 1, 2, 3, 4, 5, 6, 7, 8, 9] (by decide) rfl) hS dX6_write_23 rfl
  · replace h := dk_f q h
    refine lv_aload_n hx hb dX6_write_9 rfl (lv_at hl 0 rfl) ?_
    refine lv_iconst (v := 1) hx hb dX6_write_10 (by decide) ?_
    refine lv_iload_n hx hb dX6_write_11 rfl (lv_at hl 1 rfl) ?_
    replace h := dk_b h
    obtain ⟨o2, e2, h⟩ := h
    refine dk_cwi (wr := []) (va_runV (As := [.int 1, .int p1]) (rest := []) ⟨hx, hb, hml, hown, hts⟩ (mX6_writeTo l D k h0 a_disk a_made a_sectorOf a_placeOf a_manyOf a_there a_waitKind a_waitMany a_waitBytes H.size v_thrown v_sectors o1.2.1 v_used v_reserve o1.2.2.1 v_cutBytes v_rows v_waits v_stateNumber v_stateNow v_second v_repaired v_up v_sent o1.2.2.2 v_made v_sectorOf v_placeOf v_manyOf v_there v_waitKind v_waitMany v_waitBytes 1 p1 o2 e2) (cwV 2 hts (dk_gV w_865 w_867 w_27 w_46 w_868) rfl rfl rfl (by decide +kernel) ⟨Nat.le_of_ble_eq_true rfl, Nat.le_of_ble_eq_true rfl⟩) (dk_pvw hK hN hP hD [0, 1, 2, 3, 4, 5, 6, 7, 8, 9] rfl rfl rfl rfl (hP.sub [0, 1, 2, 3, 4, 5, 6, 7, 8, 9] rfl)) rfl rfl hl.1 rfl (lv_room (Nat.le_of_ble_eq_true rfl)) dX6_write_12 ⟨Nat.le_of_ble_eq_true rfl, Nat.le_of_ble_eq_true rfl⟩) hP hD hS hA [0, 1, 2, 3, 4, 5, 6, 7, 8, 9] [] rfl rfl rfl (by decide) (fun H locs hP hD hS => ?_)
    have hP : va_P D vwCl [(h0, .inr (6, [.int v_thrown, .int v_sectors, .int o2.2.1, .ref a_disk, .ref a_made, .int v_used, .int v_reserve, .int o2.2.2.1, .int v_cutBytes, .int v_rows, .ref a_sectorOf, .ref a_placeOf, .ref a_manyOf, .ref a_there, .int v_waits, .ref a_waitKind, .ref a_waitMany, .ref a_waitBytes, .int v_stateNumber, .long v_stateNow, .int v_second, .int v_repaired, .int v_up, .int v_sent])), (a_disk, .inl ((k 2), 32768, .inl o2.2.2.2)), (a_made, .inl ((k 2), 512, .inl v_made)), (a_sectorOf, .inl ((k 2), 5100, .inl v_sectorOf)), (a_placeOf, .inl ((k 2), 5100, .inl v_placeOf)), (a_manyOf, .inl ((k 2), 5100, .inl v_manyOf)), (a_there, .inl ((k 1), 5100, .inl v_there)), (a_waitKind, .inl ((k 2), 100, .inl v_waitKind)), (a_waitMany, .inl ((k 2), 100, .inl v_waitMany)), (a_waitBytes, .inl ((k 3), 100, .inr (.inl v_waitBytes)))] H := hP
    have hD : va_D A [(h0, .inr (6, [.int v_thrown, .int v_sectors, .int o2.2.1, .ref a_disk, .ref a_made, .int v_used, .int v_reserve, .int o2.2.2.1, .int v_cutBytes, .int v_rows, .ref a_sectorOf, .ref a_placeOf, .ref a_manyOf, .ref a_there, .int v_waits, .ref a_waitKind, .ref a_waitMany, .ref a_waitBytes, .int v_stateNumber, .long v_stateNow, .int v_second, .int v_repaired, .int v_up, .int v_sent])), (a_disk, .inl ((k 2), 32768, .inl o2.2.2.2)), (a_made, .inl ((k 2), 512, .inl v_made)), (a_sectorOf, .inl ((k 2), 5100, .inl v_sectorOf)), (a_placeOf, .inl ((k 2), 5100, .inl v_placeOf)), (a_manyOf, .inl ((k 2), 5100, .inl v_manyOf)), (a_there, .inl ((k 1), 5100, .inl v_there)), (a_waitKind, .inl ((k 2), 100, .inl v_waitKind)), (a_waitMany, .inl ((k 2), 100, .inl v_waitMany)), (a_waitBytes, .inl ((k 3), 100, .inr (.inl v_waitBytes)))] := hD
    refine dk_jn (F0 m 23 ls [.int (if o2.1 = 0 then 0 else 1)]) (fun K => ?_) ?_
    · refine lv_if_eq (tgt := 22) hx hb dX6_write_15 (by decide) (fun q1 => ?_) (fun q1 => ?_)
      · refine lv_iconst (v := 0) hx hb dX6_write_22 (by decide) ?_
        have K := K
        rw [if_pos q1] at K
        exact K
      · refine lv_iconst (v := 1) hx hb dX6_write_18 (by decide) ?_
        refine lv_goto (tgt := 23) hx hb dX6_write_19 (by decide) ?_
        have K := K
        rw [if_neg q1] at K
        exact K
    obtain ⟨q, h⟩ := dk_g h
    have h := dk_r h
    subst h
    exact dk_rwz hx hb hr q hlocks (hP.sub [0, 1, 2, 3, 4, 5, 6, 7, 8, 9] rfl) (hD.sub [0, 1, 2, 3, 4, 5, 6, 7, 8, 9] (by decide) rfl) hS dX6_write_23 rfl
/-! ServiceDiskModel.needed(I)I: ro, frames 0, locals 0 -/
def fX6_needed_L7 (v_waits : Int32) (v_waitMany : Nat → Int32) (x1 : Int32) : Nat → (Int32) → (Int32) → (Int32) → Option (Int32 × Int32 × Int32)
  | 0, _, _, _ => none
  | n + 1, x2, x3, x4 =>
    if v_waits < x4 then
      some (x2, x3, x4)
    else
      if v_waits ≤ x4 then
        if x1 ≤ 0 then
          fX6_needed_L7 v_waits v_waitMany x1 n x2 (x3 - (if x1 ≤ 0 then 0 else (x1 + 2))) (x4 + 1)
        else
          if (x1 + 2) ≤ x3 then
            fX6_needed_L7 v_waits v_waitMany x1 n x2 (x3 - (if x1 ≤ 0 then 0 else (x1 + 2))) (x4 + 1)
          else
            fX6_needed_L7 v_waits v_waitMany x1 n (x2 + 1) (502 - (if x1 ≤ 0 then 0 else (x1 + 2))) (x4 + 1)
      else
        if dk_in x4 100 then
        if (v_waitMany x4.toNatClampNeg) ≤ 0 then
          fX6_needed_L7 v_waits v_waitMany x1 n x2 (x3 - (if (v_waitMany x4.toNatClampNeg) ≤ 0 then 0 else ((v_waitMany x4.toNatClampNeg) + 2))) (x4 + 1)
        else
          if ((v_waitMany x4.toNatClampNeg) + 2) ≤ x3 then
            fX6_needed_L7 v_waits v_waitMany x1 n x2 (x3 - (if (v_waitMany x4.toNatClampNeg) ≤ 0 then 0 else ((v_waitMany x4.toNatClampNeg) + 2))) (x4 + 1)
          else
            fX6_needed_L7 v_waits v_waitMany x1 n (x2 + 1) (502 - (if (v_waitMany x4.toNatClampNeg) ≤ 0 then 0 else ((v_waitMany x4.toNatClampNeg) + 2))) (x4 + 1)
        else none
def fX6_needed (v_waits : Int32) (v_waitMany : Nat → Int32) (p1 : Int32) : Option (Int32) :=
  (fX6_needed_L7 v_waits v_waitMany p1 dkF 0 0 0).bind fun o1 =>
  some (o1.1)
set_option maxHeartbeats 4000000 in
set_option maxRecDepth 100000 in
theorem lX6_needed_7 {p : Program} {l : Launch} {e : Env} {s : State} {m : MethodId} {below : List Frame} {meth : Method} {c : Code} {args : Array Value} {D : va_G} {k : Nat → ClassId} {h0 : Nat} {a_disk : Nat} {a_made : Nat} {a_sectorOf : Nat} {a_placeOf : Nat} {a_manyOf : Nat} {a_there : Nat} {a_waitKind : Nat} {a_waitMany : Nat} {a_waitBytes : Nat} {v_thrown : Int32} {v_sectors : Int32} {v_power : Int32} {v_used : Int32} {v_reserve : Int32} {v_cutWrites : Int32} {v_cutBytes : Int32} {v_rows : Int32} {v_waits : Int32} {v_stateNumber : Int32} {v_stateNow : Int64} {v_second : Int32} {v_repaired : Int32} {v_up : Int32} {v_sent : Int32} {v_disk : Nat → Int32} {v_made : Nat → Int32} {v_sectorOf : Nat → Int32} {v_placeOf : Nat → Int32} {v_manyOf : Nat → Int32} {v_there : Nat → Int32} {v_waitKind : Nat → Int32} {v_waitMany : Nat → Int32} {v_waitBytes : Nat → Int64} {x1 : Int32} {Q : State → Prop} {o : Int32 × Int32 × Int32} (C : dk_Cx p s m meth c cX6_needed (some .int) 6 "ServiceDiskModel" dkB args) (hK : va_K D vwCl (dkT k) s) (hN : dk_N s) (hP : va_P D vwCl [(h0, .inr (6, [.int v_thrown, .int v_sectors, .int v_power, .ref a_disk, .ref a_made, .int v_used, .int v_reserve, .int v_cutWrites, .int v_cutBytes, .int v_rows, .ref a_sectorOf, .ref a_placeOf, .ref a_manyOf, .ref a_there, .int v_waits, .ref a_waitKind, .ref a_waitMany, .ref a_waitBytes, .int v_stateNumber, .long v_stateNow, .int v_second, .int v_repaired, .int v_up, .int v_sent])), (a_disk, .inl ((k 2), 32768, .inl v_disk)), (a_made, .inl ((k 2), 512, .inl v_made)), (a_sectorOf, .inl ((k 2), 5100, .inl v_sectorOf)), (a_placeOf, .inl ((k 2), 5100, .inl v_placeOf)), (a_manyOf, .inl ((k 2), 5100, .inl v_manyOf)), (a_there, .inl ((k 1), 5100, .inl v_there)), (a_waitKind, .inl ((k 2), 100, .inl v_waitKind)), (a_waitMany, .inl ((k 2), 100, .inl v_waitMany)), (a_waitBytes, .inl ((k 3), 100, .inr (.inl v_waitBytes)))] s.heap) :
    ∀ (n : Nat) (x2 : Int32) (x3 : Int32) (x4 : Int32), fX6_needed_L7 v_waits v_waitMany x1 n x2 x3 x4 = some o → (∀ ls : Array Slot, lv_has ls 6 [(0, .ref h0), (1, .int x1), (2, .int o.1), (3, .int o.2.1), (4, .int o.2.2)] → W p l e { frames := 0, cells := 0, slots := 0, locals := 0 } s m args below meth c s.heap [] 0 0 Q (F0 m 80 ls [])) → ∀ ls : Array Slot, lv_has ls 6 [(0, .ref h0), (1, .int x1), (2, .int x2), (3, .int x3), (4, .int x4)] → W p l e { frames := 0, cells := 0, slots := 0, locals := 0 } s m args below meth c s.heap [] 0 0 Q (F0 m 7 ls []) := by
  obtain ⟨hx, hb, hr, hml, hown, hts, hlocks⟩ := id C
  intro n
  induction n with
  | zero =>
    intro x2 x3 x4 h
    exact dk_n (o := o) h
  | succ n ih =>
    intro x2 x3 x4 h K ls hl
    rw [fX6_needed_L7.eq_2] at h
    refine lv_iload hx hb dX6_needed_7 (lv_at hl 4 rfl) ?_
    refine lv_aload_n hx hb dX6_needed_9 rfl (lv_at hl 0 rfl) ?_
    refine va_get (D := D) (ci := 6) (v := .int v_waits) (C := "ServiceDiskModel") (T := TX6) (N := 24) hx hb hts inX6 hown hK hP 0 rfl rfl 14 (by decide) (hts _ w_751) (fun _ h9 => h9) rfl dX6_needed_10 ?_
    refine lv_icmp_gt (tgt := 80) hx hb dX6_needed_13 (by decide) (fun q => ?_) (fun q => ?_)
    · replace h := dk_t q h
      have h := dk_r h
      subst h
      exact K ls (lv_sub hl [0, 1, 2, 3, 4] rfl)
    · replace h := dk_f q h
      refine lv_iload hx hb dX6_needed_16 (lv_at hl 4 rfl) ?_
      refine lv_aload_n hx hb dX6_needed_18 rfl (lv_at hl 0 rfl) ?_
      refine va_get (D := D) (ci := 6) (v := .int v_waits) (C := "ServiceDiskModel") (T := TX6) (N := 24) hx hb hts inX6 hown hK hP 0 rfl rfl 14 (by decide) (hts _ w_751) (fun _ h9 => h9) rfl dX6_needed_19 ?_
      refine lv_icmp_ge (tgt := 35) hx hb dX6_needed_22 (by decide) (fun q => ?_) (fun q => ?_)
      · replace h := dk_t q h
        refine lv_iload_n hx hb dX6_needed_35 rfl (lv_at hl 1 rfl) ?_
        refine lv_istore (lv' := [(5, .int x1), (0, .ref h0), (1, .int x1), (2, .int x2), (3, .int x3), (4, .int x4)]) hx hb dX6_needed_36 hl (by decide) rfl (fun ls hl => ?_)
        refine lv_iload hx hb dX6_needed_38 (lv_at hl 0 rfl) ?_
        refine lv_if_le (tgt := 58) hx hb dX6_needed_40 (by decide) (fun q => ?_) (fun q => ?_)
        · replace h := dk_t q h
          refine lv_iload_n hx hb dX6_needed_58 rfl (lv_at hl 4 rfl) ?_
          refine lv_iload hx hb dX6_needed_59 (lv_at hl 0 rfl) ?_
          refine dk_jn (F0 m 72 ls [.int (if x1 ≤ 0 then 0 else (x1 + 2)), .int x3]) (fun K => ?_) ?_
          · refine lv_if_le (tgt := 71) hx hb dX6_needed_61 (by decide) (fun q1 => ?_) (fun q1 => ?_)
            · refine lv_iconst (v := 0) hx hb dX6_needed_71 (by decide) ?_
              have K := K
              rw [if_pos q1] at K
              exact K
            · refine lv_iload hx hb dX6_needed_64 (lv_at hl 0 rfl) ?_
              refine lv_iconst (v := 2) hx hb dX6_needed_66 (by decide) ?_
              refine lv_iadd hx hb dX6_needed_67 ?_
              refine lv_goto (tgt := 72) hx hb dX6_needed_68 (by decide) ?_
              have K := K
              rw [if_neg q1] at K
              exact K
          refine lv_isub hx hb dX6_needed_72 ?_
          refine lv_istore_n (lv' := [(3, .int (x3 - (if x1 ≤ 0 then 0 else (x1 + 2)))), (5, .int x1), (0, .ref h0), (1, .int x1), (2, .int x2), (4, .int x4)]) hx hb dX6_needed_73 rfl hl (by decide) rfl (fun ls hl => ?_)
          refine lv_iinc (v := (x4 + 1)) (lv' := [(4, .int (x4 + 1)), (3, .int (x3 - (if x1 ≤ 0 then 0 else (x1 + 2)))), (5, .int x1), (0, .ref h0), (1, .int x1), (2, .int x2)]) hx hb dX6_needed_74 hl (k := 5) rfl rfl (by decide) rfl (fun ls hl => ?_)
          refine lv_goto (tgt := 7) hx hb dX6_needed_77 (by decide) ?_
          exact ih x2 (x3 - (if x1 ≤ 0 then 0 else (x1 + 2))) (x4 + 1) h K ls (lv_sub hl [3, 4, 5, 1, 0] rfl)
        · replace h := dk_f q h
          refine lv_iload hx hb dX6_needed_43 (lv_at hl 0 rfl) ?_
          refine lv_iconst (v := 2) hx hb dX6_needed_45 (by decide) ?_
          refine lv_iadd hx hb dX6_needed_46 ?_
          refine lv_iload_n hx hb dX6_needed_47 rfl (lv_at hl 4 rfl) ?_
          refine lv_icmp_le (tgt := 58) hx hb dX6_needed_48 (by decide) (fun q => ?_) (fun q => ?_)
          · replace h := dk_t q h
            refine lv_iload_n hx hb dX6_needed_58 rfl (lv_at hl 4 rfl) ?_
            refine lv_iload hx hb dX6_needed_59 (lv_at hl 0 rfl) ?_
            refine dk_jn (F0 m 72 ls [.int (if x1 ≤ 0 then 0 else (x1 + 2)), .int x3]) (fun K => ?_) ?_
            · refine lv_if_le (tgt := 71) hx hb dX6_needed_61 (by decide) (fun q1 => ?_) (fun q1 => ?_)
              · refine lv_iconst (v := 0) hx hb dX6_needed_71 (by decide) ?_
                have K := K
                rw [if_pos q1] at K
                exact K
              · refine lv_iload hx hb dX6_needed_64 (lv_at hl 0 rfl) ?_
                refine lv_iconst (v := 2) hx hb dX6_needed_66 (by decide) ?_
                refine lv_iadd hx hb dX6_needed_67 ?_
                refine lv_goto (tgt := 72) hx hb dX6_needed_68 (by decide) ?_
                have K := K
                rw [if_neg q1] at K
                exact K
            refine lv_isub hx hb dX6_needed_72 ?_
            refine lv_istore_n (lv' := [(3, .int (x3 - (if x1 ≤ 0 then 0 else (x1 + 2)))), (5, .int x1), (0, .ref h0), (1, .int x1), (2, .int x2), (4, .int x4)]) hx hb dX6_needed_73 rfl hl (by decide) rfl (fun ls hl => ?_)
            refine lv_iinc (v := (x4 + 1)) (lv' := [(4, .int (x4 + 1)), (3, .int (x3 - (if x1 ≤ 0 then 0 else (x1 + 2)))), (5, .int x1), (0, .ref h0), (1, .int x1), (2, .int x2)]) hx hb dX6_needed_74 hl (k := 5) rfl rfl (by decide) rfl (fun ls hl => ?_)
            refine lv_goto (tgt := 7) hx hb dX6_needed_77 (by decide) ?_
            exact ih x2 (x3 - (if x1 ≤ 0 then 0 else (x1 + 2))) (x4 + 1) h K ls (lv_sub hl [3, 4, 5, 1, 0] rfl)
          · replace h := dk_f q h
            refine lv_iinc (v := (x2 + 1)) (lv' := [(2, .int (x2 + 1)), (5, .int x1), (0, .ref h0), (1, .int x1), (3, .int x3), (4, .int x4)]) hx hb dX6_needed_51 hl (k := 3) rfl rfl (by decide) rfl (fun ls hl => ?_)
            refine lv_sipush (v := 502) hx hb dX6_needed_54 (by decide) ?_
            refine lv_istore_n (lv' := [(3, .int 502), (2, .int (x2 + 1)), (5, .int x1), (0, .ref h0), (1, .int x1), (4, .int x4)]) hx hb dX6_needed_57 rfl hl (by decide) rfl (fun ls hl => ?_)
            refine lv_iload_n hx hb dX6_needed_58 rfl (lv_at hl 0 rfl) ?_
            refine lv_iload hx hb dX6_needed_59 (lv_at hl 2 rfl) ?_
            refine dk_jn (F0 m 72 ls [.int (if x1 ≤ 0 then 0 else (x1 + 2)), .int 502]) (fun K => ?_) ?_
            · refine lv_if_le (tgt := 71) hx hb dX6_needed_61 (by decide) (fun q1 => ?_) (fun q1 => ?_)
              · refine lv_iconst (v := 0) hx hb dX6_needed_71 (by decide) ?_
                have K := K
                rw [if_pos q1] at K
                exact K
              · refine lv_iload hx hb dX6_needed_64 (lv_at hl 2 rfl) ?_
                refine lv_iconst (v := 2) hx hb dX6_needed_66 (by decide) ?_
                refine lv_iadd hx hb dX6_needed_67 ?_
                refine lv_goto (tgt := 72) hx hb dX6_needed_68 (by decide) ?_
                have K := K
                rw [if_neg q1] at K
                exact K
            refine lv_isub hx hb dX6_needed_72 ?_
            refine lv_istore_n (lv' := [(3, .int (502 - (if x1 ≤ 0 then 0 else (x1 + 2)))), (2, .int (x2 + 1)), (5, .int x1), (0, .ref h0), (1, .int x1), (4, .int x4)]) hx hb dX6_needed_73 rfl hl (by decide) rfl (fun ls hl => ?_)
            refine lv_iinc (v := (x4 + 1)) (lv' := [(4, .int (x4 + 1)), (3, .int (502 - (if x1 ≤ 0 then 0 else (x1 + 2)))), (2, .int (x2 + 1)), (5, .int x1), (0, .ref h0), (1, .int x1)]) hx hb dX6_needed_74 hl (k := 5) rfl rfl (by decide) rfl (fun ls hl => ?_)
            refine lv_goto (tgt := 7) hx hb dX6_needed_77 (by decide) ?_
            exact ih (x2 + 1) (502 - (if x1 ≤ 0 then 0 else (x1 + 2))) (x4 + 1) h K ls (lv_sub hl [4, 5, 2, 1, 0] rfl)
      · replace h := dk_f q h
        refine lv_aload_n hx hb dX6_needed_25 rfl (lv_at hl 0 rfl) ?_
        refine va_get (D := D) (ci := 6) (v := .ref a_waitMany) (C := "ServiceDiskModel") (T := TX6) (N := 24) hx hb hts inX6 hown hK hP 0 rfl rfl 16 (by decide) (hts _ w_753) (fun _ h9 => h9) rfl dX6_needed_26 ?_
        refine lv_iload hx hb dX6_needed_29 (lv_at hl 4 rfl) ?_
        obtain ⟨q, h⟩ := dk_g h
        refine va_iald hx hb hK hP 8 2 rfl rfl q dX6_needed_31 ?_
        refine lv_goto (tgt := 36) hx hb dX6_needed_32 (by decide) ?_
        refine lv_istore (lv' := [(5, .int (v_waitMany x4.toNatClampNeg)), (0, .ref h0), (1, .int x1), (2, .int x2), (3, .int x3), (4, .int x4)]) hx hb dX6_needed_36 hl (by decide) rfl (fun ls hl => ?_)
        refine lv_iload hx hb dX6_needed_38 (lv_at hl 0 rfl) ?_
        refine lv_if_le (tgt := 58) hx hb dX6_needed_40 (by decide) (fun q => ?_) (fun q => ?_)
        · replace h := dk_t q h
          refine lv_iload_n hx hb dX6_needed_58 rfl (lv_at hl 4 rfl) ?_
          refine lv_iload hx hb dX6_needed_59 (lv_at hl 0 rfl) ?_
          refine dk_jn (F0 m 72 ls [.int (if (v_waitMany x4.toNatClampNeg) ≤ 0 then 0 else ((v_waitMany x4.toNatClampNeg) + 2)), .int x3]) (fun K => ?_) ?_
          · refine lv_if_le (tgt := 71) hx hb dX6_needed_61 (by decide) (fun q1 => ?_) (fun q1 => ?_)
            · refine lv_iconst (v := 0) hx hb dX6_needed_71 (by decide) ?_
              have K := K
              rw [if_pos q1] at K
              exact K
            · refine lv_iload hx hb dX6_needed_64 (lv_at hl 0 rfl) ?_
              refine lv_iconst (v := 2) hx hb dX6_needed_66 (by decide) ?_
              refine lv_iadd hx hb dX6_needed_67 ?_
              refine lv_goto (tgt := 72) hx hb dX6_needed_68 (by decide) ?_
              have K := K
              rw [if_neg q1] at K
              exact K
          refine lv_isub hx hb dX6_needed_72 ?_
          refine lv_istore_n (lv' := [(3, .int (x3 - (if (v_waitMany x4.toNatClampNeg) ≤ 0 then 0 else ((v_waitMany x4.toNatClampNeg) + 2)))), (5, .int (v_waitMany x4.toNatClampNeg)), (0, .ref h0), (1, .int x1), (2, .int x2), (4, .int x4)]) hx hb dX6_needed_73 rfl hl (by decide) rfl (fun ls hl => ?_)
          refine lv_iinc (v := (x4 + 1)) (lv' := [(4, .int (x4 + 1)), (3, .int (x3 - (if (v_waitMany x4.toNatClampNeg) ≤ 0 then 0 else ((v_waitMany x4.toNatClampNeg) + 2)))), (5, .int (v_waitMany x4.toNatClampNeg)), (0, .ref h0), (1, .int x1), (2, .int x2)]) hx hb dX6_needed_74 hl (k := 5) rfl rfl (by decide) rfl (fun ls hl => ?_)
          refine lv_goto (tgt := 7) hx hb dX6_needed_77 (by decide) ?_
          exact ih x2 (x3 - (if (v_waitMany x4.toNatClampNeg) ≤ 0 then 0 else ((v_waitMany x4.toNatClampNeg) + 2))) (x4 + 1) h K ls (lv_sub hl [3, 4, 5, 1, 0] rfl)
        · replace h := dk_f q h
          refine lv_iload hx hb dX6_needed_43 (lv_at hl 0 rfl) ?_
          refine lv_iconst (v := 2) hx hb dX6_needed_45 (by decide) ?_
          refine lv_iadd hx hb dX6_needed_46 ?_
          refine lv_iload_n hx hb dX6_needed_47 rfl (lv_at hl 4 rfl) ?_
          refine lv_icmp_le (tgt := 58) hx hb dX6_needed_48 (by decide) (fun q => ?_) (fun q => ?_)
          · replace h := dk_t q h
            refine lv_iload_n hx hb dX6_needed_58 rfl (lv_at hl 4 rfl) ?_
            refine lv_iload hx hb dX6_needed_59 (lv_at hl 0 rfl) ?_
            refine dk_jn (F0 m 72 ls [.int (if (v_waitMany x4.toNatClampNeg) ≤ 0 then 0 else ((v_waitMany x4.toNatClampNeg) + 2)), .int x3]) (fun K => ?_) ?_
            · refine lv_if_le (tgt := 71) hx hb dX6_needed_61 (by decide) (fun q1 => ?_) (fun q1 => ?_)
              · refine lv_iconst (v := 0) hx hb dX6_needed_71 (by decide) ?_
                have K := K
                rw [if_pos q1] at K
                exact K
              · refine lv_iload hx hb dX6_needed_64 (lv_at hl 0 rfl) ?_
                refine lv_iconst (v := 2) hx hb dX6_needed_66 (by decide) ?_
                refine lv_iadd hx hb dX6_needed_67 ?_
                refine lv_goto (tgt := 72) hx hb dX6_needed_68 (by decide) ?_
                have K := K
                rw [if_neg q1] at K
                exact K
            refine lv_isub hx hb dX6_needed_72 ?_
            refine lv_istore_n (lv' := [(3, .int (x3 - (if (v_waitMany x4.toNatClampNeg) ≤ 0 then 0 else ((v_waitMany x4.toNatClampNeg) + 2)))), (5, .int (v_waitMany x4.toNatClampNeg)), (0, .ref h0), (1, .int x1), (2, .int x2), (4, .int x4)]) hx hb dX6_needed_73 rfl hl (by decide) rfl (fun ls hl => ?_)
            refine lv_iinc (v := (x4 + 1)) (lv' := [(4, .int (x4 + 1)), (3, .int (x3 - (if (v_waitMany x4.toNatClampNeg) ≤ 0 then 0 else ((v_waitMany x4.toNatClampNeg) + 2)))), (5, .int (v_waitMany x4.toNatClampNeg)), (0, .ref h0), (1, .int x1), (2, .int x2)]) hx hb dX6_needed_74 hl (k := 5) rfl rfl (by decide) rfl (fun ls hl => ?_)
            refine lv_goto (tgt := 7) hx hb dX6_needed_77 (by decide) ?_
            exact ih x2 (x3 - (if (v_waitMany x4.toNatClampNeg) ≤ 0 then 0 else ((v_waitMany x4.toNatClampNeg) + 2))) (x4 + 1) h K ls (lv_sub hl [3, 4, 5, 1, 0] rfl)
          · replace h := dk_f q h
            refine lv_iinc (v := (x2 + 1)) (lv' := [(2, .int (x2 + 1)), (5, .int (v_waitMany x4.toNatClampNeg)), (0, .ref h0), (1, .int x1), (3, .int x3), (4, .int x4)]) hx hb dX6_needed_51 hl (k := 3) rfl rfl (by decide) rfl (fun ls hl => ?_)
            refine lv_sipush (v := 502) hx hb dX6_needed_54 (by decide) ?_
            refine lv_istore_n (lv' := [(3, .int 502), (2, .int (x2 + 1)), (5, .int (v_waitMany x4.toNatClampNeg)), (0, .ref h0), (1, .int x1), (4, .int x4)]) hx hb dX6_needed_57 rfl hl (by decide) rfl (fun ls hl => ?_)
            refine lv_iload_n hx hb dX6_needed_58 rfl (lv_at hl 0 rfl) ?_
            refine lv_iload hx hb dX6_needed_59 (lv_at hl 2 rfl) ?_
            refine dk_jn (F0 m 72 ls [.int (if (v_waitMany x4.toNatClampNeg) ≤ 0 then 0 else ((v_waitMany x4.toNatClampNeg) + 2)), .int 502]) (fun K => ?_) ?_
            · refine lv_if_le (tgt := 71) hx hb dX6_needed_61 (by decide) (fun q1 => ?_) (fun q1 => ?_)
              · refine lv_iconst (v := 0) hx hb dX6_needed_71 (by decide) ?_
                have K := K
                rw [if_pos q1] at K
                exact K
              · refine lv_iload hx hb dX6_needed_64 (lv_at hl 2 rfl) ?_
                refine lv_iconst (v := 2) hx hb dX6_needed_66 (by decide) ?_
                refine lv_iadd hx hb dX6_needed_67 ?_
                refine lv_goto (tgt := 72) hx hb dX6_needed_68 (by decide) ?_
                have K := K
                rw [if_neg q1] at K
                exact K
            refine lv_isub hx hb dX6_needed_72 ?_
            refine lv_istore_n (lv' := [(3, .int (502 - (if (v_waitMany x4.toNatClampNeg) ≤ 0 then 0 else ((v_waitMany x4.toNatClampNeg) + 2)))), (2, .int (x2 + 1)), (5, .int (v_waitMany x4.toNatClampNeg)), (0, .ref h0), (1, .int x1), (4, .int x4)]) hx hb dX6_needed_73 rfl hl (by decide) rfl (fun ls hl => ?_)
            refine lv_iinc (v := (x4 + 1)) (lv' := [(4, .int (x4 + 1)), (3, .int (502 - (if (v_waitMany x4.toNatClampNeg) ≤ 0 then 0 else ((v_waitMany x4.toNatClampNeg) + 2)))), (2, .int (x2 + 1)), (5, .int (v_waitMany x4.toNatClampNeg)), (0, .ref h0), (1, .int x1)]) hx hb dX6_needed_74 hl (k := 5) rfl rfl (by decide) rfl (fun ls hl => ?_)
            refine lv_goto (tgt := 7) hx hb dX6_needed_77 (by decide) ?_
            exact ih (x2 + 1) (502 - (if (v_waitMany x4.toNatClampNeg) ≤ 0 then 0 else ((v_waitMany x4.toNatClampNeg) + 2))) (x4 + 1) h K ls (lv_sub hl [4, 5, 2, 1, 0] rfl)
set_option maxHeartbeats 4000000 in
set_option maxRecDepth 100000 in
theorem mX6_needed (l : Launch) (D : va_G) (k : Nat → ClassId) (h0 a_disk a_made a_sectorOf a_placeOf a_manyOf a_there a_waitKind a_waitMany a_waitBytes : Nat) (v_thrown : Int32) (v_sectors : Int32) (v_power : Int32) (v_used : Int32) (v_reserve : Int32) (v_cutWrites : Int32) (v_cutBytes : Int32) (v_rows : Int32) (v_waits : Int32) (v_stateNumber : Int32) (v_stateNow : Int64) (v_second : Int32) (v_repaired : Int32) (v_up : Int32) (v_sent : Int32) (v_disk : Nat → Int32) (v_made : Nat → Int32) (v_sectorOf : Nat → Int32) (v_placeOf : Nat → Int32) (v_manyOf : Nat → Int32) (v_there : Nat → Int32) (v_waitKind : Nat → Int32) (v_waitMany : Nat → Int32) (v_waitBytes : Nat → Int64) (p1 : Int32) (o : Int32) (h : fX6_needed v_waits v_waitMany p1 = some o) : Met l yX6_needed wsX6_needed { frames := 0, cells := 0, slots := 0, locals := 0 } (dk_Pr D k [.ref h0, .int p1] [(h0, .inr (6, [.int v_thrown, .int v_sectors, .int v_power, .ref a_disk, .ref a_made, .int v_used, .int v_reserve, .int v_cutWrites, .int v_cutBytes, .int v_rows, .ref a_sectorOf, .ref a_placeOf, .ref a_manyOf, .ref a_there, .int v_waits, .ref a_waitKind, .ref a_waitMany, .ref a_waitBytes, .int v_stateNumber, .long v_stateNow, .int v_second, .int v_repaired, .int v_up, .int v_sent])), (a_disk, .inl ((k 2), 32768, .inl v_disk)), (a_made, .inl ((k 2), 512, .inl v_made)), (a_sectorOf, .inl ((k 2), 5100, .inl v_sectorOf)), (a_placeOf, .inl ((k 2), 5100, .inl v_placeOf)), (a_manyOf, .inl ((k 2), 5100, .inl v_manyOf)), (a_there, .inl ((k 1), 5100, .inl v_there)), (a_waitKind, .inl ((k 2), 100, .inl v_waitKind)), (a_waitMany, .inl ((k 2), 100, .inl v_waitMany)), (a_waitBytes, .inl ((k 3), 100, .inr (.inl v_waitBytes)))]) (vp_Si (fun r => r = o)) 0 0 (fun _ => False) := by
  unfold fX6_needed at h
  refine dk_ofR (cc := cX6_needed) (maxL := 6) (ret := (some .int)) (lv := [(0, .ref h0), (1, .int p1)]) (by decide) rfl (Nat.le_of_ble_eq_true rfl) rfl ?_
  intro p e s m below meth c C hK hN hP ls hl
  obtain ⟨hx, hb, hr, hml, hown, hts, hlocks⟩ := id C
  refine lv_iconst (v := 0) hx hb dX6_needed_0 (by decide) ?_
  refine lv_istore_n (lv' := [(2, .int 0), (0, .ref h0), (1, .int p1)]) hx hb dX6_needed_1 rfl hl (by decide) rfl (fun ls hl => ?_)
  refine lv_iconst (v := 0) hx hb dX6_needed_2 (by decide) ?_
  refine lv_istore_n (lv' := [(3, .int 0), (2, .int 0), (0, .ref h0), (1, .int p1)]) hx hb dX6_needed_3 rfl hl (by decide) rfl (fun ls hl => ?_)
  refine lv_iconst (v := 0) hx hb dX6_needed_4 (by decide) ?_
  refine lv_istore (lv' := [(4, .int 0), (3, .int 0), (2, .int 0), (0, .ref h0), (1, .int p1)]) hx hb dX6_needed_5 hl (by decide) rfl (fun ls hl => ?_)
  replace h := dk_b h
  obtain ⟨o1, e1, h⟩ := h
  refine lX6_needed_7 C hK hN hP _ 0 0 0  e1 (fun ls hl => ?_) ls (lv_sub hl [3, 4, 2, 1, 0] rfl)
  have hl : lv_has ls 6 [(0, .ref h0), (1, .int p1), (2, .int o1.1), (3, .int o1.2.1), (4, .int o1.2.2)] := hl
  refine lv_iload_n hx hb dX6_needed_80 rfl (lv_at hl 2 rfl) ?_
  have h := dk_r h
  subst h
  exact dk_rri hx hb hr hlocks dX6_needed_81 rfl
