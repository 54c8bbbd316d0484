/-! ServiceDisk$Places.placeOf(I)I: ro, frames 0, locals 0 -/
def fX2_placeOf (v_size : Int32) (v_packed : Nat → Int32) (p1 : Int32) : Option (Int32) :=
  if p1 < 0 then
    some 0
  else
    if v_size ≤ p1 then
      some 0
    else
      if dk_in p1 5010 then
      some (v_packed p1.toNatClampNeg)
      else none
set_option maxHeartbeats 4000000 in
set_option maxRecDepth 100000 in
theorem mX2_placeOf (l : Launch) (D : va_G) (k : Nat → ClassId) (h0 a_packed : Nat) (v_size : Int32) (v_packed : Nat → Int32) (p1 : Int32) (o : Int32) (h : fX2_placeOf v_size v_packed p1 = some o) : Met l yX2_placeOf wsX2_placeOf { frames := 0, cells := 0, slots := 0, locals := 0 } (dk_Pr D k [.ref h0, .int p1] [(h0, .inr (2, [.ref a_packed, .int v_size])), (a_packed, .inl ((k 2), 5010, .inl v_packed))]) (vp_Si (fun r => r = o)) 0 0 (fun _ => False) := by
  unfold fX2_placeOf at h
  refine dk_ofR (cc := cX2_placeOf) (maxL := 2) (ret := (some .int)) (lv := [(0, .ref h0), (1, .int p1)]) (by decide) rfl (Nat.le_of_ble_eq_true rfl) rfl ?_
  intro p e s m below meth c C hK hN hP ls hl
  obtain ⟨hx, hb, hr, hml, hown, hts, hlocks⟩ := id C
  refine lv_iload_n hx hb dX2_placeOf_0 rfl (lv_at hl 1 rfl) ?_
  refine lv_if_lt (tgt := 21) hx hb dX2_placeOf_1 (by decide) (fun q => ?_) (fun q => ?_)
  · replace h := dk_t q h
    refine lv_iconst (v := 0) hx hb dX2_placeOf_21 (by decide) ?_
    have h := dk_r h
    subst h
    exact dk_rri hx hb hr hlocks dX2_placeOf_22 rfl
  · replace h := dk_f q h
    refine lv_iload_n hx hb dX2_placeOf_4 rfl (lv_at hl 1 rfl) ?_
    refine lv_aload_n hx hb dX2_placeOf_5 rfl (lv_at hl 0 rfl) ?_
    refine va_get (D := D) (ci := 2) (v := .int v_size) (C := "ServiceDisk$Places") (T := TX2) (N := 2) hx hb hts inX2 hown hK hP 0 rfl rfl 1 (by decide) (hts _ w_130) (fun _ h9 => h9) rfl dX2_placeOf_6 ?_
    refine lv_icmp_ge (tgt := 21) hx hb dX2_placeOf_9 (by decide) (fun q => ?_) (fun q => ?_)
    · replace h := dk_t q h
      refine lv_iconst (v := 0) hx hb dX2_placeOf_21 (by decide) ?_
      have h := dk_r h
      subst h
      exact dk_rri hx hb hr hlocks dX2_placeOf_22 rfl
    · replace h := dk_f q h
      refine lv_aload_n hx hb dX2_placeOf_12 rfl (lv_at hl 0 rfl) ?_
      refine va_get (D := D) (ci := 2) (v := .ref a_packed) (C := "ServiceDisk$Places") (T := TX2) (N := 2) hx hb hts inX2 hown hK hP 0 rfl rfl 0 (by decide) (hts _ w_129) (fun _ h9 => h9) rfl dX2_placeOf_13 ?_
      refine lv_iload_n hx hb dX2_placeOf_16 rfl (lv_at hl 1 rfl) ?_
      obtain ⟨q, h⟩ := dk_g h
      refine va_iald hx hb hK hP 1 2 rfl rfl q dX2_placeOf_17 ?_
      refine lv_goto (tgt := 22) hx hb dX2_placeOf_18 (by decide) ?_
      have h := dk_r h
      subst h
      exact dk_rri hx hb hr hlocks dX2_placeOf_22 rfl
/-! ServiceDisk$Places.sectorOf(I)I: ro, frames 1, locals 21 -/
def fX2_sectorOf (v_size : Int32) (v_packed : Nat → Int32) (p1 : Int32) : Option (Int32) :=
  (fX2_placeOf v_size v_packed p1).bind fun o1 =>
  some (dk_iushr o1 13)
set_option maxHeartbeats 4000000 in
set_option maxRecDepth 100000 in
theorem mX2_sectorOf (l : Launch) (D : va_G) (k : Nat → ClassId) (h0 a_packed : Nat) (v_size : Int32) (v_packed : Nat → Int32) (p1 : Int32) (o : Int32) (h : fX2_sectorOf v_size v_packed p1 = some o) : Met l yX2_sectorOf wsX2_sectorOf { frames := 1, cells := 0, slots := 0, locals := 21 } (dk_Pr D k [.ref h0, .int p1] [(h0, .inr (2, [.ref a_packed, .int v_size])), (a_packed, .inl ((k 2), 5010, .inl v_packed))]) (vp_Si (fun r => r = o)) 0 0 (fun _ => False) := by
  unfold fX2_sectorOf at h
  refine dk_ofR (cc := cX2_sectorOf) (maxL := 2) (ret := (some .int)) (lv := [(0, .ref h0), (1, .int p1)]) (by decide) rfl (Nat.le_of_ble_eq_true rfl) rfl ?_
  intro p e s m below meth c C hK hN hP ls hl
  obtain ⟨hx, hb, hr, hml, hown, hts, hlocks⟩ := id C
  refine lv_aload_n hx hb dX2_sectorOf_0 rfl (lv_at hl 0 rfl) ?_
  refine lv_iload_n hx hb dX2_sectorOf_1 rfl (lv_at hl 1 rfl) ?_
  replace h := dk_b h
  obtain ⟨o1, e1, h⟩ := h
  refine dk_cri (va_runV (As := [.int p1]) (rest := []) ⟨hx, hb, hml, hown, hts⟩ (mX2_placeOf l D k h0 a_packed v_size v_packed p1 o1 e1) (cwV 1 hts (dk_gV w_618 w_620 w_17 w_44 w_621) rfl rfl rfl (by decide +kernel) ⟨Nat.le_of_ble_eq_true rfl, Nat.le_of_ble_eq_true rfl⟩) (dk_pvr hK hN hP [0, 1] rfl rfl rfl) rfl rfl hl.1 rfl (lv_room (Nat.le_of_ble_eq_true rfl)) dX2_sectorOf_2 ⟨Nat.le_of_ble_eq_true rfl, Nat.le_of_ble_eq_true rfl⟩) ?_
  refine lv_bipush (v := 13) hx hb dX2_sectorOf_5 (by decide) ?_
  refine lv_iushr (v := (dk_iushr o1 13)) hx hb dX2_sectorOf_7 rfl ?_
  have h := dk_r h
  subst h
  exact dk_rri hx hb hr hlocks dX2_sectorOf_8 rfl
/-! ServiceDisk$Places.startOf(I)I: ro, frames 1, locals 21 -/
def fX2_startOf (v_size : Int32) (v_packed : Nat → Int32) (p1 : Int32) : Option (Int32) :=
  (fX2_placeOf v_size v_packed p1).bind fun o1 =>
  some ((dk_iushr o1 4) &&& 511)
set_option maxHeartbeats 4000000 in
set_option maxRecDepth 100000 in
theorem mX2_startOf (l : Launch) (D : va_G) (k : Nat → ClassId) (h0 a_packed : Nat) (v_size : Int32) (v_packed : Nat → Int32) (p1 : Int32) (o : Int32) (h : fX2_startOf v_size v_packed p1 = some o) : Met l yX2_startOf wsX2_startOf { frames := 1, cells := 0, slots := 0, locals := 21 } (dk_Pr D k [.ref h0, .int p1] [(h0, .inr (2, [.ref a_packed, .int v_size])), (a_packed, .inl ((k 2), 5010, .inl v_packed))]) (vp_Si (fun r => r = o)) 0 0 (fun _ => False) := by
  unfold fX2_startOf at h
  refine dk_ofR (cc := cX2_startOf) (maxL := 2) (ret := (some .int)) (lv := [(0, .ref h0), (1, .int p1)]) (by decide) rfl (Nat.le_of_ble_eq_true rfl) rfl ?_
  intro p e s m below meth c C hK hN hP ls hl
  obtain ⟨hx, hb, hr, hml, hown, hts, hlocks⟩ := id C
  refine lv_aload_n hx hb dX2_startOf_0 rfl (lv_at hl 0 rfl) ?_
  refine lv_iload_n hx hb dX2_startOf_1 rfl (lv_at hl 1 rfl) ?_
  replace h := dk_b h
  obtain ⟨o1, e1, h⟩ := h
  refine dk_cri (va_runV (As := [.int p1]) (rest := []) ⟨hx, hb, hml, hown, hts⟩ (mX2_placeOf l D k h0 a_packed v_size v_packed p1 o1 e1) (cwV 1 hts (dk_gV w_618 w_620 w_17 w_44 w_621) rfl rfl rfl (by decide +kernel) ⟨Nat.le_of_ble_eq_true rfl, Nat.le_of_ble_eq_true rfl⟩) (dk_pvr hK hN hP [0, 1] rfl rfl rfl) rfl rfl hl.1 rfl (lv_room (Nat.le_of_ble_eq_true rfl)) dX2_startOf_2 ⟨Nat.le_of_ble_eq_true rfl, Nat.le_of_ble_eq_true rfl⟩) ?_
  refine lv_iconst (v := 4) hx hb dX2_startOf_5 (by decide) ?_
  refine lv_iushr (v := (dk_iushr o1 4)) hx hb dX2_startOf_6 rfl ?_
  refine lv_sipush (v := 511) hx hb dX2_startOf_7 (by decide) ?_
  refine lv_iand hx hb dX2_startOf_10 ?_
  have h := dk_r h
  subst h
  exact dk_rri hx hb hr hlocks dX2_startOf_11 rfl
/-! ServiceDisk$Places.lengthOf(I)I: ro, frames 1, locals 21 -/
def fX2_lengthOf (v_size : Int32) (v_packed : Nat → Int32) (p1 : Int32) : Option (Int32) :=
  (fX2_placeOf v_size v_packed p1).bind fun o1 =>
  some (o1 &&& 15)
set_option maxHeartbeats 4000000 in
set_option maxRecDepth 100000 in
theorem mX2_lengthOf (l : Launch) (D : va_G) (k : Nat → ClassId) (h0 a_packed : Nat) (v_size : Int32) (v_packed : Nat → Int32) (p1 : Int32) (o : Int32) (h : fX2_lengthOf v_size v_packed p1 = some o) : Met l yX2_lengthOf wsX2_lengthOf { frames := 1, cells := 0, slots := 0, locals := 21 } (dk_Pr D k [.ref h0, .int p1] [(h0, .inr (2, [.ref a_packed, .int v_size])), (a_packed, .inl ((k 2), 5010, .inl v_packed))]) (vp_Si (fun r => r = o)) 0 0 (fun _ => False) := by
  unfold fX2_lengthOf at h
  refine dk_ofR (cc := cX2_lengthOf) (maxL := 2) (ret := (some .int)) (lv := [(0, .ref h0), (1, .int p1)]) (by decide) rfl (Nat.le_of_ble_eq_true rfl) rfl ?_
  intro p e s m below meth c C hK hN hP ls hl
  obtain ⟨hx, hb, hr, hml, hown, hts, hlocks⟩ := id C
  refine lv_aload_n hx hb dX2_lengthOf_0 rfl (lv_at hl 0 rfl) ?_
  refine lv_iload_n hx hb dX2_lengthOf_1 rfl (lv_at hl 1 rfl) ?_
  replace h := dk_b h
  obtain ⟨o1, e1, h⟩ := h
  refine dk_cri (va_runV (As := [.int p1]) (rest := []) ⟨hx, hb, hml, hown, hts⟩ (mX2_placeOf l D k h0 a_packed v_size v_packed p1 o1 e1) (cwV 1 hts (dk_gV w_618 w_620 w_17 w_44 w_621) rfl rfl rfl (by decide +kernel) ⟨Nat.le_of_ble_eq_true rfl, Nat.le_of_ble_eq_true rfl⟩) (dk_pvr hK hN hP [0, 1] rfl rfl rfl) rfl rfl hl.1 rfl (lv_room (Nat.le_of_ble_eq_true rfl)) dX2_lengthOf_2 ⟨Nat.le_of_ble_eq_true rfl, Nat.le_of_ble_eq_true rfl⟩) ?_
  refine lv_bipush (v := 15) hx hb dX2_lengthOf_5 (by decide) ?_
  refine lv_iand hx hb dX2_lengthOf_7 ?_
  have h := dk_r h
  subst h
  exact dk_rri hx hb hr hlocks dX2_lengthOf_8 rfl
/-! ServiceDisk$Places.clear()V: rw, frames 0, locals 0 -/
def fX2_clear  : Option (Int32) :=
  some 0
set_option maxHeartbeats 4000000 in
set_option maxRecDepth 100000 in
theorem mX2_clear (l : Launch) (D : va_G) (k : Nat → ClassId) (h0 a_packed : Nat) (sz : Nat) (v_size : Int32) (v_packed : Nat → Int32) (o : Int32) (h : fX2_clear  = some o) : Met l yX2_clear wsX2_clear { frames := 0, cells := 0, slots := 0, locals := 0 } (dk_Pw D k [.ref h0] [(h0, .inr (2, [.ref a_packed, .int v_size])), (a_packed, .inl ((k 2), 5010, .inl v_packed))] sz) (dk_Qv D [(h0, .inr (2, [.ref a_packed, .int o])), (a_packed, .inl ((k 2), 5010, .inl v_packed))] (va_A [(h0, .inr (2, [.ref a_packed, .int v_size])), (a_packed, .inl ((k 2), 5010, .inl v_packed))] sz)) 0 0 (va_A [(h0, .inr (2, [.ref a_packed, .int v_size])), (a_packed, .inl ((k 2), 5010, .inl v_packed))] sz) := by
  unfold fX2_clear at h
  refine dk_ofW (Qc := fun A => dk_Qv D [(h0, .inr (2, [.ref a_packed, .int o])), (a_packed, .inl ((k 2), 5010, .inl v_packed))] A) (cc := cX2_clear) (maxL := 1) (ret := none) (lv := [(0, .ref h0)]) (by decide) rfl (Nat.le_of_ble_eq_true rfl) rfl ?_
  intro p e s m below meth c C hK hN hP A hA hD hS ls hl
  obtain ⟨hx, hb, hr, hml, hown, hts, hlocks⟩ := id C
  refine lv_aload_n hx hb dX2_clear_0 rfl (lv_at hl 0 rfl) ?_
  refine lv_iconst (v := 0) hx hb dX2_clear_1 (by decide) ?_
  refine va_put (D := D) (ci := 2) (v := .int 0) (ty := .int) (C := "ServiceDisk$Places") (T := TX2) (N := 2) hx hb hts inX2 tyX2 tyX2_ok nmX2 hown hK hP hD hS 0 rfl rfl 1 (by decide) (hts _ w_130) (fun _ h9 => h9) rfl (by decide +kernel) rfl rfl (Nat.le_of_ble_eq_true rfl) dX2_clear_2 (fun H locs hP hD hS => ?_)
  have hP : va_P D vwCl [(h0, .inr (2, [.ref a_packed, .int 0])), (a_packed, .inl ((k 2), 5010, .inl v_packed))] H := hP
  have hD : va_D A [(h0, .inr (2, [.ref a_packed, .int 0])), (a_packed, .inl ((k 2), 5010, .inl v_packed))] := hD
  have h := dk_r h
  subst h
  exact dk_rwv hx hb hr hlocks (hP.sub [0, 1] rfl) (hD.sub [0, 1] (by decide) rfl) hS dX2_clear_5
/-! ServiceDisk$Places.size()I: ro, frames 0, locals 0 -/
def fX2_size (v_size : Int32) : Option (Int32) :=
  some v_size
set_option maxHeartbeats 4000000 in
set_option maxRecDepth 100000 in
theorem mX2_size (l : Launch) (D : va_G) (k : Nat → ClassId) (h0 a_packed : Nat) (v_size : Int32) (v_packed : Nat → Int32) (o : Int32) (h : fX2_size v_size = some o) : Met l yX2_size wsX2_size { frames := 0, cells := 0, slots := 0, locals := 0 } (dk_Pr D k [.ref h0] [(h0, .inr (2, [.ref a_packed, .int v_size])), (a_packed, .inl ((k 2), 5010, .inl v_packed))]) (vp_Si (fun r => r = o)) 0 0 (fun _ => False) := by
  unfold fX2_size at h
  refine dk_ofR (cc := cX2_size) (maxL := 1) (ret := (some .int)) (lv := [(0, .ref h0)]) (by decide) rfl (Nat.le_of_ble_eq_true rfl) rfl ?_
  intro p e s m below meth c C hK hN hP ls hl
  obtain ⟨hx, hb, hr, hml, hown, hts, hlocks⟩ := id C
  refine lv_aload_n hx hb dX2_size_0 rfl (lv_at hl 0 rfl) ?_
  refine va_get (D := D) (ci := 2) (v := .int v_size) (C := "ServiceDisk$Places") (T := TX2) (N := 2) hx hb hts inX2 hown hK hP 0 rfl rfl 1 (by decide) (hts _ w_130) (fun _ h9 => h9) rfl dX2_size_1 ?_
  have h := dk_r h
  subst h
  exact dk_rri hx hb hr hlocks dX2_size_4 rfl
/-! ServiceDisk$Places.add(III)V: rw, frames 0, locals 0 -/
def fX2_add (v_size : Int32) (v_packed : Nat → Int32) (p1 : Int32) (p2 : Int32) (p3 : Int32) : Option (Int32 × (Nat → Int32)) :=
  if (5010 : Int32) ≤ v_size then
    some (v_size, v_packed)
  else
    if dk_in v_size 5010 then
    some ((v_size + 1), (upd v_packed v_size.toNatClampNeg ((((p1 <<< (9 &&& 31)) ||| p2) <<< (4 &&& 31)) ||| p3)))
    else none
set_option maxHeartbeats 4000000 in
set_option maxRecDepth 100000 in
theorem mX2_add (l : Launch) (D : va_G) (k : Nat → ClassId) (h0 a_packed : Nat) (sz : Nat) (v_size : Int32) (v_packed : Nat → Int32) (p1 : Int32) (p2 : Int32) (p3 : Int32) (o : Int32 × (Nat → Int32)) (h : fX2_add v_size v_packed p1 p2 p3 = some o) : Met l yX2_add wsX2_add { frames := 0, cells := 0, slots := 0, locals := 0 } (dk_Pw D k [.ref h0, .int p1, .int p2, .int p3] [(h0, .inr (2, [.ref a_packed, .int v_size])), (a_packed, .inl ((k 2), 5010, .inl v_packed))] sz) (dk_Qv D [(h0, .inr (2, [.ref a_packed, .int o.1])), (a_packed, .inl ((k 2), 5010, .inl o.2))] (va_A [(h0, .inr (2, [.ref a_packed, .int v_size])), (a_packed, .inl ((k 2), 5010, .inl v_packed))] sz)) 0 0 (va_A [(h0, .inr (2, [.ref a_packed, .int v_size])), (a_packed, .inl ((k 2), 5010, .inl v_packed))] sz) := by
  unfold fX2_add at h
  refine dk_ofW (Qc := fun A => dk_Qv D [(h0, .inr (2, [.ref a_packed, .int o.1])), (a_packed, .inl ((k 2), 5010, .inl o.2))] A) (cc := cX2_add) (maxL := 4) (ret := none) (lv := [(0, .ref h0), (1, .int p1), (2, .int p2), (3, .int p3)]) (by decide) rfl (Nat.le_of_ble_eq_true rfl) rfl ?_
  intro p e s m below meth c C hK hN hP A hA hD hS ls hl
  obtain ⟨hx, hb, hr, hml, hown, hts, hlocks⟩ := id C
  refine lv_aload_n hx hb dX2_add_0 rfl (lv_at hl 0 rfl) ?_
  refine va_get (D := D) (ci := 2) (v := .int v_size) (C := "ServiceDisk$Places") (T := TX2) (N := 2) hx hb hts inX2 hown hK hP 0 rfl rfl 1 (by decide) (hts _ w_130) (fun _ h9 => h9) rfl dX2_add_1 ?_
  refine lv_sipush (v := 5010) hx hb dX2_add_4 (by decide) ?_
  refine lv_icmp_ge (tgt := 39) hx hb dX2_add_7 (by decide) (fun q => ?_) (fun q => ?_)
  · replace h := dk_t q h
    have h := dk_r h
    subst h
    exact dk_rwv hx hb hr hlocks (hP.sub [0, 1] rfl) (hD.sub [0, 1] (by decide) rfl) hS dX2_add_39
  · replace h := dk_f q h
    refine lv_aload_n hx hb dX2_add_10 rfl (lv_at hl 0 rfl) ?_
    refine va_get (D := D) (ci := 2) (v := .ref a_packed) (C := "ServiceDisk$Places") (T := TX2) (N := 2) hx hb hts inX2 hown hK hP 0 rfl rfl 0 (by decide) (hts _ w_129) (fun _ h9 => h9) rfl dX2_add_11 ?_
    refine lv_aload_n hx hb dX2_add_14 rfl (lv_at hl 0 rfl) ?_
    refine va_get (D := D) (ci := 2) (v := .int v_size) (C := "ServiceDisk$Places") (T := TX2) (N := 2) hx hb hts inX2 hown hK hP 0 rfl rfl 1 (by decide) (hts _ w_130) (fun _ h9 => h9) rfl dX2_add_15 ?_
    refine lv_iload_n hx hb dX2_add_18 rfl (lv_at hl 1 rfl) ?_
    refine lv_bipush (v := 9) hx hb dX2_add_19 (by decide) ?_
    refine lv_ishl hx hb dX2_add_21 ?_
    refine lv_iload_n hx hb dX2_add_22 rfl (lv_at hl 2 rfl) ?_
    refine lv_ior hx hb dX2_add_23 ?_
    refine lv_iconst (v := 4) hx hb dX2_add_24 (by decide) ?_
    refine lv_ishl hx hb dX2_add_25 ?_
    refine lv_iload_n hx hb dX2_add_26 rfl (lv_at hl 3 rfl) ?_
    refine lv_ior hx hb dX2_add_27 ?_
    obtain ⟨q, h⟩ := dk_g h
    refine va_iast hx hb hK hP hD hS 1 2 rfl rfl q dX2_add_28 (fun H locs hP hD hS => ?_)
    have hP : va_P D vwCl [(h0, .inr (2, [.ref a_packed, .int v_size])), (a_packed, .inl ((k 2), 5010, .inl (upd v_packed v_size.toNatClampNeg ((((p1 <<< (9 &&& 31)) ||| p2) <<< (4 &&& 31)) ||| p3))))] H := hP
    have hD : va_D A [(h0, .inr (2, [.ref a_packed, .int v_size])), (a_packed, .inl ((k 2), 5010, .inl (upd v_packed v_size.toNatClampNeg ((((p1 <<< (9 &&& 31)) ||| p2) <<< (4 &&& 31)) ||| p3))))] := hD
    refine lv_aload_n hx hb dX2_add_29 rfl (lv_at hl 0 rfl) ?_
    refine lv_dup hx hb dX2_add_30 rfl ?_
    refine va_get (D := D) (ci := 2) (v := .int v_size) (C := "ServiceDisk$Places") (T := TX2) (N := 2) hx hb hts inX2 hown hK hP 0 rfl rfl 1 (by decide) (hts _ w_130) (fun _ h9 => h9) rfl dX2_add_31 ?_
    refine lv_iconst (v := 1) hx hb dX2_add_34 (by decide) ?_
    refine lv_iadd hx hb dX2_add_35 ?_
    refine va_put (D := D) (ci := 2) (v := .int (v_size + 1)) (ty := .int) (C := "ServiceDisk$Places") (T := TX2) (N := 2) hx hb hts inX2 tyX2 tyX2_ok nmX2 hown hK hP hD hS 0 rfl rfl 1 (by decide) (hts _ w_130) (fun _ h9 => h9) rfl (by decide +kernel) rfl rfl (Nat.le_of_ble_eq_true rfl) dX2_add_36 (fun H locs hP hD hS => ?_)
    have hP : va_P D vwCl [(h0, .inr (2, [.ref a_packed, .int (v_size + 1)])), (a_packed, .inl ((k 2), 5010, .inl (upd v_packed v_size.toNatClampNeg ((((p1 <<< (9 &&& 31)) ||| p2) <<< (4 &&& 31)) ||| p3))))] H := hP
    have hD : va_D A [(h0, .inr (2, [.ref a_packed, .int (v_size + 1)])), (a_packed, .inl ((k 2), 5010, .inl (upd v_packed v_size.toNatClampNeg ((((p1 <<< (9 &&& 31)) ||| p2) <<< (4 &&& 31)) ||| p3))))] := hD
    have h := dk_r h
    subst h
    exact dk_rwv hx hb hr hlocks (hP.sub [0, 1] rfl) (hD.sub [0, 1] (by decide) rfl) hS dX2_add_39
/-! ServiceDisk$SecondRoom.clear()V: rw, frames 0, locals 0 -/
def fX3_clear  : Option (Int32 × Int32 × Int32) :=
  some (0, 0, 1)
set_option maxHeartbeats 4000000 in
set_option maxRecDepth 100000 in
theorem mX3_clear (l : Launch) (D : va_G) (k : Nat → ClassId) (h0 a_there : Nat) (sz : Nat) (v_sent : Int32) (v_present : Int32) (v_lineUp : Int32) (v_there : Nat → Int32) (o : Int32 × Int32 × Int32) (h : fX3_clear  = some o) : Met l yX3_clear wsX3_clear { frames := 0, cells := 0, slots := 0, locals := 0 } (dk_Pw D k [.ref h0] [(h0, .inr (3, [.ref a_there, .int v_sent, .int v_present, .int v_lineUp])), (a_there, .inl ((k 1), 5010, .inl v_there))] sz) (dk_Qv D [(h0, .inr (3, [.ref a_there, .int o.1, .int o.2.1, .int o.2.2])), (a_there, .inl ((k 1), 5010, .inl v_there))] (va_A [(h0, .inr (3, [.ref a_there, .int v_sent, .int v_present, .int v_lineUp])), (a_there, .inl ((k 1), 5010, .inl v_there))] sz)) 0 0 (va_A [(h0, .inr (3, [.ref a_there, .int v_sent, .int v_present, .int v_lineUp])), (a_there, .inl ((k 1), 5010, .inl v_there))] sz) := by
  unfold fX3_clear at h
  refine dk_ofW (Qc := fun A => dk_Qv D [(h0, .inr (3, [.ref a_there, .int o.1, .int o.2.1, .int o.2.2])), (a_there, .inl ((k 1), 5010, .inl v_there))] A) (cc := cX3_clear) (maxL := 1) (ret := none) (lv := [(0, .ref h0)]) (by decide) rfl (Nat.le_of_ble_eq_true rfl) rfl ?_
  intro p e s m below meth c C hK hN hP A hA hD hS ls hl
  obtain ⟨hx, hb, hr, hml, hown, hts, hlocks⟩ := id C
  refine lv_aload_n hx hb dX3_clear_0 rfl (lv_at hl 0 rfl) ?_
  refine lv_iconst (v := 0) hx hb dX3_clear_1 (by decide) ?_
  refine va_put (D := D) (ci := 3) (v := .int 0) (ty := .int) (C := "ServiceDisk$SecondRoom") (T := TX3) (N := 4) hx hb hts inX3 tyX3 tyX3_ok nmX3 hown hK hP hD hS 0 rfl rfl 1 (by decide) (hts _ w_143) (fun _ h9 => h9) rfl (by decide +kernel) rfl rfl (Nat.le_of_ble_eq_true rfl) dX3_clear_2 (fun H locs hP hD hS => ?_)
  have hP : va_P D vwCl [(h0, .inr (3, [.ref a_there, .int 0, .int v_present, .int v_lineUp])), (a_there, .inl ((k 1), 5010, .inl v_there))] H := hP
  have hD : va_D A [(h0, .inr (3, [.ref a_there, .int 0, .int v_present, .int v_lineUp])), (a_there, .inl ((k 1), 5010, .inl v_there))] := hD
  refine lv_aload_n hx hb dX3_clear_5 rfl (lv_at hl 0 rfl) ?_
  refine lv_iconst (v := 0) hx hb dX3_clear_6 (by decide) ?_
  refine va_put (D := D) (ci := 3) (v := .int 0) (ty := .int) (C := "ServiceDisk$SecondRoom") (T := TX3) (N := 4) hx hb hts inX3 tyX3 tyX3_ok nmX3 hown hK hP hD hS 0 rfl rfl 2 (by decide) (hts _ w_144) (fun _ h9 => h9) rfl (by decide +kernel) rfl rfl (Nat.le_of_ble_eq_true rfl) dX3_clear_7 (fun H locs hP hD hS => ?_)
  have hP : va_P D vwCl [(h0, .inr (3, [.ref a_there, .int 0, .int 0, .int v_lineUp])), (a_there, .inl ((k 1), 5010, .inl v_there))] H := hP
  have hD : va_D A [(h0, .inr (3, [.ref a_there, .int 0, .int 0, .int v_lineUp])), (a_there, .inl ((k 1), 5010, .inl v_there))] := hD
  refine lv_aload_n hx hb dX3_clear_10 rfl (lv_at hl 0 rfl) ?_
  refine lv_iconst (v := 1) hx hb dX3_clear_11 (by decide) ?_
  refine va_put (D := D) (ci := 3) (v := .int 1) (ty := .boolean) (C := "ServiceDisk$SecondRoom") (T := TX3) (N := 4) hx hb hts inX3 tyX3 tyX3_ok nmX3 hown hK hP hD hS 0 rfl rfl 3 (by decide) (hts _ w_145) (fun _ h9 => h9) rfl (by decide +kernel) rfl rfl (Nat.le_of_ble_eq_true rfl) dX3_clear_12 (fun H locs hP hD hS => ?_)
  have hP : va_P D vwCl [(h0, .inr (3, [.ref a_there, .int 0, .int 0, .int 1])), (a_there, .inl ((k 1), 5010, .inl v_there))] H := hP
  have hD : va_D A [(h0, .inr (3, [.ref a_there, .int 0, .int 0, .int 1])), (a_there, .inl ((k 1), 5010, .inl v_there))] := hD
  have h := dk_r h
  subst h
  exact dk_rwv hx hb hr hlocks (hP.sub [0, 1] rfl) (hD.sub [0, 1] (by decide) rfl) hS dX3_clear_15
/-! ServiceDisk$SecondRoom.isLineUp()Z: ro, frames 0, locals 0 -/
def fX3_isLineUp (v_lineUp : Int32) : Option (Int32) :=
  if dk_01 v_lineUp then some v_lineUp else none
set_option maxHeartbeats 4000000 in
set_option maxRecDepth 100000 in
theorem mX3_isLineUp (l : Launch) (D : va_G) (k : Nat → ClassId) (h0 a_there : Nat) (v_sent : Int32) (v_present : Int32) (v_lineUp : Int32) (v_there : Nat → Int32) (o : Int32) (h : fX3_isLineUp v_lineUp = some o) : Met l yX3_isLineUp wsX3_isLineUp { frames := 0, cells := 0, slots := 0, locals := 0 } (dk_Pr D k [.ref h0] [(h0, .inr (3, [.ref a_there, .int v_sent, .int v_present, .int v_lineUp])), (a_there, .inl ((k 1), 5010, .inl v_there))]) (vp_Si (fun r => r = o)) 0 0 (fun _ => False) := by
  unfold fX3_isLineUp at h
  refine dk_ofR (cc := cX3_isLineUp) (maxL := 1) (ret := (some .boolean)) (lv := [(0, .ref h0)]) (by decide) rfl (Nat.le_of_ble_eq_true rfl) rfl ?_
  intro p e s m below meth c C hK hN hP ls hl
  obtain ⟨hx, hb, hr, hml, hown, hts, hlocks⟩ := id C
  refine lv_aload_n hx hb dX3_isLineUp_0 rfl (lv_at hl 0 rfl) ?_
  refine va_get (D := D) (ci := 3) (v := .int v_lineUp) (C := "ServiceDisk$SecondRoom") (T := TX3) (N := 4) hx hb hts inX3 hown hK hP 0 rfl rfl 3 (by decide) (hts _ w_145) (fun _ h9 => h9) rfl dX3_isLineUp_1 ?_
  obtain ⟨q, h⟩ := dk_g h
  have h := dk_r h
  subst h
  exact dk_rrz hx hb hr q hlocks dX3_isLineUp_4 rfl
/-! ServiceDisk$SecondRoom.setLine(Z)V: rw, frames 0, locals 0 -/
def fX3_setLine (p1 : Int32) : Option (Int32) :=
  if dk_01 p1 then some p1 else none
set_option maxHeartbeats 4000000 in
set_option maxRecDepth 100000 in
theorem mX3_setLine (l : Launch) (D : va_G) (k : Nat → ClassId) (h0 a_there : Nat) (sz : Nat) (v_sent : Int32) (v_present : Int32) (v_lineUp : Int32) (v_there : Nat → Int32) (p1 : Int32) (o : Int32) (h : fX3_setLine p1 = some o) : Met l yX3_setLine wsX3_setLine { frames := 0, cells := 0, slots := 0, locals := 0 } (dk_Pw D k [.ref h0, .int p1] [(h0, .inr (3, [.ref a_there, .int v_sent, .int v_present, .int v_lineUp])), (a_there, .inl ((k 1), 5010, .inl v_there))] sz) (dk_Qv D [(h0, .inr (3, [.ref a_there, .int v_sent, .int v_present, .int o])), (a_there, .inl ((k 1), 5010, .inl v_there))] (va_A [(h0, .inr (3, [.ref a_there, .int v_sent, .int v_present, .int v_lineUp])), (a_there, .inl ((k 1), 5010, .inl v_there))] sz)) 0 0 (va_A [(h0, .inr (3, [.ref a_there, .int v_sent, .int v_present, .int v_lineUp])), (a_there, .inl ((k 1), 5010, .inl v_there))] sz) := by
  unfold fX3_setLine at h
  refine dk_ofW (Qc := fun A => dk_Qv D [(h0, .inr (3, [.ref a_there, .int v_sent, .int v_present, .int o])), (a_there, .inl ((k 1), 5010, .inl v_there))] A) (cc := cX3_setLine) (maxL := 2) (ret := none) (lv := [(0, .ref h0), (1, .int p1)]) (by decide) rfl (Nat.le_of_ble_eq_true rfl) rfl ?_
  intro p e s m below meth c C hK hN hP A hA hD hS ls hl
  obtain ⟨hx, hb, hr, hml, hown, hts, hlocks⟩ := id C
  refine lv_aload_n hx hb dX3_setLine_0 rfl (lv_at hl 0 rfl) ?_
  refine lv_iload_n hx hb dX3_setLine_1 rfl (lv_at hl 1 rfl) ?_
  obtain ⟨q, h⟩ := dk_g h
  refine va_put (D := D) (ci := 3) (v := .int p1) (ty := .boolean) (C := "ServiceDisk$SecondRoom") (T := TX3) (N := 4) hx hb hts inX3 tyX3 tyX3_ok nmX3 hown hK hP hD hS 0 rfl rfl 3 (by decide) (hts _ w_145) (fun _ h9 => h9) rfl (by decide +kernel) (dk_nz q) (dk_fz q) (Nat.le_of_ble_eq_true rfl) dX3_setLine_2 (fun H locs hP hD hS => ?_)
  have hP : va_P D vwCl [(h0, .inr (3, [.ref a_there, .int v_sent, .int v_present, .int p1])), (a_there, .inl ((k 1), 5010, .inl v_there))] H := hP
  have hD : va_D A [(h0, .inr (3, [.ref a_there, .int v_sent, .int v_present, .int p1])), (a_there, .inl ((k 1), 5010, .inl v_there))] := hD
  have h := dk_r h
  subst h
  exact dk_rwv hx hb hr hlocks (hP.sub [0, 1] rfl) (hD.sub [0, 1] (by decide) rfl) hS dX3_setLine_5
/-! ServiceDisk$SecondRoom.present()I: ro, frames 0, locals 0 -/
def fX3_present (v_present : Int32) : Option (Int32) :=
  some v_present
set_option maxHeartbeats 4000000 in
set_option maxRecDepth 100000 in
theorem mX3_present (l : Launch) (D : va_G) (k : Nat → ClassId) (h0 a_there : Nat) (v_sent : Int32) (v_present : Int32) (v_lineUp : Int32) (v_there : Nat → Int32) (o : Int32) (h : fX3_present v_present = some o) : Met l yX3_present wsX3_present { frames := 0, cells := 0, slots := 0, locals := 0 } (dk_Pr D k [.ref h0] [(h0, .inr (3, [.ref a_there, .int v_sent, .int v_present, .int v_lineUp])), (a_there, .inl ((k 1), 5010, .inl v_there))]) (vp_Si (fun r => r = o)) 0 0 (fun _ => False) := by
  unfold fX3_present at h
  refine dk_ofR (cc := cX3_present) (maxL := 1) (ret := (some .int)) (lv := [(0, .ref h0)]) (by decide) rfl (Nat.le_of_ble_eq_true rfl) rfl ?_
  intro p e s m below meth c C hK hN hP ls hl
  obtain ⟨hx, hb, hr, hml, hown, hts, hlocks⟩ := id C
  refine lv_aload_n hx hb dX3_present_0 rfl (lv_at hl 0 rfl) ?_
  refine va_get (D := D) (ci := 3) (v := .int v_present) (C := "ServiceDisk$SecondRoom") (T := TX3) (N := 4) hx hb hts inX3 hown hK hP 0 rfl rfl 2 (by decide) (hts _ w_144) (fun _ h9 => h9) rfl dX3_present_1 ?_
  have h := dk_r h
  subst h
  exact dk_rri hx hb hr hlocks dX3_present_4 rfl
/-! ServiceDisk$SecondRoom.sent()I: ro, frames 0, locals 0 -/
def fX3_sent (v_sent : Int32) : Option (Int32) :=
  some v_sent
set_option maxHeartbeats 4000000 in
set_option maxRecDepth 100000 in
theorem mX3_sent (l : Launch) (D : va_G) (k : Nat → ClassId) (h0 a_there : Nat) (v_sent : Int32) (v_present : Int32) (v_lineUp : Int32) (v_there : Nat → Int32) (o : Int32) (h : fX3_sent v_sent = some o) : Met l yX3_sent wsX3_sent { frames := 0, cells := 0, slots := 0, locals := 0 } (dk_Pr D k [.ref h0] [(h0, .inr (3, [.ref a_there, .int v_sent, .int v_present, .int v_lineUp])), (a_there, .inl ((k 1), 5010, .inl v_there))]) (vp_Si (fun r => r = o)) 0 0 (fun _ => False) := by
  unfold fX3_sent at h
  refine dk_ofR (cc := cX3_sent) (maxL := 1) (ret := (some .int)) (lv := [(0, .ref h0)]) (by decide) rfl (Nat.le_of_ble_eq_true rfl) rfl ?_
  intro p e s m below meth c C hK hN hP ls hl
  obtain ⟨hx, hb, hr, hml, hown, hts, hlocks⟩ := id C
  refine lv_aload_n hx hb dX3_sent_0 rfl (lv_at hl 0 rfl) ?_
  refine va_get (D := D) (ci := 3) (v := .int v_sent) (C := "ServiceDisk$SecondRoom") (T := TX3) (N := 4) hx hb hts inX3 hown hK hP 0 rfl rfl 1 (by decide) (hts _ w_143) (fun _ h9 => h9) rfl dX3_sent_1 ?_
  have h := dk_r h
  subst h
  exact dk_rri hx hb hr hlocks dX3_sent_4 rfl
/-! ServiceDisk$SecondRoom.take(II)V: rw, frames 1, locals 21 -/
def fX3_take_L11 (v_lineUp : Int32) (x1 : Int32) (x3 : Int32) : Nat → (Int32) → (Int32) → (Int32) → (Nat → Int32) → Option (Int32 × Int32 × Int32 × (Nat → Int32))
  | 0, _, _, _, _ => none
  | n + 1, x4, v_sent, v_present, v_there =>
    if x1 ≤ x4 then
      some (x4, v_sent, v_present, v_there)
    else
      if x3 ≤ v_sent then
        some (x4, v_sent, v_present, v_there)
      else
        if dk_in v_sent 5010 then
        if v_lineUp = 0 then
          fX3_take_L11 v_lineUp x1 x3 n (x4 + 1) (v_sent + 1) v_present (upd v_there v_sent.toNatClampNeg (vp_nar .boolean v_lineUp))
        else
          fX3_take_L11 v_lineUp x1 x3 n (x4 + 1) (v_sent + 1) (v_present + 1) (upd v_there v_sent.toNatClampNeg (vp_nar .boolean v_lineUp))
        else none
def fX3_take (v_sent : Int32) (v_present : Int32) (v_lineUp : Int32) (v_there : Nat → Int32) (p1 : Int32) (p2 : Int32) : Option (Int32 × Int32 × (Nat → Int32)) :=
  (fX3_take_L11 v_lineUp p1 (if 5010 < p2 then 5010 else p2) dkF 0 v_sent v_present v_there).bind fun o1 =>
  some (o1.2.1, o1.2.2.1, o1.2.2.2)
set_option maxHeartbeats 4000000 in
set_option maxRecDepth 100000 in
theorem lX3_take_11 {p : Program} {l : Launch} {e : Env} {s : State} {m : MethodId} {below : List Frame} {meth : Method} {c : Code} {args : Array Value} {D : va_G} {k : Nat → ClassId} {h0 : Nat} {a_there : Nat} {v_lineUp : Int32} {x1 : Int32} {x3 : Int32} {Q : State → Prop} {o : Int32 × Int32 × Int32 × (Nat → Int32)} {A : Nat → Prop} (C : dk_Cx p s m meth c cX3_take none 5 "ServiceDisk$SecondRoom" dkB args) (hK : va_K D vwCl (dkT k) s) (hN : dk_N s) (hA : ∀ q : Nat, s.heap.size ≤ q → A q) :
    ∀ (n : Nat) (x4 : Int32) (v_sent : Int32) (v_present : Int32) (v_there : Nat → Int32), fX3_take_L11 v_lineUp x1 x3 n x4 v_sent v_present v_there = some o → (∀ (H : Heap) (locs : List Loc), va_P D vwCl [(h0, .inr (3, [.ref a_there, .int o.2.1, .int o.2.2.1, .int v_lineUp])), (a_there, .inl ((k 1), 5010, .inl o.2.2.2))] H → va_D A [(h0, .inr (3, [.ref a_there, .int o.2.1, .int o.2.2.1, .int v_lineUp])), (a_there, .inl ((k 1), 5010, .inl o.2.2.2))] → va_S A s.heap H locs → ∀ ls : Array Slot, lv_has ls 5 [(0, .ref h0), (1, .int x1), (3, .int x3), (4, .int o.1)] → W p l e { frames := 1, cells := 0, slots := 0, locals := 21 } s m args below meth c H locs 0 0 Q (F0 m 71 ls [])) → ∀ (H : Heap) (locs : List Loc), va_P D vwCl [(h0, .inr (3, [.ref a_there, .int v_sent, .int v_present, .int v_lineUp])), (a_there, .inl ((k 1), 5010, .inl v_there))] H → va_D A [(h0, .inr (3, [.ref a_there, .int v_sent, .int v_present, .int v_lineUp])), (a_there, .inl ((k 1), 5010, .inl v_there))] → va_S A s.heap H locs → ∀ ls : Array Slot, lv_has ls 5 [(0, .ref h0), (1, .int x1), (3, .int x3), (4, .int x4)] → W p l e { frames := 1, cells := 0, slots := 0, locals := 21 } s m args below meth c H locs 0 0 Q (F0 m 11 ls []) := by
  obtain ⟨hx, hb, hr, hml, hown, hts, hlocks⟩ := id C
  intro n
  induction n with
  | zero =>
    intro x4 v_sent v_present v_there h
    exact dk_n (o := o) h
  | succ n ih =>
    intro x4 v_sent v_present v_there h K H locs hP hD hS ls hl
    rw [fX3_take_L11.eq_2] at h
    refine lv_iload hx hb dX3_take_11 (lv_at hl 3 rfl) ?_
    refine lv_iload_n hx hb dX3_take_13 rfl (lv_at hl 1 rfl) ?_
    refine lv_icmp_ge (tgt := 71) hx hb dX3_take_14 (by decide) (fun q => ?_) (fun q => ?_)
    · replace h := dk_t q h
      have h := dk_r h
      subst h
      exact K _ _ (hP.sub [0, 1] rfl) (hD.sub [0, 1] (by decide) rfl) hS ls (lv_sub hl [0, 1, 2, 3] rfl)
    · replace h := dk_f q h
      refine lv_aload_n hx hb dX3_take_17 rfl (lv_at hl 0 rfl) ?_
      refine va_get (D := D) (ci := 3) (v := .int v_sent) (C := "ServiceDisk$SecondRoom") (T := TX3) (N := 4) hx hb hts inX3 hown hK hP 0 rfl rfl 1 (by decide) (hts _ w_143) (fun _ h9 => h9) rfl dX3_take_18 ?_
      refine lv_iload_n hx hb dX3_take_21 rfl (lv_at hl 2 rfl) ?_
      refine lv_icmp_ge (tgt := 71) hx hb dX3_take_22 (by decide) (fun q => ?_) (fun q => ?_)
      · replace h := dk_t q h
        have h := dk_r h
        subst h
        exact K _ _ (hP.sub [0, 1] rfl) (hD.sub [0, 1] (by decide) rfl) hS ls (lv_sub hl [0, 1, 2, 3] rfl)
      · replace h := dk_f q h
        refine lv_aload_n hx hb dX3_take_25 rfl (lv_at hl 0 rfl) ?_
        refine va_get (D := D) (ci := 3) (v := .ref a_there) (C := "ServiceDisk$SecondRoom") (T := TX3) (N := 4) hx hb hts inX3 hown hK hP 0 rfl rfl 0 (by decide) (hts _ w_142) (fun _ h9 => h9) rfl dX3_take_26 ?_
        refine lv_aload_n hx hb dX3_take_29 rfl (lv_at hl 0 rfl) ?_
        refine va_get (D := D) (ci := 3) (v := .int v_sent) (C := "ServiceDisk$SecondRoom") (T := TX3) (N := 4) hx hb hts inX3 hown hK hP 0 rfl rfl 1 (by decide) (hts _ w_143) (fun _ h9 => h9) rfl dX3_take_30 ?_
        refine lv_aload_n hx hb dX3_take_33 rfl (lv_at hl 0 rfl) ?_
        refine va_get (D := D) (ci := 3) (v := .int v_lineUp) (C := "ServiceDisk$SecondRoom") (T := TX3) (N := 4) hx hb hts inX3 hown hK hP 0 rfl rfl 3 (by decide) (hts _ w_145) (fun _ h9 => h9) rfl dX3_take_34 ?_
        obtain ⟨q, h⟩ := dk_g h
        refine va_zast hx hb hK hP hD hS 1 1 rfl rfl q dX3_take_37 (fun H locs hP hD hS => ?_)
        have hP : va_P D vwCl [(h0, .inr (3, [.ref a_there, .int v_sent, .int v_present, .int v_lineUp])), (a_there, .inl ((k 1), 5010, .inl (upd v_there v_sent.toNatClampNeg (vp_nar .boolean v_lineUp))))] H := hP
        have hD : va_D A [(h0, .inr (3, [.ref a_there, .int v_sent, .int v_present, .int v_lineUp])), (a_there, .inl ((k 1), 5010, .inl (upd v_there v_sent.toNatClampNeg (vp_nar .boolean v_lineUp))))] := hD
        refine lv_aload_n hx hb dX3_take_38 rfl (lv_at hl 0 rfl) ?_
        refine lv_dup hx hb dX3_take_39 rfl ?_
        refine va_get (D := D) (ci := 3) (v := .int v_sent) (C := "ServiceDisk$SecondRoom") (T := TX3) (N := 4) hx hb hts inX3 hown hK hP 0 rfl rfl 1 (by decide) (hts _ w_143) (fun _ h9 => h9) rfl dX3_take_40 ?_
        refine lv_iconst (v := 1) hx hb dX3_take_43 (by decide) ?_
        refine lv_iadd hx hb dX3_take_44 ?_
        refine va_put (D := D) (ci := 3) (v := .int (v_sent + 1)) (ty := .int) (C := "ServiceDisk$SecondRoom") (T := TX3) (N := 4) hx hb hts inX3 tyX3 tyX3_ok nmX3 hown hK hP hD hS 0 rfl rfl 1 (by decide) (hts _ w_143) (fun _ h9 => h9) rfl (by decide +kernel) rfl rfl (Nat.le_of_ble_eq_true rfl) dX3_take_45 (fun H locs hP hD hS => ?_)
        have hP : va_P D vwCl [(h0, .inr (3, [.ref a_there, .int (v_sent + 1), .int v_present, .int v_lineUp])), (a_there, .inl ((k 1), 5010, .inl (upd v_there v_sent.toNatClampNeg (vp_nar .boolean v_lineUp))))] H := hP
        have hD : va_D A [(h0, .inr (3, [.ref a_there, .int (v_sent + 1), .int v_present, .int v_lineUp])), (a_there, .inl ((k 1), 5010, .inl (upd v_there v_sent.toNatClampNeg (vp_nar .boolean v_lineUp))))] := hD
        refine lv_aload_n hx hb dX3_take_48 rfl (lv_at hl 0 rfl) ?_
        refine va_get (D := D) (ci := 3) (v := .int v_lineUp) (C := "ServiceDisk$SecondRoom") (T := TX3) (N := 4) hx hb hts inX3 hown hK hP 0 rfl rfl 3 (by decide) (hts _ w_145) (fun _ h9 => h9) rfl dX3_take_49 ?_
        refine lv_if_eq (tgt := 65) hx hb dX3_take_52 (by decide) (fun q => ?_) (fun q => ?_)
        · replace h := dk_t q h
          refine lv_iinc (v := (x4 + 1)) (lv' := [(4, .int (x4 + 1)), (0, .ref h0), (1, .int x1), (3, .int x3)]) hx hb dX3_take_65 hl (k := 3) rfl rfl (by decide) rfl (fun ls hl => ?_)
          refine lv_goto (tgt := 11) hx hb dX3_take_68 (by decide) ?_
          exact ih (x4 + 1) (v_sent + 1) v_present (upd v_there v_sent.toNatClampNeg (vp_nar .boolean v_lineUp)) h K _ _ (hP.sub [0, 1] rfl) (hD.sub [0, 1] (by decide) rfl) hS ls (lv_sub hl [1, 2, 3, 0] rfl)
        · replace h := dk_f q h
          refine lv_aload_n hx hb dX3_take_55 rfl (lv_at hl 0 rfl) ?_
          refine lv_dup hx hb dX3_take_56 rfl ?_
          refine va_get (D := D) (ci := 3) (v := .int v_present) (C := "ServiceDisk$SecondRoom") (T := TX3) (N := 4) hx hb hts inX3 hown hK hP 0 rfl rfl 2 (by decide) (hts _ w_144) (fun _ h9 => h9) rfl dX3_take_57 ?_
          refine lv_iconst (v := 1) hx hb dX3_take_60 (by decide) ?_
          refine lv_iadd hx hb dX3_take_61 ?_
          refine va_put (D := D) (ci := 3) (v := .int (v_present + 1)) (ty := .int) (C := "ServiceDisk$SecondRoom") (T := TX3) (N := 4) hx hb hts inX3 tyX3 tyX3_ok nmX3 hown hK hP hD hS 0 rfl rfl 2 (by decide) (hts _ w_144) (fun _ h9 => h9) rfl (by decide +kernel) rfl rfl (Nat.le_of_ble_eq_true rfl) dX3_take_62 (fun H locs hP hD hS => ?_)
          have hP : va_P D vwCl [(h0, .inr (3, [.ref a_there, .int (v_sent + 1), .int (v_present + 1), .int v_lineUp])), (a_there, .inl ((k 1), 5010, .inl (upd v_there v_sent.toNatClampNeg (vp_nar .boolean v_lineUp))))] H := hP
          have hD : va_D A [(h0, .inr (3, [.ref a_there, .int (v_sent + 1), .int (v_present + 1), .int v_lineUp])), (a_there, .inl ((k 1), 5010, .inl (upd v_there v_sent.toNatClampNeg (vp_nar .boolean v_lineUp))))] := hD
          refine lv_iinc (v := (x4 + 1)) (lv' := [(4, .int (x4 + 1)), (0, .ref h0), (1, .int x1), (3, .int x3)]) hx hb dX3_take_65 hl (k := 3) rfl rfl (by decide) rfl (fun ls hl => ?_)
          refine lv_goto (tgt := 11) hx hb dX3_take_68 (by decide) ?_
          exact ih (x4 + 1) (v_sent + 1) (v_present + 1) (upd v_there v_sent.toNatClampNeg (vp_nar .boolean v_lineUp)) h K _ _ (hP.sub [0, 1] rfl) (hD.sub [0, 1] (by decide) rfl) hS ls (lv_sub hl [1, 2, 3, 0] rfl)
set_option maxHeartbeats 4000000 in
set_option maxRecDepth 100000 in
theorem mX3_take (l : Launch) (D : va_G) (k : Nat → ClassId) (h0 a_there : Nat) (sz : Nat) (v_sent : Int32) (v_present : Int32) (v_lineUp : Int32) (v_there : Nat → Int32) (p1 : Int32) (p2 : Int32) (o : Int32 × Int32 × (Nat → Int32)) (h : fX3_take v_sent v_present v_lineUp v_there p1 p2 = some o) : Met l yX3_take wsX3_take { frames := 1, cells := 0, slots := 0, locals := 21 } (dk_Pw D k [.ref h0, .int p1, .int p2] [(h0, .inr (3, [.ref a_there, .int v_sent, .int v_present, .int v_lineUp])), (a_there, .inl ((k 1), 5010, .inl v_there))] sz) (dk_Qv D [(h0, .inr (3, [.ref a_there, .int o.1, .int o.2.1, .int v_lineUp])), (a_there, .inl ((k 1), 5010, .inl o.2.2))] (va_A [(h0, .inr (3, [.ref a_there, .int v_sent, .int v_present, .int v_lineUp])), (a_there, .inl ((k 1), 5010, .inl v_there))] sz)) 0 0 (va_A [(h0, .inr (3, [.ref a_there, .int v_sent, .int v_present, .int v_lineUp])), (a_there, .inl ((k 1), 5010, .inl v_there))] sz) := by
  unfold fX3_take at h
  refine dk_ofW (Qc := fun A => dk_Qv D [(h0, .inr (3, [.ref a_there, .int o.1, .int o.2.1, .int v_lineUp])), (a_there, .inl ((k 1), 5010, .inl o.2.2))] A) (cc := cX3_take) (maxL := 5) (ret := none) (lv := [(0, .ref h0), (1, .int p1), (2, .int p2)]) (by decide) rfl (Nat.le_of_ble_eq_true rfl) rfl ?_
  intro p e s m below meth c C hK hN hP A hA hD hS ls hl
  obtain ⟨hx, hb, hr, hml, hown, hts, hlocks⟩ := id C
  refine lv_iload_n hx hb dX3_take_0 rfl (lv_at hl 2 rfl) ?_
  refine lv_sipush (v := 5010) hx hb dX3_take_1 (by decide) ?_
  refine va_mmin hx hb (hml.trans hl.1.symm) hown (hts _ w_594) (hts _ w_449) (hts _ w_55) (hts _ w_450) (Nat.le_of_ble_eq_true rfl) (Nat.le_of_ble_eq_true rfl) (Nat.zero_le _) (Nat.zero_le _) dX3_take_4 ?_
  refine lv_istore_n (lv' := [(3, .int (if 5010 < p2 then 5010 else p2)), (0, .ref h0), (1, .int p1), (2, .int p2)]) hx hb dX3_take_7 rfl hl (by decide) rfl (fun ls hl => ?_)
  refine lv_iconst (v := 0) hx hb dX3_take_8 (by decide) ?_
  refine lv_istore (lv' := [(4, .int 0), (3, .int (if 5010 < p2 then 5010 else p2)), (0, .ref h0), (1, .int p1), (2, .int p2)]) hx hb dX3_take_9 hl (by decide) rfl (fun ls hl => ?_)
  replace h := dk_b h
  obtain ⟨o1, e1, h⟩ := h
  refine lX3_take_11 C hK hN hA _ 0 v_sent v_present v_there  e1 (fun H locs hP hD hS ls hl => ?_) _ _ (hP.sub [0, 1] rfl) (hD.sub [0, 1] (by decide) rfl) hS ls (lv_sub hl [2, 3, 1, 0] rfl)
  have hP : va_P D vwCl [(h0, .inr (3, [.ref a_there, .int o1.2.1, .int o1.2.2.1, .int v_lineUp])), (a_there, .inl ((k 1), 5010, .inl o1.2.2.2))] H := hP
  have hD : va_D A [(h0, .inr (3, [.ref a_there, .int o1.2.1, .int o1.2.2.1, .int v_lineUp])), (a_there, .inl ((k 1), 5010, .inl o1.2.2.2))] := hD
  have hl : lv_has ls 5 [(0, .ref h0), (1, .int p1), (3, .int (if 5010 < p2 then 5010 else p2)), (4, .int o1.1)] := hl
  have h := dk_r h
  subst h
  exact dk_rwv hx hb hr hlocks (hP.sub [0, 1] rfl) (hD.sub [0, 1] (by decide) rfl) hS dX3_take_71
/-! ServiceDisk$SecondRoom.fillLowest(I)I: rw, frames 0, locals 0 -/
def fX3_fillLowest_L4 (v_sent : Int32) (x1 : Int32) : Nat → (Int32) → (Int32) → (Nat → Int32) → Option (Int32 × Int32 × (Nat → Int32))
  | 0, _, _, _ => none
  | n + 1, x2, x3, v_there =>
    if v_sent ≤ x3 then
      some (x2, x3, v_there)
    else
      if x1 ≤ x2 then
        some (x2, x3, v_there)
      else
        if dk_in x3 5010 then
        if (v_there x3.toNatClampNeg) = 0 then
          if dk_in x3 5010 then
          fX3_fillLowest_L4 v_sent x1 n (x2 + 1) (x3 + 1) (upd v_there x3.toNatClampNeg (vp_nar .boolean 1))
          else none
        else
          fX3_fillLowest_L4 v_sent x1 n x2 (x3 + 1) v_there
        else none
def fX3_fillLowest (v_sent : Int32) (v_present : Int32) (v_there : Nat → Int32) (p1 : Int32) : Option (Int32 × Int32 × (Nat → Int32)) :=
  (fX3_fillLowest_L4 v_sent p1 dkF 0 0 v_there).bind fun o1 =>
  some (o1.1, (v_present + o1.1), o1.2.2)
set_option maxHeartbeats 4000000 in
set_option maxRecDepth 100000 in
theorem lX3_fillLowest_4 {p : Program} {l : Launch} {e : Env} {s : State} {m : MethodId} {below : List Frame} {meth : Method} {c : Code} {args : Array Value} {D : va_G} {k : Nat → ClassId} {h0 : Nat} {a_there : Nat} {v_sent : Int32} {v_present : Int32} {v_lineUp : Int32} {x1 : Int32} {Q : State → Prop} {o : Int32 × Int32 × (Nat → Int32)} {A : Nat → Prop} (C : dk_Cx p s m meth c cX3_fillLowest (some .int) 4 "ServiceDisk$SecondRoom" dkB args) (hK : va_K D vwCl (dkT k) s) (hN : dk_N s) (hA : ∀ q : Nat, s.heap.size ≤ q → A q) :
    ∀ (n : Nat) (x2 : Int32) (x3 : Int32) (v_there : Nat → Int32), fX3_fillLowest_L4 v_sent x1 n x2 x3 v_there = some o → (∀ (H : Heap) (locs : List Loc), va_P D vwCl [(h0, .inr (3, [.ref a_there, .int v_sent, .int v_present, .int v_lineUp])), (a_there, .inl ((k 1), 5010, .inl o.2.2))] H → va_D A [(h0, .inr (3, [.ref a_there, .int v_sent, .int v_present, .int v_lineUp])), (a_there, .inl ((k 1), 5010, .inl o.2.2))] → va_S A s.heap H locs → ∀ ls : Array Slot, lv_has ls 4 [(0, .ref h0), (1, .int x1), (2, .int o.1), (3, .int o.2.1)] → W p l e { frames := 0, cells := 0, slots := 0, locals := 0 } s m args below meth c H locs 0 0 Q (F0 m 42 ls [])) → ∀ (H : Heap) (locs : List Loc), va_P D vwCl [(h0, .inr (3, [.ref a_there, .int v_sent, .int v_present, .int v_lineUp])), (a_there, .inl ((k 1), 5010, .inl v_there))] H → va_D A [(h0, .inr (3, [.ref a_there, .int v_sent, .int v_present, .int v_lineUp])), (a_there, .inl ((k 1), 5010, .inl v_there))] → va_S A s.heap H locs → ∀ ls : Array Slot, lv_has ls 4 [(0, .ref h0), (1, .int x1), (2, .int x2), (3, .int x3)] → W p l e { frames := 0, cells := 0, slots := 0, locals := 0 } s m args below meth c H locs 0 0 Q (F0 m 4 ls []) := by
  obtain ⟨hx, hb, hr, hml, hown, hts, hlocks⟩ := id C
  intro n
  induction n with
  | zero =>
    intro x2 x3 v_there h
    exact dk_n (o := o) h
  | succ n ih =>
    intro x2 x3 v_there h K H locs hP hD hS ls hl
    rw [fX3_fillLowest_L4.eq_2] at h
    refine lv_iload_n hx hb dX3_fillLowest_4 rfl (lv_at hl 3 rfl) ?_
    refine lv_aload_n hx hb dX3_fillLowest_5 rfl (lv_at hl 0 rfl) ?_
    refine va_get (D := D) (ci := 3) (v := .int v_sent) (C := "ServiceDisk$SecondRoom") (T := TX3) (N := 4) hx hb hts inX3 hown hK hP 0 rfl rfl 1 (by decide) (hts _ w_143) (fun _ h9 => h9) rfl dX3_fillLowest_6 ?_
    refine lv_icmp_ge (tgt := 42) hx hb dX3_fillLowest_9 (by decide) (fun q => ?_) (fun q => ?_)
    · replace h := dk_t q h
      have h := dk_r h
      subst h
      exact K _ _ (hP.sub [0, 1] rfl) (hD.sub [0, 1] (by decide) rfl) hS ls (lv_sub hl [0, 1, 2, 3] rfl)
    · replace h := dk_f q h
      refine lv_iload_n hx hb dX3_fillLowest_12 rfl (lv_at hl 2 rfl) ?_
      refine lv_iload_n hx hb dX3_fillLowest_13 rfl (lv_at hl 1 rfl) ?_
      refine lv_icmp_ge (tgt := 42) hx hb dX3_fillLowest_14 (by decide) (fun q => ?_) (fun q => ?_)
      · replace h := dk_t q h
        have h := dk_r h
        subst h
        exact K _ _ (hP.sub [0, 1] rfl) (hD.sub [0, 1] (by decide) rfl) hS ls (lv_sub hl [0, 1, 2, 3] rfl)
      · replace h := dk_f q h
        refine lv_aload_n hx hb dX3_fillLowest_17 rfl (lv_at hl 0 rfl) ?_
        refine va_get (D := D) (ci := 3) (v := .ref a_there) (C := "ServiceDisk$SecondRoom") (T := TX3) (N := 4) hx hb hts inX3 hown hK hP 0 rfl rfl 0 (by decide) (hts _ w_142) (fun _ h9 => h9) rfl dX3_fillLowest_18 ?_
        refine lv_iload_n hx hb dX3_fillLowest_21 rfl (lv_at hl 3 rfl) ?_
        obtain ⟨q, h⟩ := dk_g h
        refine va_zald hx hb hK hP 1 1 rfl rfl q dX3_fillLowest_22 ?_
        refine lv_if_ne (tgt := 36) hx hb dX3_fillLowest_23 (by decide) (fun q => ?_) (fun q => ?_)
        · replace h := dk_f q h
          refine lv_iinc (v := (x3 + 1)) (lv' := [(3, .int (x3 + 1)), (0, .ref h0), (1, .int x1), (2, .int x2)]) hx hb dX3_fillLowest_36 hl (k := 3) rfl rfl (by decide) rfl (fun ls hl => ?_)
          refine lv_goto (tgt := 4) hx hb dX3_fillLowest_39 (by decide) ?_
          exact ih x2 (x3 + 1) v_there h K _ _ (hP.sub [0, 1] rfl) (hD.sub [0, 1] (by decide) rfl) hS ls (lv_sub hl [1, 2, 3, 0] rfl)
        · replace h := dk_t q h
          refine lv_aload_n hx hb dX3_fillLowest_26 rfl (lv_at hl 0 rfl) ?_
          refine va_get (D := D) (ci := 3) (v := .ref a_there) (C := "ServiceDisk$SecondRoom") (T := TX3) (N := 4) hx hb hts inX3 hown hK hP 0 rfl rfl 0 (by decide) (hts _ w_142) (fun _ h9 => h9) rfl dX3_fillLowest_27 ?_
          refine lv_iload_n hx hb dX3_fillLowest_30 rfl (lv_at hl 3 rfl) ?_
          refine lv_iconst (v := 1) hx hb dX3_fillLowest_31 (by decide) ?_
          obtain ⟨q, h⟩ := dk_g h
          refine va_zast hx hb hK hP hD hS 1 1 rfl rfl q dX3_fillLowest_32 (fun H locs hP hD hS => ?_)
          have hP : va_P D vwCl [(h0, .inr (3, [.ref a_there, .int v_sent, .int v_present, .int v_lineUp])), (a_there, .inl ((k 1), 5010, .inl (upd v_there x3.toNatClampNeg (vp_nar .boolean 1))))] H := hP
          have hD : va_D A [(h0, .inr (3, [.ref a_there, .int v_sent, .int v_present, .int v_lineUp])), (a_there, .inl ((k 1), 5010, .inl (upd v_there x3.toNatClampNeg (vp_nar .boolean 1))))] := hD
          refine lv_iinc (v := (x2 + 1)) (lv' := [(2, .int (x2 + 1)), (0, .ref h0), (1, .int x1), (3, .int x3)]) hx hb dX3_fillLowest_33 hl (k := 2) rfl rfl (by decide) rfl (fun ls hl => ?_)
          refine lv_iinc (v := (x3 + 1)) (lv' := [(3, .int (x3 + 1)), (2, .int (x2 + 1)), (0, .ref h0), (1, .int x1)]) hx hb dX3_fillLowest_36 hl (k := 3) rfl rfl (by decide) rfl (fun ls hl => ?_)
          refine lv_goto (tgt := 4) hx hb dX3_fillLowest_39 (by decide) ?_
          exact ih (x2 + 1) (x3 + 1) (upd v_there x3.toNatClampNeg (vp_nar .boolean 1)) h K _ _ (hP.sub [0, 1] rfl) (hD.sub [0, 1] (by decide) rfl) hS ls (lv_sub hl [2, 3, 1, 0] rfl)
set_option maxHeartbeats 4000000 in
set_option maxRecDepth 100000 in
theorem mX3_fillLowest (l : Launch) (D : va_G) (k : Nat → ClassId) (h0 a_there : Nat) (sz : Nat) (v_sent : Int32) (v_present : Int32) (v_lineUp : Int32) (v_there : Nat → Int32) (p1 : Int32) (o : Int32 × Int32 × (Nat → Int32)) (h : fX3_fillLowest v_sent v_present v_there p1 = some o) : Met l yX3_fillLowest wsX3_fillLowest { frames := 0, cells := 0, slots := 0, locals := 0 } (dk_Pw D k [.ref h0, .int p1] [(h0, .inr (3, [.ref a_there, .int v_sent, .int v_present, .int v_lineUp])), (a_there, .inl ((k 1), 5010, .inl v_there))] sz) (dk_Qi o.1 D [(h0, .inr (3, [.ref a_there, .int v_sent, .int o.2.1, .int v_lineUp])), (a_there, .inl ((k 1), 5010, .inl o.2.2))] (va_A [(h0, .inr (3, [.ref a_there, .int v_sent, .int v_present, .int v_lineUp])), (a_there, .inl ((k 1), 5010, .inl v_there))] sz)) 0 0 (va_A [(h0, .inr (3, [.ref a_there, .int v_sent, .int v_present, .int v_lineUp])), (a_there, .inl ((k 1), 5010, .inl v_there))] sz) := by
  unfold fX3_fillLowest at h
  refine dk_ofW (Qc := fun A => dk_Qi o.1 D [(h0, .inr (3, [.ref a_there, .int v_sent, .int o.2.1, .int v_lineUp])), (a_there, .inl ((k 1), 5010, .inl o.2.2))] A) (cc := cX3_fillLowest) (maxL := 4) (ret := (some .int)) (lv := [(0, .ref h0), (1, .int p1)]) (by decide) rfl (Nat.le_of_ble_eq_true rfl) rfl ?_
  intro p e s m below meth c C hK hN hP A hA hD hS ls hl
  obtain ⟨hx, hb, hr, hml, hown, hts, hlocks⟩ := id C
  refine lv_iconst (v := 0) hx hb dX3_fillLowest_0 (by decide) ?_
  refine lv_istore_n (lv' := [(2, .int 0), (0, .ref h0), (1, .int p1)]) hx hb dX3_fillLowest_1 rfl hl (by decide) rfl (fun ls hl => ?_)
  refine lv_iconst (v := 0) hx hb dX3_fillLowest_2 (by decide) ?_
  refine lv_istore_n (lv' := [(3, .int 0), (2, .int 0), (0, .ref h0), (1, .int p1)]) hx hb dX3_fillLowest_3 rfl hl (by decide) rfl (fun ls hl => ?_)
  replace h := dk_b h
  obtain ⟨o1, e1, h⟩ := h
  refine lX3_fillLowest_4 C hK hN hA _ 0 0 v_there  e1 (fun H locs hP hD hS ls hl => ?_) _ _ (hP.sub [0, 1] rfl) (hD.sub [0, 1] (by decide) rfl) hS ls (lv_sub hl [2, 3, 1, 0] rfl)
  have hP : va_P D vwCl [(h0, .inr (3, [.ref a_there, .int v_sent, .int v_present, .int v_lineUp])), (a_there, .inl ((k 1), 5010, .inl o1.2.2))] H := hP
  have hD : va_D A [(h0, .inr (3, [.ref a_there, .int v_sent, .int v_present, .int v_lineUp])), (a_there, .inl ((k 1), 5010, .inl o1.2.2))] := hD
  have hl : lv_has ls 4 [(0, .ref h0), (1, .int p1), (2, .int o1.1), (3, .int o1.2.1)] := hl
  refine lv_aload_n hx hb dX3_fillLowest_42 rfl (lv_at hl 0 rfl) ?_
  refine lv_dup hx hb dX3_fillLowest_43 rfl ?_
  refine va_get (D := D) (ci := 3) (v := .int v_present) (C := "ServiceDisk$SecondRoom") (T := TX3) (N := 4) hx hb hts inX3 hown hK hP 0 rfl rfl 2 (by decide) (hts _ w_144) (fun _ h9 => h9) rfl dX3_fillLowest_44 ?_
  refine lv_iload_n hx hb dX3_fillLowest_47 rfl (lv_at hl 2 rfl) ?_
  refine lv_iadd hx hb dX3_fillLowest_48 ?_
  refine va_put (D := D) (ci := 3) (v := .int (v_present + o1.1)) (ty := .int) (C := "ServiceDisk$SecondRoom") (T := TX3) (N := 4) hx hb hts inX3 tyX3 tyX3_ok nmX3 hown hK hP hD hS 0 rfl rfl 2 (by decide) (hts _ w_144) (fun _ h9 => h9) rfl (by decide +kernel) rfl rfl (Nat.le_of_ble_eq_true rfl) dX3_fillLowest_49 (fun H locs hP hD hS => ?_)
  have hP : va_P D vwCl [(h0, .inr (3, [.ref a_there, .int v_sent, .int (v_present + o1.1), .int v_lineUp])), (a_there, .inl ((k 1), 5010, .inl o1.2.2))] H := hP
  have hD : va_D A [(h0, .inr (3, [.ref a_there, .int v_sent, .int (v_present + o1.1), .int v_lineUp])), (a_there, .inl ((k 1), 5010, .inl o1.2.2))] := hD
  refine lv_iload_n hx hb dX3_fillLowest_52 rfl (lv_at hl 2 rfl) ?_
  have h := dk_r h
  subst h
  exact dk_rwi hx hb hr hlocks (hP.sub [0, 1] rfl) (hD.sub [0, 1] (by decide) rfl) hS dX3_fillLowest_53 rfl
/-! ServiceDisk$SecondRoom.keepBelow(I)V: rw, frames 1, locals 21 -/
def fX3_keepBelow_L19 (v_sent : Int32) (v_there : Nat → Int32)  : Nat → (Int32) → (Int32) → Option (Int32 × Int32)
  | 0, _, _ => none
  | n + 1, x2, v_present =>
    if v_sent ≤ x2 then
      some (x2, v_present)
    else
      if dk_in x2 5010 then
      if (v_there x2.toNatClampNeg) = 0 then
        fX3_keepBelow_L19 v_sent v_there n (x2 + 1) v_present
      else
        fX3_keepBelow_L19 v_sent v_there n (x2 + 1) (v_present + 1)
      else none
def fX3_keepBelow (v_sent : Int32) (v_there : Nat → Int32) (p1 : Int32) : Option (Int32 × Int32) :=
  (fX3_keepBelow_L19 (if p1 < v_sent then p1 else v_sent) v_there dkF 0 0).bind fun o1 =>
  some ((if p1 < v_sent then p1 else v_sent), o1.2)
set_option maxHeartbeats 4000000 in
set_option maxRecDepth 100000 in
theorem lX3_keepBelow_19 {p : Program} {l : Launch} {e : Env} {s : State} {m : MethodId} {below : List Frame} {meth : Method} {c : Code} {args : Array Value} {D : va_G} {k : Nat → ClassId} {h0 : Nat} {a_there : Nat} {v_sent : Int32} {v_lineUp : Int32} {v_there : Nat → Int32} {Q : State → Prop} {o : Int32 × Int32} {A : Nat → Prop} (C : dk_Cx p s m meth c cX3_keepBelow none 3 "ServiceDisk$SecondRoom" dkB args) (hK : va_K D vwCl (dkT k) s) (hN : dk_N s) (hA : ∀ q : Nat, s.heap.size ≤ q → A q) :
    ∀ (n : Nat) (x2 : Int32) (v_present : Int32), fX3_keepBelow_L19 v_sent v_there n x2 v_present = some o → (∀ (H : Heap) (locs : List Loc), va_P D vwCl [(h0, .inr (3, [.ref a_there, .int v_sent, .int o.2, .int v_lineUp])), (a_there, .inl ((k 1), 5010, .inl v_there))] H → va_D A [(h0, .inr (3, [.ref a_there, .int v_sent, .int o.2, .int v_lineUp])), (a_there, .inl ((k 1), 5010, .inl v_there))] → va_S A s.heap H locs → ∀ ls : Array Slot, lv_has ls 3 [(0, .ref h0), (2, .int o.1)] → W p l e { frames := 1, cells := 0, slots := 0, locals := 21 } s m args below meth c H locs 0 0 Q (F0 m 52 ls [])) → ∀ (H : Heap) (locs : List Loc), va_P D vwCl [(h0, .inr (3, [.ref a_there, .int v_sent, .int v_present, .int v_lineUp])), (a_there, .inl ((k 1), 5010, .inl v_there))] H → va_D A [(h0, .inr (3, [.ref a_there, .int v_sent, .int v_present, .int v_lineUp])), (a_there, .inl ((k 1), 5010, .inl v_there))] → va_S A s.heap H locs → ∀ ls : Array Slot, lv_has ls 3 [(0, .ref h0), (2, .int x2)] → W p l e { frames := 1, cells := 0, slots := 0, locals := 21 } s m args below meth c H locs 0 0 Q (F0 m 19 ls []) := by
  obtain ⟨hx, hb, hr, hml, hown, hts, hlocks⟩ := id C
  intro n
  induction n with
  | zero =>
    intro x2 v_present h
    exact dk_n (o := o) h
  | succ n ih =>
    intro x2 v_present h K H locs hP hD hS ls hl
    rw [fX3_keepBelow_L19.eq_2] at h
    refine lv_iload_n hx hb dX3_keepBelow_19 rfl (lv_at hl 1 rfl) ?_
    refine lv_aload_n hx hb dX3_keepBelow_20 rfl (lv_at hl 0 rfl) ?_
    refine va_get (D := D) (ci := 3) (v := .int v_sent) (C := "ServiceDisk$SecondRoom") (T := TX3) (N := 4) hx hb hts inX3 hown hK hP 0 rfl rfl 1 (by decide) (hts _ w_143) (fun _ h9 => h9) rfl dX3_keepBelow_21 ?_
    refine lv_icmp_ge (tgt := 52) hx hb dX3_keepBelow_24 (by decide) (fun q => ?_) (fun q => ?_)
    · replace h := dk_t q h
      have h := dk_r h
      subst h
      exact K _ _ (hP.sub [0, 1] rfl) (hD.sub [0, 1] (by decide) rfl) hS ls (lv_sub hl [0, 1] rfl)
    · replace h := dk_f q h
      refine lv_aload_n hx hb dX3_keepBelow_27 rfl (lv_at hl 0 rfl) ?_
      refine va_get (D := D) (ci := 3) (v := .ref a_there) (C := "ServiceDisk$SecondRoom") (T := TX3) (N := 4) hx hb hts inX3 hown hK hP 0 rfl rfl 0 (by decide) (hts _ w_142) (fun _ h9 => h9) rfl dX3_keepBelow_28 ?_
      refine lv_iload_n hx hb dX3_keepBelow_31 rfl (lv_at hl 1 rfl) ?_
      obtain ⟨q, h⟩ := dk_g h
      refine va_zald hx hb hK hP 1 1 rfl rfl q dX3_keepBelow_32 ?_
      refine lv_if_eq (tgt := 46) hx hb dX3_keepBelow_33 (by decide) (fun q => ?_) (fun q => ?_)
      · replace h := dk_t q h
        refine lv_iinc (v := (x2 + 1)) (lv' := [(2, .int (x2 + 1)), (0, .ref h0)]) hx hb dX3_keepBelow_46 hl (k := 1) rfl rfl (by decide) rfl (fun ls hl => ?_)
        refine lv_goto (tgt := 19) hx hb dX3_keepBelow_49 (by decide) ?_
        exact ih (x2 + 1) v_present h K _ _ (hP.sub [0, 1] rfl) (hD.sub [0, 1] (by decide) rfl) hS ls (lv_sub hl [1, 0] rfl)
      · replace h := dk_f q h
        refine lv_aload_n hx hb dX3_keepBelow_36 rfl (lv_at hl 0 rfl) ?_
        refine lv_dup hx hb dX3_keepBelow_37 rfl ?_
        refine va_get (D := D) (ci := 3) (v := .int v_present) (C := "ServiceDisk$SecondRoom") (T := TX3) (N := 4) hx hb hts inX3 hown hK hP 0 rfl rfl 2 (by decide) (hts _ w_144) (fun _ h9 => h9) rfl dX3_keepBelow_38 ?_
        refine lv_iconst (v := 1) hx hb dX3_keepBelow_41 (by decide) ?_
        refine lv_iadd hx hb dX3_keepBelow_42 ?_
        refine va_put (D := D) (ci := 3) (v := .int (v_present + 1)) (ty := .int) (C := "ServiceDisk$SecondRoom") (T := TX3) (N := 4) hx hb hts inX3 tyX3 tyX3_ok nmX3 hown hK hP hD hS 0 rfl rfl 2 (by decide) (hts _ w_144) (fun _ h9 => h9) rfl (by decide +kernel) rfl rfl (Nat.le_of_ble_eq_true rfl) dX3_keepBelow_43 (fun H locs hP hD hS => ?_)
        have hP : va_P D vwCl [(h0, .inr (3, [.ref a_there, .int v_sent, .int (v_present + 1), .int v_lineUp])), (a_there, .inl ((k 1), 5010, .inl v_there))] H := hP
        have hD : va_D A [(h0, .inr (3, [.ref a_there, .int v_sent, .int (v_present + 1), .int v_lineUp])), (a_there, .inl ((k 1), 5010, .inl v_there))] := hD
        refine lv_iinc (v := (x2 + 1)) (lv' := [(2, .int (x2 + 1)), (0, .ref h0)]) hx hb dX3_keepBelow_46 hl (k := 1) rfl rfl (by decide) rfl (fun ls hl => ?_)
        refine lv_goto (tgt := 19) hx hb dX3_keepBelow_49 (by decide) ?_
        exact ih (x2 + 1) (v_present + 1) h K _ _ (hP.sub [0, 1] rfl) (hD.sub [0, 1] (by decide) rfl) hS ls (lv_sub hl [1, 0] rfl)
set_option maxHeartbeats 4000000 in
set_option maxRecDepth 100000 in
theorem mX3_keepBelow (l : Launch) (D : va_G) (k : Nat → ClassId) (h0 a_there : Nat) (sz : Nat) (v_sent : Int32) (v_present : Int32) (v_lineUp : Int32) (v_there : Nat → Int32) (p1 : Int32) (o : Int32 × Int32) (h : fX3_keepBelow v_sent v_there p1 = some o) : Met l yX3_keepBelow wsX3_keepBelow { frames := 1, cells := 0, slots := 0, locals := 21 } (dk_Pw D k [.ref h0, .int p1] [(h0, .inr (3, [.ref a_there, .int v_sent, .int v_present, .int v_lineUp])), (a_there, .inl ((k 1), 5010, .inl v_there))] sz) (dk_Qv D [(h0, .inr (3, [.ref a_there, .int o.1, .int o.2, .int v_lineUp])), (a_there, .inl ((k 1), 5010, .inl v_there))] (va_A [(h0, .inr (3, [.ref a_there, .int v_sent, .int v_present, .int v_lineUp])), (a_there, .inl ((k 1), 5010, .inl v_there))] sz)) 0 0 (va_A [(h0, .inr (3, [.ref a_there, .int v_sent, .int v_present, .int v_lineUp])), (a_there, .inl ((k 1), 5010, .inl v_there))] sz) := by
  unfold fX3_keepBelow at h
  refine dk_ofW (Qc := fun A => dk_Qv D [(h0, .inr (3, [.ref a_there, .int o.1, .int o.2, .int v_lineUp])), (a_there, .inl ((k 1), 5010, .inl v_there))] A) (cc := cX3_keepBelow) (maxL := 3) (ret := none) (lv := [(0, .ref h0), (1, .int p1)]) (by decide) rfl (Nat.le_of_ble_eq_true rfl) rfl ?_
  intro p e s m below meth c C hK hN hP A hA hD hS ls hl
  obtain ⟨hx, hb, hr, hml, hown, hts, hlocks⟩ := id C
  refine lv_aload_n hx hb dX3_keepBelow_0 rfl (lv_at hl 0 rfl) ?_
  refine lv_aload_n hx hb dX3_keepBelow_1 rfl (lv_at hl 0 rfl) ?_
  refine va_get (D := D) (ci := 3) (v := .int v_sent) (C := "ServiceDisk$SecondRoom") (T := TX3) (N := 4) hx hb hts inX3 hown hK hP 0 rfl rfl 1 (by decide) (hts _ w_143) (fun _ h9 => h9) rfl dX3_keepBelow_2 ?_
  refine lv_iload_n hx hb dX3_keepBelow_5 rfl (lv_at hl 1 rfl) ?_
  refine va_mmin hx hb (hml.trans hl.1.symm) hown (hts _ w_594) (hts _ w_449) (hts _ w_55) (hts _ w_450) (Nat.le_of_ble_eq_true rfl) (Nat.le_of_ble_eq_true rfl) (Nat.zero_le _) (Nat.zero_le _) dX3_keepBelow_6 ?_
  refine va_put (D := D) (ci := 3) (v := .int (if p1 < v_sent then p1 else v_sent)) (ty := .int) (C := "ServiceDisk$SecondRoom") (T := TX3) (N := 4) hx hb hts inX3 tyX3 tyX3_ok nmX3 hown hK hP hD hS 0 rfl rfl 1 (by decide) (hts _ w_143) (fun _ h9 => h9) rfl (by decide +kernel) rfl rfl (Nat.le_of_ble_eq_true rfl) dX3_keepBelow_9 (fun H locs hP hD hS => ?_)
  have hP : va_P D vwCl [(h0, .inr (3, [.ref a_there, .int (if p1 < v_sent then p1 else v_sent), .int v_present, .int v_lineUp])), (a_there, .inl ((k 1), 5010, .inl v_there))] H := hP
  have hD : va_D A [(h0, .inr (3, [.ref a_there, .int (if p1 < v_sent then p1 else v_sent), .int v_present, .int v_lineUp])), (a_there, .inl ((k 1), 5010, .inl v_there))] := hD
  refine lv_aload_n hx hb dX3_keepBelow_12 rfl (lv_at hl 0 rfl) ?_
  refine lv_iconst (v := 0) hx hb dX3_keepBelow_13 (by decide) ?_
  refine va_put (D := D) (ci := 3) (v := .int 0) (ty := .int) (C := "ServiceDisk$SecondRoom") (T := TX3) (N := 4) hx hb hts inX3 tyX3 tyX3_ok nmX3 hown hK hP hD hS 0 rfl rfl 2 (by decide) (hts _ w_144) (fun _ h9 => h9) rfl (by decide +kernel) rfl rfl (Nat.le_of_ble_eq_true rfl) dX3_keepBelow_14 (fun H locs hP hD hS => ?_)
  have hP : va_P D vwCl [(h0, .inr (3, [.ref a_there, .int (if p1 < v_sent then p1 else v_sent), .int 0, .int v_lineUp])), (a_there, .inl ((k 1), 5010, .inl v_there))] H := hP
  have hD : va_D A [(h0, .inr (3, [.ref a_there, .int (if p1 < v_sent then p1 else v_sent), .int 0, .int v_lineUp])), (a_there, .inl ((k 1), 5010, .inl v_there))] := hD
  refine lv_iconst (v := 0) hx hb dX3_keepBelow_17 (by decide) ?_
  refine lv_istore_n (lv' := [(2, .int 0), (0, .ref h0), (1, .int p1)]) hx hb dX3_keepBelow_18 rfl hl (by decide) rfl (fun ls hl => ?_)
  replace h := dk_b h
  obtain ⟨o1, e1, h⟩ := h
  refine lX3_keepBelow_19 C hK hN hA _ 0 0  e1 (fun H locs hP hD hS ls hl => ?_) _ _ (hP.sub [0, 1] rfl) (hD.sub [0, 1] (by decide) rfl) hS ls (lv_sub hl [1, 0] rfl)
  have hP : va_P D vwCl [(h0, .inr (3, [.ref a_there, .int (if p1 < v_sent then p1 else v_sent), .int o1.2, .int v_lineUp])), (a_there, .inl ((k 1), 5010, .inl v_there))] H := hP
  have hD : va_D A [(h0, .inr (3, [.ref a_there, .int (if p1 < v_sent then p1 else v_sent), .int o1.2, .int v_lineUp])), (a_there, .inl ((k 1), 5010, .inl v_there))] := hD
  have hl : lv_has ls 3 [(0, .ref h0), (2, .int o1.1)] := hl
  have h := dk_r h
  subst h
  exact dk_rwv hx hb hr hlocks (hP.sub [0, 1] rfl) (hD.sub [0, 1] (by decide) rfl) hS dX3_keepBelow_52
/-! ServiceDisk$SecondRoom.firstOfGap(I)I: ro, frames 0, locals 0 -/
def fX3_firstOfGap_L4 (v_sent : Int32) (v_there : Nat → Int32) (x1 : Int32) : Nat → (Int32) → (Int32) → Option (Int32)
  | 0, _, _ => none
  | n + 1, x2, x3 =>
    if v_sent ≤ x3 then
      some (-1)
    else
      if dk_in x3 5010 then
      if (v_there x3.toNatClampNeg) = 0 then
        if x3 = 0 then
          if x2 = x1 then
            some x3
          else
            fX3_firstOfGap_L4 v_sent v_there x1 n (x2 + 1) (x3 + 1)
        else
          if dk_in (x3 - 1) 5010 then
          if ((if (v_there (x3 - 1).toNatClampNeg) = 0 then 0 else 1) : Int32) = 0 then
            if ((if (v_there (x3 - 1).toNatClampNeg) = 0 then 0 else 1) : Int32) = 0 then
              fX3_firstOfGap_L4 v_sent v_there x1 n x2 (x3 + 1)
            else
              fX3_firstOfGap_L4 v_sent v_there x1 n (x2 + 1) (x3 + 1)
          else
            if x2 = x1 then
              some x3
            else
              if ((if (v_there (x3 - 1).toNatClampNeg) = 0 then 0 else 1) : Int32) = 0 then
                fX3_firstOfGap_L4 v_sent v_there x1 n x2 (x3 + 1)
              else
                fX3_firstOfGap_L4 v_sent v_there x1 n (x2 + 1) (x3 + 1)
          else none
      else
        fX3_firstOfGap_L4 v_sent v_there x1 n x2 (x3 + 1)
      else none
def fX3_firstOfGap (v_sent : Int32) (v_there : Nat → Int32) (p1 : Int32) : Option (Int32) :=
  fX3_firstOfGap_L4 v_sent v_there p1 dkF 0 0
set_option maxHeartbeats 4000000 in
set_option maxRecDepth 100000 in
theorem lX3_firstOfGap_4 {p : Program} {l : Launch} {e : Env} {s : State} {m : MethodId} {below : List Frame} {meth : Method} {c : Code} {args : Array Value} {D : va_G} {k : Nat → ClassId} {h0 : Nat} {a_there : Nat} {v_sent : Int32} {v_present : Int32} {v_lineUp : Int32} {v_there : Nat → Int32} {x1 : Int32} {o : Int32} (C : dk_Cx p s m meth c cX3_firstOfGap (some .int) 5 "ServiceDisk$SecondRoom" dkB args) (hK : va_K D vwCl (dkT k) s) (hN : dk_N s) (hP : va_P D vwCl [(h0, .inr (3, [.ref a_there, .int v_sent, .int v_present, .int v_lineUp])), (a_there, .inl ((k 1), 5010, .inl v_there))] s.heap) :
    ∀ (n : Nat) (x2 : Int32) (x3 : Int32), fX3_firstOfGap_L4 v_sent v_there x1 n x2 x3 = some o → ∀ ls : Array Slot, lv_has ls 5 [(0, .ref h0), (1, .int x1), (2, .int x2), (3, .int x3)] → W p l e { frames := 0, cells := 0, slots := 0, locals := 0 } s m args below meth c s.heap [] 0 0 (MQ below (vp_Si (fun r => r = o)) args s 0 0 (fun _ => False)) (F0 m 4 ls []) := by
  obtain ⟨hx, hb, hr, hml, hown, hts, hlocks⟩ := id C
  intro n
  induction n with
  | zero =>
    intro x2 x3 h
    exact dk_n (o := o) h
  | succ n ih =>
    intro x2 x3 h ls hl
    rw [fX3_firstOfGap_L4.eq_2] at h
    refine lv_iload_n hx hb dX3_firstOfGap_4 rfl (lv_at hl 3 rfl) ?_
    refine lv_aload_n hx hb dX3_firstOfGap_5 rfl (lv_at hl 0 rfl) ?_
    refine va_get (D := D) (ci := 3) (v := .int v_sent) (C := "ServiceDisk$SecondRoom") (T := TX3) (N := 4) hx hb hts inX3 hown hK hP 0 rfl rfl 1 (by decide) (hts _ w_143) (fun _ h9 => h9) rfl dX3_firstOfGap_6 ?_
    refine lv_icmp_ge (tgt := 69) hx hb dX3_firstOfGap_9 (by decide) (fun q => ?_) (fun q => ?_)
    · replace h := dk_t q h
      refine lv_iconst (v := -1) hx hb dX3_firstOfGap_69 (by decide) ?_
      have h := dk_r h
      subst h
      exact dk_rri hx hb hr hlocks dX3_firstOfGap_70 rfl
    · replace h := dk_f q h
      refine lv_aload_n hx hb dX3_firstOfGap_12 rfl (lv_at hl 0 rfl) ?_
      refine va_get (D := D) (ci := 3) (v := .ref a_there) (C := "ServiceDisk$SecondRoom") (T := TX3) (N := 4) hx hb hts inX3 hown hK hP 0 rfl rfl 0 (by decide) (hts _ w_142) (fun _ h9 => h9) rfl dX3_firstOfGap_13 ?_
      refine lv_iload_n hx hb dX3_firstOfGap_16 rfl (lv_at hl 3 rfl) ?_
      obtain ⟨q, h⟩ := dk_g h
      refine va_zald hx hb hK hP 1 1 rfl rfl q dX3_firstOfGap_17 ?_
      refine lv_if_ne (tgt := 40) hx hb dX3_firstOfGap_18 (by decide) (fun q => ?_) (fun q => ?_)
      · replace h := dk_f q h
        refine lv_iconst (v := 0) hx hb dX3_firstOfGap_40 (by decide) ?_
        refine lv_istore (lv' := [(4, .int 0), (0, .ref h0), (1, .int x1), (2, .int x2), (3, .int x3)]) hx hb dX3_firstOfGap_41 hl (by decide) rfl (fun ls hl => ?_)
        refine lv_iload hx hb dX3_firstOfGap_43 (lv_at hl 0 rfl) ?_
        refine lv_if_eq (tgt := 55) hx hb dX3_firstOfGap_45 (by decide) (fun _ => ?_) (fun q => absurd q (by decide))
        refine lv_iload hx hb dX3_firstOfGap_55 (lv_at hl 0 rfl) ?_
        refine lv_if_eq (tgt := 63) hx hb dX3_firstOfGap_57 (by decide) (fun _ => ?_) (fun q => absurd q (by decide))
        refine lv_iinc (v := (x3 + 1)) (lv' := [(3, .int (x3 + 1)), (4, .int 0), (0, .ref h0), (1, .int x1), (2, .int x2)]) hx hb dX3_firstOfGap_63 hl (k := 4) rfl rfl (by decide) rfl (fun ls hl => ?_)
        refine lv_goto (tgt := 4) hx hb dX3_firstOfGap_66 (by decide) ?_
        exact ih x2 (x3 + 1) h ls (lv_sub hl [2, 3, 4, 0] rfl)
      · replace h := dk_t q h
        refine lv_iload_n hx hb dX3_firstOfGap_21 rfl (lv_at hl 3 rfl) ?_
        refine lv_if_eq (tgt := 36) hx hb dX3_firstOfGap_22 (by decide) (fun q => ?_) (fun q => ?_)
        · replace h := dk_t q h
          refine lv_iconst (v := 1) hx hb dX3_firstOfGap_36 (by decide) ?_
          refine lv_goto (tgt := 41) hx hb dX3_firstOfGap_37 (by decide) ?_
          refine lv_istore (lv' := [(4, .int 1), (0, .ref h0), (1, .int x1), (2, .int x2), (3, .int x3)]) hx hb dX3_firstOfGap_41 hl (by decide) rfl (fun ls hl => ?_)
          refine lv_iload hx hb dX3_firstOfGap_43 (lv_at hl 0 rfl) ?_
          refine lv_if_eq (tgt := 55) hx hb dX3_firstOfGap_45 (by decide) (fun q => absurd q (by decide)) (fun _ => ?_)
          refine lv_iload_n hx hb dX3_firstOfGap_48 rfl (lv_at hl 3 rfl) ?_
          refine lv_iload_n hx hb dX3_firstOfGap_49 rfl (lv_at hl 2 rfl) ?_
          refine lv_icmp_ne (tgt := 55) hx hb dX3_firstOfGap_50 (by decide) (fun q => ?_) (fun q => ?_)
          · replace h := dk_f q h
            refine lv_iload hx hb dX3_firstOfGap_55 (lv_at hl 0 rfl) ?_
            refine lv_if_eq (tgt := 63) hx hb dX3_firstOfGap_57 (by decide) (fun q => absurd q (by decide)) (fun _ => ?_)
            refine lv_iinc (v := (x2 + 1)) (lv' := [(2, .int (x2 + 1)), (4, .int 1), (0, .ref h0), (1, .int x1), (3, .int x3)]) hx hb dX3_firstOfGap_60 hl (k := 3) rfl rfl (by decide) rfl (fun ls hl => ?_)
            refine lv_iinc (v := (x3 + 1)) (lv' := [(3, .int (x3 + 1)), (2, .int (x2 + 1)), (4, .int 1), (0, .ref h0), (1, .int x1)]) hx hb dX3_firstOfGap_63 hl (k := 4) rfl rfl (by decide) rfl (fun ls hl => ?_)
            refine lv_goto (tgt := 4) hx hb dX3_firstOfGap_66 (by decide) ?_
            exact ih (x2 + 1) (x3 + 1) h ls (lv_sub hl [3, 4, 1, 0] rfl)
          · replace h := dk_t q h
            refine lv_iload_n hx hb dX3_firstOfGap_53 rfl (lv_at hl 4 rfl) ?_
            have h := dk_r h
            subst h
            exact dk_rri hx hb hr hlocks dX3_firstOfGap_54 rfl
        · replace h := dk_f q h
          refine lv_aload_n hx hb dX3_firstOfGap_25 rfl (lv_at hl 0 rfl) ?_
          refine va_get (D := D) (ci := 3) (v := .ref a_there) (C := "ServiceDisk$SecondRoom") (T := TX3) (N := 4) hx hb hts inX3 hown hK hP 0 rfl rfl 0 (by decide) (hts _ w_142) (fun _ h9 => h9) rfl dX3_firstOfGap_26 ?_
          refine lv_iload_n hx hb dX3_firstOfGap_29 rfl (lv_at hl 3 rfl) ?_
          refine lv_iconst (v := 1) hx hb dX3_firstOfGap_30 (by decide) ?_
          refine lv_isub hx hb dX3_firstOfGap_31 ?_
          obtain ⟨q, h⟩ := dk_g h
          refine va_zald hx hb hK hP 1 1 rfl rfl q dX3_firstOfGap_32 ?_
          refine dk_jn (F0 m 41 ls [.int (if (v_there (x3 - 1).toNatClampNeg) = 0 then 0 else 1)]) (fun K => ?_) ?_
          · refine lv_if_eq (tgt := 40) hx hb dX3_firstOfGap_33 (by decide) (fun q1 => ?_) (fun q1 => ?_)
            · refine lv_iconst (v := 0) hx hb dX3_firstOfGap_40 (by decide) ?_
              have K := K
              rw [if_pos q1] at K
              exact K
            · refine lv_iconst (v := 1) hx hb dX3_firstOfGap_36 (by decide) ?_
              refine lv_goto (tgt := 41) hx hb dX3_firstOfGap_37 (by decide) ?_
              have K := K
              rw [if_neg q1] at K
              exact K
          refine lv_istore (lv' := [(4, .int (if (v_there (x3 - 1).toNatClampNeg) = 0 then 0 else 1)), (0, .ref h0), (1, .int x1), (2, .int x2), (3, .int x3)]) hx hb dX3_firstOfGap_41 hl (by decide) rfl (fun ls hl => ?_)
          refine lv_iload hx hb dX3_firstOfGap_43 (lv_at hl 0 rfl) ?_
          refine lv_if_eq (tgt := 55) hx hb dX3_firstOfGap_45 (by decide) (fun q => ?_) (fun q => ?_)
          · replace h := dk_t q h
            refine lv_iload hx hb dX3_firstOfGap_55 (lv_at hl 0 rfl) ?_
            refine lv_if_eq (tgt := 63) hx hb dX3_firstOfGap_57 (by decide) (fun q => ?_) (fun q => ?_)
            · replace h := dk_t q h
              refine lv_iinc (v := (x3 + 1)) (lv' := [(3, .int (x3 + 1)), (4, .int (if (v_there (x3 - 1).toNatClampNeg) = 0 then 0 else 1)), (0, .ref h0), (1, .int x1), (2, .int x2)]) hx hb dX3_firstOfGap_63 hl (k := 4) rfl rfl (by decide) rfl (fun ls hl => ?_)
              refine lv_goto (tgt := 4) hx hb dX3_firstOfGap_66 (by decide) ?_
              exact ih x2 (x3 + 1) h ls (lv_sub hl [2, 3, 4, 0] rfl)
            · replace h := dk_f q h
              refine lv_iinc (v := (x2 + 1)) (lv' := [(2, .int (x2 + 1)), (4, .int (if (v_there (x3 - 1).toNatClampNeg) = 0 then 0 else 1)), (0, .ref h0), (1, .int x1), (3, .int x3)]) hx hb dX3_firstOfGap_60 hl (k := 3) rfl rfl (by decide) rfl (fun ls hl => ?_)
              refine lv_iinc (v := (x3 + 1)) (lv' := [(3, .int (x3 + 1)), (2, .int (x2 + 1)), (4, .int (if (v_there (x3 - 1).toNatClampNeg) = 0 then 0 else 1)), (0, .ref h0), (1, .int x1)]) hx hb dX3_firstOfGap_63 hl (k := 4) rfl rfl (by decide) rfl (fun ls hl => ?_)
              refine lv_goto (tgt := 4) hx hb dX3_firstOfGap_66 (by decide) ?_
              exact ih (x2 + 1) (x3 + 1) h ls (lv_sub hl [3, 4, 1, 0] rfl)
          · replace h := dk_f q h
            refine lv_iload_n hx hb dX3_firstOfGap_48 rfl (lv_at hl 3 rfl) ?_
            refine lv_iload_n hx hb dX3_firstOfGap_49 rfl (lv_at hl 2 rfl) ?_
            refine lv_icmp_ne (tgt := 55) hx hb dX3_firstOfGap_50 (by decide) (fun q => ?_) (fun q => ?_)
            · replace h := dk_f q h
              refine lv_iload hx hb dX3_firstOfGap_55 (lv_at hl 0 rfl) ?_
              refine lv_if_eq (tgt := 63) hx hb dX3_firstOfGap_57 (by decide) (fun q => ?_) (fun q => ?_)
              · replace h := dk_t q h
                refine lv_iinc (v := (x3 + 1)) (lv' := [(3, .int (x3 + 1)), (4, .int (if (v_there (x3 - 1).toNatClampNeg) = 0 then 0 else 1)), (0, .ref h0), (1, .int x1), (2, .int x2)]) hx hb dX3_firstOfGap_63 hl (k := 4) rfl rfl (by decide) rfl (fun ls hl => ?_)
                refine lv_goto (tgt := 4) hx hb dX3_firstOfGap_66 (by decide) ?_
                exact ih x2 (x3 + 1) h ls (lv_sub hl [2, 3, 4, 0] rfl)
              · replace h := dk_f q h
                refine lv_iinc (v := (x2 + 1)) (lv' := [(2, .int (x2 + 1)), (4, .int (if (v_there (x3 - 1).toNatClampNeg) = 0 then 0 else 1)), (0, .ref h0), (1, .int x1), (3, .int x3)]) hx hb dX3_firstOfGap_60 hl (k := 3) rfl rfl (by decide) rfl (fun ls hl => ?_)
                refine lv_iinc (v := (x3 + 1)) (lv' := [(3, .int (x3 + 1)), (2, .int (x2 + 1)), (4, .int (if (v_there (x3 - 1).toNatClampNeg) = 0 then 0 else 1)), (0, .ref h0), (1, .int x1)]) hx hb dX3_firstOfGap_63 hl (k := 4) rfl rfl (by decide) rfl (fun ls hl => ?_)
                refine lv_goto (tgt := 4) hx hb dX3_firstOfGap_66 (by decide) ?_
                exact ih (x2 + 1) (x3 + 1) h ls (lv_sub hl [3, 4, 1, 0] rfl)
            · replace h := dk_t q h
              refine lv_iload_n hx hb dX3_firstOfGap_53 rfl (lv_at hl 4 rfl) ?_
              have h := dk_r h
              subst h
              exact dk_rri hx hb hr hlocks dX3_firstOfGap_54 rfl
set_option maxHeartbeats 4000000 in
set_option maxRecDepth 100000 in
theorem mX3_firstOfGap (l : Launch) (D : va_G) (k : Nat → ClassId) (h0 a_there : Nat) (v_sent : Int32) (v_present : Int32) (v_lineUp : Int32) (v_there : Nat → Int32) (p1 : Int32) (o : Int32) (h : fX3_firstOfGap v_sent v_there p1 = some o) : Met l yX3_firstOfGap wsX3_firstOfGap { frames := 0, cells := 0, slots := 0, locals := 0 } (dk_Pr D k [.ref h0, .int p1] [(h0, .inr (3, [.ref a_there, .int v_sent, .int v_present, .int v_lineUp])), (a_there, .inl ((k 1), 5010, .inl v_there))]) (vp_Si (fun r => r = o)) 0 0 (fun _ => False) := by
  unfold fX3_firstOfGap at h
  refine dk_ofR (cc := cX3_firstOfGap) (maxL := 5) (ret := (some .int)) (lv := [(0, .ref h0), (1, .int p1)]) (by decide) rfl (Nat.le_of_ble_eq_true rfl) rfl ?_
  intro p e s m below meth c C hK hN hP ls hl
  obtain ⟨hx, hb, hr, hml, hown, hts, hlocks⟩ := id C
  refine lv_iconst (v := 0) hx hb dX3_firstOfGap_0 (by decide) ?_
  refine lv_istore_n (lv' := [(2, .int 0), (0, .ref h0), (1, .int p1)]) hx hb dX3_firstOfGap_1 rfl hl (by decide) rfl (fun ls hl => ?_)
  refine lv_iconst (v := 0) hx hb dX3_firstOfGap_2 (by decide) ?_
  refine lv_istore_n (lv' := [(3, .int 0), (2, .int 0), (0, .ref h0), (1, .int p1)]) hx hb dX3_firstOfGap_3 rfl hl (by decide) rfl (fun ls hl => ?_)
  exact lX3_firstOfGap_4 C hK hN hP _ 0 0 h ls (lv_sub hl [2, 3, 1, 0] rfl)
/-! ServiceDisk$SecondRoom.missingFrom(I)I: ro, frames 1, locals 21 -/
def fX3_missingFrom_L6 (v_sent : Int32) (v_there : Nat → Int32) (x1 : Int32) : Nat → (Int32) → Option (Int32)
  | 0, _ => none
  | n + 1, x2 =>
    if v_sent ≤ x2 then
      some x2
    else
      if dk_in x2 5010 then
      if (v_there x2.toNatClampNeg) = 0 then
        fX3_missingFrom_L6 v_sent v_there x1 n (x2 + 1)
      else
        some x2
      else none
def fX3_missingFrom (v_sent : Int32) (v_there : Nat → Int32) (p1 : Int32) : Option (Int32) :=
  (fX3_missingFrom_L6 v_sent v_there p1 dkF (if p1 < 0 then 0 else p1)).bind fun o1 =>
  some (o1 - p1)
set_option maxHeartbeats 4000000 in
set_option maxRecDepth 100000 in
theorem lX3_missingFrom_6 {p : Program} {l : Launch} {e : Env} {s : State} {m : MethodId} {below : List Frame} {meth : Method} {c : Code} {args : Array Value} {D : va_G} {k : Nat → ClassId} {h0 : Nat} {a_there : Nat} {v_sent : Int32} {v_present : Int32} {v_lineUp : Int32} {v_there : Nat → Int32} {x1 : Int32} {Q : State → Prop} {o : Int32} (C : dk_Cx p s m meth c cX3_missingFrom (some .int) 3 "ServiceDisk$SecondRoom" dkB args) (hK : va_K D vwCl (dkT k) s) (hN : dk_N s) (hP : va_P D vwCl [(h0, .inr (3, [.ref a_there, .int v_sent, .int v_present, .int v_lineUp])), (a_there, .inl ((k 1), 5010, .inl v_there))] s.heap) :
    ∀ (n : Nat) (x2 : Int32), fX3_missingFrom_L6 v_sent v_there x1 n x2 = some o → (∀ ls : Array Slot, lv_has ls 3 [(0, .ref h0), (1, .int x1), (2, .int o)] → W p l e { frames := 1, cells := 0, slots := 0, locals := 21 } s m args below meth c s.heap [] 0 0 Q (F0 m 29 ls [])) → ∀ ls : Array Slot, lv_has ls 3 [(0, .ref h0), (1, .int x1), (2, .int x2)] → W p l e { frames := 1, cells := 0, slots := 0, locals := 21 } s m args below meth c s.heap [] 0 0 Q (F0 m 6 ls []) := by
  obtain ⟨hx, hb, hr, hml, hown, hts, hlocks⟩ := id C
  intro n
  induction n with
  | zero =>
    intro x2 h
    exact dk_n (o := o) h
  | succ n ih =>
    intro x2 h K ls hl
    rw [fX3_missingFrom_L6.eq_2] at h
    refine lv_iload_n hx hb dX3_missingFrom_6 rfl (lv_at hl 2 rfl) ?_
    refine lv_aload_n hx hb dX3_missingFrom_7 rfl (lv_at hl 0 rfl) ?_
    refine va_get (D := D) (ci := 3) (v := .int v_sent) (C := "ServiceDisk$SecondRoom") (T := TX3) (N := 4) hx hb hts inX3 hown hK hP 0 rfl rfl 1 (by decide) (hts _ w_143) (fun _ h9 => h9) rfl dX3_missingFrom_8 ?_
    refine lv_icmp_ge (tgt := 29) hx hb dX3_missingFrom_11 (by decide) (fun q => ?_) (fun q => ?_)
    · replace h := dk_t q h
      have h := dk_r h
      subst h
      exact K ls (lv_sub hl [0, 1, 2] rfl)
    · replace h := dk_f q h
      refine lv_aload_n hx hb dX3_missingFrom_14 rfl (lv_at hl 0 rfl) ?_
      refine va_get (D := D) (ci := 3) (v := .ref a_there) (C := "ServiceDisk$SecondRoom") (T := TX3) (N := 4) hx hb hts inX3 hown hK hP 0 rfl rfl 0 (by decide) (hts _ w_142) (fun _ h9 => h9) rfl dX3_missingFrom_15 ?_
      refine lv_iload_n hx hb dX3_missingFrom_18 rfl (lv_at hl 2 rfl) ?_
      obtain ⟨q, h⟩ := dk_g h
      refine va_zald hx hb hK hP 1 1 rfl rfl q dX3_missingFrom_19 ?_
      refine lv_if_ne (tgt := 29) hx hb dX3_missingFrom_20 (by decide) (fun q => ?_) (fun q => ?_)
      · replace h := dk_f q h
        have h := dk_r h
        subst h
        exact K ls (lv_sub hl [0, 1, 2] rfl)
      · replace h := dk_t q h
        refine lv_iinc (v := (x2 + 1)) (lv' := [(2, .int (x2 + 1)), (0, .ref h0), (1, .int x1)]) hx hb dX3_missingFrom_23 hl (k := 2) rfl rfl (by decide) rfl (fun ls hl => ?_)
        refine lv_goto (tgt := 6) hx hb dX3_missingFrom_26 (by decide) ?_
        exact ih (x2 + 1) h K ls (lv_sub hl [1, 2, 0] rfl)
set_option maxHeartbeats 4000000 in
set_option maxRecDepth 100000 in
theorem mX3_missingFrom (l : Launch) (D : va_G) (k : Nat → ClassId) (h0 a_there : Nat) (v_sent : Int32) (v_present : Int32) (v_lineUp : Int32) (v_there : Nat → Int32) (p1 : Int32) (o : Int32) (h : fX3_missingFrom v_sent v_there p1 = some o) : Met l yX3_missingFrom wsX3_missingFrom { frames := 1, cells := 0, slots := 0, locals := 21 } (dk_Pr D k [.ref h0, .int p1] [(h0, .inr (3, [.ref a_there, .int v_sent, .int v_present, .int v_lineUp])), (a_there, .inl ((k 1), 5010, .inl v_there))]) (vp_Si (fun r => r = o)) 0 0 (fun _ => False) := by
  unfold fX3_missingFrom at h
  refine dk_ofR (cc := cX3_missingFrom) (maxL := 3) (ret := (some .int)) (lv := [(0, .ref h0), (1, .int p1)]) (by decide) rfl (Nat.le_of_ble_eq_true rfl) rfl ?_
  intro p e s m below meth c C hK hN hP ls hl
  obtain ⟨hx, hb, hr, hml, hown, hts, hlocks⟩ := id C
  refine lv_iload_n hx hb dX3_missingFrom_0 rfl (lv_at hl 1 rfl) ?_
  refine lv_iconst (v := 0) hx hb dX3_missingFrom_1 (by decide) ?_
  refine va_mmax hx hb (hml.trans hl.1.symm) hown (hts _ w_705) (hts _ w_452) (hts _ w_55) (hts _ w_453) (Nat.le_of_ble_eq_true rfl) (Nat.le_of_ble_eq_true rfl) (Nat.zero_le _) (Nat.zero_le _) dX3_missingFrom_2 ?_
  refine lv_istore_n (lv' := [(2, .int (if p1 < 0 then 0 else p1)), (0, .ref h0), (1, .int p1)]) hx hb dX3_missingFrom_5 rfl hl (by decide) rfl (fun ls hl => ?_)
  replace h := dk_b h
  obtain ⟨o1, e1, h⟩ := h
  refine lX3_missingFrom_6 C hK hN hP _ (if p1 < 0 then 0 else p1)  e1 (fun ls hl => ?_) ls (lv_sub hl [1, 2, 0] rfl)
  have hl : lv_has ls 3 [(0, .ref h0), (1, .int p1), (2, .int o1)] := hl
  refine lv_iload_n hx hb dX3_missingFrom_29 rfl (lv_at hl 2 rfl) ?_
  refine lv_iload_n hx hb dX3_missingFrom_30 rfl (lv_at hl 1 rfl) ?_
  refine lv_isub hx hb dX3_missingFrom_31 ?_
  have h := dk_r h
  subst h
  exact dk_rri hx hb hr hlocks dX3_missingFrom_32 rfl
/-! ServiceDisk$Waiting.clear()V: rw, frames 0, locals 0 -/
def fX4_clear  : Option (Int32) :=
  some 0
set_option maxHeartbeats 4000000 in
set_option maxRecDepth 100000 in
theorem mX4_clear (l : Launch) (D : va_G) (k : Nat → ClassId) (h0 a_kinds a_lengths a_values : Nat) (sz : Nat) (v_size : Int32) (v_kinds : Nat → Int32) (v_lengths : Nat → Int32) (v_values : Nat → Int64) (o : Int32) (h : fX4_clear  = some o) : Met l yX4_clear wsX4_clear { frames := 0, cells := 0, slots := 0, locals := 0 } (dk_Pw D k [.ref h0] [(h0, .inr (4, [.ref a_kinds, .ref a_lengths, .ref a_values, .int v_size])), (a_kinds, .inl ((k 2), 100, .inl v_kinds)), (a_lengths, .inl ((k 2), 100, .inl v_lengths)), (a_values, .inl ((k 3), 100, .inr (.inl v_values)))] sz) (dk_Qv D [(h0, .inr (4, [.ref a_kinds, .ref a_lengths, .ref a_values, .int o])), (a_kinds, .inl ((k 2), 100, .inl v_kinds)), (a_lengths, .inl ((k 2), 100, .inl v_lengths)), (a_values, .inl ((k 3), 100, .inr (.inl v_values)))] (va_A [(h0, .inr (4, [.ref a_kinds, .ref a_lengths, .ref a_values, .int v_size])), (a_kinds, .inl ((k 2), 100, .inl v_kinds)), (a_lengths, .inl ((k 2), 100, .inl v_lengths)), (a_values, .inl ((k 3), 100, .inr (.inl v_values)))] sz)) 0 0 (va_A [(h0, .inr (4, [.ref a_kinds, .ref a_lengths, .ref a_values, .int v_size])), (a_kinds, .inl ((k 2), 100, .inl v_kinds)), (a_lengths, .inl ((k 2), 100, .inl v_lengths)), (a_values, .inl ((k 3), 100, .inr (.inl v_values)))] sz) := by
  unfold fX4_clear at h
  refine dk_ofW (Qc := fun A => dk_Qv D [(h0, .inr (4, [.ref a_kinds, .ref a_lengths, .ref a_values, .int o])), (a_kinds, .inl ((k 2), 100, .inl v_kinds)), (a_lengths, .inl ((k 2), 100, .inl v_lengths)), (a_values, .inl ((k 3), 100, .inr (.inl v_values)))] A) (cc := cX4_clear) (maxL := 1) (ret := none) (lv := [(0, .ref h0)]) (by decide) rfl (Nat.le_of_ble_eq_true rfl) rfl ?_
  intro p e s m below meth c C hK hN hP A hA hD hS ls hl
  obtain ⟨hx, hb, hr, hml, hown, hts, hlocks⟩ := id C
  refine lv_aload_n hx hb dX4_clear_0 rfl (lv_at hl 0 rfl) ?_
  refine lv_iconst (v := 0) hx hb dX4_clear_1 (by decide) ?_
  refine va_put (D := D) (ci := 4) (v := .int 0) (ty := .int) (C := "ServiceDisk$Waiting") (T := TX4) (N := 4) hx hb hts inX4 tyX4 tyX4_ok nmX4 hown hK hP hD hS 0 rfl rfl 3 (by decide) (hts _ w_111) (fun _ h9 => h9) rfl (by decide +kernel) rfl rfl (Nat.le_of_ble_eq_true rfl) dX4_clear_2 (fun H locs hP hD hS => ?_)
  have hP : va_P D vwCl [(h0, .inr (4, [.ref a_kinds, .ref a_lengths, .ref a_values, .int 0])), (a_kinds, .inl ((k 2), 100, .inl v_kinds)), (a_lengths, .inl ((k 2), 100, .inl v_lengths)), (a_values, .inl ((k 3), 100, .inr (.inl v_values)))] H := hP
  have hD : va_D A [(h0, .inr (4, [.ref a_kinds, .ref a_lengths, .ref a_values, .int 0])), (a_kinds, .inl ((k 2), 100, .inl v_kinds)), (a_lengths, .inl ((k 2), 100, .inl v_lengths)), (a_values, .inl ((k 3), 100, .inr (.inl v_values)))] := hD
  have h := dk_r h
  subst h
  exact dk_rwv hx hb hr hlocks (hP.sub [0, 1, 2, 3] rfl) (hD.sub [0, 1, 2, 3] (by decide) rfl) hS dX4_clear_5
/-! ServiceDisk$Waiting.size()I: ro, frames 0, locals 0 -/
def fX4_size (v_size : Int32) : Option (Int32) :=
  some v_size
set_option maxHeartbeats 4000000 in
set_option maxRecDepth 100000 in
theorem mX4_size (l : Launch) (D : va_G) (k : Nat → ClassId) (h0 a_kinds a_lengths a_values : Nat) (v_size : Int32) (v_kinds : Nat → Int32) (v_lengths : Nat → Int32) (v_values : Nat → Int64) (o : Int32) (h : fX4_size v_size = some o) : Met l yX4_size wsX4_size { frames := 0, cells := 0, slots := 0, locals := 0 } (dk_Pr D k [.ref h0] [(h0, .inr (4, [.ref a_kinds, .ref a_lengths, .ref a_values, .int v_size])), (a_kinds, .inl ((k 2), 100, .inl v_kinds)), (a_lengths, .inl ((k 2), 100, .inl v_lengths)), (a_values, .inl ((k 3), 100, .inr (.inl v_values)))]) (vp_Si (fun r => r = o)) 0 0 (fun _ => False) := by
  unfold fX4_size at h
  refine dk_ofR (cc := cX4_size) (maxL := 1) (ret := (some .int)) (lv := [(0, .ref h0)]) (by decide) rfl (Nat.le_of_ble_eq_true rfl) rfl ?_
  intro p e s m below meth c C hK hN hP ls hl
  obtain ⟨hx, hb, hr, hml, hown, hts, hlocks⟩ := id C
  refine lv_aload_n hx hb dX4_size_0 rfl (lv_at hl 0 rfl) ?_
  refine va_get (D := D) (ci := 4) (v := .int v_size) (C := "ServiceDisk$Waiting") (T := TX4) (N := 4) hx hb hts inX4 hown hK hP 0 rfl rfl 3 (by decide) (hts _ w_111) (fun _ h9 => h9) rfl dX4_size_1 ?_
  have h := dk_r h
  subst h
  exact dk_rri hx hb hr hlocks dX4_size_4 rfl
/-! ServiceDisk$Waiting.isFull()Z: ro, frames 0, locals 0 -/
def fX4_isFull (v_size : Int32) : Option (Int32) :=
  if dk_01 (if v_size < (100 : Int32) then 0 else 1) then some (if v_size < (100 : Int32) then 0 else 1) else none
set_option maxHeartbeats 4000000 in
set_option maxRecDepth 100000 in
theorem mX4_isFull (l : Launch) (D : va_G) (k : Nat → ClassId) (h0 a_kinds a_lengths a_values : Nat) (v_size : Int32) (v_kinds : Nat → Int32) (v_lengths : Nat → Int32) (v_values : Nat → Int64) (o : Int32) (h : fX4_isFull v_size = some o) : Met l yX4_isFull wsX4_isFull { frames := 0, cells := 0, slots := 0, locals := 0 } (dk_Pr D k [.ref h0] [(h0, .inr (4, [.ref a_kinds, .ref a_lengths, .ref a_values, .int v_size])), (a_kinds, .inl ((k 2), 100, .inl v_kinds)), (a_lengths, .inl ((k 2), 100, .inl v_lengths)), (a_values, .inl ((k 3), 100, .inr (.inl v_values)))]) (vp_Si (fun r => r = o)) 0 0 (fun _ => False) := by
  unfold fX4_isFull at h
  refine dk_ofR (cc := cX4_isFull) (maxL := 1) (ret := (some .boolean)) (lv := [(0, .ref h0)]) (by decide) rfl (Nat.le_of_ble_eq_true rfl) rfl ?_
  intro p e s m below meth c C hK hN hP ls hl
  obtain ⟨hx, hb, hr, hml, hown, hts, hlocks⟩ := id C
  refine lv_aload_n hx hb dX4_isFull_0 rfl (lv_at hl 0 rfl) ?_
  refine va_get (D := D) (ci := 4) (v := .int v_size) (C := "ServiceDisk$Waiting") (T := TX4) (N := 4) hx hb hts inX4 hown hK hP 0 rfl rfl 3 (by decide) (hts _ w_111) (fun _ h9 => h9) rfl dX4_isFull_1 ?_
  refine lv_bipush (v := 100) hx hb dX4_isFull_4 (by decide) ?_
  refine dk_jn (F0 m 14 ls [.int (if v_size < (100 : Int32) then 0 else 1)]) (fun K => ?_) ?_
  · refine lv_icmp_lt (tgt := 13) hx hb dX4_isFull_6 (by decide) (fun q1 => ?_) (fun q1 => ?_)
    · refine lv_iconst (v := 0) hx hb dX4_isFull_13 (by decide) ?_
      have K := K
      rw [if_pos q1] at K
      exact K
    · refine lv_iconst (v := 1) hx hb dX4_isFull_9 (by decide) ?_
      refine lv_goto (tgt := 14) hx hb dX4_isFull_10 (by decide) ?_
      have K := K
      rw [if_neg q1] at K
      exact K
  obtain ⟨q, h⟩ := dk_g h
  have h := dk_r h
  subst h
  exact dk_rrz hx hb hr q hlocks dX4_isFull_14 rfl
/-! ServiceDisk$Waiting.add(IJI)V: rw, frames 0, locals 0 -/
def fX4_add (v_size : Int32) (v_kinds : Nat → Int32) (v_lengths : Nat → Int32) (v_values : Nat → Int64) (p1 : Int32) (p2 : Int64) (p3 : Int32) : Option (Int32 × (Nat → Int32) × (Nat → Int32) × (Nat → Int64)) :=
  if (100 : Int32) ≤ v_size then
    some (v_size, v_kinds, v_lengths, v_values)
  else
    if dk_in v_size 100 then
    if dk_in v_size 100 then
    if dk_in v_size 100 then
    some ((v_size + 1), (upd v_kinds v_size.toNatClampNeg p1), (upd v_lengths v_size.toNatClampNeg p3), (vp_updL v_values v_size.toNatClampNeg p2))
    else none
    else none
    else none
set_option maxHeartbeats 4000000 in
set_option maxRecDepth 100000 in
theorem mX4_add (l : Launch) (D : va_G) (k : Nat → ClassId) (h0 a_kinds a_lengths a_values : Nat) (sz : Nat) (v_size : Int32) (v_kinds : Nat → Int32) (v_lengths : Nat → Int32) (v_values : Nat → Int64) (p1 : Int32) (p2 : Int64) (p3 : Int32) (o : Int32 × (Nat → Int32) × (Nat → Int32) × (Nat → Int64)) (h : fX4_add v_size v_kinds v_lengths v_values p1 p2 p3 = some o) : Met l yX4_add wsX4_add { frames := 0, cells := 0, slots := 0, locals := 0 } (dk_Pw D k [.ref h0, .int p1, .long p2, .int p3] [(h0, .inr (4, [.ref a_kinds, .ref a_lengths, .ref a_values, .int v_size])), (a_kinds, .inl ((k 2), 100, .inl v_kinds)), (a_lengths, .inl ((k 2), 100, .inl v_lengths)), (a_values, .inl ((k 3), 100, .inr (.inl v_values)))] sz) (dk_Qv D [(h0, .inr (4, [.ref a_kinds, .ref a_lengths, .ref a_values, .int o.1])), (a_kinds, .inl ((k 2), 100, .inl o.2.1)), (a_lengths, .inl ((k 2), 100, .inl o.2.2.1)), (a_values, .inl ((k 3), 100, .inr (.inl o.2.2.2)))] (va_A [(h0, .inr (4, [.ref a_kinds, .ref a_lengths, .ref a_values, .int v_size])), (a_kinds, .inl ((k 2), 100, .inl v_kinds)), (a_lengths, .inl ((k 2), 100, .inl v_lengths)), (a_values, .inl ((k 3), 100, .inr (.inl v_values)))] sz)) 0 0 (va_A [(h0, .inr (4, [.ref a_kinds, .ref a_lengths, .ref a_values, .int v_size])), (a_kinds, .inl ((k 2), 100, .inl v_kinds)), (a_lengths, .inl ((k 2), 100, .inl v_lengths)), (a_values, .inl ((k 3), 100, .inr (.inl v_values)))] sz) := by
  unfold fX4_add at h
  refine dk_ofW (Qc := fun A => dk_Qv D [(h0, .inr (4, [.ref a_kinds, .ref a_lengths, .ref a_values, .int o.1])), (a_kinds, .inl ((k 2), 100, .inl o.2.1)), (a_lengths, .inl ((k 2), 100, .inl o.2.2.1)), (a_values, .inl ((k 3), 100, .inr (.inl o.2.2.2)))] A) (cc := cX4_add) (maxL := 5) (ret := none) (lv := [(0, .ref h0), (1, .int p1), (2, .long p2), (4, .int p3)]) (by decide) rfl (Nat.le_of_ble_eq_true rfl) rfl ?_
  intro p e s m below meth c C hK hN hP A hA hD hS ls hl
  obtain ⟨hx, hb, hr, hml, hown, hts, hlocks⟩ := id C
  refine lv_aload_n hx hb dX4_add_0 rfl (lv_at hl 0 rfl) ?_
  refine va_get (D := D) (ci := 4) (v := .int v_size) (C := "ServiceDisk$Waiting") (T := TX4) (N := 4) hx hb hts inX4 hown hK hP 0 rfl rfl 3 (by decide) (hts _ w_111) (fun _ h9 => h9) rfl dX4_add_1 ?_
  refine lv_bipush (v := 100) hx hb dX4_add_4 (by decide) ?_
  refine lv_icmp_ge (tgt := 50) hx hb dX4_add_6 (by decide) (fun q => ?_) (fun q => ?_)
  · replace h := dk_t q h
    have h := dk_r h
    subst h
    exact dk_rwv hx hb hr hlocks (hP.sub [0, 1, 2, 3] rfl) (hD.sub [0, 1, 2, 3] (by decide) rfl) hS dX4_add_50
  · replace h := dk_f q h
    refine lv_aload_n hx hb dX4_add_9 rfl (lv_at hl 0 rfl) ?_
    refine va_get (D := D) (ci := 4) (v := .ref a_kinds) (C := "ServiceDisk$Waiting") (T := TX4) (N := 4) hx hb hts inX4 hown hK hP 0 rfl rfl 0 (by decide) (hts _ w_108) (fun _ h9 => h9) rfl dX4_add_10 ?_
    refine lv_aload_n hx hb dX4_add_13 rfl (lv_at hl 0 rfl) ?_
    refine va_get (D := D) (ci := 4) (v := .int v_size) (C := "ServiceDisk$Waiting") (T := TX4) (N := 4) hx hb hts inX4 hown hK hP 0 rfl rfl 3 (by decide) (hts _ w_111) (fun _ h9 => h9) rfl dX4_add_14 ?_
    refine lv_iload_n hx hb dX4_add_17 rfl (lv_at hl 1 rfl) ?_
    obtain ⟨q, h⟩ := dk_g h
    refine va_iast hx hb hK hP hD hS 1 2 rfl rfl q dX4_add_18 (fun H locs hP hD hS => ?_)
    have hP : va_P D vwCl [(h0, .inr (4, [.ref a_kinds, .ref a_lengths, .ref a_values, .int v_size])), (a_kinds, .inl ((k 2), 100, .inl (upd v_kinds v_size.toNatClampNeg p1))), (a_lengths, .inl ((k 2), 100, .inl v_lengths)), (a_values, .inl ((k 3), 100, .inr (.inl v_values)))] H := hP
    have hD : va_D A [(h0, .inr (4, [.ref a_kinds, .ref a_lengths, .ref a_values, .int v_size])), (a_kinds, .inl ((k 2), 100, .inl (upd v_kinds v_size.toNatClampNeg p1))), (a_lengths, .inl ((k 2), 100, .inl v_lengths)), (a_values, .inl ((k 3), 100, .inr (.inl v_values)))] := hD
    refine lv_aload_n hx hb dX4_add_19 rfl (lv_at hl 0 rfl) ?_
    refine va_get (D := D) (ci := 4) (v := .ref a_lengths) (C := "ServiceDisk$Waiting") (T := TX4) (N := 4) hx hb hts inX4 hown hK hP 0 rfl rfl 1 (by decide) (hts _ w_109) (fun _ h9 => h9) rfl dX4_add_20 ?_
    refine lv_aload_n hx hb dX4_add_23 rfl (lv_at hl 0 rfl) ?_
    refine va_get (D := D) (ci := 4) (v := .int v_size) (C := "ServiceDisk$Waiting") (T := TX4) (N := 4) hx hb hts inX4 hown hK hP 0 rfl rfl 3 (by decide) (hts _ w_111) (fun _ h9 => h9) rfl dX4_add_24 ?_
    refine lv_iload hx hb dX4_add_27 (lv_at hl 3 rfl) ?_
    obtain ⟨q, h⟩ := dk_g h
    refine va_iast hx hb hK hP hD hS 2 2 rfl rfl q dX4_add_29 (fun H locs hP hD hS => ?_)
    have hP : va_P D vwCl [(h0, .inr (4, [.ref a_kinds, .ref a_lengths, .ref a_values, .int v_size])), (a_kinds, .inl ((k 2), 100, .inl (upd v_kinds v_size.toNatClampNeg p1))), (a_lengths, .inl ((k 2), 100, .inl (upd v_lengths v_size.toNatClampNeg p3))), (a_values, .inl ((k 3), 100, .inr (.inl v_values)))] H := hP
    have hD : va_D A [(h0, .inr (4, [.ref a_kinds, .ref a_lengths, .ref a_values, .int v_size])), (a_kinds, .inl ((k 2), 100, .inl (upd v_kinds v_size.toNatClampNeg p1))), (a_lengths, .inl ((k 2), 100, .inl (upd v_lengths v_size.toNatClampNeg p3))), (a_values, .inl ((k 3), 100, .inr (.inl v_values)))] := hD
    refine lv_aload_n hx hb dX4_add_30 rfl (lv_at hl 0 rfl) ?_
    refine va_get (D := D) (ci := 4) (v := .ref a_values) (C := "ServiceDisk$Waiting") (T := TX4) (N := 4) hx hb hts inX4 hown hK hP 0 rfl rfl 2 (by decide) (hts _ w_110) (fun _ h9 => h9) rfl dX4_add_31 ?_
    refine lv_aload_n hx hb dX4_add_34 rfl (lv_at hl 0 rfl) ?_
    refine va_get (D := D) (ci := 4) (v := .int v_size) (C := "ServiceDisk$Waiting") (T := TX4) (N := 4) hx hb hts inX4 hown hK hP 0 rfl rfl 3 (by decide) (hts _ w_111) (fun _ h9 => h9) rfl dX4_add_35 ?_
    refine lv_lload_n hx hb dX4_add_38 rfl (lv_at hl 2 rfl) ?_
    obtain ⟨q, h⟩ := dk_g h
    refine va_last hx hb hK hP hD hS 3 3 rfl rfl q dX4_add_39 (fun H locs hP hD hS => ?_)
    have hP : va_P D vwCl [(h0, .inr (4, [.ref a_kinds, .ref a_lengths, .ref a_values, .int v_size])), (a_kinds, .inl ((k 2), 100, .inl (upd v_kinds v_size.toNatClampNeg p1))), (a_lengths, .inl ((k 2), 100, .inl (upd v_lengths v_size.toNatClampNeg p3))), (a_values, .inl ((k 3), 100, .inr (.inl (vp_updL v_values v_size.toNatClampNeg p2))))] H := hP
    have hD : va_D A [(h0, .inr (4, [.ref a_kinds, .ref a_lengths, .ref a_values, .int v_size])), (a_kinds, .inl ((k 2), 100, .inl (upd v_kinds v_size.toNatClampNeg p1))), (a_lengths, .inl ((k 2), 100, .inl (upd v_lengths v_size.toNatClampNeg p3))), (a_values, .inl ((k 3), 100, .inr (.inl (vp_updL v_values v_size.toNatClampNeg p2))))] := hD
    refine lv_aload_n hx hb dX4_add_40 rfl (lv_at hl 0 rfl) ?_
    refine lv_dup hx hb dX4_add_41 rfl ?_
    refine va_get (D := D) (ci := 4) (v := .int v_size) (C := "ServiceDisk$Waiting") (T := TX4) (N := 4) hx hb hts inX4 hown hK hP 0 rfl rfl 3 (by decide) (hts _ w_111) (fun _ h9 => h9) rfl dX4_add_42 ?_
    refine lv_iconst (v := 1) hx hb dX4_add_45 (by decide) ?_
    refine lv_iadd hx hb dX4_add_46 ?_
    refine va_put (D := D) (ci := 4) (v := .int (v_size + 1)) (ty := .int) (C := "ServiceDisk$Waiting") (T := TX4) (N := 4) hx hb hts inX4 tyX4 tyX4_ok nmX4 hown hK hP hD hS 0 rfl rfl 3 (by decide) (hts _ w_111) (fun _ h9 => h9) rfl (by decide +kernel) rfl rfl (Nat.le_of_ble_eq_true rfl) dX4_add_47 (fun H locs hP hD hS => ?_)
    have hP : va_P D vwCl [(h0, .inr (4, [.ref a_kinds, .ref a_lengths, .ref a_values, .int (v_size + 1)])), (a_kinds, .inl ((k 2), 100, .inl (upd v_kinds v_size.toNatClampNeg p1))), (a_lengths, .inl ((k 2), 100, .inl (upd v_lengths v_size.toNatClampNeg p3))), (a_values, .inl ((k 3), 100, .inr (.inl (vp_updL v_values v_size.toNatClampNeg p2))))] H := hP
    have hD : va_D A [(h0, .inr (4, [.ref a_kinds, .ref a_lengths, .ref a_values, .int (v_size + 1)])), (a_kinds, .inl ((k 2), 100, .inl (upd v_kinds v_size.toNatClampNeg p1))), (a_lengths, .inl ((k 2), 100, .inl (upd v_lengths v_size.toNatClampNeg p3))), (a_values, .inl ((k 3), 100, .inr (.inl (vp_updL v_values v_size.toNatClampNeg p2))))] := hD
    have h := dk_r h
    subst h
    exact dk_rwv hx hb hr hlocks (hP.sub [0, 1, 2, 3] rfl) (hD.sub [0, 1, 2, 3] (by decide) rfl) hS dX4_add_50
/-! ServiceDisk$Waiting.kindOf(I)I: ro, frames 0, locals 0 -/
def fX4_kindOf (v_size : Int32) (v_kinds : Nat → Int32) (p1 : Int32) : Option (Int32) :=
  if p1 < 0 then
    some 0
  else
    if v_size ≤ p1 then
      some 0
    else
      if dk_in p1 100 then
      some (v_kinds p1.toNatClampNeg)
      else none
set_option maxHeartbeats 4000000 in
set_option maxRecDepth 100000 in
theorem mX4_kindOf (l : Launch) (D : va_G) (k : Nat → ClassId) (h0 a_kinds a_lengths a_values : Nat) (v_size : Int32) (v_kinds : Nat → Int32) (v_lengths : Nat → Int32) (v_values : Nat → Int64) (p1 : Int32) (o : Int32) (h : fX4_kindOf v_size v_kinds p1 = some o) : Met l yX4_kindOf wsX4_kindOf { frames := 0, cells := 0, slots := 0, locals := 0 } (dk_Pr D k [.ref h0, .int p1] [(h0, .inr (4, [.ref a_kinds, .ref a_lengths, .ref a_values, .int v_size])), (a_kinds, .inl ((k 2), 100, .inl v_kinds)), (a_lengths, .inl ((k 2), 100, .inl v_lengths)), (a_values, .inl ((k 3), 100, .inr (.inl v_values)))]) (vp_Si (fun r => r = o)) 0 0 (fun _ => False) := by
  unfold fX4_kindOf at h
  refine dk_ofR (cc := cX4_kindOf) (maxL := 2) (ret := (some .int)) (lv := [(0, .ref h0), (1, .int p1)]) (by decide) rfl (Nat.le_of_ble_eq_true rfl) rfl ?_
  intro p e s m below meth c C hK hN hP ls hl
  obtain ⟨hx, hb, hr, hml, hown, hts, hlocks⟩ := id C
  refine lv_iload_n hx hb dX4_kindOf_0 rfl (lv_at hl 1 rfl) ?_
  refine lv_if_lt (tgt := 21) hx hb dX4_kindOf_1 (by decide) (fun q => ?_) (fun q => ?_)
  · replace h := dk_t q h
    refine lv_iconst (v := 0) hx hb dX4_kindOf_21 (by decide) ?_
    have h := dk_r h
    subst h
    exact dk_rri hx hb hr hlocks dX4_kindOf_22 rfl
  · replace h := dk_f q h
    refine lv_iload_n hx hb dX4_kindOf_4 rfl (lv_at hl 1 rfl) ?_
    refine lv_aload_n hx hb dX4_kindOf_5 rfl (lv_at hl 0 rfl) ?_
    refine va_get (D := D) (ci := 4) (v := .int v_size) (C := "ServiceDisk$Waiting") (T := TX4) (N := 4) hx hb hts inX4 hown hK hP 0 rfl rfl 3 (by decide) (hts _ w_111) (fun _ h9 => h9) rfl dX4_kindOf_6 ?_
    refine lv_icmp_ge (tgt := 21) hx hb dX4_kindOf_9 (by decide) (fun q => ?_) (fun q => ?_)
    · replace h := dk_t q h
      refine lv_iconst (v := 0) hx hb dX4_kindOf_21 (by decide) ?_
      have h := dk_r h
      subst h
      exact dk_rri hx hb hr hlocks dX4_kindOf_22 rfl
    · replace h := dk_f q h
      refine lv_aload_n hx hb dX4_kindOf_12 rfl (lv_at hl 0 rfl) ?_
      refine va_get (D := D) (ci := 4) (v := .ref a_kinds) (C := "ServiceDisk$Waiting") (T := TX4) (N := 4) hx hb hts inX4 hown hK hP 0 rfl rfl 0 (by decide) (hts _ w_108) (fun _ h9 => h9) rfl dX4_kindOf_13 ?_
      refine lv_iload_n hx hb dX4_kindOf_16 rfl (lv_at hl 1 rfl) ?_
      obtain ⟨q, h⟩ := dk_g h
      refine va_iald hx hb hK hP 1 2 rfl rfl q dX4_kindOf_17 ?_
      refine lv_goto (tgt := 22) hx hb dX4_kindOf_18 (by decide) ?_
      have h := dk_r h
      subst h
      exact dk_rri hx hb hr hlocks dX4_kindOf_22 rfl
/-! ServiceDisk$Waiting.lengthOf(I)I: ro, frames 0, locals 0 -/
def fX4_lengthOf (v_size : Int32) (v_lengths : Nat → Int32) (p1 : Int32) : Option (Int32) :=
  if p1 < 0 then
    some 0
  else
    if v_size ≤ p1 then
      some 0
    else
      if dk_in p1 100 then
      some (v_lengths p1.toNatClampNeg)
      else none
set_option maxHeartbeats 4000000 in
set_option maxRecDepth 100000 in
theorem mX4_lengthOf (l : Launch) (D : va_G) (k : Nat → ClassId) (h0 a_kinds a_lengths a_values : Nat) (v_size : Int32) (v_kinds : Nat → Int32) (v_lengths : Nat → Int32) (v_values : Nat → Int64) (p1 : Int32) (o : Int32) (h : fX4_lengthOf v_size v_lengths p1 = some o) : Met l yX4_lengthOf wsX4_lengthOf { frames := 0, cells := 0, slots := 0, locals := 0 } (dk_Pr D k [.ref h0, .int p1] [(h0, .inr (4, [.ref a_kinds, .ref a_lengths, .ref a_values, .int v_size])), (a_kinds, .inl ((k 2), 100, .inl v_kinds)), (a_lengths, .inl ((k 2), 100, .inl v_lengths)), (a_values, .inl ((k 3), 100, .inr (.inl v_values)))]) (vp_Si (fun r => r = o)) 0 0 (fun _ => False) := by
  unfold fX4_lengthOf at h
  refine dk_ofR (cc := cX4_lengthOf) (maxL := 2) (ret := (some .int)) (lv := [(0, .ref h0), (1, .int p1)]) (by decide) rfl (Nat.le_of_ble_eq_true rfl) rfl ?_
  intro p e s m below meth c C hK hN hP ls hl
  obtain ⟨hx, hb, hr, hml, hown, hts, hlocks⟩ := id C
  refine lv_iload_n hx hb dX4_lengthOf_0 rfl (lv_at hl 1 rfl) ?_
  refine lv_if_lt (tgt := 21) hx hb dX4_lengthOf_1 (by decide) (fun q => ?_) (fun q => ?_)
  · replace h := dk_t q h
    refine lv_iconst (v := 0) hx hb dX4_lengthOf_21 (by decide) ?_
    have h := dk_r h
    subst h
    exact dk_rri hx hb hr hlocks dX4_lengthOf_22 rfl
  · replace h := dk_f q h
    refine lv_iload_n hx hb dX4_lengthOf_4 rfl (lv_at hl 1 rfl) ?_
    refine lv_aload_n hx hb dX4_lengthOf_5 rfl (lv_at hl 0 rfl) ?_
    refine va_get (D := D) (ci := 4) (v := .int v_size) (C := "ServiceDisk$Waiting") (T := TX4) (N := 4) hx hb hts inX4 hown hK hP 0 rfl rfl 3 (by decide) (hts _ w_111) (fun _ h9 => h9) rfl dX4_lengthOf_6 ?_
    refine lv_icmp_ge (tgt := 21) hx hb dX4_lengthOf_9 (by decide) (fun q => ?_) (fun q => ?_)
    · replace h := dk_t q h
      refine lv_iconst (v := 0) hx hb dX4_lengthOf_21 (by decide) ?_
      have h := dk_r h
      subst h
      exact dk_rri hx hb hr hlocks dX4_lengthOf_22 rfl
    · replace h := dk_f q h
      refine lv_aload_n hx hb dX4_lengthOf_12 rfl (lv_at hl 0 rfl) ?_
      refine va_get (D := D) (ci := 4) (v := .ref a_lengths) (C := "ServiceDisk$Waiting") (T := TX4) (N := 4) hx hb hts inX4 hown hK hP 0 rfl rfl 1 (by decide) (hts _ w_109) (fun _ h9 => h9) rfl dX4_lengthOf_13 ?_
      refine lv_iload_n hx hb dX4_lengthOf_16 rfl (lv_at hl 1 rfl) ?_
      obtain ⟨q, h⟩ := dk_g h
      refine va_iald hx hb hK hP 2 2 rfl rfl q dX4_lengthOf_17 ?_
      refine lv_goto (tgt := 22) hx hb dX4_lengthOf_18 (by decide) ?_
      have h := dk_r h
      subst h
      exact dk_rri hx hb hr hlocks dX4_lengthOf_22 rfl
/-! ServiceDisk$Waiting.bytesOf(I)J: ro, frames 0, locals 0 -/
def fX4_bytesOf (v_size : Int32) (v_values : Nat → Int64) (p1 : Int32) : Option (Int64) :=
  if p1 < 0 then
    some 0
  else
    if v_size ≤ p1 then
      some 0
    else
      if dk_in p1 100 then
      some (v_values p1.toNatClampNeg)
      else none
set_option maxHeartbeats 4000000 in
set_option maxRecDepth 100000 in
theorem mX4_bytesOf (l : Launch) (D : va_G) (k : Nat → ClassId) (h0 a_kinds a_lengths a_values : Nat) (v_size : Int32) (v_kinds : Nat → Int32) (v_lengths : Nat → Int32) (v_values : Nat → Int64) (p1 : Int32) (o : Int64) (h : fX4_bytesOf v_size v_values p1 = some o) : Met l yX4_bytesOf wsX4_bytesOf { frames := 0, cells := 0, slots := 0, locals := 0 } (dk_Pr D k [.ref h0, .int p1] [(h0, .inr (4, [.ref a_kinds, .ref a_lengths, .ref a_values, .int v_size])), (a_kinds, .inl ((k 2), 100, .inl v_kinds)), (a_lengths, .inl ((k 2), 100, .inl v_lengths)), (a_values, .inl ((k 3), 100, .inr (.inl v_values)))]) (vp_Sl (fun r => r = o)) 0 0 (fun _ => False) := by
  unfold fX4_bytesOf at h
  refine dk_ofR (cc := cX4_bytesOf) (maxL := 2) (ret := (some .long)) (lv := [(0, .ref h0), (1, .int p1)]) (by decide) rfl (Nat.le_of_ble_eq_true rfl) rfl ?_
  intro p e s m below meth c C hK hN hP ls hl
  obtain ⟨hx, hb, hr, hml, hown, hts, hlocks⟩ := id C
  refine lv_iload_n hx hb dX4_bytesOf_0 rfl (lv_at hl 1 rfl) ?_
  refine lv_if_lt (tgt := 21) hx hb dX4_bytesOf_1 (by decide) (fun q => ?_) (fun q => ?_)
  · replace h := dk_t q h
    refine lv_lconst (v := 0) hx hb dX4_bytesOf_21 (by decide) ?_
    have h := dk_r h
    subst h
    exact dk_rrl hx hb hr hlocks dX4_bytesOf_22 rfl
  · replace h := dk_f q h
    refine lv_iload_n hx hb dX4_bytesOf_4 rfl (lv_at hl 1 rfl) ?_
    refine lv_aload_n hx hb dX4_bytesOf_5 rfl (lv_at hl 0 rfl) ?_
    refine va_get (D := D) (ci := 4) (v := .int v_size) (C := "ServiceDisk$Waiting") (T := TX4) (N := 4) hx hb hts inX4 hown hK hP 0 rfl rfl 3 (by decide) (hts _ w_111) (fun _ h9 => h9) rfl dX4_bytesOf_6 ?_
    refine lv_icmp_ge (tgt := 21) hx hb dX4_bytesOf_9 (by decide) (fun q => ?_) (fun q => ?_)
    · replace h := dk_t q h
      refine lv_lconst (v := 0) hx hb dX4_bytesOf_21 (by decide) ?_
      have h := dk_r h
      subst h
      exact dk_rrl hx hb hr hlocks dX4_bytesOf_22 rfl
    · replace h := dk_f q h
      refine lv_aload_n hx hb dX4_bytesOf_12 rfl (lv_at hl 0 rfl) ?_
      refine va_get (D := D) (ci := 4) (v := .ref a_values) (C := "ServiceDisk$Waiting") (T := TX4) (N := 4) hx hb hts inX4 hown hK hP 0 rfl rfl 2 (by decide) (hts _ w_110) (fun _ h9 => h9) rfl dX4_bytesOf_13 ?_
      refine lv_iload_n hx hb dX4_bytesOf_16 rfl (lv_at hl 1 rfl) ?_
      obtain ⟨q, h⟩ := dk_g h
      refine va_lald hx hb hK hP 3 3 rfl rfl q dX4_bytesOf_17 ?_
      refine lv_goto (tgt := 22) hx hb dX4_bytesOf_18 (by decide) ?_
      have h := dk_r h
      subst h
      exact dk_rrl hx hb hr hlocks dX4_bytesOf_22 rfl
/-! ServiceDisk$Waiting.sectorsWith(I)I: ro, frames 1, locals 21 -/
def fX4_sectorsWith_L7 (v_size : Int32) (v_lengths : Nat → Int32) (x1 : Int32) : Nat → (Int32) → (Int32) → (Int32) → Option (Int32 × Int32 × Int32)
  | 0, _, _, _ => none
  | n + 1, x2, x3, x4 =>
    if v_size < x4 then
      some (x2, x3, x4)
    else
      if v_size ≤ x4 then
        if (x3 + x1) ≤ (502 : Int32) then
          fX4_sectorsWith_L7 v_size v_lengths x1 n x2 (x3 + x1) (x4 + 1)
        else
          fX4_sectorsWith_L7 v_size v_lengths x1 n (x2 + 1) (0 + x1) (x4 + 1)
      else
        (fX4_lengthOf v_size v_lengths x4).bind fun o2 =>
        if (x3 + (2 + o2)) ≤ (502 : Int32) then
          fX4_sectorsWith_L7 v_size v_lengths x1 n x2 (x3 + (2 + o2)) (x4 + 1)
        else
          fX4_sectorsWith_L7 v_size v_lengths x1 n (x2 + 1) (0 + (2 + o2)) (x4 + 1)
def fX4_sectorsWith (v_size : Int32) (v_lengths : Nat → Int32) (p1 : Int32) : Option (Int32) :=
  (fX4_sectorsWith_L7 v_size v_lengths p1 dkF 1 0 0).bind fun o1 =>
  some (o1.1)
set_option maxHeartbeats 4000000 in
set_option maxRecDepth 100000 in
theorem lX4_sectorsWith_7 {p : Program} {l : Launch} {e : Env} {s : State} {m : MethodId} {below : List Frame} {meth : Method} {c : Code} {args : Array Value} {D : va_G} {k : Nat → ClassId} {h0 : Nat} {a_kinds : Nat} {a_lengths : Nat} {a_values : Nat} {v_size : Int32} {v_kinds : Nat → Int32} {v_lengths : Nat → Int32} {v_values : Nat → Int64} {x1 : Int32} {Q : State → Prop} {o : Int32 × Int32 × Int32} (C : dk_Cx p s m meth c cX4_sectorsWith (some .int) 6 "ServiceDisk$Waiting" dkB args) (hK : va_K D vwCl (dkT k) s) (hN : dk_N s) (hP : va_P D vwCl [(h0, .inr (4, [.ref a_kinds, .ref a_lengths, .ref a_values, .int v_size])), (a_kinds, .inl ((k 2), 100, .inl v_kinds)), (a_lengths, .inl ((k 2), 100, .inl v_lengths)), (a_values, .inl ((k 3), 100, .inr (.inl v_values)))] s.heap) :
    ∀ (n : Nat) (x2 : Int32) (x3 : Int32) (x4 : Int32), fX4_sectorsWith_L7 v_size v_lengths x1 n x2 x3 x4 = some o → (∀ ls : Array Slot, lv_has ls 6 [(0, .ref h0), (1, .int x1), (2, .int o.1), (3, .int o.2.1), (4, .int o.2.2)] → W p l e { frames := 1, cells := 0, slots := 0, locals := 21 } s m args below meth c s.heap [] 0 0 Q (F0 m 65 ls [])) → ∀ ls : Array Slot, lv_has ls 6 [(0, .ref h0), (1, .int x1), (2, .int x2), (3, .int x3), (4, .int x4)] → W p l e { frames := 1, cells := 0, slots := 0, locals := 21 } s m args below meth c s.heap [] 0 0 Q (F0 m 7 ls []) := by
  obtain ⟨hx, hb, hr, hml, hown, hts, hlocks⟩ := id C
  intro n
  induction n with
  | zero =>
    intro x2 x3 x4 h
    exact dk_n (o := o) h
  | succ n ih =>
    intro x2 x3 x4 h K ls hl
    rw [fX4_sectorsWith_L7.eq_2] at h
    refine lv_iload hx hb dX4_sectorsWith_7 (lv_at hl 4 rfl) ?_
    refine lv_aload_n hx hb dX4_sectorsWith_9 rfl (lv_at hl 0 rfl) ?_
    refine va_get (D := D) (ci := 4) (v := .int v_size) (C := "ServiceDisk$Waiting") (T := TX4) (N := 4) hx hb hts inX4 hown hK hP 0 rfl rfl 3 (by decide) (hts _ w_111) (fun _ h9 => h9) rfl dX4_sectorsWith_10 ?_
    refine lv_icmp_gt (tgt := 65) hx hb dX4_sectorsWith_13 (by decide) (fun q => ?_) (fun q => ?_)
    · replace h := dk_t q h
      have h := dk_r h
      subst h
      exact K ls (lv_sub hl [0, 1, 2, 3, 4] rfl)
    · replace h := dk_f q h
      refine lv_iload hx hb dX4_sectorsWith_16 (lv_at hl 4 rfl) ?_
      refine lv_aload_n hx hb dX4_sectorsWith_18 rfl (lv_at hl 0 rfl) ?_
      refine va_get (D := D) (ci := 4) (v := .int v_size) (C := "ServiceDisk$Waiting") (T := TX4) (N := 4) hx hb hts inX4 hown hK hP 0 rfl rfl 3 (by decide) (hts _ w_111) (fun _ h9 => h9) rfl dX4_sectorsWith_19 ?_
      refine lv_icmp_ge (tgt := 36) hx hb dX4_sectorsWith_22 (by decide) (fun q => ?_) (fun q => ?_)
      · replace h := dk_t q h
        refine lv_iload_n hx hb dX4_sectorsWith_36 rfl (lv_at hl 1 rfl) ?_
        refine lv_istore (lv' := [(5, .int x1), (0, .ref h0), (1, .int x1), (2, .int x2), (3, .int x3), (4, .int x4)]) hx hb dX4_sectorsWith_37 hl (by decide) rfl (fun ls hl => ?_)
        refine lv_iload_n hx hb dX4_sectorsWith_39 rfl (lv_at hl 4 rfl) ?_
        refine lv_iload hx hb dX4_sectorsWith_40 (lv_at hl 0 rfl) ?_
        refine lv_iadd hx hb dX4_sectorsWith_42 ?_
        refine lv_sipush (v := 502) hx hb dX4_sectorsWith_43 (by decide) ?_
        refine lv_icmp_le (tgt := 54) hx hb dX4_sectorsWith_46 (by decide) (fun q => ?_) (fun q => ?_)
        · replace h := dk_t q h
          refine lv_iload_n hx hb dX4_sectorsWith_54 rfl (lv_at hl 4 rfl) ?_
          refine lv_iload hx hb dX4_sectorsWith_55 (lv_at hl 0 rfl) ?_
          refine lv_iadd hx hb dX4_sectorsWith_57 ?_
          refine lv_istore_n (lv' := [(3, .int (x3 + x1)), (5, .int x1), (0, .ref h0), (1, .int x1), (2, .int x2), (4, .int x4)]) hx hb dX4_sectorsWith_58 rfl hl (by decide) rfl (fun ls hl => ?_)
          refine lv_iinc (v := (x4 + 1)) (lv' := [(4, .int (x4 + 1)), (3, .int (x3 + x1)), (5, .int x1), (0, .ref h0), (1, .int x1), (2, .int x2)]) hx hb dX4_sectorsWith_59 hl (k := 5) rfl rfl (by decide) rfl (fun ls hl => ?_)
          refine lv_goto (tgt := 7) hx hb dX4_sectorsWith_62 (by decide) ?_
          exact ih x2 (x3 + x1) (x4 + 1) h K ls (lv_sub hl [3, 4, 5, 1, 0] rfl)
        · replace h := dk_f q h
          refine lv_iinc (v := (x2 + 1)) (lv' := [(2, .int (x2 + 1)), (5, .int x1), (0, .ref h0), (1, .int x1), (3, .int x3), (4, .int x4)]) hx hb dX4_sectorsWith_49 hl (k := 3) rfl rfl (by decide) rfl (fun ls hl => ?_)
          refine lv_iconst (v := 0) hx hb dX4_sectorsWith_52 (by decide) ?_
          refine lv_istore_n (lv' := [(3, .int 0), (2, .int (x2 + 1)), (5, .int x1), (0, .ref h0), (1, .int x1), (4, .int x4)]) hx hb dX4_sectorsWith_53 rfl hl (by decide) rfl (fun ls hl => ?_)
          refine lv_iload_n hx hb dX4_sectorsWith_54 rfl (lv_at hl 0 rfl) ?_
          refine lv_iload hx hb dX4_sectorsWith_55 (lv_at hl 2 rfl) ?_
          refine lv_iadd hx hb dX4_sectorsWith_57 ?_
          refine lv_istore_n (lv' := [(3, .int (0 + x1)), (2, .int (x2 + 1)), (5, .int x1), (0, .ref h0), (1, .int x1), (4, .int x4)]) hx hb dX4_sectorsWith_58 rfl hl (by decide) rfl (fun ls hl => ?_)
          refine lv_iinc (v := (x4 + 1)) (lv' := [(4, .int (x4 + 1)), (3, .int (0 + x1)), (2, .int (x2 + 1)), (5, .int x1), (0, .ref h0), (1, .int x1)]) hx hb dX4_sectorsWith_59 hl (k := 5) rfl rfl (by decide) rfl (fun ls hl => ?_)
          refine lv_goto (tgt := 7) hx hb dX4_sectorsWith_62 (by decide) ?_
          exact ih (x2 + 1) (0 + x1) (x4 + 1) h K ls (lv_sub hl [4, 5, 2, 1, 0] rfl)
      · replace h := dk_f q h
        refine lv_iconst (v := 2) hx hb dX4_sectorsWith_25 (by decide) ?_
        refine lv_aload_n hx hb dX4_sectorsWith_26 rfl (lv_at hl 0 rfl) ?_
        refine lv_iload hx hb dX4_sectorsWith_27 (lv_at hl 4 rfl) ?_
        replace h := dk_b h
        obtain ⟨o2, e2, h⟩ := h
        refine dk_cri (va_runV (As := [.int x4]) (rest := [.int 2]) ⟨hx, hb, hml, hown, hts⟩ (mX4_lengthOf l D k h0 a_kinds a_lengths a_values v_size v_kinds v_lengths v_values x4 o2 e2) (cwV 1 hts (dk_gV w_355 w_356 w_357 w_43 w_358) rfl rfl rfl (by decide +kernel) ⟨Nat.le_of_ble_eq_true rfl, Nat.le_of_ble_eq_true rfl⟩) (dk_pvr hK hN hP [0, 1, 2, 3] rfl rfl rfl) rfl rfl hl.1 rfl (lv_room (Nat.le_of_ble_eq_true rfl)) dX4_sectorsWith_29 ⟨Nat.le_of_ble_eq_true rfl, Nat.le_of_ble_eq_true rfl⟩) ?_
        refine lv_iadd hx hb dX4_sectorsWith_32 ?_
        refine lv_goto (tgt := 37) hx hb dX4_sectorsWith_33 (by decide) ?_
        refine lv_istore (lv' := [(5, .int (2 + o2)), (0, .ref h0), (1, .int x1), (2, .int x2), (3, .int x3), (4, .int x4)]) hx hb dX4_sectorsWith_37 hl (by decide) rfl (fun ls hl => ?_)
        refine lv_iload_n hx hb dX4_sectorsWith_39 rfl (lv_at hl 4 rfl) ?_
        refine lv_iload hx hb dX4_sectorsWith_40 (lv_at hl 0 rfl) ?_
        refine lv_iadd hx hb dX4_sectorsWith_42 ?_
        refine lv_sipush (v := 502) hx hb dX4_sectorsWith_43 (by decide) ?_
        refine lv_icmp_le (tgt := 54) hx hb dX4_sectorsWith_46 (by decide) (fun q => ?_) (fun q => ?_)
        · replace h := dk_t q h
          refine lv_iload_n hx hb dX4_sectorsWith_54 rfl (lv_at hl 4 rfl) ?_
          refine lv_iload hx hb dX4_sectorsWith_55 (lv_at hl 0 rfl) ?_
          refine lv_iadd hx hb dX4_sectorsWith_57 ?_
          refine lv_istore_n (lv' := [(3, .int (x3 + (2 + o2))), (5, .int (2 + o2)), (0, .ref h0), (1, .int x1), (2, .int x2), (4, .int x4)]) hx hb dX4_sectorsWith_58 rfl hl (by decide) rfl (fun ls hl => ?_)
          refine lv_iinc (v := (x4 + 1)) (lv' := [(4, .int (x4 + 1)), (3, .int (x3 + (2 + o2))), (5, .int (2 + o2)), (0, .ref h0), (1, .int x1), (2, .int x2)]) hx hb dX4_sectorsWith_59 hl (k := 5) rfl rfl (by decide) rfl (fun ls hl => ?_)
          refine lv_goto (tgt := 7) hx hb dX4_sectorsWith_62 (by decide) ?_
          exact ih x2 (x3 + (2 + o2)) (x4 + 1) h K ls (lv_sub hl [3, 4, 5, 1, 0] rfl)
        · replace h := dk_f q h
          refine lv_iinc (v := (x2 + 1)) (lv' := [(2, .int (x2 + 1)), (5, .int (2 + o2)), (0, .ref h0), (1, .int x1), (3, .int x3), (4, .int x4)]) hx hb dX4_sectorsWith_49 hl (k := 3) rfl rfl (by decide) rfl (fun ls hl => ?_)
          refine lv_iconst (v := 0) hx hb dX4_sectorsWith_52 (by decide) ?_
          refine lv_istore_n (lv' := [(3, .int 0), (2, .int (x2 + 1)), (5, .int (2 + o2)), (0, .ref h0), (1, .int x1), (4, .int x4)]) hx hb dX4_sectorsWith_53 rfl hl (by decide) rfl (fun ls hl => ?_)
          refine lv_iload_n hx hb dX4_sectorsWith_54 rfl (lv_at hl 0 rfl) ?_
          refine lv_iload hx hb dX4_sectorsWith_55 (lv_at hl 2 rfl) ?_
          refine lv_iadd hx hb dX4_sectorsWith_57 ?_
          refine lv_istore_n (lv' := [(3, .int (0 + (2 + o2))), (2, .int (x2 + 1)), (5, .int (2 + o2)), (0, .ref h0), (1, .int x1), (4, .int x4)]) hx hb dX4_sectorsWith_58 rfl hl (by decide) rfl (fun ls hl => ?_)
          refine lv_iinc (v := (x4 + 1)) (lv' := [(4, .int (x4 + 1)), (3, .int (0 + (2 + o2))), (2, .int (x2 + 1)), (5, .int (2 + o2)), (0, .ref h0), (1, .int x1)]) hx hb dX4_sectorsWith_59 hl (k := 5) rfl rfl (by decide) rfl (fun ls hl => ?_)
          refine lv_goto (tgt := 7) hx hb dX4_sectorsWith_62 (by decide) ?_
          exact ih (x2 + 1) (0 + (2 + o2)) (x4 + 1) h K ls (lv_sub hl [4, 5, 2, 1, 0] rfl)
set_option maxHeartbeats 4000000 in
set_option maxRecDepth 100000 in
theorem mX4_sectorsWith (l : Launch) (D : va_G) (k : Nat → ClassId) (h0 a_kinds a_lengths a_values : Nat) (v_size : Int32) (v_kinds : Nat → Int32) (v_lengths : Nat → Int32) (v_values : Nat → Int64) (p1 : Int32) (o : Int32) (h : fX4_sectorsWith v_size v_lengths p1 = some o) : Met l yX4_sectorsWith wsX4_sectorsWith { frames := 1, cells := 0, slots := 0, locals := 21 } (dk_Pr D k [.ref h0, .int p1] [(h0, .inr (4, [.ref a_kinds, .ref a_lengths, .ref a_values, .int v_size])), (a_kinds, .inl ((k 2), 100, .inl v_kinds)), (a_lengths, .inl ((k 2), 100, .inl v_lengths)), (a_values, .inl ((k 3), 100, .inr (.inl v_values)))]) (vp_Si (fun r => r = o)) 0 0 (fun _ => False) := by
  unfold fX4_sectorsWith at h
  refine dk_ofR (cc := cX4_sectorsWith) (maxL := 6) (ret := (some .int)) (lv := [(0, .ref h0), (1, .int p1)]) (by decide) rfl (Nat.le_of_ble_eq_true rfl) rfl ?_
  intro p e s m below meth c C hK hN hP ls hl
  obtain ⟨hx, hb, hr, hml, hown, hts, hlocks⟩ := id C
  refine lv_iconst (v := 1) hx hb dX4_sectorsWith_0 (by decide) ?_
  refine lv_istore_n (lv' := [(2, .int 1), (0, .ref h0), (1, .int p1)]) hx hb dX4_sectorsWith_1 rfl hl (by decide) rfl (fun ls hl => ?_)
  refine lv_iconst (v := 0) hx hb dX4_sectorsWith_2 (by decide) ?_
  refine lv_istore_n (lv' := [(3, .int 0), (2, .int 1), (0, .ref h0), (1, .int p1)]) hx hb dX4_sectorsWith_3 rfl hl (by decide) rfl (fun ls hl => ?_)
  refine lv_iconst (v := 0) hx hb dX4_sectorsWith_4 (by decide) ?_
  refine lv_istore (lv' := [(4, .int 0), (3, .int 0), (2, .int 1), (0, .ref h0), (1, .int p1)]) hx hb dX4_sectorsWith_5 hl (by decide) rfl (fun ls hl => ?_)
  replace h := dk_b h
  obtain ⟨o1, e1, h⟩ := h
  refine lX4_sectorsWith_7 C hK hN hP _ 1 0 0  e1 (fun ls hl => ?_) ls (lv_sub hl [3, 4, 2, 1, 0] rfl)
  have hl : lv_has ls 6 [(0, .ref h0), (1, .int p1), (2, .int o1.1), (3, .int o1.2.1), (4, .int o1.2.2)] := hl
  refine lv_iload_n hx hb dX4_sectorsWith_65 rfl (lv_at hl 2 rfl) ?_
  have h := dk_r h
  subst h
  exact dk_rri hx hb hr hlocks dX4_sectorsWith_66 rfl
