/-! ServiceDisk$Draft.put(IJI)V: rw, frames 0, locals 0 -/
def fX1_put_L3 (x1 : Int32) (x2 : Int64) (x4 : Int32) : Nat → (Int32) → (Nat → Int32) → Option (Int32 × (Nat → Int32))
  | 0, _, _ => none
  | n + 1, x5, v_bytes =>
    if x4 ≤ x5 then
      some (x5, v_bytes)
    else
      if (x1 + x5) < 0 then
        fX1_put_L3 x1 x2 x4 n (x5 + 1) v_bytes
      else
        if (512 : Int32) ≤ (x1 + x5) then
          fX1_put_L3 x1 x2 x4 n (x5 + 1) v_bytes
        else
          if dk_in (x1 + x5) 512 then
          fX1_put_L3 x1 x2 x4 n (x5 + 1) (upd v_bytes (x1 + x5).toNatClampNeg (vp_nar .byte (((dk_lushr x2 (8 * ((x4 - 1) - x5))).toInt32).toInt8.toInt32)))
          else none
def fX1_put (v_bytes : Nat → Int32) (p1 : Int32) (p2 : Int64) (p3 : Int32) : Option ((Nat → Int32)) :=
  (fX1_put_L3 p1 p2 p3 dkF 0 v_bytes).bind fun o1 =>
  some (o1.2)
set_option maxHeartbeats 4000000 in
set_option maxRecDepth 100000 in
theorem lX1_put_3 {p : Program} {l : Launch} {e : Env} {s : State} {m : MethodId} {below : List Frame} {meth : Method} {c : Code} {args : Array Value} {D : va_G} {k : Nat → ClassId} {h0 : Nat} {a_bytes : Nat} {v_end : Int32} {x1 : Int32} {x2 : Int64} {x4 : Int32} {Q : State → Prop} {o : Int32 × (Nat → Int32)} {A : Nat → Prop} (C : dk_Cx p s m meth c cX1_put none 7 "ServiceDisk$Draft" dkB args) (hK : va_K D vwCl (dkT k) s) (hN : dk_N s) (hA : ∀ q : Nat, s.heap.size ≤ q → A q) :
    ∀ (n : Nat) (x5 : Int32) (v_bytes : Nat → Int32), fX1_put_L3 x1 x2 x4 n x5 v_bytes = some o → (∀ (H : Heap) (locs : List Loc), va_P D vwCl [(h0, .inr (1, [.ref a_bytes, .int v_end])), (a_bytes, .inl ((k 0), 512, .inl o.2))] H → va_D A [(h0, .inr (1, [.ref a_bytes, .int v_end])), (a_bytes, .inl ((k 0), 512, .inl o.2))] → va_S A s.heap H locs → ∀ ls : Array Slot, lv_has ls 7 [(0, .ref h0), (1, .int x1), (2, .long x2), (4, .int x4), (5, .int o.1)] → W p l e { frames := 0, cells := 0, slots := 0, locals := 0 } s m args below meth c H locs 0 0 Q (F0 m 56 ls [])) → ∀ (H : Heap) (locs : List Loc), va_P D vwCl [(h0, .inr (1, [.ref a_bytes, .int v_end])), (a_bytes, .inl ((k 0), 512, .inl v_bytes))] H → va_D A [(h0, .inr (1, [.ref a_bytes, .int v_end])), (a_bytes, .inl ((k 0), 512, .inl v_bytes))] → va_S A s.heap H locs → ∀ ls : Array Slot, lv_has ls 7 [(0, .ref h0), (1, .int x1), (2, .long x2), (4, .int x4), (5, .int x5)] → W p l e { frames := 0, cells := 0, slots := 0, locals := 0 } s m args below meth c H locs 0 0 Q (F0 m 3 ls []) := by
  obtain ⟨hx, hb, hr, hml, hown, hts, hlocks⟩ := id C
  intro n
  induction n with
  | zero =>
    intro x5 v_bytes h
    exact dk_n (o := o) h
  | succ n ih =>
    intro x5 v_bytes h K H locs hP hD hS ls hl
    rw [fX1_put_L3.eq_2] at h
    refine lv_iload hx hb dX1_put_3 (lv_at hl 4 rfl) ?_
    refine lv_iload hx hb dX1_put_5 (lv_at hl 3 rfl) ?_
    refine lv_icmp_ge (tgt := 56) hx hb dX1_put_7 (by decide) (fun q => ?_) (fun q => ?_)
    · replace h := dk_t q h
      have h := dk_r h
      subst h
      exact K _ _ (hP.sub [0, 1] rfl) (hD.sub [0, 1] (by decide) rfl) hS ls (lv_sub hl [0, 1, 2, 3, 4] rfl)
    · replace h := dk_f q h
      refine lv_iload_n hx hb dX1_put_10 rfl (lv_at hl 1 rfl) ?_
      refine lv_iload hx hb dX1_put_11 (lv_at hl 4 rfl) ?_
      refine lv_iadd hx hb dX1_put_13 ?_
      refine lv_istore (lv' := [(6, .int (x1 + x5)), (0, .ref h0), (1, .int x1), (2, .long x2), (4, .int x4), (5, .int x5)]) hx hb dX1_put_14 hl (by decide) rfl (fun ls hl => ?_)
      refine lv_iload hx hb dX1_put_16 (lv_at hl 0 rfl) ?_
      refine lv_if_lt (tgt := 50) hx hb dX1_put_18 (by decide) (fun q => ?_) (fun q => ?_)
      · replace h := dk_t q h
        refine lv_iinc (v := (x5 + 1)) (lv' := [(5, .int (x5 + 1)), (6, .int (x1 + x5)), (0, .ref h0), (1, .int x1), (2, .long x2), (4, .int x4)]) hx hb dX1_put_50 hl (k := 5) rfl rfl (by decide) rfl (fun ls hl => ?_)
        refine lv_goto (tgt := 3) hx hb dX1_put_53 (by decide) ?_
        exact ih (x5 + 1) v_bytes h K _ _ (hP.sub [0, 1] rfl) (hD.sub [0, 1] (by decide) rfl) hS ls (lv_sub hl [2, 3, 4, 5, 0] rfl)
      · replace h := dk_f q h
        refine lv_iload hx hb dX1_put_21 (lv_at hl 0 rfl) ?_
        refine lv_sipush (v := 512) hx hb dX1_put_23 (by decide) ?_
        refine lv_icmp_ge (tgt := 50) hx hb dX1_put_26 (by decide) (fun q => ?_) (fun q => ?_)
        · replace h := dk_t q h
          refine lv_iinc (v := (x5 + 1)) (lv' := [(5, .int (x5 + 1)), (6, .int (x1 + x5)), (0, .ref h0), (1, .int x1), (2, .long x2), (4, .int x4)]) hx hb dX1_put_50 hl (k := 5) rfl rfl (by decide) rfl (fun ls hl => ?_)
          refine lv_goto (tgt := 3) hx hb dX1_put_53 (by decide) ?_
          exact ih (x5 + 1) v_bytes h K _ _ (hP.sub [0, 1] rfl) (hD.sub [0, 1] (by decide) rfl) hS ls (lv_sub hl [2, 3, 4, 5, 0] rfl)
        · replace h := dk_f q h
          refine lv_aload_n hx hb dX1_put_29 rfl (lv_at hl 1 rfl) ?_
          refine va_get (D := D) (ci := 1) (v := .ref a_bytes) (C := "ServiceDisk$Draft") (T := TX1) (N := 2) hx hb hts inX1 hown hK hP 0 rfl rfl 0 (by decide) (hts _ w_95) (fun _ h9 => h9) rfl dX1_put_30 ?_
          refine lv_iload hx hb dX1_put_33 (lv_at hl 0 rfl) ?_
          refine lv_lload_n hx hb dX1_put_35 rfl (lv_at hl 3 rfl) ?_
          refine lv_bipush (v := 8) hx hb dX1_put_36 (by decide) ?_
          refine lv_iload hx hb dX1_put_38 (lv_at hl 4 rfl) ?_
          refine lv_iconst (v := 1) hx hb dX1_put_40 (by decide) ?_
          refine lv_isub hx hb dX1_put_41 ?_
          refine lv_iload hx hb dX1_put_42 (lv_at hl 5 rfl) ?_
          refine lv_isub hx hb dX1_put_44 ?_
          refine lv_imul hx hb dX1_put_45 ?_
          refine lv_lushr (v := (dk_lushr x2 (8 * ((x4 - 1) - x5)))) hx hb dX1_put_46 rfl ?_
          refine lv_l2i (v := (dk_lushr x2 (8 * ((x4 - 1) - x5))).toInt32) hx hb dX1_put_47 rfl ?_
          refine lv_i2b (v := ((dk_lushr x2 (8 * ((x4 - 1) - x5))).toInt32).toInt8.toInt32) hx hb dX1_put_48 rfl ?_
          obtain ⟨q, h⟩ := dk_g h
          refine va_bast hx hb hK hP hD hS 1 0 rfl rfl q dX1_put_49 (fun H locs hP hD hS => ?_)
          have hP : va_P D vwCl [(h0, .inr (1, [.ref a_bytes, .int v_end])), (a_bytes, .inl ((k 0), 512, .inl (upd v_bytes (x1 + x5).toNatClampNeg (vp_nar .byte (((dk_lushr x2 (8 * ((x4 - 1) - x5))).toInt32).toInt8.toInt32)))))] H := hP
          have hD : va_D A [(h0, .inr (1, [.ref a_bytes, .int v_end])), (a_bytes, .inl ((k 0), 512, .inl (upd v_bytes (x1 + x5).toNatClampNeg (vp_nar .byte (((dk_lushr x2 (8 * ((x4 - 1) - x5))).toInt32).toInt8.toInt32)))))] := hD
          refine lv_iinc (v := (x5 + 1)) (lv' := [(5, .int (x5 + 1)), (6, .int (x1 + x5)), (0, .ref h0), (1, .int x1), (2, .long x2), (4, .int x4)]) hx hb dX1_put_50 hl (k := 5) rfl rfl (by decide) rfl (fun ls hl => ?_)
          refine lv_goto (tgt := 3) hx hb dX1_put_53 (by decide) ?_
          exact ih (x5 + 1) (upd v_bytes (x1 + x5).toNatClampNeg (vp_nar .byte (((dk_lushr x2 (8 * ((x4 - 1) - x5))).toInt32).toInt8.toInt32))) h K _ _ (hP.sub [0, 1] rfl) (hD.sub [0, 1] (by decide) rfl) hS ls (lv_sub hl [2, 3, 4, 5, 0] rfl)
set_option maxHeartbeats 4000000 in
set_option maxRecDepth 100000 in
theorem mX1_put (l : Launch) (D : va_G) (k : Nat → ClassId) (h0 a_bytes : Nat) (sz : Nat) (v_end : Int32) (v_bytes : Nat → Int32) (p1 : Int32) (p2 : Int64) (p3 : Int32) (o : (Nat → Int32)) (h : fX1_put v_bytes p1 p2 p3 = some o) : Met l yX1_put wsX1_put { frames := 0, cells := 0, slots := 0, locals := 0 } (dk_Pw D k [.ref h0, .int p1, .long p2, .int p3] [(h0, .inr (1, [.ref a_bytes, .int v_end])), (a_bytes, .inl ((k 0), 512, .inl v_bytes))] sz) (dk_Qv D [(h0, .inr (1, [.ref a_bytes, .int v_end])), (a_bytes, .inl ((k 0), 512, .inl o))] (va_A [(h0, .inr (1, [.ref a_bytes, .int v_end])), (a_bytes, .inl ((k 0), 512, .inl v_bytes))] sz)) 0 0 (va_A [(h0, .inr (1, [.ref a_bytes, .int v_end])), (a_bytes, .inl ((k 0), 512, .inl v_bytes))] sz) := by
  unfold fX1_put at h
  refine dk_ofW (Qc := fun A => dk_Qv D [(h0, .inr (1, [.ref a_bytes, .int v_end])), (a_bytes, .inl ((k 0), 512, .inl o))] A) (cc := cX1_put) (maxL := 7) (ret := none) (lv := [(0, .ref h0), (1, .int p1), (2, .long p2), (4, .int p3)]) (by decide) rfl (Nat.le_of_ble_eq_true rfl) rfl ?_
  intro p e s m below meth c C hK hN hP A hA hD hS ls hl
  obtain ⟨hx, hb, hr, hml, hown, hts, hlocks⟩ := id C
  refine lv_iconst (v := 0) hx hb dX1_put_0 (by decide) ?_
  refine lv_istore (lv' := [(5, .int 0), (0, .ref h0), (1, .int p1), (2, .long p2), (4, .int p3)]) hx hb dX1_put_1 hl (by decide) rfl (fun ls hl => ?_)
  replace h := dk_b h
  obtain ⟨o1, e1, h⟩ := h
  refine lX1_put_3 C hK hN hA _ 0 v_bytes  e1 (fun H locs hP hD hS ls hl => ?_) _ _ (hP.sub [0, 1] rfl) (hD.sub [0, 1] (by decide) rfl) hS ls (lv_sub hl [1, 2, 3, 4, 0] rfl)
  have hP : va_P D vwCl [(h0, .inr (1, [.ref a_bytes, .int v_end])), (a_bytes, .inl ((k 0), 512, .inl o1.2))] H := hP
  have hD : va_D A [(h0, .inr (1, [.ref a_bytes, .int v_end])), (a_bytes, .inl ((k 0), 512, .inl o1.2))] := hD
  have hl : lv_has ls 7 [(0, .ref h0), (1, .int p1), (2, .long p2), (4, .int p3), (5, .int o1.1)] := hl
  have h := dk_r h
  subst h
  exact dk_rwv hx hb hr hlocks (hP.sub [0, 1] rfl) (hD.sub [0, 1] (by decide) rfl) hS dX1_put_56
/-! ServiceDisk$Draft.hasRoomFor(I)Z: ro, frames 0, locals 0 -/
def fX1_hasRoomFor (v_end : Int32) (p1 : Int32) : Option (Int32) :=
  if dk_01 (if (508 : Int32) < (v_end + p1) then 0 else 1) then some (if (508 : Int32) < (v_end + p1) then 0 else 1) else none
set_option maxHeartbeats 4000000 in
set_option maxRecDepth 100000 in
theorem mX1_hasRoomFor (l : Launch) (D : va_G) (k : Nat → ClassId) (h0 a_bytes : Nat) (v_end : Int32) (v_bytes : Nat → Int32) (p1 : Int32) (o : Int32) (h : fX1_hasRoomFor v_end p1 = some o) : Met l yX1_hasRoomFor wsX1_hasRoomFor { frames := 0, cells := 0, slots := 0, locals := 0 } (dk_Pr D k [.ref h0, .int p1] [(h0, .inr (1, [.ref a_bytes, .int v_end])), (a_bytes, .inl ((k 0), 512, .inl v_bytes))]) (vp_Si (fun r => r = o)) 0 0 (fun _ => False) := by
  unfold fX1_hasRoomFor at h
  refine dk_ofR (cc := cX1_hasRoomFor) (maxL := 2) (ret := (some .boolean)) (lv := [(0, .ref h0), (1, .int p1)]) (by decide) rfl (Nat.le_of_ble_eq_true rfl) rfl ?_
  intro p e s m below meth c C hK hN hP ls hl
  obtain ⟨hx, hb, hr, hml, hown, hts, hlocks⟩ := id C
  refine lv_aload_n hx hb dX1_hasRoomFor_0 rfl (lv_at hl 0 rfl) ?_
  refine va_get (D := D) (ci := 1) (v := .int v_end) (C := "ServiceDisk$Draft") (T := TX1) (N := 2) hx hb hts inX1 hown hK hP 0 rfl rfl 1 (by decide) (hts _ w_96) (fun _ h9 => h9) rfl dX1_hasRoomFor_1 ?_
  refine lv_iload_n hx hb dX1_hasRoomFor_4 rfl (lv_at hl 1 rfl) ?_
  refine lv_iadd hx hb dX1_hasRoomFor_5 ?_
  refine lv_sipush (v := 508) hx hb dX1_hasRoomFor_6 (by decide) ?_
  refine dk_jn (F0 m 17 ls [.int (if (508 : Int32) < (v_end + p1) then 0 else 1)]) (fun K => ?_) ?_
  · refine lv_icmp_gt (tgt := 16) hx hb dX1_hasRoomFor_9 (by decide) (fun q1 => ?_) (fun q1 => ?_)
    · refine lv_iconst (v := 0) hx hb dX1_hasRoomFor_16 (by decide) ?_
      have K := K
      rw [if_pos q1] at K
      exact K
    · refine lv_iconst (v := 1) hx hb dX1_hasRoomFor_12 (by decide) ?_
      refine lv_goto (tgt := 17) hx hb dX1_hasRoomFor_13 (by decide) ?_
      have K := K
      rw [if_neg q1] at K
      exact K
  obtain ⟨q, h⟩ := dk_g h
  have h := dk_r h
  subst h
  exact dk_rrz hx hb hr q hlocks dX1_hasRoomFor_17 rfl
/-! ServiceDisk$Draft.append(JI)V: rw, frames 1, locals 26 -/
def fX1_append (v_end : Int32) (v_bytes : Nat → Int32) (p1 : Int64) (p2 : Int32) : Option (Int32 × (Nat → Int32)) :=
  (fX1_hasRoomFor v_end p2).bind fun o1 =>
  if o1 = 0 then
    some (v_end, v_bytes)
  else
    (fX1_put v_bytes v_end p1 p2).bind fun o2 =>
    some ((v_end + p2), o2)
set_option maxHeartbeats 4000000 in
set_option maxRecDepth 100000 in
theorem mX1_append (l : Launch) (D : va_G) (k : Nat → ClassId) (h0 a_bytes : Nat) (sz : Nat) (v_end : Int32) (v_bytes : Nat → Int32) (p1 : Int64) (p2 : Int32) (o : Int32 × (Nat → Int32)) (h : fX1_append v_end v_bytes p1 p2 = some o) : Met l yX1_append wsX1_append { frames := 1, cells := 0, slots := 0, locals := 26 } (dk_Pw D k [.ref h0, .long p1, .int p2] [(h0, .inr (1, [.ref a_bytes, .int v_end])), (a_bytes, .inl ((k 0), 512, .inl v_bytes))] sz) (dk_Qv D [(h0, .inr (1, [.ref a_bytes, .int o.1])), (a_bytes, .inl ((k 0), 512, .inl o.2))] (va_A [(h0, .inr (1, [.ref a_bytes, .int v_end])), (a_bytes, .inl ((k 0), 512, .inl v_bytes))] sz)) 0 0 (va_A [(h0, .inr (1, [.ref a_bytes, .int v_end])), (a_bytes, .inl ((k 0), 512, .inl v_bytes))] sz) := by
  unfold fX1_append at h
  refine dk_ofW (Qc := fun A => dk_Qv D [(h0, .inr (1, [.ref a_bytes, .int o.1])), (a_bytes, .inl ((k 0), 512, .inl o.2))] A) (cc := cX1_append) (maxL := 4) (ret := none) (lv := [(0, .ref h0), (1, .long p1), (3, .int p2)]) (by decide) rfl (Nat.le_of_ble_eq_true rfl) rfl ?_
  intro p e s m below meth c C hK hN hP A hA hD hS ls hl
  obtain ⟨hx, hb, hr, hml, hown, hts, hlocks⟩ := id C
  refine lv_aload_n hx hb dX1_append_0 rfl (lv_at hl 0 rfl) ?_
  refine lv_iload_n hx hb dX1_append_1 rfl (lv_at hl 2 rfl) ?_
  replace h := dk_b h
  obtain ⟨o1, e1, h⟩ := h
  refine dk_cri (va_runV (As := [.int p2]) (rest := []) ⟨hx, hb, hml, hown, hts⟩ (mX1_hasRoomFor l D k h0 a_bytes v_end v_bytes p2 o1 e1) (cwV 1 hts (dk_gV w_436 w_417 w_418 w_42 w_419) rfl rfl rfl (by decide +kernel) ⟨Nat.le_of_ble_eq_true rfl, Nat.le_of_ble_eq_true rfl⟩) (dk_pvr hK hN hP [0, 1] rfl rfl rfl) rfl rfl hl.1 rfl (lv_room (Nat.le_of_ble_eq_true rfl)) dX1_append_2 ⟨Nat.le_of_ble_eq_true rfl, Nat.le_of_ble_eq_true rfl⟩) ?_
  refine lv_if_eq (tgt := 28) hx hb dX1_append_5 (by decide) (fun q => ?_) (fun q => ?_)
  · replace h := dk_t q h
    have h := dk_r h
    subst h
    exact dk_rwv hx hb hr hlocks (hP.sub [0, 1] rfl) (hD.sub [0, 1] (by decide) rfl) hS dX1_append_28
  · replace h := dk_f q h
    refine lv_aload_n hx hb dX1_append_8 rfl (lv_at hl 0 rfl) ?_
    refine lv_aload_n hx hb dX1_append_9 rfl (lv_at hl 0 rfl) ?_
    refine va_get (D := D) (ci := 1) (v := .int v_end) (C := "ServiceDisk$Draft") (T := TX1) (N := 2) hx hb hts inX1 hown hK hP 0 rfl rfl 1 (by decide) (hts _ w_96) (fun _ h9 => h9) rfl dX1_append_10 ?_
    refine lv_lload_n hx hb dX1_append_13 rfl (lv_at hl 1 rfl) ?_
    refine lv_iload_n hx hb dX1_append_14 rfl (lv_at hl 2 rfl) ?_
    replace h := dk_b h
    obtain ⟨o2, e2, h⟩ := h
    refine dk_cwv (wr := []) (va_runV (As := [.int v_end, .long p1, .int p2]) (rest := []) ⟨hx, hb, hml, hown, hts⟩ (mX1_put l D k h0 a_bytes s.heap.size v_end v_bytes v_end p1 p2 o2 e2) (cwV 3 hts (dk_gV w_411 w_413 w_4 w_42 w_414) rfl rfl rfl (by decide +kernel) ⟨Nat.le_of_ble_eq_true rfl, Nat.le_of_ble_eq_true rfl⟩) (dk_pvw hK hN hP hD [0, 1] rfl rfl rfl rfl (hP.sub [0, 1] rfl)) rfl rfl hl.1 rfl (lv_room (Nat.le_of_ble_eq_true rfl)) dX1_append_15 ⟨Nat.le_of_ble_eq_true rfl, Nat.le_of_ble_eq_true rfl⟩) hP hD hS hA [0, 1] [] rfl rfl rfl (by decide) (fun H locs hP hD hS => ?_)
    have hP : va_P D vwCl [(h0, .inr (1, [.ref a_bytes, .int v_end])), (a_bytes, .inl ((k 0), 512, .inl o2))] H := hP
    have hD : va_D A [(h0, .inr (1, [.ref a_bytes, .int v_end])), (a_bytes, .inl ((k 0), 512, .inl o2))] := hD
    refine lv_aload_n hx hb dX1_append_18 rfl (lv_at hl 0 rfl) ?_
    refine lv_dup hx hb dX1_append_19 rfl ?_
    refine va_get (D := D) (ci := 1) (v := .int v_end) (C := "ServiceDisk$Draft") (T := TX1) (N := 2) hx hb hts inX1 hown hK hP 0 rfl rfl 1 (by decide) (hts _ w_96) (fun _ h9 => h9) rfl dX1_append_20 ?_
    refine lv_iload_n hx hb dX1_append_23 rfl (lv_at hl 2 rfl) ?_
    refine lv_iadd hx hb dX1_append_24 ?_
    refine va_put (D := D) (ci := 1) (v := .int (v_end + p2)) (ty := .int) (C := "ServiceDisk$Draft") (T := TX1) (N := 2) hx hb hts inX1 tyX1 tyX1_ok nmX1 hown hK hP hD hS 0 rfl rfl 1 (by decide) (hts _ w_96) (fun _ h9 => h9) rfl (by decide +kernel) rfl rfl (Nat.le_of_ble_eq_true rfl) dX1_append_25 (fun H locs hP hD hS => ?_)
    have hP : va_P D vwCl [(h0, .inr (1, [.ref a_bytes, .int (v_end + p2)])), (a_bytes, .inl ((k 0), 512, .inl o2))] H := hP
    have hD : va_D A [(h0, .inr (1, [.ref a_bytes, .int (v_end + p2)])), (a_bytes, .inl ((k 0), 512, .inl o2))] := hD
    have h := dk_r h
    subst h
    exact dk_rwv hx hb hr hlocks (hP.sub [0, 1] rfl) (hD.sub [0, 1] (by decide) rfl) hS dX1_append_28
/-! ServiceDisk$Draft.seal()V: rw, frames 2, locals 46 -/
def fX1_seal (v_end : Int32) (v_bytes : Nat → Int32) : Option ((Nat → Int32)) :=
  (fX1_put v_bytes 4 ((v_end - 6).toInt64) 2).bind fun o1 =>
  (fX5_sumOf 512 o1 0).bind fun o2 =>
  (fX1_put o1 508 o2.toInt64 4).bind fun o3 =>
  some o3
set_option maxHeartbeats 4000000 in
set_option maxRecDepth 100000 in
theorem mX1_seal (l : Launch) (D : va_G) (k : Nat → ClassId) (h0 a_bytes : Nat) (sz : Nat) (v_end : Int32) (v_bytes : Nat → Int32) (o : (Nat → Int32)) (h : fX1_seal v_end v_bytes = some o) : Met l yX1_seal wsX1_seal { frames := 2, cells := 0, slots := 0, locals := 46 } (dk_Pw D k [.ref h0] [(h0, .inr (1, [.ref a_bytes, .int v_end])), (a_bytes, .inl ((k 0), 512, .inl v_bytes))] sz) (dk_Qv D [(h0, .inr (1, [.ref a_bytes, .int v_end])), (a_bytes, .inl ((k 0), 512, .inl o))] (va_A [(h0, .inr (1, [.ref a_bytes, .int v_end])), (a_bytes, .inl ((k 0), 512, .inl v_bytes))] sz)) 0 0 (va_A [(h0, .inr (1, [.ref a_bytes, .int v_end])), (a_bytes, .inl ((k 0), 512, .inl v_bytes))] sz) := by
  unfold fX1_seal at h
  refine dk_ofW (Qc := fun A => dk_Qv D [(h0, .inr (1, [.ref a_bytes, .int v_end])), (a_bytes, .inl ((k 0), 512, .inl o))] A) (cc := cX1_seal) (maxL := 1) (ret := none) (lv := [(0, .ref h0)]) (by decide) rfl (Nat.le_of_ble_eq_true rfl) rfl ?_
  intro p e s m below meth c C hK hN hP A hA hD hS ls hl
  obtain ⟨hx, hb, hr, hml, hown, hts, hlocks⟩ := id C
  refine lv_aload_n hx hb dX1_seal_0 rfl (lv_at hl 0 rfl) ?_
  refine lv_iconst (v := 4) hx hb dX1_seal_1 (by decide) ?_
  refine lv_aload_n hx hb dX1_seal_2 rfl (lv_at hl 0 rfl) ?_
  refine va_get (D := D) (ci := 1) (v := .int v_end) (C := "ServiceDisk$Draft") (T := TX1) (N := 2) hx hb hts inX1 hown hK hP 0 rfl rfl 1 (by decide) (hts _ w_96) (fun _ h9 => h9) rfl dX1_seal_3 ?_
  refine lv_bipush (v := 6) hx hb dX1_seal_6 (by decide) ?_
  refine lv_isub hx hb dX1_seal_8 ?_
  refine lv_i2l (v := (v_end - 6).toInt64) hx hb dX1_seal_9 rfl ?_
  refine lv_iconst (v := 2) hx hb dX1_seal_10 (by decide) ?_
  replace h := dk_b h
  obtain ⟨o1, e1, h⟩ := h
  refine dk_cwv (wr := []) (va_runV (As := [.int 4, .long ((v_end - 6).toInt64), .int 2]) (rest := []) ⟨hx, hb, hml, hown, hts⟩ (mX1_put l D k h0 a_bytes s.heap.size v_end v_bytes 4 ((v_end - 6).toInt64) 2 o1 e1) (cwV 3 hts (dk_gV w_411 w_413 w_4 w_42 w_414) rfl rfl rfl (by decide +kernel) ⟨Nat.le_of_ble_eq_true rfl, Nat.le_of_ble_eq_true rfl⟩) (dk_pvw hK hN hP hD [0, 1] rfl rfl rfl rfl (hP.sub [0, 1] rfl)) rfl rfl hl.1 rfl (lv_room (Nat.le_of_ble_eq_true rfl)) dX1_seal_11 ⟨Nat.le_of_ble_eq_true rfl, Nat.le_of_ble_eq_true rfl⟩) hP hD hS hA [0, 1] [] rfl rfl rfl (by decide) (fun H locs hP hD hS => ?_)
  have hP : va_P D vwCl [(h0, .inr (1, [.ref a_bytes, .int v_end])), (a_bytes, .inl ((k 0), 512, .inl o1))] H := hP
  have hD : va_D A [(h0, .inr (1, [.ref a_bytes, .int v_end])), (a_bytes, .inl ((k 0), 512, .inl o1))] := hD
  refine lv_aload_n hx hb dX1_seal_14 rfl (lv_at hl 0 rfl) ?_
  refine lv_sipush (v := 508) hx hb dX1_seal_15 (by decide) ?_
  refine lv_aload_n hx hb dX1_seal_18 rfl (lv_at hl 0 rfl) ?_
  refine va_get (D := D) (ci := 1) (v := .ref a_bytes) (C := "ServiceDisk$Draft") (T := TX1) (N := 2) hx hb hts inX1 hown hK hP 0 rfl rfl 0 (by decide) (hts _ w_95) (fun _ h9 => h9) rfl dX1_seal_19 ?_
  refine lv_iconst (v := 0) hx hb dX1_seal_22 (by decide) ?_
  replace h := dk_b h
  obtain ⟨o2, e2, h⟩ := h
  refine dk_cri (va_runSN (As := [.ref a_bytes, .int 0]) (rest := [.int 508, .ref h0]) ⟨hx, hb, hml, hown, hts⟩ (mX5_sumOf l D k a_bytes 512 o1 0 o2 e2) ⟨va_cnB 2 hts (dk_gC w_447) rfl rfl rfl hN.1 (hts _ w_40) (by decide +kernel) ⟨Nat.le_of_ble_eq_true rfl, Nat.le_of_ble_eq_true rfl⟩, hts _ w_446, trivial⟩ (dk_psr hK hN hP [1] rfl) rfl rfl hl.1 rfl (lv_room (Nat.le_of_ble_eq_true rfl)) dX1_seal_23 ⟨Nat.le_of_ble_eq_true rfl, Nat.le_of_ble_eq_true rfl⟩) ?_
  refine lv_i2l (v := o2.toInt64) hx hb dX1_seal_26 rfl ?_
  refine lv_iconst (v := 4) hx hb dX1_seal_27 (by decide) ?_
  replace h := dk_b h
  obtain ⟨o3, e3, h⟩ := h
  refine dk_cwv (wr := []) (va_runV (As := [.int 508, .long o2.toInt64, .int 4]) (rest := []) ⟨hx, hb, hml, hown, hts⟩ (mX1_put l D k h0 a_bytes H.size v_end o1 508 o2.toInt64 4 o3 e3) (cwV 3 hts (dk_gV w_411 w_413 w_4 w_42 w_414) rfl rfl rfl (by decide +kernel) ⟨Nat.le_of_ble_eq_true rfl, Nat.le_of_ble_eq_true rfl⟩) (dk_pvw hK hN hP hD [0, 1] rfl rfl rfl rfl (hP.sub [0, 1] rfl)) rfl rfl hl.1 rfl (lv_room (Nat.le_of_ble_eq_true rfl)) dX1_seal_28 ⟨Nat.le_of_ble_eq_true rfl, Nat.le_of_ble_eq_true rfl⟩) hP hD hS hA [0, 1] [] rfl rfl rfl (by decide) (fun H locs hP hD hS => ?_)
  have hP : va_P D vwCl [(h0, .inr (1, [.ref a_bytes, .int v_end])), (a_bytes, .inl ((k 0), 512, .inl o3))] H := hP
  have hD : va_D A [(h0, .inr (1, [.ref a_bytes, .int v_end])), (a_bytes, .inl ((k 0), 512, .inl o3))] := hD
  have h := dk_r h
  subst h
  exact dk_rwv hx hb hr hlocks (hP.sub [0, 1] rfl) (hD.sub [0, 1] (by decide) rfl) hS dX1_seal_31
def fX1_open (v_bytes : Nat → Int32) (p1 : Int32) : Option (Int32 × (Nat → Int32)) :=
  (fJ_fill 512 v_bytes 0).bind fun o1 =>
  (fX1_put o1 0 p1.toInt64 4).bind fun o2 =>
  some (6, o2)
set_option maxHeartbeats 4000000 in
set_option maxRecDepth 100000 in
theorem mX1_open (l : Launch) (D : va_G) (k : Nat → ClassId) (h0 a_bytes : Nat) (sz : Nat) (v_end : Int32) (v_bytes : Nat → Int32) (p1 : Int32) (o : Int32 × (Nat → Int32)) (h : fX1_open v_bytes p1 = some o) : Met l yX1_open wsX1_open { frames := 1, cells := 0, slots := 0, locals := 26 } (dk_Pw D k [.ref h0, .int p1] [(h0, .inr (1, [.ref a_bytes, .int v_end])), (a_bytes, .inl ((k 0), 512, .inl v_bytes))] sz) (dk_Qv D [(h0, .inr (1, [.ref a_bytes, .int o.1])), (a_bytes, .inl ((k 0), 512, .inl o.2))] (va_A [(h0, .inr (1, [.ref a_bytes, .int v_end])), (a_bytes, .inl ((k 0), 512, .inl v_bytes))] sz)) 0 0 (va_A [(h0, .inr (1, [.ref a_bytes, .int v_end])), (a_bytes, .inl ((k 0), 512, .inl v_bytes))] sz) := by
  unfold fX1_open at h
  refine dk_ofW (Qc := fun A => dk_Qv D [(h0, .inr (1, [.ref a_bytes, .int o.1])), (a_bytes, .inl ((k 0), 512, .inl o.2))] A) (cc := cX1_open) (maxL := 2) (ret := none) (lv := [(0, .ref h0), (1, .int p1)]) (by decide) rfl (Nat.le_of_ble_eq_true rfl) rfl ?_
  intro p e s m below meth c C hK hN hP A hA hD hS ls hl
  obtain ⟨hx, hb, hr, hml, hown, hts, hlocks⟩ := id C
  refine lv_aload_n hx hb dX1_open_0 rfl (lv_at hl 0 rfl) ?_
  refine va_get (D := D) (ci := 1) (v := .ref a_bytes) (C := "ServiceDisk$Draft") (T := TX1) (N := 2) hx hb hts inX1 hown hK hP 0 rfl rfl 0 (by decide) (hts _ w_95) (fun _ h9 => h9) rfl dX1_open_1 ?_
  refine lv_iconst (v := 0) hx hb dX1_open_4 (by decide) ?_
  replace h := dk_b h
  obtain ⟨o1, e1, h⟩ := h
  refine dk_cwv (wr := [(h0, .inr (1, [.ref a_bytes, .int v_end]))]) (va_runS (As := [.ref a_bytes, .int 0]) (rest := []) ⟨hx, hb, hml, hown, hts⟩ (mJ_fill l D k a_bytes s.heap.size 512 v_bytes 0 o1 e1) (va_cwS 2 hts (dk_gS w_410 w_277 w_51 w_278) rfl rfl rfl (by decide +kernel) ⟨Nat.le_of_ble_eq_true rfl, Nat.le_of_ble_eq_true rfl⟩) (dk_psw hK hN hP hD [1] rfl rfl (hP.sub [1] rfl)) rfl rfl hl.1 rfl (lv_room (Nat.le_of_ble_eq_true rfl)) dX1_open_5 ⟨Nat.le_of_ble_eq_true rfl, Nat.le_of_ble_eq_true rfl⟩) hP hD hS hA [1] [0] rfl rfl rfl (by decide) (fun H locs hP hD hS => ?_)
  have hP : va_P D vwCl [(h0, .inr (1, [.ref a_bytes, .int v_end])), (a_bytes, .inl ((k 0), 512, .inl o1))] H := hP
  have hD : va_D A [(h0, .inr (1, [.ref a_bytes, .int v_end])), (a_bytes, .inl ((k 0), 512, .inl o1))] := hD
  refine lv_aload_n hx hb dX1_open_8 rfl (lv_at hl 0 rfl) ?_
  refine lv_iconst (v := 0) hx hb dX1_open_9 (by decide) ?_
  refine lv_iload_n hx hb dX1_open_10 rfl (lv_at hl 1 rfl) ?_
  refine lv_i2l (v := p1.toInt64) hx hb dX1_open_11 rfl ?_
  refine lv_iconst (v := 4) hx hb dX1_open_12 (by decide) ?_
  replace h := dk_b h
  obtain ⟨o2, e2, h⟩ := h
  refine dk_cwv (wr := []) (va_runV (As := [.int 0, .long p1.toInt64, .int 4]) (rest := []) ⟨hx, hb, hml, hown, hts⟩ (mX1_put l D k h0 a_bytes H.size v_end o1 0 p1.toInt64 4 o2 e2) (cwV 3 hts (dk_gV w_411 w_413 w_4 w_42 w_414) rfl rfl rfl (by decide +kernel) ⟨Nat.le_of_ble_eq_true rfl, Nat.le_of_ble_eq_true rfl⟩) (dk_pvw hK hN hP hD [0, 1] rfl rfl rfl rfl (hP.sub [0, 1] rfl)) rfl rfl hl.1 rfl (lv_room (Nat.le_of_ble_eq_true rfl)) dX1_open_13 ⟨Nat.le_of_ble_eq_true rfl, Nat.le_of_ble_eq_true rfl⟩) hP hD hS hA [0, 1] [] rfl rfl rfl (by decide) (fun H locs hP hD hS => ?_)
  have hP : va_P D vwCl [(h0, .inr (1, [.ref a_bytes, .int v_end])), (a_bytes, .inl ((k 0), 512, .inl o2))] H := hP
  have hD : va_D A [(h0, .inr (1, [.ref a_bytes, .int v_end])), (a_bytes, .inl ((k 0), 512, .inl o2))] := hD
  refine lv_aload_n hx hb dX1_open_16 rfl (lv_at hl 0 rfl) ?_
  refine lv_bipush (v := 6) hx hb dX1_open_17 (by decide) ?_
  refine va_put (D := D) (ci := 1) (v := .int 6) (ty := .int) (C := "ServiceDisk$Draft") (T := TX1) (N := 2) hx hb hts inX1 tyX1 tyX1_ok nmX1 hown hK hP hD hS 0 rfl rfl 1 (by decide) (hts _ w_96) (fun _ h9 => h9) rfl (by decide +kernel) rfl rfl (Nat.le_of_ble_eq_true rfl) dX1_open_19 (fun H locs hP hD hS => ?_)
  have hP : va_P D vwCl [(h0, .inr (1, [.ref a_bytes, .int 6])), (a_bytes, .inl ((k 0), 512, .inl o2))] H := hP
  have hD : va_D A [(h0, .inr (1, [.ref a_bytes, .int 6])), (a_bytes, .inl ((k 0), 512, .inl o2))] := hD
  have h := dk_r h
  subst h
  exact dk_rwv hx hb hr hlocks (hP.sub [0, 1] rfl) (hD.sub [0, 1] (by decide) rfl) hS dX1_open_22
/-! ServiceDisk$Draft.end()I: ro, frames 0, locals 0 -/
def fX1_end (v_end : Int32) : Option (Int32) :=
  some v_end
set_option maxHeartbeats 4000000 in
set_option maxRecDepth 100000 in
theorem mX1_end (l : Launch) (D : va_G) (k : Nat → ClassId) (h0 a_bytes : Nat) (v_end : Int32) (v_bytes : Nat → Int32) (o : Int32) (h : fX1_end v_end = some o) : Met l yX1_end wsX1_end { frames := 0, cells := 0, slots := 0, locals := 0 } (dk_Pr D k [.ref h0] [(h0, .inr (1, [.ref a_bytes, .int v_end])), (a_bytes, .inl ((k 0), 512, .inl v_bytes))]) (vp_Si (fun r => r = o)) 0 0 (fun _ => False) := by
  unfold fX1_end at h
  refine dk_ofR (cc := cX1_end) (maxL := 1) (ret := (some .int)) (lv := [(0, .ref h0)]) (by decide) rfl (Nat.le_of_ble_eq_true rfl) rfl ?_
  intro p e s m below meth c C hK hN hP ls hl
  obtain ⟨hx, hb, hr, hml, hown, hts, hlocks⟩ := id C
  refine lv_aload_n hx hb dX1_end_0 rfl (lv_at hl 0 rfl) ?_
  refine va_get (D := D) (ci := 1) (v := .int v_end) (C := "ServiceDisk$Draft") (T := TX1) (N := 2) hx hb hts inX1 hown hK hP 0 rfl rfl 1 (by decide) (hts _ w_96) (fun _ h9 => h9) rfl dX1_end_1 ?_
  have h := dk_r h
  subst h
  exact dk_rri hx hb hr hlocks dX1_end_4 rfl
/-! ServiceDisk$Draft.copyTo([BII)V: rw, frames 1, locals 26 -/
def fX1_copyTo (v_bytes : Nat → Int32) (n_q1 : Nat) (f_q1 : Nat → Int32) (p2 : Int32) (p3 : Int32) : Option ((Nat → Int32)) :=
  if p2 < 0 then
    some f_q1
  else
    if p3 < 0 then
      some f_q1
    else
      if (512 : Int32) < p3 then
        some f_q1
      else
        if ((nI n_q1) - p3) < p2 then
          some f_q1
        else
          if dk_cp .byte v_bytes 0 p2 p3 512 n_q1 then
          some (va_cpy v_bytes f_q1 (0 : Int32).toNatClampNeg p2.toNatClampNeg p3.toNatClampNeg)
          else none
set_option maxHeartbeats 4000000 in
set_option maxRecDepth 100000 in
theorem mX1_copyTo (l : Launch) (D : va_G) (k : Nat → ClassId) (h0 a_bytes h1 : Nat) (sz : Nat) (v_end : Int32) (v_bytes : Nat → Int32) (n_q1 : Nat) (f_q1 : Nat → Int32) (p2 : Int32) (p3 : Int32) (o : (Nat → Int32)) (h : fX1_copyTo v_bytes n_q1 f_q1 p2 p3 = some o) : Met l yX1_copyTo wsX1_copyTo { frames := 1, cells := 0, slots := 0, locals := 26 } (dk_Pw D k [.ref h0, .ref h1, .int p2, .int p3] [(h0, .inr (1, [.ref a_bytes, .int v_end])), (a_bytes, .inl ((k 0), 512, .inl v_bytes)), (h1, .inl ((k 0), n_q1, .inl f_q1))] sz) (dk_Qv D [(h0, .inr (1, [.ref a_bytes, .int v_end])), (a_bytes, .inl ((k 0), 512, .inl v_bytes)), (h1, .inl ((k 0), n_q1, .inl o))] (va_A [(h0, .inr (1, [.ref a_bytes, .int v_end])), (a_bytes, .inl ((k 0), 512, .inl v_bytes)), (h1, .inl ((k 0), n_q1, .inl f_q1))] sz)) 0 0 (va_A [(h0, .inr (1, [.ref a_bytes, .int v_end])), (a_bytes, .inl ((k 0), 512, .inl v_bytes)), (h1, .inl ((k 0), n_q1, .inl f_q1))] sz) := by
  unfold fX1_copyTo at h
  refine dk_ofW (Qc := fun A => dk_Qv D [(h0, .inr (1, [.ref a_bytes, .int v_end])), (a_bytes, .inl ((k 0), 512, .inl v_bytes)), (h1, .inl ((k 0), n_q1, .inl o))] A) (cc := cX1_copyTo) (maxL := 4) (ret := none) (lv := [(0, .ref h0), (1, .ref h1), (2, .int p2), (3, .int p3)]) (by decide) rfl (Nat.le_of_ble_eq_true rfl) rfl ?_
  intro p e s m below meth c C hK hN hP A hA hD hS ls hl
  obtain ⟨hx, hb, hr, hml, hown, hts, hlocks⟩ := id C
  refine lv_iload_n hx hb dX1_copyTo_0 rfl (lv_at hl 2 rfl) ?_
  refine lv_if_lt (tgt := 34) hx hb dX1_copyTo_1 (by decide) (fun q => ?_) (fun q => ?_)
  · replace h := dk_t q h
    have h := dk_r h
    subst h
    exact dk_rwv hx hb hr hlocks (hP.sub [0, 1, 2] rfl) (hD.sub [0, 1, 2] (by decide) rfl) hS dX1_copyTo_34
  · replace h := dk_f q h
    refine lv_iload_n hx hb dX1_copyTo_4 rfl (lv_at hl 3 rfl) ?_
    refine lv_if_lt (tgt := 34) hx hb dX1_copyTo_5 (by decide) (fun q => ?_) (fun q => ?_)
    · replace h := dk_t q h
      have h := dk_r h
      subst h
      exact dk_rwv hx hb hr hlocks (hP.sub [0, 1, 2] rfl) (hD.sub [0, 1, 2] (by decide) rfl) hS dX1_copyTo_34
    · replace h := dk_f q h
      refine lv_iload_n hx hb dX1_copyTo_8 rfl (lv_at hl 3 rfl) ?_
      refine lv_sipush (v := 512) hx hb dX1_copyTo_9 (by decide) ?_
      refine lv_icmp_gt (tgt := 34) hx hb dX1_copyTo_12 (by decide) (fun q => ?_) (fun q => ?_)
      · replace h := dk_t q h
        have h := dk_r h
        subst h
        exact dk_rwv hx hb hr hlocks (hP.sub [0, 1, 2] rfl) (hD.sub [0, 1, 2] (by decide) rfl) hS dX1_copyTo_34
      · replace h := dk_f q h
        refine lv_iload_n hx hb dX1_copyTo_15 rfl (lv_at hl 2 rfl) ?_
        refine lv_aload_n hx hb dX1_copyTo_16 rfl (lv_at hl 1 rfl) ?_
        refine va_alen hx hb hK hP 2 0 rfl rfl (v := (nI n_q1)) rfl dX1_copyTo_17 ?_
        refine lv_iload_n hx hb dX1_copyTo_18 rfl (lv_at hl 3 rfl) ?_
        refine lv_isub hx hb dX1_copyTo_19 ?_
        refine lv_icmp_gt (tgt := 34) hx hb dX1_copyTo_20 (by decide) (fun q => ?_) (fun q => ?_)
        · replace h := dk_t q h
          have h := dk_r h
          subst h
          exact dk_rwv hx hb hr hlocks (hP.sub [0, 1, 2] rfl) (hD.sub [0, 1, 2] (by decide) rfl) hS dX1_copyTo_34
        · replace h := dk_f q h
          refine lv_aload_n hx hb dX1_copyTo_23 rfl (lv_at hl 0 rfl) ?_
          refine va_get (D := D) (ci := 1) (v := .ref a_bytes) (C := "ServiceDisk$Draft") (T := TX1) (N := 2) hx hb hts inX1 hown hK hP 0 rfl rfl 0 (by decide) (hts _ w_95) (fun _ h9 => h9) rfl dX1_copyTo_24 ?_
          refine lv_iconst (v := 0) hx hb dX1_copyTo_27 (by decide) ?_
          refine lv_aload_n hx hb dX1_copyTo_28 rfl (lv_at hl 1 rfl) ?_
          refine lv_iload_n hx hb dX1_copyTo_29 rfl (lv_at hl 2 rfl) ?_
          refine lv_iload_n hx hb dX1_copyTo_30 rfl (lv_at hl 3 rfl) ?_
          obtain ⟨q, h⟩ := dk_g h
          refine va_copyi hx hb (hml.trans hl.1.symm) hown (hts _ w_474) (hts _ w_476) (hts _ w_475) (hts _ w_56) hK hP hD hS 1 2 0 0 (ty := .byte) rfl rfl rfl rfl rfl q.1 q.2.1 q.2.2.1 q.2.2.2.1 q.2.2.2.2.1 q.2.2.2.2.2 (Nat.le_of_ble_eq_true rfl) (Nat.le_of_ble_eq_true rfl) dX1_copyTo_31 (fun H locs hP hD hS => ?_)
          have hP : va_P D vwCl [(h0, .inr (1, [.ref a_bytes, .int v_end])), (a_bytes, .inl ((k 0), 512, .inl v_bytes)), (h1, .inl ((k 0), n_q1, .inl (va_cpy v_bytes f_q1 (0 : Int32).toNatClampNeg p2.toNatClampNeg p3.toNatClampNeg)))] H := hP
          have hD : va_D A [(h0, .inr (1, [.ref a_bytes, .int v_end])), (a_bytes, .inl ((k 0), 512, .inl v_bytes)), (h1, .inl ((k 0), n_q1, .inl (va_cpy v_bytes f_q1 (0 : Int32).toNatClampNeg p2.toNatClampNeg p3.toNatClampNeg)))] := hD
          have h := dk_r h
          subst h
          exact dk_rwv hx hb hr hlocks (hP.sub [0, 1, 2] rfl) (hD.sub [0, 1, 2] (by decide) rfl) hS dX1_copyTo_34
/-! ServiceDisk$Disk.write(IILServiceDisk$Draft;)Z: rw, frames 2, locals 49 -/
def fX0_write (v_cutWaits : Int32) (v_writesBeforeCut : Int32) (v_bytesOfCut : Int32) (v_cells : Nat → Int32) (q3_bytes : Nat → Int32) (p1 : Int32) (p2 : Int32) : Option (Int32 × Int32 × Int32 × (Nat → Int32)) :=
  (fX0_firstCell p1 p2).bind fun o1 =>
  if v_cutWaits = 0 then
    (fX1_copyTo q3_bytes 32768 v_cells o1 512).bind fun o4 =>
    some (1, v_cutWaits, v_writesBeforeCut, o4)
  else
    if v_writesBeforeCut ≤ 0 then
      (fX1_copyTo q3_bytes 32768 v_cells o1 v_bytesOfCut).bind fun o2 =>
      some (0, 0, v_writesBeforeCut, o2)
    else
      (fX1_copyTo q3_bytes 32768 v_cells o1 512).bind fun o3 =>
      some (1, v_cutWaits, (v_writesBeforeCut - 1), o3)
set_option maxHeartbeats 4000000 in
set_option maxRecDepth 100000 in
theorem mX0_write (l : Launch) (D : va_G) (k : Nat → ClassId) (h0 a_cells h3 a_q3_bytes : Nat) (sz : Nat) (v_sectors : Int32) (v_cutWaits : Int32) (v_writesBeforeCut : Int32) (v_bytesOfCut : Int32) (v_cells : Nat → Int32) (q3_end : Int32) (q3_bytes : Nat → Int32) (p1 : Int32) (p2 : Int32) (o : Int32 × Int32 × Int32 × (Nat → Int32)) (h : fX0_write v_cutWaits v_writesBeforeCut v_bytesOfCut v_cells q3_bytes p1 p2 = some o) : Met l yX0_write wsX0_write { frames := 2, cells := 0, slots := 0, locals := 49 } (dk_Pw D k [.ref h0, .int p1, .int p2, .ref h3] [(h0, .inr (0, [.ref a_cells, .int v_sectors, .int v_cutWaits, .int v_writesBeforeCut, .int v_bytesOfCut])), (a_cells, .inl ((k 0), 32768, .inl v_cells)), (h3, .inr (1, [.ref a_q3_bytes, .int q3_end])), (a_q3_bytes, .inl ((k 0), 512, .inl q3_bytes))] sz) (dk_Qi o.1 D [(h0, .inr (0, [.ref a_cells, .int v_sectors, .int o.2.1, .int o.2.2.1, .int v_bytesOfCut])), (a_cells, .inl ((k 0), 32768, .inl o.2.2.2)), (h3, .inr (1, [.ref a_q3_bytes, .int q3_end])), (a_q3_bytes, .inl ((k 0), 512, .inl q3_bytes))] (va_A [(h0, .inr (0, [.ref a_cells, .int v_sectors, .int v_cutWaits, .int v_writesBeforeCut, .int v_bytesOfCut])), (a_cells, .inl ((k 0), 32768, .inl v_cells)), (h3, .inr (1, [.ref a_q3_bytes, .int q3_end])), (a_q3_bytes, .inl ((k 0), 512, .inl q3_bytes))] sz)) 0 0 (va_A [(h0, .inr (0, [.ref a_cells, .int v_sectors, .int v_cutWaits, .int v_writesBeforeCut, .int v_bytesOfCut])), (a_cells, .inl ((k 0), 32768, .inl v_cells)), (h3, .inr (1, [.ref a_q3_bytes, .int q3_end])), (a_q3_bytes, .inl ((k 0), 512, .inl q3_bytes))] sz) := by
  unfold fX0_write at h
  refine dk_ofW (Qc := fun A => dk_Qi o.1 D [(h0, .inr (0, [.ref a_cells, .int v_sectors, .int o.2.1, .int o.2.2.1, .int v_bytesOfCut])), (a_cells, .inl ((k 0), 32768, .inl o.2.2.2)), (h3, .inr (1, [.ref a_q3_bytes, .int q3_end])), (a_q3_bytes, .inl ((k 0), 512, .inl q3_bytes))] A) (cc := cX0_write) (maxL := 5) (ret := (some .boolean)) (lv := [(0, .ref h0), (1, .int p1), (2, .int p2), (3, .ref h3)]) (by decide) rfl (Nat.le_of_ble_eq_true rfl) rfl ?_
  intro p e s m below meth c C hK hN hP A hA hD hS ls hl
  obtain ⟨hx, hb, hr, hml, hown, hts, hlocks⟩ := id C
  refine lv_aload_n hx hb dX0_write_0 rfl (lv_at hl 0 rfl) ?_
  refine lv_iload_n hx hb dX0_write_1 rfl (lv_at hl 1 rfl) ?_
  refine lv_iload_n hx hb dX0_write_2 rfl (lv_at hl 2 rfl) ?_
  replace h := dk_b h
  obtain ⟨o1, e1, h⟩ := h
  refine dk_cri (va_runV (As := [.int p1, .int p2]) (rest := []) ⟨hx, hb, hml, hown, hts⟩ (mX0_firstCell l D k h0 a_cells v_sectors v_cutWaits v_writesBeforeCut v_bytesOfCut v_cells p1 p2 o1 e1) (cwV 2 hts (dk_gV w_466 w_468 w_6 w_41 w_469) rfl rfl rfl (by decide +kernel) ⟨Nat.le_of_ble_eq_true rfl, Nat.le_of_ble_eq_true rfl⟩) (dk_pvr hK hN hP [0, 1] rfl rfl rfl) rfl rfl hl.1 rfl (lv_room (Nat.le_of_ble_eq_true rfl)) dX0_write_3 ⟨Nat.le_of_ble_eq_true rfl, Nat.le_of_ble_eq_true rfl⟩) ?_
  refine lv_istore (lv' := [(4, .int o1), (0, .ref h0), (1, .int p1), (2, .int p2), (3, .ref h3)]) hx hb dX0_write_6 hl (by decide) rfl (fun ls hl => ?_)
  refine lv_aload_n hx hb dX0_write_8 rfl (lv_at hl 1 rfl) ?_
  refine va_get (D := D) (ci := 0) (v := .int v_cutWaits) (C := "ServiceDisk$Disk") (T := TX0) (N := 5) hx hb hts inX0 hown hK hP 0 rfl rfl 2 (by decide) (hts _ w_74) (fun _ h9 => h9) rfl dX0_write_9 ?_
  refine lv_if_ne (tgt := 30) hx hb dX0_write_12 (by decide) (fun q => ?_) (fun q => ?_)
  · replace h := dk_f q h
    refine lv_aload_n hx hb dX0_write_30 rfl (lv_at hl 1 rfl) ?_
    refine va_get (D := D) (ci := 0) (v := .int v_writesBeforeCut) (C := "ServiceDisk$Disk") (T := TX0) (N := 5) hx hb hts inX0 hown hK hP 0 rfl rfl 3 (by decide) (hts _ w_75) (fun _ h9 => h9) rfl dX0_write_31 ?_
    refine lv_if_le (tgt := 62) hx hb dX0_write_34 (by decide) (fun q => ?_) (fun q => ?_)
    · replace h := dk_t q h
      refine lv_aload_n hx hb dX0_write_62 rfl (lv_at hl 4 rfl) ?_
      refine lv_aload_n hx hb dX0_write_63 rfl (lv_at hl 1 rfl) ?_
      refine va_get (D := D) (ci := 0) (v := .ref a_cells) (C := "ServiceDisk$Disk") (T := TX0) (N := 5) hx hb hts inX0 hown hK hP 0 rfl rfl 0 (by decide) (hts _ w_72) (fun _ h9 => h9) rfl dX0_write_64 ?_
      refine lv_iload hx hb dX0_write_67 (lv_at hl 0 rfl) ?_
      refine lv_aload_n hx hb dX0_write_69 rfl (lv_at hl 1 rfl) ?_
      refine va_get (D := D) (ci := 0) (v := .int v_bytesOfCut) (C := "ServiceDisk$Disk") (T := TX0) (N := 5) hx hb hts inX0 hown hK hP 0 rfl rfl 4 (by decide) (hts _ w_76) (fun _ h9 => h9) rfl dX0_write_70 ?_
      replace h := dk_b h
      obtain ⟨o2, e2, h⟩ := h
      refine dk_cwv (wr := [(h0, .inr (0, [.ref a_cells, .int v_sectors, .int v_cutWaits, .int v_writesBeforeCut, .int v_bytesOfCut]))]) (va_runV (As := [.ref a_cells, .int o1, .int v_bytesOfCut]) (rest := []) ⟨hx, hb, hml, hown, hts⟩ (mX1_copyTo l D k h3 a_q3_bytes a_cells s.heap.size q3_end q3_bytes 32768 v_cells o1 v_bytesOfCut o2 e2) (cwV 3 hts (dk_gV w_470 w_471 w_472 w_42 w_473) rfl rfl rfl (by decide +kernel) ⟨Nat.le_of_ble_eq_true rfl, Nat.le_of_ble_eq_true rfl⟩) (dk_pvw hK hN hP hD [2, 3, 1] rfl rfl rfl rfl (hP.sub [2, 3, 1] rfl)) rfl rfl hl.1 rfl (lv_room (Nat.le_of_ble_eq_true rfl)) dX0_write_73 ⟨Nat.le_of_ble_eq_true rfl, Nat.le_of_ble_eq_true rfl⟩) hP hD hS hA [2, 3, 1] [0] rfl rfl rfl (by decide) (fun H locs hP hD hS => ?_)
      have hP : va_P D vwCl [(h0, .inr (0, [.ref a_cells, .int v_sectors, .int v_cutWaits, .int v_writesBeforeCut, .int v_bytesOfCut])), (h3, .inr (1, [.ref a_q3_bytes, .int q3_end])), (a_q3_bytes, .inl ((k 0), 512, .inl q3_bytes)), (a_cells, .inl ((k 0), 32768, .inl o2))] H := hP
      have hD : va_D A [(h0, .inr (0, [.ref a_cells, .int v_sectors, .int v_cutWaits, .int v_writesBeforeCut, .int v_bytesOfCut])), (h3, .inr (1, [.ref a_q3_bytes, .int q3_end])), (a_q3_bytes, .inl ((k 0), 512, .inl q3_bytes)), (a_cells, .inl ((k 0), 32768, .inl o2))] := hD
      refine lv_aload_n hx hb dX0_write_76 rfl (lv_at hl 1 rfl) ?_
      refine lv_iconst (v := 0) hx hb dX0_write_77 (by decide) ?_
      refine va_put (D := D) (ci := 0) (v := .int 0) (ty := .boolean) (C := "ServiceDisk$Disk") (T := TX0) (N := 5) hx hb hts inX0 tyX0 tyX0_ok nmX0 hown hK hP hD hS 0 rfl rfl 2 (by decide) (hts _ w_74) (fun _ h9 => h9) rfl (by decide +kernel) rfl rfl (Nat.le_of_ble_eq_true rfl) dX0_write_78 (fun H locs hP hD hS => ?_)
      have hP : va_P D vwCl [(h0, .inr (0, [.ref a_cells, .int v_sectors, .int 0, .int v_writesBeforeCut, .int v_bytesOfCut])), (h3, .inr (1, [.ref a_q3_bytes, .int q3_end])), (a_q3_bytes, .inl ((k 0), 512, .inl q3_bytes)), (a_cells, .inl ((k 0), 32768, .inl o2))] H := hP
      have hD : va_D A [(h0, .inr (0, [.ref a_cells, .int v_sectors, .int 0, .int v_writesBeforeCut, .int v_bytesOfCut])), (h3, .inr (1, [.ref a_q3_bytes, .int q3_end])), (a_q3_bytes, .inl ((k 0), 512, .inl q3_bytes)), (a_cells, .inl ((k 0), 32768, .inl o2))] := hD
      refine lv_iconst (v := 0) hx hb dX0_write_81 (by decide) ?_
      have h := dk_r h
      subst h
      exact dk_rwz hx hb hr (Or.inl rfl) hlocks (hP.sub [0, 3, 1, 2] rfl) (hD.sub [0, 3, 1, 2] (by decide) rfl) hS dX0_write_82 rfl
    · replace h := dk_f q h
      refine lv_aload_n hx hb dX0_write_37 rfl (lv_at hl 1 rfl) ?_
      refine lv_dup hx hb dX0_write_38 rfl ?_
      refine va_get (D := D) (ci := 0) (v := .int v_writesBeforeCut) (C := "ServiceDisk$Disk") (T := TX0) (N := 5) hx hb hts inX0 hown hK hP 0 rfl rfl 3 (by decide) (hts _ w_75) (fun _ h9 => h9) rfl dX0_write_39 ?_
      refine lv_iconst (v := 1) hx hb dX0_write_42 (by decide) ?_
      refine lv_isub hx hb dX0_write_43 ?_
      refine va_put (D := D) (ci := 0) (v := .int (v_writesBeforeCut - 1)) (ty := .int) (C := "ServiceDisk$Disk") (T := TX0) (N := 5) hx hb hts inX0 tyX0 tyX0_ok nmX0 hown hK hP hD hS 0 rfl rfl 3 (by decide) (hts _ w_75) (fun _ h9 => h9) rfl (by decide +kernel) rfl rfl (Nat.le_of_ble_eq_true rfl) dX0_write_44 (fun H locs hP hD hS => ?_)
      have hP : va_P D vwCl [(h0, .inr (0, [.ref a_cells, .int v_sectors, .int v_cutWaits, .int (v_writesBeforeCut - 1), .int v_bytesOfCut])), (a_cells, .inl ((k 0), 32768, .inl v_cells)), (h3, .inr (1, [.ref a_q3_bytes, .int q3_end])), (a_q3_bytes, .inl ((k 0), 512, .inl q3_bytes))] H := hP
      have hD : va_D A [(h0, .inr (0, [.ref a_cells, .int v_sectors, .int v_cutWaits, .int (v_writesBeforeCut - 1), .int v_bytesOfCut])), (a_cells, .inl ((k 0), 32768, .inl v_cells)), (h3, .inr (1, [.ref a_q3_bytes, .int q3_end])), (a_q3_bytes, .inl ((k 0), 512, .inl q3_bytes))] := hD
      refine lv_aload_n hx hb dX0_write_47 rfl (lv_at hl 4 rfl) ?_
      refine lv_aload_n hx hb dX0_write_48 rfl (lv_at hl 1 rfl) ?_
      refine va_get (D := D) (ci := 0) (v := .ref a_cells) (C := "ServiceDisk$Disk") (T := TX0) (N := 5) hx hb hts inX0 hown hK hP 0 rfl rfl 0 (by decide) (hts _ w_72) (fun _ h9 => h9) rfl dX0_write_49 ?_
      refine lv_iload hx hb dX0_write_52 (lv_at hl 0 rfl) ?_
      refine lv_sipush (v := 512) hx hb dX0_write_54 (by decide) ?_
      replace h := dk_b h
      obtain ⟨o3, e3, h⟩ := h
      refine dk_cwv (wr := [(h0, .inr (0, [.ref a_cells, .int v_sectors, .int v_cutWaits, .int (v_writesBeforeCut - 1), .int v_bytesOfCut]))]) (va_runV (As := [.ref a_cells, .int o1, .int 512]) (rest := []) ⟨hx, hb, hml, hown, hts⟩ (mX1_copyTo l D k h3 a_q3_bytes a_cells H.size q3_end q3_bytes 32768 v_cells o1 512 o3 e3) (cwV 3 hts (dk_gV w_470 w_471 w_472 w_42 w_473) rfl rfl rfl (by decide +kernel) ⟨Nat.le_of_ble_eq_true rfl, Nat.le_of_ble_eq_true rfl⟩) (dk_pvw hK hN hP hD [2, 3, 1] rfl rfl rfl rfl (hP.sub [2, 3, 1] rfl)) rfl rfl hl.1 rfl (lv_room (Nat.le_of_ble_eq_true rfl)) dX0_write_57 ⟨Nat.le_of_ble_eq_true rfl, Nat.le_of_ble_eq_true rfl⟩) hP hD hS hA [2, 3, 1] [0] rfl rfl rfl (by decide) (fun H locs hP hD hS => ?_)
      have hP : va_P D vwCl [(h0, .inr (0, [.ref a_cells, .int v_sectors, .int v_cutWaits, .int (v_writesBeforeCut - 1), .int v_bytesOfCut])), (h3, .inr (1, [.ref a_q3_bytes, .int q3_end])), (a_q3_bytes, .inl ((k 0), 512, .inl q3_bytes)), (a_cells, .inl ((k 0), 32768, .inl o3))] H := hP
      have hD : va_D A [(h0, .inr (0, [.ref a_cells, .int v_sectors, .int v_cutWaits, .int (v_writesBeforeCut - 1), .int v_bytesOfCut])), (h3, .inr (1, [.ref a_q3_bytes, .int q3_end])), (a_q3_bytes, .inl ((k 0), 512, .inl q3_bytes)), (a_cells, .inl ((k 0), 32768, .inl o3))] := hD
      refine lv_iconst (v := 1) hx hb dX0_write_60 (by decide) ?_
      have h := dk_r h
      subst h
      exact dk_rwz hx hb hr (Or.inr rfl) hlocks (hP.sub [0, 3, 1, 2] rfl) (hD.sub [0, 3, 1, 2] (by decide) rfl) hS dX0_write_61 rfl
  · replace h := dk_t q h
    refine lv_aload_n hx hb dX0_write_15 rfl (lv_at hl 4 rfl) ?_
    refine lv_aload_n hx hb dX0_write_16 rfl (lv_at hl 1 rfl) ?_
    refine va_get (D := D) (ci := 0) (v := .ref a_cells) (C := "ServiceDisk$Disk") (T := TX0) (N := 5) hx hb hts inX0 hown hK hP 0 rfl rfl 0 (by decide) (hts _ w_72) (fun _ h9 => h9) rfl dX0_write_17 ?_
    refine lv_iload hx hb dX0_write_20 (lv_at hl 0 rfl) ?_
    refine lv_sipush (v := 512) hx hb dX0_write_22 (by decide) ?_
    replace h := dk_b h
    obtain ⟨o4, e4, h⟩ := h
    refine dk_cwv (wr := [(h0, .inr (0, [.ref a_cells, .int v_sectors, .int v_cutWaits, .int v_writesBeforeCut, .int v_bytesOfCut]))]) (va_runV (As := [.ref a_cells, .int o1, .int 512]) (rest := []) ⟨hx, hb, hml, hown, hts⟩ (mX1_copyTo l D k h3 a_q3_bytes a_cells s.heap.size q3_end q3_bytes 32768 v_cells o1 512 o4 e4) (cwV 3 hts (dk_gV w_470 w_471 w_472 w_42 w_473) rfl rfl rfl (by decide +kernel) ⟨Nat.le_of_ble_eq_true rfl, Nat.le_of_ble_eq_true rfl⟩) (dk_pvw hK hN hP hD [2, 3, 1] rfl rfl rfl rfl (hP.sub [2, 3, 1] rfl)) rfl rfl hl.1 rfl (lv_room (Nat.le_of_ble_eq_true rfl)) dX0_write_25 ⟨Nat.le_of_ble_eq_true rfl, Nat.le_of_ble_eq_true rfl⟩) hP hD hS hA [2, 3, 1] [0] rfl rfl rfl (by decide) (fun H locs hP hD hS => ?_)
    have hP : va_P D vwCl [(h0, .inr (0, [.ref a_cells, .int v_sectors, .int v_cutWaits, .int v_writesBeforeCut, .int v_bytesOfCut])), (h3, .inr (1, [.ref a_q3_bytes, .int q3_end])), (a_q3_bytes, .inl ((k 0), 512, .inl q3_bytes)), (a_cells, .inl ((k 0), 32768, .inl o4))] H := hP
    have hD : va_D A [(h0, .inr (0, [.ref a_cells, .int v_sectors, .int v_cutWaits, .int v_writesBeforeCut, .int v_bytesOfCut])), (h3, .inr (1, [.ref a_q3_bytes, .int q3_end])), (a_q3_bytes, .inl ((k 0), 512, .inl q3_bytes)), (a_cells, .inl ((k 0), 32768, .inl o4))] := hD
    refine lv_iconst (v := 1) hx hb dX0_write_28 (by decide) ?_
    have h := dk_r h
    subst h
    exact dk_rwz hx hb hr (Or.inr rfl) hlocks (hP.sub [0, 3, 1, 2] rfl) (hD.sub [0, 3, 1, 2] (by decide) rfl) hS dX0_write_29 rfl
