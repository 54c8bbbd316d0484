/-! ServiceDiskModel.fillFrom(I)I: rw, frames 2, locals 45 -/
def fX6_fillFrom_L56 (v_waitMany : Nat → Int32) (v_waitBytes : Nat → Int64) (x2 : Int32) (x3 : Int32) : Nat → (Int32) → (Nat → Int32) → Option (Int32 × (Nat → Int32))
  | 0, _, _ => none
  | n + 1, x4, v_made =>
    if dk_in x2 100 then
    if (v_waitMany x2.toNatClampNeg) ≤ x4 then
      some (x4, v_made)
    else
      if dk_in x2 100 then
      if dk_in x2 100 then
      (fX6_put v_made ((x3 + 2) + x4) ((dk_lshr (v_waitBytes x2.toNatClampNeg) (8 * (((v_waitMany x2.toNatClampNeg) - 1) - x4))).toInt32)).bind fun o6 =>
      fX6_fillFrom_L56 v_waitMany v_waitBytes x2 x3 n (x4 + 1) o6
      else none
      else none
    else none
def fX6_fillFrom_L5 (v_used : Int32) (v_rows : Int32) (v_waits : Int32) (v_waitKind : Nat → Int32) (v_waitMany : Nat → Int32) (v_waitBytes : Nat → Int64)  : Nat → (Int32) → (Int32) → (Nat → Int32) → (Nat → Int32) → (Nat → Int32) → (Nat → Int32) → Option (Int32 × Int32 × (Nat → Int32) × (Nat → Int32) × (Nat → Int32) × (Nat → Int32))
  | 0, _, _, _, _, _, _ => none
  | n + 1, x2, x3, v_made, v_sectorOf, v_placeOf, v_manyOf =>
    if v_waits ≤ x2 then
      some (x2, x3, v_made, v_sectorOf, v_placeOf, v_manyOf)
    else
      if dk_in x2 100 then
      if (508 : Int32) < ((x3 + 2) + (v_waitMany x2.toNatClampNeg)) then
        some (x2, x3, v_made, v_sectorOf, v_placeOf, v_manyOf)
      else
        if dk_in x2 100 then
        (fX6_put v_made x3 (v_waitKind x2.toNatClampNeg)).bind fun o3 =>
        if dk_in x2 100 then
        (fX6_put o3 (x3 + 1) (v_waitMany x2.toNatClampNeg)).bind fun o4 =>
        (fX6_fillFrom_L56 v_waitMany v_waitBytes x2 x3 dkF 0 o4).bind fun o5 =>
        if dk_in (v_rows + x2) 5100 then
        if dk_in (v_rows + x2) 5100 then
        if dk_in x2 100 then
        if dk_in (v_rows + x2) 5100 then
        if dk_in x2 100 then
        fX6_fillFrom_L5 v_used v_rows v_waits v_waitKind v_waitMany v_waitBytes n (x2 + 1) (x3 + (2 + (v_waitMany x2.toNatClampNeg))) o5.2 (upd v_sectorOf (v_rows + x2).toNatClampNeg v_used) (upd v_placeOf (v_rows + x2).toNatClampNeg x3) (upd v_manyOf (v_rows + x2).toNatClampNeg (v_waitMany x2.toNatClampNeg))
        else none
        else none
        else none
        else none
        else none
        else none
        else none
      else none
def fX6_fillFrom (v_used : Int32) (v_rows : Int32) (v_waits : Int32) (v_made : Nat → Int32) (v_sectorOf : Nat → Int32) (v_placeOf : Nat → Int32) (v_manyOf : Nat → Int32) (v_waitKind : Nat → Int32) (v_waitMany : Nat → Int32) (v_waitBytes : Nat → Int64) (p1 : Int32) : Option (Int32 × (Nat → Int32) × (Nat → Int32) × (Nat → Int32) × (Nat → Int32)) :=
  (fX6_fillFrom_L5 v_used v_rows v_waits v_waitKind v_waitMany v_waitBytes dkF p1 6 v_made v_sectorOf v_placeOf v_manyOf).bind fun o1 =>
  (fX6_finish o1.2.2.1 (o1.2.1 - 6)).bind fun o2 =>
  some (o1.1, o2, o1.2.2.2.1, o1.2.2.2.2.1, o1.2.2.2.2.2)
set_option maxHeartbeats 4000000 in
set_option maxRecDepth 100000 in
theorem lX6_fillFrom_56 {p : Program} {l : Launch} {e : Env} {s : State} {m : MethodId} {below : List Frame} {meth : Method} {c : Code} {args : Array Value} {D : va_G} {k : Nat → ClassId} {h0 : Nat} {a_disk : Nat} {a_made : Nat} {a_sectorOf : Nat} {a_placeOf : Nat} {a_manyOf : Nat} {a_there : Nat} {a_waitKind : Nat} {a_waitMany : Nat} {a_waitBytes : Nat} {v_thrown : Int32} {v_sectors : Int32} {v_power : Int32} {v_used : Int32} {v_reserve : Int32} {v_cutWrites : Int32} {v_cutBytes : Int32} {v_rows : Int32} {v_waits : Int32} {v_stateNumber : Int32} {v_stateNow : Int64} {v_second : Int32} {v_repaired : Int32} {v_up : Int32} {v_sent : Int32} {v_disk : Nat → Int32} {v_sectorOf : Nat → Int32} {v_placeOf : Nat → Int32} {v_manyOf : Nat → Int32} {v_there : Nat → Int32} {v_waitKind : Nat → Int32} {v_waitMany : Nat → Int32} {v_waitBytes : Nat → Int64} {x2 : Int32} {x3 : Int32} {Q : State → Prop} {o : Int32 × (Nat → Int32)} {A : Nat → Prop} (C : dk_Cx p s m meth c cX6_fillFrom (some .int) 5 "ServiceDiskModel" dkB args) (hK : va_K D vwCl (dkT k) s) (hN : dk_N s) (hA : ∀ q : Nat, s.heap.size ≤ q → A q) :
    ∀ (n : Nat) (x4 : Int32) (v_made : Nat → Int32), fX6_fillFrom_L56 v_waitMany v_waitBytes x2 x3 n x4 v_made = some o → (∀ (H : Heap) (locs : List Loc), va_P D vwCl [(h0, .inr (6, [.int v_thrown, .int v_sectors, .int v_power, .ref a_disk, .ref a_made, .int v_used, .int v_reserve, .int v_cutWrites, .int v_cutBytes, .int v_rows, .ref a_sectorOf, .ref a_placeOf, .ref a_manyOf, .ref a_there, .int v_waits, .ref a_waitKind, .ref a_waitMany, .ref a_waitBytes, .int v_stateNumber, .long v_stateNow, .int v_second, .int v_repaired, .int v_up, .int v_sent])), (a_disk, .inl ((k 2), 32768, .inl v_disk)), (a_made, .inl ((k 2), 512, .inl o.2)), (a_sectorOf, .inl ((k 2), 5100, .inl v_sectorOf)), (a_placeOf, .inl ((k 2), 5100, .inl v_placeOf)), (a_manyOf, .inl ((k 2), 5100, .inl v_manyOf)), (a_there, .inl ((k 1), 5100, .inl v_there)), (a_waitKind, .inl ((k 2), 100, .inl v_waitKind)), (a_waitMany, .inl ((k 2), 100, .inl v_waitMany)), (a_waitBytes, .inl ((k 3), 100, .inr (.inl v_waitBytes)))] H → va_D A [(h0, .inr (6, [.int v_thrown, .int v_sectors, .int v_power, .ref a_disk, .ref a_made, .int v_used, .int v_reserve, .int v_cutWrites, .int v_cutBytes, .int v_rows, .ref a_sectorOf, .ref a_placeOf, .ref a_manyOf, .ref a_there, .int v_waits, .ref a_waitKind, .ref a_waitMany, .ref a_waitBytes, .int v_stateNumber, .long v_stateNow, .int v_second, .int v_repaired, .int v_up, .int v_sent])), (a_disk, .inl ((k 2), 32768, .inl v_disk)), (a_made, .inl ((k 2), 512, .inl o.2)), (a_sectorOf, .inl ((k 2), 5100, .inl v_sectorOf)), (a_placeOf, .inl ((k 2), 5100, .inl v_placeOf)), (a_manyOf, .inl ((k 2), 5100, .inl v_manyOf)), (a_there, .inl ((k 1), 5100, .inl v_there)), (a_waitKind, .inl ((k 2), 100, .inl v_waitKind)), (a_waitMany, .inl ((k 2), 100, .inl v_waitMany)), (a_waitBytes, .inl ((k 3), 100, .inr (.inl v_waitBytes)))] → va_S A s.heap H locs → ∀ ls : Array Slot, lv_has ls 5 [(0, .ref h0), (2, .int x2), (3, .int x3), (4, .int o.1)] → W p l e { frames := 2, cells := 0, slots := 0, locals := 45 } s m args below meth c H locs 0 0 Q (F0 m 105 ls [])) → ∀ (H : Heap) (locs : List Loc), va_P D vwCl [(h0, .inr (6, [.int v_thrown, .int v_sectors, .int v_power, .ref a_disk, .ref a_made, .int v_used, .int v_reserve, .int v_cutWrites, .int v_cutBytes, .int v_rows, .ref a_sectorOf, .ref a_placeOf, .ref a_manyOf, .ref a_there, .int v_waits, .ref a_waitKind, .ref a_waitMany, .ref a_waitBytes, .int v_stateNumber, .long v_stateNow, .int v_second, .int v_repaired, .int v_up, .int v_sent])), (a_disk, .inl ((k 2), 32768, .inl v_disk)), (a_made, .inl ((k 2), 512, .inl v_made)), (a_sectorOf, .inl ((k 2), 5100, .inl v_sectorOf)), (a_placeOf, .inl ((k 2), 5100, .inl v_placeOf)), (a_manyOf, .inl ((k 2), 5100, .inl v_manyOf)), (a_there, .inl ((k 1), 5100, .inl v_there)), (a_waitKind, .inl ((k 2), 100, .inl v_waitKind)), (a_waitMany, .inl ((k 2), 100, .inl v_waitMany)), (a_waitBytes, .inl ((k 3), 100, .inr (.inl v_waitBytes)))] H → va_D A [(h0, .inr (6, [.int v_thrown, .int v_sectors, .int v_power, .ref a_disk, .ref a_made, .int v_used, .int v_reserve, .int v_cutWrites, .int v_cutBytes, .int v_rows, .ref a_sectorOf, .ref a_placeOf, .ref a_manyOf, .ref a_there, .int v_waits, .ref a_waitKind, .ref a_waitMany, .ref a_waitBytes, .int v_stateNumber, .long v_stateNow, .int v_second, .int v_repaired, .int v_up, .int v_sent])), (a_disk, .inl ((k 2), 32768, .inl v_disk)), (a_made, .inl ((k 2), 512, .inl v_made)), (a_sectorOf, .inl ((k 2), 5100, .inl v_sectorOf)), (a_placeOf, .inl ((k 2), 5100, .inl v_placeOf)), (a_manyOf, .inl ((k 2), 5100, .inl v_manyOf)), (a_there, .inl ((k 1), 5100, .inl v_there)), (a_waitKind, .inl ((k 2), 100, .inl v_waitKind)), (a_waitMany, .inl ((k 2), 100, .inl v_waitMany)), (a_waitBytes, .inl ((k 3), 100, .inr (.inl v_waitBytes)))] → va_S A s.heap H locs → ∀ ls : Array Slot, lv_has ls 5 [(0, .ref h0), (2, .int x2), (3, .int x3), (4, .int x4)] → W p l e { frames := 2, cells := 0, slots := 0, locals := 45 } s m args below meth c H locs 0 0 Q (F0 m 56 ls []) := by
  obtain ⟨hx, hb, hr, hml, hown, hts, hlocks⟩ := id C
  intro n
  induction n with
  | zero =>
    intro x4 v_made h
    exact dk_n (o := o) h
  | succ n ih =>
    intro x4 v_made h K H locs hP hD hS ls hl
    rw [fX6_fillFrom_L56.eq_2] at h
    refine lv_iload hx hb dX6_fillFrom_56 (lv_at hl 3 rfl) ?_
    refine lv_aload_n hx hb dX6_fillFrom_58 rfl (lv_at hl 0 rfl) ?_
    refine va_get (D := D) (ci := 6) (v := .ref a_waitMany) (C := "ServiceDiskModel") (T := TX6) (N := 24) hx hb hts inX6 hown hK hP 0 rfl rfl 16 (by decide) (hts _ w_753) (fun _ h9 => h9) rfl dX6_fillFrom_59 ?_
    refine lv_iload_n hx hb dX6_fillFrom_62 rfl (lv_at hl 1 rfl) ?_
    obtain ⟨q, h⟩ := dk_g h
    refine va_iald hx hb hK hP 8 2 rfl rfl q dX6_fillFrom_63 ?_
    refine lv_icmp_ge (tgt := 105) hx hb dX6_fillFrom_64 (by decide) (fun q => ?_) (fun q => ?_)
    · replace h := dk_t q h
      have h := dk_r h
      subst h
      exact K _ _ (hP.sub [0, 1, 2, 3, 4, 5, 6, 7, 8, 9] rfl) (hD.sub [0, 1, 2, 3, 4, 5, 6, 7, 8, 9] (by decide) rfl) hS ls (lv_sub hl [0, 1, 2, 3] rfl)
    · replace h := dk_f q h
      refine lv_aload_n hx hb dX6_fillFrom_67 rfl (lv_at hl 0 rfl) ?_
      refine lv_iload_n hx hb dX6_fillFrom_68 rfl (lv_at hl 2 rfl) ?_
      refine lv_iconst (v := 2) hx hb dX6_fillFrom_69 (by decide) ?_
      refine lv_iadd hx hb dX6_fillFrom_70 ?_
      refine lv_iload hx hb dX6_fillFrom_71 (lv_at hl 3 rfl) ?_
      refine lv_iadd hx hb dX6_fillFrom_73 ?_
      refine lv_aload_n hx hb dX6_fillFrom_74 rfl (lv_at hl 0 rfl) ?_
      refine va_get (D := D) (ci := 6) (v := .ref a_waitBytes) (C := "ServiceDiskModel") (T := TX6) (N := 24) hx hb hts inX6 hown hK hP 0 rfl rfl 17 (by decide) (hts _ w_754) (fun _ h9 => h9) rfl dX6_fillFrom_75 ?_
      refine lv_iload_n hx hb dX6_fillFrom_78 rfl (lv_at hl 1 rfl) ?_
      obtain ⟨q, h⟩ := dk_g h
      refine va_lald hx hb hK hP 9 3 rfl rfl q dX6_fillFrom_79 ?_
      refine lv_bipush (v := 8) hx hb dX6_fillFrom_80 (by decide) ?_
      refine lv_aload_n hx hb dX6_fillFrom_82 rfl (lv_at hl 0 rfl) ?_
      refine va_get (D := D) (ci := 6) (v := .ref a_waitMany) (C := "ServiceDiskModel") (T := TX6) (N := 24) hx hb hts inX6 hown hK hP 0 rfl rfl 16 (by decide) (hts _ w_753) (fun _ h9 => h9) rfl dX6_fillFrom_83 ?_
      refine lv_iload_n hx hb dX6_fillFrom_86 rfl (lv_at hl 1 rfl) ?_
      obtain ⟨q, h⟩ := dk_g h
      refine va_iald hx hb hK hP 8 2 rfl rfl q dX6_fillFrom_87 ?_
      refine lv_iconst (v := 1) hx hb dX6_fillFrom_88 (by decide) ?_
      refine lv_isub hx hb dX6_fillFrom_89 ?_
      refine lv_iload hx hb dX6_fillFrom_90 (lv_at hl 3 rfl) ?_
      refine lv_isub hx hb dX6_fillFrom_92 ?_
      refine lv_imul hx hb dX6_fillFrom_93 ?_
      refine lv_lshr (v := (dk_lshr (v_waitBytes x2.toNatClampNeg) (8 * (((v_waitMany x2.toNatClampNeg) - 1) - x4)))) hx hb dX6_fillFrom_94 rfl ?_
      refine lv_l2i (v := (dk_lshr (v_waitBytes x2.toNatClampNeg) (8 * (((v_waitMany x2.toNatClampNeg) - 1) - x4))).toInt32) hx hb dX6_fillFrom_95 rfl ?_
      replace h := dk_b h
      obtain ⟨o6, e6, h⟩ := h
      refine dk_cwv (wr := []) (va_runV (As := [.int ((x3 + 2) + x4), .int ((dk_lshr (v_waitBytes x2.toNatClampNeg) (8 * (((v_waitMany x2.toNatClampNeg) - 1) - x4))).toInt32)]) (rest := []) ⟨hx, hb, hml, hown, hts⟩ (mX6_put l D k h0 a_disk a_made a_sectorOf a_placeOf a_manyOf a_there a_waitKind a_waitMany a_waitBytes H.size v_thrown v_sectors v_power v_used v_reserve v_cutWrites v_cutBytes v_rows v_waits v_stateNumber v_stateNow v_second v_repaired v_up v_sent v_disk v_made v_sectorOf v_placeOf v_manyOf v_there v_waitKind v_waitMany v_waitBytes ((x3 + 2) + x4) ((dk_lshr (v_waitBytes x2.toNatClampNeg) (8 * (((v_waitMany x2.toNatClampNeg) - 1) - x4))).toInt32) o6 e6) (cwV 2 hts (dk_gV w_845 w_847 w_23 w_46 w_848) rfl rfl rfl (by decide +kernel) ⟨Nat.le_of_ble_eq_true rfl, Nat.le_of_ble_eq_true rfl⟩) (dk_pvw hK hN hP hD [0, 1, 2, 3, 4, 5, 6, 7, 8, 9] rfl rfl rfl rfl (hP.sub [0, 1, 2, 3, 4, 5, 6, 7, 8, 9] rfl)) rfl rfl hl.1 rfl (lv_room (Nat.le_of_ble_eq_true rfl)) dX6_fillFrom_96 ⟨Nat.le_of_ble_eq_true rfl, Nat.le_of_ble_eq_true rfl⟩) hP hD hS hA [0, 1, 2, 3, 4, 5, 6, 7, 8, 9] [] rfl rfl rfl (by decide) (fun H locs hP hD hS => ?_)
      have hP : va_P D vwCl [(h0, .inr (6, [.int v_thrown, .int v_sectors, .int v_power, .ref a_disk, .ref a_made, .int v_used, .int v_reserve, .int v_cutWrites, .int v_cutBytes, .int v_rows, .ref a_sectorOf, .ref a_placeOf, .ref a_manyOf, .ref a_there, .int v_waits, .ref a_waitKind, .ref a_waitMany, .ref a_waitBytes, .int v_stateNumber, .long v_stateNow, .int v_second, .int v_repaired, .int v_up, .int v_sent])), (a_disk, .inl ((k 2), 32768, .inl v_disk)), (a_made, .inl ((k 2), 512, .inl o6)), (a_sectorOf, .inl ((k 2), 5100, .inl v_sectorOf)), (a_placeOf, .inl ((k 2), 5100, .inl v_placeOf)), (a_manyOf, .inl ((k 2), 5100, .inl v_manyOf)), (a_there, .inl ((k 1), 5100, .inl v_there)), (a_waitKind, .inl ((k 2), 100, .inl v_waitKind)), (a_waitMany, .inl ((k 2), 100, .inl v_waitMany)), (a_waitBytes, .inl ((k 3), 100, .inr (.inl v_waitBytes)))] H := hP
      have hD : va_D A [(h0, .inr (6, [.int v_thrown, .int v_sectors, .int v_power, .ref a_disk, .ref a_made, .int v_used, .int v_reserve, .int v_cutWrites, .int v_cutBytes, .int v_rows, .ref a_sectorOf, .ref a_placeOf, .ref a_manyOf, .ref a_there, .int v_waits, .ref a_waitKind, .ref a_waitMany, .ref a_waitBytes, .int v_stateNumber, .long v_stateNow, .int v_second, .int v_repaired, .int v_up, .int v_sent])), (a_disk, .inl ((k 2), 32768, .inl v_disk)), (a_made, .inl ((k 2), 512, .inl o6)), (a_sectorOf, .inl ((k 2), 5100, .inl v_sectorOf)), (a_placeOf, .inl ((k 2), 5100, .inl v_placeOf)), (a_manyOf, .inl ((k 2), 5100, .inl v_manyOf)), (a_there, .inl ((k 1), 5100, .inl v_there)), (a_waitKind, .inl ((k 2), 100, .inl v_waitKind)), (a_waitMany, .inl ((k 2), 100, .inl v_waitMany)), (a_waitBytes, .inl ((k 3), 100, .inr (.inl v_waitBytes)))] := hD
      refine lv_iinc (v := (x4 + 1)) (lv' := [(4, .int (x4 + 1)), (0, .ref h0), (2, .int x2), (3, .int x3)]) hx hb dX6_fillFrom_99 hl (k := 3) rfl rfl (by decide) rfl (fun ls hl => ?_)
      refine lv_goto (tgt := 56) hx hb dX6_fillFrom_102 (by decide) ?_
      exact ih (x4 + 1) o6 h K _ _ (hP.sub [0, 1, 2, 3, 4, 5, 6, 7, 8, 9] rfl) (hD.sub [0, 1, 2, 3, 4, 5, 6, 7, 8, 9] (by decide) rfl) hS ls (lv_sub hl [1, 2, 3, 0] rfl)
set_option maxHeartbeats 4000000 in
set_option maxRecDepth 100000 in
theorem lX6_fillFrom_5 {p : Program} {l : Launch} {e : Env} {s : State} {m : MethodId} {below : List Frame} {meth : Method} {c : Code} {args : Array Value} {D : va_G} {k : Nat → ClassId} {h0 : Nat} {a_disk : Nat} {a_made : Nat} {a_sectorOf : Nat} {a_placeOf : Nat} {a_manyOf : Nat} {a_there : Nat} {a_waitKind : Nat} {a_waitMany : Nat} {a_waitBytes : Nat} {v_thrown : Int32} {v_sectors : Int32} {v_power : Int32} {v_used : Int32} {v_reserve : Int32} {v_cutWrites : Int32} {v_cutBytes : Int32} {v_rows : Int32} {v_waits : Int32} {v_stateNumber : Int32} {v_stateNow : Int64} {v_second : Int32} {v_repaired : Int32} {v_up : Int32} {v_sent : Int32} {v_disk : Nat → Int32} {v_there : Nat → Int32} {v_waitKind : Nat → Int32} {v_waitMany : Nat → Int32} {v_waitBytes : Nat → Int64} {Q : State → Prop} {o : Int32 × Int32 × (Nat → Int32) × (Nat → Int32) × (Nat → Int32) × (Nat → Int32)} {A : Nat → Prop} (C : dk_Cx p s m meth c cX6_fillFrom (some .int) 5 "ServiceDiskModel" dkB args) (hK : va_K D vwCl (dkT k) s) (hN : dk_N s) (hA : ∀ q : Nat, s.heap.size ≤ q → A q) :
    ∀ (n : Nat) (x2 : Int32) (x3 : Int32) (v_made : Nat → Int32) (v_sectorOf : Nat → Int32) (v_placeOf : Nat → Int32) (v_manyOf : Nat → Int32), fX6_fillFrom_L5 v_used v_rows v_waits v_waitKind v_waitMany v_waitBytes n x2 x3 v_made v_sectorOf v_placeOf v_manyOf = some o → (∀ (H : Heap) (locs : List Loc), va_P D vwCl [(h0, .inr (6, [.int v_thrown, .int v_sectors, .int v_power, .ref a_disk, .ref a_made, .int v_used, .int v_reserve, .int v_cutWrites, .int v_cutBytes, .int v_rows, .ref a_sectorOf, .ref a_placeOf, .ref a_manyOf, .ref a_there, .int v_waits, .ref a_waitKind, .ref a_waitMany, .ref a_waitBytes, .int v_stateNumber, .long v_stateNow, .int v_second, .int v_repaired, .int v_up, .int v_sent])), (a_disk, .inl ((k 2), 32768, .inl v_disk)), (a_made, .inl ((k 2), 512, .inl o.2.2.1)), (a_sectorOf, .inl ((k 2), 5100, .inl o.2.2.2.1)), (a_placeOf, .inl ((k 2), 5100, .inl o.2.2.2.2.1)), (a_manyOf, .inl ((k 2), 5100, .inl o.2.2.2.2.2)), (a_there, .inl ((k 1), 5100, .inl v_there)), (a_waitKind, .inl ((k 2), 100, .inl v_waitKind)), (a_waitMany, .inl ((k 2), 100, .inl v_waitMany)), (a_waitBytes, .inl ((k 3), 100, .inr (.inl v_waitBytes)))] H → va_D A [(h0, .inr (6, [.int v_thrown, .int v_sectors, .int v_power, .ref a_disk, .ref a_made, .int v_used, .int v_reserve, .int v_cutWrites, .int v_cutBytes, .int v_rows, .ref a_sectorOf, .ref a_placeOf, .ref a_manyOf, .ref a_there, .int v_waits, .ref a_waitKind, .ref a_waitMany, .ref a_waitBytes, .int v_stateNumber, .long v_stateNow, .int v_second, .int v_repaired, .int v_up, .int v_sent])), (a_disk, .inl ((k 2), 32768, .inl v_disk)), (a_made, .inl ((k 2), 512, .inl o.2.2.1)), (a_sectorOf, .inl ((k 2), 5100, .inl o.2.2.2.1)), (a_placeOf, .inl ((k 2), 5100, .inl o.2.2.2.2.1)), (a_manyOf, .inl ((k 2), 5100, .inl o.2.2.2.2.2)), (a_there, .inl ((k 1), 5100, .inl v_there)), (a_waitKind, .inl ((k 2), 100, .inl v_waitKind)), (a_waitMany, .inl ((k 2), 100, .inl v_waitMany)), (a_waitBytes, .inl ((k 3), 100, .inr (.inl v_waitBytes)))] → va_S A s.heap H locs → ∀ ls : Array Slot, lv_has ls 5 [(0, .ref h0), (2, .int o.1), (3, .int o.2.1)] → W p l e { frames := 2, cells := 0, slots := 0, locals := 45 } s m args below meth c H locs 0 0 Q (F0 m 166 ls [])) → ∀ (H : Heap) (locs : List Loc), va_P D vwCl [(h0, .inr (6, [.int v_thrown, .int v_sectors, .int v_power, .ref a_disk, .ref a_made, .int v_used, .int v_reserve, .int v_cutWrites, .int v_cutBytes, .int v_rows, .ref a_sectorOf, .ref a_placeOf, .ref a_manyOf, .ref a_there, .int v_waits, .ref a_waitKind, .ref a_waitMany, .ref a_waitBytes, .int v_stateNumber, .long v_stateNow, .int v_second, .int v_repaired, .int v_up, .int v_sent])), (a_disk, .inl ((k 2), 32768, .inl v_disk)), (a_made, .inl ((k 2), 512, .inl v_made)), (a_sectorOf, .inl ((k 2), 5100, .inl v_sectorOf)), (a_placeOf, .inl ((k 2), 5100, .inl v_placeOf)), (a_manyOf, .inl ((k 2), 5100, .inl v_manyOf)), (a_there, .inl ((k 1), 5100, .inl v_there)), (a_waitKind, .inl ((k 2), 100, .inl v_waitKind)), (a_waitMany, .inl ((k 2), 100, .inl v_waitMany)), (a_waitBytes, .inl ((k 3), 100, .inr (.inl v_waitBytes)))] H → va_D A [(h0, .inr (6, [.int v_thrown, .int v_sectors, .int v_power, .ref a_disk, .ref a_made, .int v_used, .int v_reserve, .int v_cutWrites, .int v_cutBytes, .int v_rows, .ref a_sectorOf, .ref a_placeOf, .ref a_manyOf, .ref a_there, .int v_waits, .ref a_waitKind, .ref a_waitMany, .ref a_waitBytes, .int v_stateNumber, .long v_stateNow, .int v_second, .int v_repaired, .int v_up, .int v_sent])), (a_disk, .inl ((k 2), 32768, .inl v_disk)), (a_made, .inl ((k 2), 512, .inl v_made)), (a_sectorOf, .inl ((k 2), 5100, .inl v_sectorOf)), (a_placeOf, .inl ((k 2), 5100, .inl v_placeOf)), (a_manyOf, .inl ((k 2), 5100, .inl v_manyOf)), (a_there, .inl ((k 1), 5100, .inl v_there)), (a_waitKind, .inl ((k 2), 100, .inl v_waitKind)), (a_waitMany, .inl ((k 2), 100, .inl v_waitMany)), (a_waitBytes, .inl ((k 3), 100, .inr (.inl v_waitBytes)))] → va_S A s.heap H locs → ∀ ls : Array Slot, lv_has ls 5 [(0, .ref h0), (2, .int x2), (3, .int x3)] → W p l e { frames := 2, cells := 0, slots := 0, locals := 45 } s m args below meth c H locs 0 0 Q (F0 m 5 ls []) := by
  obtain ⟨hx, hb, hr, hml, hown, hts, hlocks⟩ := id C
  intro n
  induction n with
  | zero =>
    intro x2 x3 v_made v_sectorOf v_placeOf v_manyOf h
    exact dk_n (o := o) h
  | succ n ih =>
    intro x2 x3 v_made v_sectorOf v_placeOf v_manyOf h K H locs hP hD hS ls hl
    rw [fX6_fillFrom_L5.eq_2] at h
    refine lv_iload_n hx hb dX6_fillFrom_5 rfl (lv_at hl 1 rfl) ?_
    refine lv_aload_n hx hb dX6_fillFrom_6 rfl (lv_at hl 0 rfl) ?_
    refine va_get (D := D) (ci := 6) (v := .int v_waits) (C := "ServiceDiskModel") (T := TX6) (N := 24) hx hb hts inX6 hown hK hP 0 rfl rfl 14 (by decide) (hts _ w_751) (fun _ h9 => h9) rfl dX6_fillFrom_7 ?_
    refine lv_icmp_ge (tgt := 166) hx hb dX6_fillFrom_10 (by decide) (fun q => ?_) (fun q => ?_)
    · replace h := dk_t q h
      have h := dk_r h
      subst h
      exact K _ _ (hP.sub [0, 1, 2, 3, 4, 5, 6, 7, 8, 9] rfl) (hD.sub [0, 1, 2, 3, 4, 5, 6, 7, 8, 9] (by decide) rfl) hS ls (lv_sub hl [0, 1, 2] rfl)
    · replace h := dk_f q h
      refine lv_iload_n hx hb dX6_fillFrom_13 rfl (lv_at hl 2 rfl) ?_
      refine lv_iconst (v := 2) hx hb dX6_fillFrom_14 (by decide) ?_
      refine lv_iadd hx hb dX6_fillFrom_15 ?_
      refine lv_aload_n hx hb dX6_fillFrom_16 rfl (lv_at hl 0 rfl) ?_
      refine va_get (D := D) (ci := 6) (v := .ref a_waitMany) (C := "ServiceDiskModel") (T := TX6) (N := 24) hx hb hts inX6 hown hK hP 0 rfl rfl 16 (by decide) (hts _ w_753) (fun _ h9 => h9) rfl dX6_fillFrom_17 ?_
      refine lv_iload_n hx hb dX6_fillFrom_20 rfl (lv_at hl 1 rfl) ?_
      obtain ⟨q, h⟩ := dk_g h
      refine va_iald hx hb hK hP 8 2 rfl rfl q dX6_fillFrom_21 ?_
      refine lv_iadd hx hb dX6_fillFrom_22 ?_
      refine lv_sipush (v := 508) hx hb dX6_fillFrom_23 (by decide) ?_
      refine lv_icmp_gt (tgt := 166) hx hb dX6_fillFrom_26 (by decide) (fun q => ?_) (fun q => ?_)
      · replace h := dk_t q h
        have h := dk_r h
        subst h
        exact K _ _ (hP.sub [0, 1, 2, 3, 4, 5, 6, 7, 8, 9] rfl) (hD.sub [0, 1, 2, 3, 4, 5, 6, 7, 8, 9] (by decide) rfl) hS ls (lv_sub hl [0, 1, 2] rfl)
      · replace h := dk_f q h
        refine lv_aload_n hx hb dX6_fillFrom_29 rfl (lv_at hl 0 rfl) ?_
        refine lv_iload_n hx hb dX6_fillFrom_30 rfl (lv_at hl 2 rfl) ?_
        refine lv_aload_n hx hb dX6_fillFrom_31 rfl (lv_at hl 0 rfl) ?_
        refine va_get (D := D) (ci := 6) (v := .ref a_waitKind) (C := "ServiceDiskModel") (T := TX6) (N := 24) hx hb hts inX6 hown hK hP 0 rfl rfl 15 (by decide) (hts _ w_752) (fun _ h9 => h9) rfl dX6_fillFrom_32 ?_
        refine lv_iload_n hx hb dX6_fillFrom_35 rfl (lv_at hl 1 rfl) ?_
        obtain ⟨q, h⟩ := dk_g h
        refine va_iald hx hb hK hP 7 2 rfl rfl q dX6_fillFrom_36 ?_
        replace h := dk_b h
        obtain ⟨o3, e3, h⟩ := h
        refine dk_cwv (wr := []) (va_runV (As := [.int x3, .int (v_waitKind x2.toNatClampNeg)]) (rest := []) ⟨hx, hb, hml, hown, hts⟩ (mX6_put l D k h0 a_disk a_made a_sectorOf a_placeOf a_manyOf a_there a_waitKind a_waitMany a_waitBytes H.size v_thrown v_sectors v_power v_used v_reserve v_cutWrites v_cutBytes v_rows v_waits v_stateNumber v_stateNow v_second v_repaired v_up v_sent v_disk v_made v_sectorOf v_placeOf v_manyOf v_there v_waitKind v_waitMany v_waitBytes x3 (v_waitKind x2.toNatClampNeg) o3 e3) (cwV 2 hts (dk_gV w_845 w_847 w_23 w_46 w_848) rfl rfl rfl (by decide +kernel) ⟨Nat.le_of_ble_eq_true rfl, Nat.le_of_ble_eq_true rfl⟩) (dk_pvw hK hN hP hD [0, 1, 2, 3, 4, 5, 6, 7, 8, 9] rfl rfl rfl rfl (hP.sub [0, 1, 2, 3, 4, 5, 6, 7, 8, 9] rfl)) rfl rfl hl.1 rfl (lv_room (Nat.le_of_ble_eq_true rfl)) dX6_fillFrom_37 ⟨Nat.le_of_ble_eq_true rfl, Nat.le_of_ble_eq_true rfl⟩) hP hD hS hA [0, 1, 2, 3, 4, 5, 6, 7, 8, 9] [] rfl rfl rfl (by decide) (fun H locs hP hD hS => ?_)
        have hP : va_P D vwCl [(h0, .inr (6, [.int v_thrown, .int v_sectors, .int v_power, .ref a_disk, .ref a_made, .int v_used, .int v_reserve, .int v_cutWrites, .int v_cutBytes, .int v_rows, .ref a_sectorOf, .ref a_placeOf, .ref a_manyOf, .ref a_there, .int v_waits, .ref a_waitKind, .ref a_waitMany, .ref a_waitBytes, .int v_stateNumber, .long v_stateNow, .int v_second, .int v_repaired, .int v_up, .int v_sent])), (a_disk, .inl ((k 2), 32768, .inl v_disk)), (a_made, .inl ((k 2), 512, .inl o3)), (a_sectorOf, .inl ((k 2), 5100, .inl v_sectorOf)), (a_placeOf, .inl ((k 2), 5100, .inl v_placeOf)), (a_manyOf, .inl ((k 2), 5100, .inl v_manyOf)), (a_there, .inl ((k 1), 5100, .inl v_there)), (a_waitKind, .inl ((k 2), 100, .inl v_waitKind)), (a_waitMany, .inl ((k 2), 100, .inl v_waitMany)), (a_waitBytes, .inl ((k 3), 100, .inr (.inl v_waitBytes)))] H := hP
        have hD : va_D A [(h0, .inr (6, [.int v_thrown, .int v_sectors, .int v_power, .ref a_disk, .ref a_made, .int v_used, .int v_reserve, .int v_cutWrites, .int v_cutBytes, .int v_rows, .ref a_sectorOf, .ref a_placeOf, .ref a_manyOf, .ref a_there, .int v_waits, .ref a_waitKind, .ref a_waitMany, .ref a_waitBytes, .int v_stateNumber, .long v_stateNow, .int v_second, .int v_repaired, .int v_up, .int v_sent])), (a_disk, .inl ((k 2), 32768, .inl v_disk)), (a_made, .inl ((k 2), 512, .inl o3)), (a_sectorOf, .inl ((k 2), 5100, .inl v_sectorOf)), (a_placeOf, .inl ((k 2), 5100, .inl v_placeOf)), (a_manyOf, .inl ((k 2), 5100, .inl v_manyOf)), (a_there, .inl ((k 1), 5100, .inl v_there)), (a_waitKind, .inl ((k 2), 100, .inl v_waitKind)), (a_waitMany, .inl ((k 2), 100, .inl v_waitMany)), (a_waitBytes, .inl ((k 3), 100, .inr (.inl v_waitBytes)))] := hD
        refine lv_aload_n hx hb dX6_fillFrom_40 rfl (lv_at hl 0 rfl) ?_
        refine lv_iload_n hx hb dX6_fillFrom_41 rfl (lv_at hl 2 rfl) ?_
        refine lv_iconst (v := 1) hx hb dX6_fillFrom_42 (by decide) ?_
        refine lv_iadd hx hb dX6_fillFrom_43 ?_
        refine lv_aload_n hx hb dX6_fillFrom_44 rfl (lv_at hl 0 rfl) ?_
        refine va_get (D := D) (ci := 6) (v := .ref a_waitMany) (C := "ServiceDiskModel") (T := TX6) (N := 24) hx hb hts inX6 hown hK hP 0 rfl rfl 16 (by decide) (hts _ w_753) (fun _ h9 => h9) rfl dX6_fillFrom_45 ?_
        refine lv_iload_n hx hb dX6_fillFrom_48 rfl (lv_at hl 1 rfl) ?_
        obtain ⟨q, h⟩ := dk_g h
        refine va_iald hx hb hK hP 8 2 rfl rfl q dX6_fillFrom_49 ?_
        replace h := dk_b h
        obtain ⟨o4, e4, h⟩ := h
        refine dk_cwv (wr := []) (va_runV (As := [.int (x3 + 1), .int (v_waitMany x2.toNatClampNeg)]) (rest := []) ⟨hx, hb, hml, hown, hts⟩ (mX6_put l D k h0 a_disk a_made a_sectorOf a_placeOf a_manyOf a_there a_waitKind a_waitMany a_waitBytes H.size v_thrown v_sectors v_power v_used v_reserve v_cutWrites v_cutBytes v_rows v_waits v_stateNumber v_stateNow v_second v_repaired v_up v_sent v_disk o3 v_sectorOf v_placeOf v_manyOf v_there v_waitKind v_waitMany v_waitBytes (x3 + 1) (v_waitMany x2.toNatClampNeg) o4 e4) (cwV 2 hts (dk_gV w_845 w_847 w_23 w_46 w_848) rfl rfl rfl (by decide +kernel) ⟨Nat.le_of_ble_eq_true rfl, Nat.le_of_ble_eq_true rfl⟩) (dk_pvw hK hN hP hD [0, 1, 2, 3, 4, 5, 6, 7, 8, 9] rfl rfl rfl rfl (hP.sub [0, 1, 2, 3, 4, 5, 6, 7, 8, 9] rfl)) rfl rfl hl.1 rfl (lv_room (Nat.le_of_ble_eq_true rfl)) dX6_fillFrom_50 ⟨Nat.le_of_ble_eq_true rfl, Nat.le_of_ble_eq_true rfl⟩) hP hD hS hA [0, 1, 2, 3, 4, 5, 6, 7, 8, 9] [] rfl rfl rfl (by decide) (fun H locs hP hD hS => ?_)
        have hP : va_P D vwCl [(h0, .inr (6, [.int v_thrown, .int v_sectors, .int v_power, .ref a_disk, .ref a_made, .int v_used, .int v_reserve, .int v_cutWrites, .int v_cutBytes, .int v_rows, .ref a_sectorOf, .ref a_placeOf, .ref a_manyOf, .ref a_there, .int v_waits, .ref a_waitKind, .ref a_waitMany, .ref a_waitBytes, .int v_stateNumber, .long v_stateNow, .int v_second, .int v_repaired, .int v_up, .int v_sent])), (a_disk, .inl ((k 2), 32768, .inl v_disk)), (a_made, .inl ((k 2), 512, .inl o4)), (a_sectorOf, .inl ((k 2), 5100, .inl v_sectorOf)), (a_placeOf, .inl ((k 2), 5100, .inl v_placeOf)), (a_manyOf, .inl ((k 2), 5100, .inl v_manyOf)), (a_there, .inl ((k 1), 5100, .inl v_there)), (a_waitKind, .inl ((k 2), 100, .inl v_waitKind)), (a_waitMany, .inl ((k 2), 100, .inl v_waitMany)), (a_waitBytes, .inl ((k 3), 100, .inr (.inl v_waitBytes)))] H := hP
        have hD : va_D A [(h0, .inr (6, [.int v_thrown, .int v_sectors, .int v_power, .ref a_disk, .ref a_made, .int v_used, .int v_reserve, .int v_cutWrites, .int v_cutBytes, .int v_rows, .ref a_sectorOf, .ref a_placeOf, .ref a_manyOf, .ref a_there, .int v_waits, .ref a_waitKind, .ref a_waitMany, .ref a_waitBytes, .int v_stateNumber, .long v_stateNow, .int v_second, .int v_repaired, .int v_up, .int v_sent])), (a_disk, .inl ((k 2), 32768, .inl v_disk)), (a_made, .inl ((k 2), 512, .inl o4)), (a_sectorOf, .inl ((k 2), 5100, .inl v_sectorOf)), (a_placeOf, .inl ((k 2), 5100, .inl v_placeOf)), (a_manyOf, .inl ((k 2), 5100, .inl v_manyOf)), (a_there, .inl ((k 1), 5100, .inl v_there)), (a_waitKind, .inl ((k 2), 100, .inl v_waitKind)), (a_waitMany, .inl ((k 2), 100, .inl v_waitMany)), (a_waitBytes, .inl ((k 3), 100, .inr (.inl v_waitBytes)))] := hD
        refine lv_iconst (v := 0) hx hb dX6_fillFrom_53 (by decide) ?_
        refine lv_istore (lv' := [(4, .int 0), (0, .ref h0), (2, .int x2), (3, .int x3)]) hx hb dX6_fillFrom_54 hl (by decide) rfl (fun ls hl => ?_)
        replace h := dk_b h
        obtain ⟨o5, e5, h⟩ := h
        refine lX6_fillFrom_56 C hK hN hA _ 0 o4  e5 (fun H locs hP hD hS ls hl => ?_) _ _ (hP.sub [0, 1, 2, 3, 4, 5, 6, 7, 8, 9] rfl) (hD.sub [0, 1, 2, 3, 4, 5, 6, 7, 8, 9] (by decide) rfl) hS ls (lv_sub hl [1, 2, 3, 0] rfl)
        have hP : va_P D vwCl [(h0, .inr (6, [.int v_thrown, .int v_sectors, .int v_power, .ref a_disk, .ref a_made, .int v_used, .int v_reserve, .int v_cutWrites, .int v_cutBytes, .int v_rows, .ref a_sectorOf, .ref a_placeOf, .ref a_manyOf, .ref a_there, .int v_waits, .ref a_waitKind, .ref a_waitMany, .ref a_waitBytes, .int v_stateNumber, .long v_stateNow, .int v_second, .int v_repaired, .int v_up, .int v_sent])), (a_disk, .inl ((k 2), 32768, .inl v_disk)), (a_made, .inl ((k 2), 512, .inl o5.2)), (a_sectorOf, .inl ((k 2), 5100, .inl v_sectorOf)), (a_placeOf, .inl ((k 2), 5100, .inl v_placeOf)), (a_manyOf, .inl ((k 2), 5100, .inl v_manyOf)), (a_there, .inl ((k 1), 5100, .inl v_there)), (a_waitKind, .inl ((k 2), 100, .inl v_waitKind)), (a_waitMany, .inl ((k 2), 100, .inl v_waitMany)), (a_waitBytes, .inl ((k 3), 100, .inr (.inl v_waitBytes)))] H := hP
        have hD : va_D A [(h0, .inr (6, [.int v_thrown, .int v_sectors, .int v_power, .ref a_disk, .ref a_made, .int v_used, .int v_reserve, .int v_cutWrites, .int v_cutBytes, .int v_rows, .ref a_sectorOf, .ref a_placeOf, .ref a_manyOf, .ref a_there, .int v_waits, .ref a_waitKind, .ref a_waitMany, .ref a_waitBytes, .int v_stateNumber, .long v_stateNow, .int v_second, .int v_repaired, .int v_up, .int v_sent])), (a_disk, .inl ((k 2), 32768, .inl v_disk)), (a_made, .inl ((k 2), 512, .inl o5.2)), (a_sectorOf, .inl ((k 2), 5100, .inl v_sectorOf)), (a_placeOf, .inl ((k 2), 5100, .inl v_placeOf)), (a_manyOf, .inl ((k 2), 5100, .inl v_manyOf)), (a_there, .inl ((k 1), 5100, .inl v_there)), (a_waitKind, .inl ((k 2), 100, .inl v_waitKind)), (a_waitMany, .inl ((k 2), 100, .inl v_waitMany)), (a_waitBytes, .inl ((k 3), 100, .inr (.inl v_waitBytes)))] := hD
        have hl : lv_has ls 5 [(0, .ref h0), (2, .int x2), (3, .int x3), (4, .int o5.1)] := hl
        refine lv_aload_n hx hb dX6_fillFrom_105 rfl (lv_at hl 0 rfl) ?_
        refine va_get (D := D) (ci := 6) (v := .ref a_sectorOf) (C := "ServiceDiskModel") (T := TX6) (N := 24) hx hb hts inX6 hown hK hP 0 rfl rfl 10 (by decide) (hts _ w_747) (fun _ h9 => h9) rfl dX6_fillFrom_106 ?_
        refine lv_aload_n hx hb dX6_fillFrom_109 rfl (lv_at hl 0 rfl) ?_
        refine va_get (D := D) (ci := 6) (v := .int v_rows) (C := "ServiceDiskModel") (T := TX6) (N := 24) hx hb hts inX6 hown hK hP 0 rfl rfl 9 (by decide) (hts _ w_746) (fun _ h9 => h9) rfl dX6_fillFrom_110 ?_
        refine lv_iload_n hx hb dX6_fillFrom_113 rfl (lv_at hl 1 rfl) ?_
        refine lv_iadd hx hb dX6_fillFrom_114 ?_
        refine lv_aload_n hx hb dX6_fillFrom_115 rfl (lv_at hl 0 rfl) ?_
        refine va_get (D := D) (ci := 6) (v := .int v_used) (C := "ServiceDiskModel") (T := TX6) (N := 24) hx hb hts inX6 hown hK hP 0 rfl rfl 5 (by decide) (hts _ w_742) (fun _ h9 => h9) rfl dX6_fillFrom_116 ?_
        obtain ⟨q, h⟩ := dk_g h
        refine va_iast hx hb hK hP hD hS 3 2 rfl rfl q dX6_fillFrom_119 (fun H locs hP hD hS => ?_)
        have hP : va_P D vwCl [(h0, .inr (6, [.int v_thrown, .int v_sectors, .int v_power, .ref a_disk, .ref a_made, .int v_used, .int v_reserve, .int v_cutWrites, .int v_cutBytes, .int v_rows, .ref a_sectorOf, .ref a_placeOf, .ref a_manyOf, .ref a_there, .int v_waits, .ref a_waitKind, .ref a_waitMany, .ref a_waitBytes, .int v_stateNumber, .long v_stateNow, .int v_second, .int v_repaired, .int v_up, .int v_sent])), (a_disk, .inl ((k 2), 32768, .inl v_disk)), (a_made, .inl ((k 2), 512, .inl o5.2)), (a_sectorOf, .inl ((k 2), 5100, .inl (upd v_sectorOf (v_rows + x2).toNatClampNeg v_used))), (a_placeOf, .inl ((k 2), 5100, .inl v_placeOf)), (a_manyOf, .inl ((k 2), 5100, .inl v_manyOf)), (a_there, .inl ((k 1), 5100, .inl v_there)), (a_waitKind, .inl ((k 2), 100, .inl v_waitKind)), (a_waitMany, .inl ((k 2), 100, .inl v_waitMany)), (a_waitBytes, .inl ((k 3), 100, .inr (.inl v_waitBytes)))] H := hP
        have hD : va_D A [(h0, .inr (6, [.int v_thrown, .int v_sectors, .int v_power, .ref a_disk, .ref a_made, .int v_used, .int v_reserve, .int v_cutWrites, .int v_cutBytes, .int v_rows, .ref a_sectorOf, .ref a_placeOf, .ref a_manyOf, .ref a_there, .int v_waits, .ref a_waitKind, .ref a_waitMany, .ref a_waitBytes, .int v_stateNumber, .long v_stateNow, .int v_second, .int v_repaired, .int v_up, .int v_sent])), (a_disk, .inl ((k 2), 32768, .inl v_disk)), (a_made, .inl ((k 2), 512, .inl o5.2)), (a_sectorOf, .inl ((k 2), 5100, .inl (upd v_sectorOf (v_rows + x2).toNatClampNeg v_used))), (a_placeOf, .inl ((k 2), 5100, .inl v_placeOf)), (a_manyOf, .inl ((k 2), 5100, .inl v_manyOf)), (a_there, .inl ((k 1), 5100, .inl v_there)), (a_waitKind, .inl ((k 2), 100, .inl v_waitKind)), (a_waitMany, .inl ((k 2), 100, .inl v_waitMany)), (a_waitBytes, .inl ((k 3), 100, .inr (.inl v_waitBytes)))] := hD
        refine lv_aload_n hx hb dX6_fillFrom_120 rfl (lv_at hl 0 rfl) ?_
        refine va_get (D := D) (ci := 6) (v := .ref a_placeOf) (C := "ServiceDiskModel") (T := TX6) (N := 24) hx hb hts inX6 hown hK hP 0 rfl rfl 11 (by decide) (hts _ w_748) (fun _ h9 => h9) rfl dX6_fillFrom_121 ?_
        refine lv_aload_n hx hb dX6_fillFrom_124 rfl (lv_at hl 0 rfl) ?_
        refine va_get (D := D) (ci := 6) (v := .int v_rows) (C := "ServiceDiskModel") (T := TX6) (N := 24) hx hb hts inX6 hown hK hP 0 rfl rfl 9 (by decide) (hts _ w_746) (fun _ h9 => h9) rfl dX6_fillFrom_125 ?_
        refine lv_iload_n hx hb dX6_fillFrom_128 rfl (lv_at hl 1 rfl) ?_
        refine lv_iadd hx hb dX6_fillFrom_129 ?_
        refine lv_iload_n hx hb dX6_fillFrom_130 rfl (lv_at hl 2 rfl) ?_
        obtain ⟨q, h⟩ := dk_g h
        refine va_iast hx hb hK hP hD hS 4 2 rfl rfl q dX6_fillFrom_131 (fun H locs hP hD hS => ?_)
        have hP : va_P D vwCl [(h0, .inr (6, [.int v_thrown, .int v_sectors, .int v_power, .ref a_disk, .ref a_made, .int v_used, .int v_reserve, .int v_cutWrites, .int v_cutBytes, .int v_rows, .ref a_sectorOf, .ref a_placeOf, .ref a_manyOf, .ref a_there, .int v_waits, .ref a_waitKind, .ref a_waitMany, .ref a_waitBytes, .int v_stateNumber, .long v_stateNow, .int v_second, .int v_repaired, .int v_up, .int v_sent])), (a_disk, .inl ((k 2), 32768, .inl v_disk)), (a_made, .inl ((k 2), 512, .inl o5.2)), (a_sectorOf, .inl ((k 2), 5100, .inl (upd v_sectorOf (v_rows + x2).toNatClampNeg v_used))), (a_placeOf, .inl ((k 2), 5100, .inl (upd v_placeOf (v_rows + x2).toNatClampNeg x3))), (a_manyOf, .inl ((k 2), 5100, .inl v_manyOf)), (a_there, .inl ((k 1), 5100, .inl v_there)), (a_waitKind, .inl ((k 2), 100, .inl v_waitKind)), (a_waitMany, .inl ((k 2), 100, .inl v_waitMany)), (a_waitBytes, .inl ((k 3), 100, .inr (.inl v_waitBytes)))] H := hP
        have hD : va_D A [(h0, .inr (6, [.int v_thrown, .int v_sectors, .int v_power, .ref a_disk, .ref a_made, .int v_used, .int v_reserve, .int v_cutWrites, .int v_cutBytes, .int v_rows, .ref a_sectorOf, .ref a_placeOf, .ref a_manyOf, .ref a_there, .int v_waits, .ref a_waitKind, .ref a_waitMany, .ref a_waitBytes, .int v_stateNumber, .long v_stateNow, .int v_second, .int v_repaired, .int v_up, .int v_sent])), (a_disk, .inl ((k 2), 32768, .inl v_disk)), (a_made, .inl ((k 2), 512, .inl o5.2)), (a_sectorOf, .inl ((k 2), 5100, .inl (upd v_sectorOf (v_rows + x2).toNatClampNeg v_used))), (a_placeOf, .inl ((k 2), 5100, .inl (upd v_placeOf (v_rows + x2).toNatClampNeg x3))), (a_manyOf, .inl ((k 2), 5100, .inl v_manyOf)), (a_there, .inl ((k 1), 5100, .inl v_there)), (a_waitKind, .inl ((k 2), 100, .inl v_waitKind)), (a_waitMany, .inl ((k 2), 100, .inl v_waitMany)), (a_waitBytes, .inl ((k 3), 100, .inr (.inl v_waitBytes)))] := hD
        refine lv_aload_n hx hb dX6_fillFrom_132 rfl (lv_at hl 0 rfl) ?_
        refine va_get (D := D) (ci := 6) (v := .ref a_manyOf) (C := "ServiceDiskModel") (T := TX6) (N := 24) hx hb hts inX6 hown hK hP 0 rfl rfl 12 (by decide) (hts _ w_749) (fun _ h9 => h9) rfl dX6_fillFrom_133 ?_
        refine lv_aload_n hx hb dX6_fillFrom_136 rfl (lv_at hl 0 rfl) ?_
        refine va_get (D := D) (ci := 6) (v := .int v_rows) (C := "ServiceDiskModel") (T := TX6) (N := 24) hx hb hts inX6 hown hK hP 0 rfl rfl 9 (by decide) (hts _ w_746) (fun _ h9 => h9) rfl dX6_fillFrom_137 ?_
        refine lv_iload_n hx hb dX6_fillFrom_140 rfl (lv_at hl 1 rfl) ?_
        refine lv_iadd hx hb dX6_fillFrom_141 ?_
        refine lv_aload_n hx hb dX6_fillFrom_142 rfl (lv_at hl 0 rfl) ?_
        refine va_get (D := D) (ci := 6) (v := .ref a_waitMany) (C := "ServiceDiskModel") (T := TX6) (N := 24) hx hb hts inX6 hown hK hP 0 rfl rfl 16 (by decide) (hts _ w_753) (fun _ h9 => h9) rfl dX6_fillFrom_143 ?_
        refine lv_iload_n hx hb dX6_fillFrom_146 rfl (lv_at hl 1 rfl) ?_
        obtain ⟨q, h⟩ := dk_g h
        refine va_iald hx hb hK hP 8 2 rfl rfl q dX6_fillFrom_147 ?_
        obtain ⟨q, h⟩ := dk_g h
        refine va_iast hx hb hK hP hD hS 5 2 rfl rfl q dX6_fillFrom_148 (fun H locs hP hD hS => ?_)
        have hP : va_P D vwCl [(h0, .inr (6, [.int v_thrown, .int v_sectors, .int v_power, .ref a_disk, .ref a_made, .int v_used, .int v_reserve, .int v_cutWrites, .int v_cutBytes, .int v_rows, .ref a_sectorOf, .ref a_placeOf, .ref a_manyOf, .ref a_there, .int v_waits, .ref a_waitKind, .ref a_waitMany, .ref a_waitBytes, .int v_stateNumber, .long v_stateNow, .int v_second, .int v_repaired, .int v_up, .int v_sent])), (a_disk, .inl ((k 2), 32768, .inl v_disk)), (a_made, .inl ((k 2), 512, .inl o5.2)), (a_sectorOf, .inl ((k 2), 5100, .inl (upd v_sectorOf (v_rows + x2).toNatClampNeg v_used))), (a_placeOf, .inl ((k 2), 5100, .inl (upd v_placeOf (v_rows + x2).toNatClampNeg x3))), (a_manyOf, .inl ((k 2), 5100, .inl (upd v_manyOf (v_rows + x2).toNatClampNeg (v_waitMany x2.toNatClampNeg)))), (a_there, .inl ((k 1), 5100, .inl v_there)), (a_waitKind, .inl ((k 2), 100, .inl v_waitKind)), (a_waitMany, .inl ((k 2), 100, .inl v_waitMany)), (a_waitBytes, .inl ((k 3), 100, .inr (.inl v_waitBytes)))] H := hP
        have hD : va_D A [(h0, .inr (6, [.int v_thrown, .int v_sectors, .int v_power, .ref a_disk, .ref a_made, .int v_used, .int v_reserve, .int v_cutWrites, .int v_cutBytes, .int v_rows, .ref a_sectorOf, .ref a_placeOf, .ref a_manyOf, .ref a_there, .int v_waits, .ref a_waitKind, .ref a_waitMany, .ref a_waitBytes, .int v_stateNumber, .long v_stateNow, .int v_second, .int v_repaired, .int v_up, .int v_sent])), (a_disk, .inl ((k 2), 32768, .inl v_disk)), (a_made, .inl ((k 2), 512, .inl o5.2)), (a_sectorOf, .inl ((k 2), 5100, .inl (upd v_sectorOf (v_rows + x2).toNatClampNeg v_used))), (a_placeOf, .inl ((k 2), 5100, .inl (upd v_placeOf (v_rows + x2).toNatClampNeg x3))), (a_manyOf, .inl ((k 2), 5100, .inl (upd v_manyOf (v_rows + x2).toNatClampNeg (v_waitMany x2.toNatClampNeg)))), (a_there, .inl ((k 1), 5100, .inl v_there)), (a_waitKind, .inl ((k 2), 100, .inl v_waitKind)), (a_waitMany, .inl ((k 2), 100, .inl v_waitMany)), (a_waitBytes, .inl ((k 3), 100, .inr (.inl v_waitBytes)))] := hD
        refine lv_iload_n hx hb dX6_fillFrom_149 rfl (lv_at hl 2 rfl) ?_
        refine lv_iconst (v := 2) hx hb dX6_fillFrom_150 (by decide) ?_
        refine lv_aload_n hx hb dX6_fillFrom_151 rfl (lv_at hl 0 rfl) ?_
        refine va_get (D := D) (ci := 6) (v := .ref a_waitMany) (C := "ServiceDiskModel") (T := TX6) (N := 24) hx hb hts inX6 hown hK hP 0 rfl rfl 16 (by decide) (hts _ w_753) (fun _ h9 => h9) rfl dX6_fillFrom_152 ?_
        refine lv_iload_n hx hb dX6_fillFrom_155 rfl (lv_at hl 1 rfl) ?_
        obtain ⟨q, h⟩ := dk_g h
        refine va_iald hx hb hK hP 8 2 rfl rfl q dX6_fillFrom_156 ?_
        refine lv_iadd hx hb dX6_fillFrom_157 ?_
        refine lv_iadd hx hb dX6_fillFrom_158 ?_
        refine lv_istore_n (lv' := [(3, .int (x3 + (2 + (v_waitMany x2.toNatClampNeg)))), (0, .ref h0), (2, .int x2), (4, .int o5.1)]) hx hb dX6_fillFrom_159 rfl hl (by decide) rfl (fun ls hl => ?_)
        refine lv_iinc (v := (x2 + 1)) (lv' := [(2, .int (x2 + 1)), (3, .int (x3 + (2 + (v_waitMany x2.toNatClampNeg)))), (0, .ref h0), (4, .int o5.1)]) hx hb dX6_fillFrom_160 hl (k := 2) rfl rfl (by decide) rfl (fun ls hl => ?_)
        refine lv_goto (tgt := 5) hx hb dX6_fillFrom_163 (by decide) ?_
        exact ih (x2 + 1) (x3 + (2 + (v_waitMany x2.toNatClampNeg))) o5.2 (upd v_sectorOf (v_rows + x2).toNatClampNeg v_used) (upd v_placeOf (v_rows + x2).toNatClampNeg x3) (upd v_manyOf (v_rows + x2).toNatClampNeg (v_waitMany x2.toNatClampNeg)) h K _ _ (hP.sub [0, 1, 2, 3, 4, 5, 6, 7, 8, 9] rfl) (hD.sub [0, 1, 2, 3, 4, 5, 6, 7, 8, 9] (by decide) rfl) hS ls (lv_sub hl [2, 0, 1] rfl)
set_option maxHeartbeats 4000000 in
set_option maxRecDepth 100000 in
theorem mX6_fillFrom (l : Launch) (D : va_G) (k : Nat → ClassId) (h0 a_disk a_made a_sectorOf a_placeOf a_manyOf a_there a_waitKind a_waitMany a_waitBytes : Nat) (sz : Nat) (v_thrown : Int32) (v_sectors : Int32) (v_power : Int32) (v_used : Int32) (v_reserve : Int32) (v_cutWrites : Int32) (v_cutBytes : Int32) (v_rows : Int32) (v_waits : Int32) (v_stateNumber : Int32) (v_stateNow : Int64) (v_second : Int32) (v_repaired : Int32) (v_up : Int32) (v_sent : Int32) (v_disk : Nat → Int32) (v_made : Nat → Int32) (v_sectorOf : Nat → Int32) (v_placeOf : Nat → Int32) (v_manyOf : Nat → Int32) (v_there : Nat → Int32) (v_waitKind : Nat → Int32) (v_waitMany : Nat → Int32) (v_waitBytes : Nat → Int64) (p1 : Int32) (o : Int32 × (Nat → Int32) × (Nat → Int32) × (Nat → Int32) × (Nat → Int32)) (h : fX6_fillFrom v_used v_rows v_waits v_made v_sectorOf v_placeOf v_manyOf v_waitKind v_waitMany v_waitBytes p1 = some o) : Met l yX6_fillFrom wsX6_fillFrom { frames := 2, cells := 0, slots := 0, locals := 45 } (dk_Pw D k [.ref h0, .int p1] [(h0, .inr (6, [.int v_thrown, .int v_sectors, .int v_power, .ref a_disk, .ref a_made, .int v_used, .int v_reserve, .int v_cutWrites, .int v_cutBytes, .int v_rows, .ref a_sectorOf, .ref a_placeOf, .ref a_manyOf, .ref a_there, .int v_waits, .ref a_waitKind, .ref a_waitMany, .ref a_waitBytes, .int v_stateNumber, .long v_stateNow, .int v_second, .int v_repaired, .int v_up, .int v_sent])), (a_disk, .inl ((k 2), 32768, .inl v_disk)), (a_made, .inl ((k 2), 512, .inl v_made)), (a_sectorOf, .inl ((k 2), 5100, .inl v_sectorOf)), (a_placeOf, .inl ((k 2), 5100, .inl v_placeOf)), (a_manyOf, .inl ((k 2), 5100, .inl v_manyOf)), (a_there, .inl ((k 1), 5100, .inl v_there)), (a_waitKind, .inl ((k 2), 100, .inl v_waitKind)), (a_waitMany, .inl ((k 2), 100, .inl v_waitMany)), (a_waitBytes, .inl ((k 3), 100, .inr (.inl v_waitBytes)))] sz) (dk_Qi o.1 D [(h0, .inr (6, [.int v_thrown, .int v_sectors, .int v_power, .ref a_disk, .ref a_made, .int v_used, .int v_reserve, .int v_cutWrites, .int v_cutBytes, .int v_rows, .ref a_sectorOf, .ref a_placeOf, .ref a_manyOf, .ref a_there, .int v_waits, .ref a_waitKind, .ref a_waitMany, .ref a_waitBytes, .int v_stateNumber, .long v_stateNow, .int v_second, .int v_repaired, .int v_up, .int v_sent])), (a_disk, .inl ((k 2), 32768, .inl v_disk)), (a_made, .inl ((k 2), 512, .inl o.2.1)), (a_sectorOf, .inl ((k 2), 5100, .inl o.2.2.1)), (a_placeOf, .inl ((k 2), 5100, .inl o.2.2.2.1)), (a_manyOf, .inl ((k 2), 5100, .inl o.2.2.2.2)), (a_there, .inl ((k 1), 5100, .inl v_there)), (a_waitKind, .inl ((k 2), 100, .inl v_waitKind)), (a_waitMany, .inl ((k 2), 100, .inl v_waitMany)), (a_waitBytes, .inl ((k 3), 100, .inr (.inl v_waitBytes)))] (va_A [(h0, .inr (6, [.int v_thrown, .int v_sectors, .int v_power, .ref a_disk, .ref a_made, .int v_used, .int v_reserve, .int v_cutWrites, .int v_cutBytes, .int v_rows, .ref a_sectorOf, .ref a_placeOf, .ref a_manyOf, .ref a_there, .int v_waits, .ref a_waitKind, .ref a_waitMany, .ref a_waitBytes, .int v_stateNumber, .long v_stateNow, .int v_second, .int v_repaired, .int v_up, .int v_sent])), (a_disk, .inl ((k 2), 32768, .inl v_disk)), (a_made, .inl ((k 2), 512, .inl v_made)), (a_sectorOf, .inl ((k 2), 5100, .inl v_sectorOf)), (a_placeOf, .inl ((k 2), 5100, .inl v_placeOf)), (a_manyOf, .inl ((k 2), 5100, .inl v_manyOf)), (a_there, .inl ((k 1), 5100, .inl v_there)), (a_waitKind, .inl ((k 2), 100, .inl v_waitKind)), (a_waitMany, .inl ((k 2), 100, .inl v_waitMany)), (a_waitBytes, .inl ((k 3), 100, .inr (.inl v_waitBytes)))] sz)) 0 0 (va_A [(h0, .inr (6, [.int v_thrown, .int v_sectors, .int v_power, .ref a_disk, .ref a_made, .int v_used, .int v_reserve, .int v_cutWrites, .int v_cutBytes, .int v_rows, .ref a_sectorOf, .ref a_placeOf, .ref a_manyOf, .ref a_there, .int v_waits, .ref a_waitKind, .ref a_waitMany, .ref a_waitBytes, .int v_stateNumber, .long v_stateNow, .int v_second, .int v_repaired, .int v_up, .int v_sent])), (a_disk, .inl ((k 2), 32768, .inl v_disk)), (a_made, .inl ((k 2), 512, .inl v_made)), (a_sectorOf, .inl ((k 2), 5100, .inl v_sectorOf)), (a_placeOf, .inl ((k 2), 5100, .inl v_placeOf)), (a_manyOf, .inl ((k 2), 5100, .inl v_manyOf)), (a_there, .inl ((k 1), 5100, .inl v_there)), (a_waitKind, .inl ((k 2), 100, .inl v_waitKind)), (a_waitMany, .inl ((k 2), 100, .inl v_waitMany)), (a_waitBytes, .inl ((k 3), 100, .inr (.inl v_waitBytes)))] sz) := by
  unfold fX6_fillFrom at h
  refine dk_ofW (Qc := fun A => dk_Qi o.1 D [(h0, .inr (6, [.int v_thrown, .int v_sectors, .int v_power, .ref a_disk, .ref a_made, .int v_used, .int v_reserve, .int v_cutWrites, .int v_cutBytes, .int v_rows, .ref a_sectorOf, .ref a_placeOf, .ref a_manyOf, .ref a_there, .int v_waits, .ref a_waitKind, .ref a_waitMany, .ref a_waitBytes, .int v_stateNumber, .long v_stateNow, .int v_second, .int v_repaired, .int v_up, .int v_sent])), (a_disk, .inl ((k 2), 32768, .inl v_disk)), (a_made, .inl ((k 2), 512, .inl o.2.1)), (a_sectorOf, .inl ((k 2), 5100, .inl o.2.2.1)), (a_placeOf, .inl ((k 2), 5100, .inl o.2.2.2.1)), (a_manyOf, .inl ((k 2), 5100, .inl o.2.2.2.2)), (a_there, .inl ((k 1), 5100, .inl v_there)), (a_waitKind, .inl ((k 2), 100, .inl v_waitKind)), (a_waitMany, .inl ((k 2), 100, .inl v_waitMany)), (a_waitBytes, .inl ((k 3), 100, .inr (.inl v_waitBytes)))] A) (cc := cX6_fillFrom) (maxL := 5) (ret := (some .int)) (lv := [(0, .ref h0), (1, .int p1)]) (by decide) rfl (Nat.le_of_ble_eq_true rfl) rfl ?_
  intro p e s m below meth c C hK hN hP A hA hD hS ls hl
  obtain ⟨hx, hb, hr, hml, hown, hts, hlocks⟩ := id C
  refine lv_iload_n hx hb dX6_fillFrom_0 rfl (lv_at hl 1 rfl) ?_
  refine lv_istore_n (lv' := [(2, .int p1), (0, .ref h0), (1, .int p1)]) hx hb dX6_fillFrom_1 rfl hl (by decide) rfl (fun ls hl => ?_)
  refine lv_bipush (v := 6) hx hb dX6_fillFrom_2 (by decide) ?_
  refine lv_istore_n (lv' := [(3, .int 6), (2, .int p1), (0, .ref h0), (1, .int p1)]) hx hb dX6_fillFrom_4 rfl hl (by decide) rfl (fun ls hl => ?_)
  replace h := dk_b h
  obtain ⟨o1, e1, h⟩ := h
  refine lX6_fillFrom_5 C hK hN hA _ p1 6 v_made v_sectorOf v_placeOf v_manyOf  e1 (fun H locs hP hD hS ls hl => ?_) _ _ (hP.sub [0, 1, 2, 3, 4, 5, 6, 7, 8, 9] rfl) (hD.sub [0, 1, 2, 3, 4, 5, 6, 7, 8, 9] (by decide) rfl) hS ls (lv_sub hl [2, 1, 0] rfl)
  have hP : va_P D vwCl [(h0, .inr (6, [.int v_thrown, .int v_sectors, .int v_power, .ref a_disk, .ref a_made, .int v_used, .int v_reserve, .int v_cutWrites, .int v_cutBytes, .int v_rows, .ref a_sectorOf, .ref a_placeOf, .ref a_manyOf, .ref a_there, .int v_waits, .ref a_waitKind, .ref a_waitMany, .ref a_waitBytes, .int v_stateNumber, .long v_stateNow, .int v_second, .int v_repaired, .int v_up, .int v_sent])), (a_disk, .inl ((k 2), 32768, .inl v_disk)), (a_made, .inl ((k 2), 512, .inl o1.2.2.1)), (a_sectorOf, .inl ((k 2), 5100, .inl o1.2.2.2.1)), (a_placeOf, .inl ((k 2), 5100, .inl o1.2.2.2.2.1)), (a_manyOf, .inl ((k 2), 5100, .inl o1.2.2.2.2.2)), (a_there, .inl ((k 1), 5100, .inl v_there)), (a_waitKind, .inl ((k 2), 100, .inl v_waitKind)), (a_waitMany, .inl ((k 2), 100, .inl v_waitMany)), (a_waitBytes, .inl ((k 3), 100, .inr (.inl v_waitBytes)))] H := hP
  have hD : va_D A [(h0, .inr (6, [.int v_thrown, .int v_sectors, .int v_power, .ref a_disk, .ref a_made, .int v_used, .int v_reserve, .int v_cutWrites, .int v_cutBytes, .int v_rows, .ref a_sectorOf, .ref a_placeOf, .ref a_manyOf, .ref a_there, .int v_waits, .ref a_waitKind, .ref a_waitMany, .ref a_waitBytes, .int v_stateNumber, .long v_stateNow, .int v_second, .int v_repaired, .int v_up, .int v_sent])), (a_disk, .inl ((k 2), 32768, .inl v_disk)), (a_made, .inl ((k 2), 512, .inl o1.2.2.1)), (a_sectorOf, .inl ((k 2), 5100, .inl o1.2.2.2.1)), (a_placeOf, .inl ((k 2), 5100, .inl o1.2.2.2.2.1)), (a_manyOf, .inl ((k 2), 5100, .inl o1.2.2.2.2.2)), (a_there, .inl ((k 1), 5100, .inl v_there)), (a_waitKind, .inl ((k 2), 100, .inl v_waitKind)), (a_waitMany, .inl ((k 2), 100, .inl v_waitMany)), (a_waitBytes, .inl ((k 3), 100, .inr (.inl v_waitBytes)))] := hD
  have hl : lv_has ls 5 [(0, .ref h0), (2, .int o1.1), (3, .int o1.2.1)] := hl
  refine lv_aload_n hx hb dX6_fillFrom_166 rfl (lv_at hl 0 rfl) ?_
  refine lv_iload_n hx hb dX6_fillFrom_167 rfl (lv_at hl 2 rfl) ?_
  refine lv_bipush (v := 6) hx hb dX6_fillFrom_168 (by decide) ?_
  refine lv_isub hx hb dX6_fillFrom_170 ?_
  replace h := dk_b h
  obtain ⟨o2, e2, h⟩ := h
  refine dk_cwv (wr := []) (va_runV (As := [.int (o1.2.1 - 6)]) (rest := []) ⟨hx, hb, hml, hown, hts⟩ (mX6_finish l D k h0 a_disk a_made a_sectorOf a_placeOf a_manyOf a_there a_waitKind a_waitMany a_waitBytes H.size v_thrown v_sectors v_power v_used v_reserve v_cutWrites v_cutBytes v_rows v_waits v_stateNumber v_stateNow v_second v_repaired v_up v_sent v_disk o1.2.2.1 o1.2.2.2.1 o1.2.2.2.2.1 o1.2.2.2.2.2 v_there v_waitKind v_waitMany v_waitBytes (o1.2.1 - 6) o2 e2) (cwV 1 hts (dk_gV w_853 w_855 w_25 w_46 w_856) rfl rfl rfl (by decide +kernel) ⟨Nat.le_of_ble_eq_true rfl, Nat.le_of_ble_eq_true rfl⟩) (dk_pvw hK hN hP hD [0, 1, 2, 3, 4, 5, 6, 7, 8, 9] rfl rfl rfl rfl (hP.sub [0, 1, 2, 3, 4, 5, 6, 7, 8, 9] rfl)) rfl rfl hl.1 rfl (lv_room (Nat.le_of_ble_eq_true rfl)) dX6_fillFrom_171 ⟨Nat.le_of_ble_eq_true rfl, Nat.le_of_ble_eq_true rfl⟩) hP hD hS hA [0, 1, 2, 3, 4, 5, 6, 7, 8, 9] [] rfl rfl rfl (by decide) (fun H locs hP hD hS => ?_)
  have hP : va_P D vwCl [(h0, .inr (6, [.int v_thrown, .int v_sectors, .int v_power, .ref a_disk, .ref a_made, .int v_used, .int v_reserve, .int v_cutWrites, .int v_cutBytes, .int v_rows, .ref a_sectorOf, .ref a_placeOf, .ref a_manyOf, .ref a_there, .int v_waits, .ref a_waitKind, .ref a_waitMany, .ref a_waitBytes, .int v_stateNumber, .long v_stateNow, .int v_second, .int v_repaired, .int v_up, .int v_sent])), (a_disk, .inl ((k 2), 32768, .inl v_disk)), (a_made, .inl ((k 2), 512, .inl o2)), (a_sectorOf, .inl ((k 2), 5100, .inl o1.2.2.2.1)), (a_placeOf, .inl ((k 2), 5100, .inl o1.2.2.2.2.1)), (a_manyOf, .inl ((k 2), 5100, .inl o1.2.2.2.2.2)), (a_there, .inl ((k 1), 5100, .inl v_there)), (a_waitKind, .inl ((k 2), 100, .inl v_waitKind)), (a_waitMany, .inl ((k 2), 100, .inl v_waitMany)), (a_waitBytes, .inl ((k 3), 100, .inr (.inl v_waitBytes)))] H := hP
  have hD : va_D A [(h0, .inr (6, [.int v_thrown, .int v_sectors, .int v_power, .ref a_disk, .ref a_made, .int v_used, .int v_reserve, .int v_cutWrites, .int v_cutBytes, .int v_rows, .ref a_sectorOf, .ref a_placeOf, .ref a_manyOf, .ref a_there, .int v_waits, .ref a_waitKind, .ref a_waitMany, .ref a_waitBytes, .int v_stateNumber, .long v_stateNow, .int v_second, .int v_repaired, .int v_up, .int v_sent])), (a_disk, .inl ((k 2), 32768, .inl v_disk)), (a_made, .inl ((k 2), 512, .inl o2)), (a_sectorOf, .inl ((k 2), 5100, .inl o1.2.2.2.1)), (a_placeOf, .inl ((k 2), 5100, .inl o1.2.2.2.2.1)), (a_manyOf, .inl ((k 2), 5100, .inl o1.2.2.2.2.2)), (a_there, .inl ((k 1), 5100, .inl v_there)), (a_waitKind, .inl ((k 2), 100, .inl v_waitKind)), (a_waitMany, .inl ((k 2), 100, .inl v_waitMany)), (a_waitBytes, .inl ((k 3), 100, .inr (.inl v_waitBytes)))] := hD
  refine lv_iload_n hx hb dX6_fillFrom_174 rfl (lv_at hl 1 rfl) ?_
  have h := dk_r h
  subst h
  exact dk_rwi hx hb hr hlocks (hP.sub [0, 1, 2, 3, 4, 5, 6, 7, 8, 9] rfl) (hD.sub [0, 1, 2, 3, 4, 5, 6, 7, 8, 9] (by decide) rfl) hS dX6_fillFrom_175 rfl
/-! ServiceDiskModel.repair(I)Z: rw, frames 4, locals 91 -/
def fX6_repair_L25 (x1 : Int32) (x2 : Int32) : Nat → (Int32) → (Nat → Int32) → Option (Int32 × (Nat → Int32))
  | 0, _, _ => none
  | n + 1, x3, v_disk =>
    if (512 : Int32) ≤ x3 then
      some (x3, v_disk)
    else
      (fX6_at (1 - x2) x1).bind fun o4 =>
      (fX6_at x2 x1).bind fun o5 =>
      if dk_in (o5 + x3) 32768 then
      if dk_in (o4 + x3) 32768 then
      fX6_repair_L25 x1 x2 n (x3 + 1) (upd v_disk (o4 + x3).toNatClampNeg (v_disk (o5 + x3).toNatClampNeg))
      else none
      else none
def fX6_repair (v_sectors : Int32) (v_repaired : Int32) (v_disk : Nat → Int32) (p1 : Int32) : Option (Int32 × Int32 × (Nat → Int32)) :=
  (fX6_rightCopy v_sectors v_disk p1).bind fun o1 =>
  if 0 ≤ o1 then
    (fX6_isRight v_sectors v_disk (1 - o1) p1).bind fun o2 =>
    if o2 = 0 then
      (fX6_repair_L25 p1 o1 dkF 0 v_disk).bind fun o3 =>
      some (1, (v_repaired + 1), o3.2)
    else
      some (1, v_repaired, v_disk)
  else
    some (0, v_repaired, v_disk)
set_option maxHeartbeats 4000000 in
set_option maxRecDepth 100000 in
theorem lX6_repair_25 {p : Program} {l : Launch} {e : Env} {s : State} {m : MethodId} {below : List Frame} {meth : Method} {c : Code} {args : Array Value} {D : va_G} {k : Nat → ClassId} {h0 : Nat} {a_disk : Nat} {a_made : Nat} {a_sectorOf : Nat} {a_placeOf : Nat} {a_manyOf : Nat} {a_there : Nat} {a_waitKind : Nat} {a_waitMany : Nat} {a_waitBytes : Nat} {v_thrown : Int32} {v_sectors : Int32} {v_power : Int32} {v_used : Int32} {v_reserve : Int32} {v_cutWrites : Int32} {v_cutBytes : Int32} {v_rows : Int32} {v_waits : Int32} {v_stateNumber : Int32} {v_stateNow : Int64} {v_second : Int32} {v_repaired : Int32} {v_up : Int32} {v_sent : Int32} {v_made : Nat → Int32} {v_sectorOf : Nat → Int32} {v_placeOf : Nat → Int32} {v_manyOf : Nat → Int32} {v_there : Nat → Int32} {v_waitKind : Nat → Int32} {v_waitMany : Nat → Int32} {v_waitBytes : Nat → Int64} {x1 : Int32} {x2 : Int32} {Q : State → Prop} {o : Int32 × (Nat → Int32)} {A : Nat → Prop} (C : dk_Cx p s m meth c cX6_repair (some .boolean) 4 "ServiceDiskModel" dkB args) (hK : va_K D vwCl (dkT k) s) (hN : dk_N s) (hA : ∀ q : Nat, s.heap.size ≤ q → A q) :
    ∀ (n : Nat) (x3 : Int32) (v_disk : Nat → Int32), fX6_repair_L25 x1 x2 n x3 v_disk = some o → (∀ (H : Heap) (locs : List Loc), va_P D vwCl [(h0, .inr (6, [.int v_thrown, .int v_sectors, .int v_power, .ref a_disk, .ref a_made, .int v_used, .int v_reserve, .int v_cutWrites, .int v_cutBytes, .int v_rows, .ref a_sectorOf, .ref a_placeOf, .ref a_manyOf, .ref a_there, .int v_waits, .ref a_waitKind, .ref a_waitMany, .ref a_waitBytes, .int v_stateNumber, .long v_stateNow, .int v_second, .int v_repaired, .int v_up, .int v_sent])), (a_disk, .inl ((k 2), 32768, .inl o.2)), (a_made, .inl ((k 2), 512, .inl v_made)), (a_sectorOf, .inl ((k 2), 5100, .inl v_sectorOf)), (a_placeOf, .inl ((k 2), 5100, .inl v_placeOf)), (a_manyOf, .inl ((k 2), 5100, .inl v_manyOf)), (a_there, .inl ((k 1), 5100, .inl v_there)), (a_waitKind, .inl ((k 2), 100, .inl v_waitKind)), (a_waitMany, .inl ((k 2), 100, .inl v_waitMany)), (a_waitBytes, .inl ((k 3), 100, .inr (.inl v_waitBytes)))] H → va_D A [(h0, .inr (6, [.int v_thrown, .int v_sectors, .int v_power, .ref a_disk, .ref a_made, .int v_used, .int v_reserve, .int v_cutWrites, .int v_cutBytes, .int v_rows, .ref a_sectorOf, .ref a_placeOf, .ref a_manyOf, .ref a_there, .int v_waits, .ref a_waitKind, .ref a_waitMany, .ref a_waitBytes, .int v_stateNumber, .long v_stateNow, .int v_second, .int v_repaired, .int v_up, .int v_sent])), (a_disk, .inl ((k 2), 32768, .inl o.2)), (a_made, .inl ((k 2), 512, .inl v_made)), (a_sectorOf, .inl ((k 2), 5100, .inl v_sectorOf)), (a_placeOf, .inl ((k 2), 5100, .inl v_placeOf)), (a_manyOf, .inl ((k 2), 5100, .inl v_manyOf)), (a_there, .inl ((k 1), 5100, .inl v_there)), (a_waitKind, .inl ((k 2), 100, .inl v_waitKind)), (a_waitMany, .inl ((k 2), 100, .inl v_waitMany)), (a_waitBytes, .inl ((k 3), 100, .inr (.inl v_waitBytes)))] → va_S A s.heap H locs → ∀ ls : Array Slot, lv_has ls 4 [(0, .ref h0), (1, .int x1), (2, .int x2), (3, .int o.1)] → W p l e { frames := 4, cells := 0, slots := 0, locals := 91 } s m args below meth c H locs 0 0 Q (F0 m 64 ls [])) → ∀ (H : Heap) (locs : List Loc), va_P D vwCl [(h0, .inr (6, [.int v_thrown, .int v_sectors, .int v_power, .ref a_disk, .ref a_made, .int v_used, .int v_reserve, .int v_cutWrites, .int v_cutBytes, .int v_rows, .ref a_sectorOf, .ref a_placeOf, .ref a_manyOf, .ref a_there, .int v_waits, .ref a_waitKind, .ref a_waitMany, .ref a_waitBytes, .int v_stateNumber, .long v_stateNow, .int v_second, .int v_repaired, .int v_up, .int v_sent])), (a_disk, .inl ((k 2), 32768, .inl v_disk)), (a_made, .inl ((k 2), 512, .inl v_made)), (a_sectorOf, .inl ((k 2), 5100, .inl v_sectorOf)), (a_placeOf, .inl ((k 2), 5100, .inl v_placeOf)), (a_manyOf, .inl ((k 2), 5100, .inl v_manyOf)), (a_there, .inl ((k 1), 5100, .inl v_there)), (a_waitKind, .inl ((k 2), 100, .inl v_waitKind)), (a_waitMany, .inl ((k 2), 100, .inl v_waitMany)), (a_waitBytes, .inl ((k 3), 100, .inr (.inl v_waitBytes)))] H → va_D A [(h0, .inr (6, [.int v_thrown, .int v_sectors, .int v_power, .ref a_disk, .ref a_made, .int v_used, .int v_reserve, .int v_cutWrites, .int v_cutBytes, .int v_rows, .ref a_sectorOf, .ref a_placeOf, .ref a_manyOf, .ref a_there, .int v_waits, .ref a_waitKind, .ref a_waitMany, .ref a_waitBytes, .int v_stateNumber, .long v_stateNow, .int v_second, .int v_repaired, .int v_up, .int v_sent])), (a_disk, .inl ((k 2), 32768, .inl v_disk)), (a_made, .inl ((k 2), 512, .inl v_made)), (a_sectorOf, .inl ((k 2), 5100, .inl v_sectorOf)), (a_placeOf, .inl ((k 2), 5100, .inl v_placeOf)), (a_manyOf, .inl ((k 2), 5100, .inl v_manyOf)), (a_there, .inl ((k 1), 5100, .inl v_there)), (a_waitKind, .inl ((k 2), 100, .inl v_waitKind)), (a_waitMany, .inl ((k 2), 100, .inl v_waitMany)), (a_waitBytes, .inl ((k 3), 100, .inr (.inl v_waitBytes)))] → va_S A s.heap H locs → ∀ ls : Array Slot, lv_has ls 4 [(0, .ref h0), (1, .int x1), (2, .int x2), (3, .int x3)] → W p l e { frames := 4, cells := 0, slots := 0, locals := 91 } s m args below meth c H locs 0 0 Q (F0 m 25 ls []) := by
  obtain ⟨hx, hb, hr, hml, hown, hts, hlocks⟩ := id C
  intro n
  induction n with
  | zero =>
    intro x3 v_disk h
    exact dk_n (o := o) h
  | succ n ih =>
    intro x3 v_disk h K H locs hP hD hS ls hl
    rw [fX6_repair_L25.eq_2] at h
    refine lv_iload_n hx hb dX6_repair_25 rfl (lv_at hl 3 rfl) ?_
    refine lv_sipush (v := 512) hx hb dX6_repair_26 (by decide) ?_
    refine lv_icmp_ge (tgt := 64) hx hb dX6_repair_29 (by decide) (fun q => ?_) (fun q => ?_)
    · replace h := dk_t q h
      have h := dk_r h
      subst h
      exact K _ _ (hP.sub [0, 1, 2, 3, 4, 5, 6, 7, 8, 9] rfl) (hD.sub [0, 1, 2, 3, 4, 5, 6, 7, 8, 9] (by decide) rfl) hS ls (lv_sub hl [0, 1, 2, 3] rfl)
    · replace h := dk_f q h
      refine lv_aload_n hx hb dX6_repair_32 rfl (lv_at hl 0 rfl) ?_
      refine va_get (D := D) (ci := 6) (v := .ref a_disk) (C := "ServiceDiskModel") (T := TX6) (N := 24) hx hb hts inX6 hown hK hP 0 rfl rfl 3 (by decide) (hts _ w_740) (fun _ h9 => h9) rfl dX6_repair_33 ?_
      refine lv_iconst (v := 1) hx hb dX6_repair_36 (by decide) ?_
      refine lv_iload_n hx hb dX6_repair_37 rfl (lv_at hl 2 rfl) ?_
      refine lv_isub hx hb dX6_repair_38 ?_
      refine lv_iload_n hx hb dX6_repair_39 rfl (lv_at hl 1 rfl) ?_
      replace h := dk_b h
      obtain ⟨o4, e4, h⟩ := h
      refine dk_cri (va_runS (As := [.int (1 - x2), .int x1]) (rest := [.ref a_disk]) ⟨hx, hb, hml, hown, hts⟩ (mX6_at l D k (1 - x2) x1 o4 e4) (va_cwS 2 hts (dk_gS w_869 w_870 w_46 w_871) rfl rfl rfl (by decide +kernel) ⟨Nat.le_of_ble_eq_true rfl, Nat.le_of_ble_eq_true rfl⟩) (dk_psr hK hN hP [] rfl) rfl rfl hl.1 rfl (lv_room (Nat.le_of_ble_eq_true rfl)) dX6_repair_40 ⟨Nat.le_of_ble_eq_true rfl, Nat.le_of_ble_eq_true rfl⟩) ?_
      refine lv_iload_n hx hb dX6_repair_43 rfl (lv_at hl 3 rfl) ?_
      refine lv_iadd hx hb dX6_repair_44 ?_
      refine lv_aload_n hx hb dX6_repair_45 rfl (lv_at hl 0 rfl) ?_
      refine va_get (D := D) (ci := 6) (v := .ref a_disk) (C := "ServiceDiskModel") (T := TX6) (N := 24) hx hb hts inX6 hown hK hP 0 rfl rfl 3 (by decide) (hts _ w_740) (fun _ h9 => h9) rfl dX6_repair_46 ?_
      refine lv_iload_n hx hb dX6_repair_49 rfl (lv_at hl 2 rfl) ?_
      refine lv_iload_n hx hb dX6_repair_50 rfl (lv_at hl 1 rfl) ?_
      replace h := dk_b h
      obtain ⟨o5, e5, h⟩ := h
      refine dk_cri (va_runS (As := [.int x2, .int x1]) (rest := [.ref a_disk, .int (o4 + x3), .ref a_disk]) ⟨hx, hb, hml, hown, hts⟩ (mX6_at l D k x2 x1 o5 e5) (va_cwS 2 hts (dk_gS w_869 w_870 w_46 w_871) rfl rfl rfl (by decide +kernel) ⟨Nat.le_of_ble_eq_true rfl, Nat.le_of_ble_eq_true rfl⟩) (dk_psr hK hN hP [] rfl) rfl rfl hl.1 rfl (lv_room (Nat.le_of_ble_eq_true rfl)) dX6_repair_51 ⟨Nat.le_of_ble_eq_true rfl, Nat.le_of_ble_eq_true rfl⟩) ?_
      refine lv_iload_n hx hb dX6_repair_54 rfl (lv_at hl 3 rfl) ?_
      refine lv_iadd hx hb dX6_repair_55 ?_
      obtain ⟨q, h⟩ := dk_g h
      refine va_iald hx hb hK hP 1 2 rfl rfl q dX6_repair_56 ?_
      obtain ⟨q, h⟩ := dk_g h
      refine va_iast hx hb hK hP hD hS 1 2 rfl rfl q dX6_repair_57 (fun H locs hP hD hS => ?_)
      have hP : va_P D vwCl [(h0, .inr (6, [.int v_thrown, .int v_sectors, .int v_power, .ref a_disk, .ref a_made, .int v_used, .int v_reserve, .int v_cutWrites, .int v_cutBytes, .int v_rows, .ref a_sectorOf, .ref a_placeOf, .ref a_manyOf, .ref a_there, .int v_waits, .ref a_waitKind, .ref a_waitMany, .ref a_waitBytes, .int v_stateNumber, .long v_stateNow, .int v_second, .int v_repaired, .int v_up, .int v_sent])), (a_disk, .inl ((k 2), 32768, .inl (upd v_disk (o4 + x3).toNatClampNeg (v_disk (o5 + x3).toNatClampNeg)))), (a_made, .inl ((k 2), 512, .inl v_made)), (a_sectorOf, .inl ((k 2), 5100, .inl v_sectorOf)), (a_placeOf, .inl ((k 2), 5100, .inl v_placeOf)), (a_manyOf, .inl ((k 2), 5100, .inl v_manyOf)), (a_there, .inl ((k 1), 5100, .inl v_there)), (a_waitKind, .inl ((k 2), 100, .inl v_waitKind)), (a_waitMany, .inl ((k 2), 100, .inl v_waitMany)), (a_waitBytes, .inl ((k 3), 100, .inr (.inl v_waitBytes)))] H := hP
      have hD : va_D A [(h0, .inr (6, [.int v_thrown, .int v_sectors, .int v_power, .ref a_disk, .ref a_made, .int v_used, .int v_reserve, .int v_cutWrites, .int v_cutBytes, .int v_rows, .ref a_sectorOf, .ref a_placeOf, .ref a_manyOf, .ref a_there, .int v_waits, .ref a_waitKind, .ref a_waitMany, .ref a_waitBytes, .int v_stateNumber, .long v_stateNow, .int v_second, .int v_repaired, .int v_up, .int v_sent])), (a_disk, .inl ((k 2), 32768, .inl (upd v_disk (o4 + x3).toNatClampNeg (v_disk (o5 + x3).toNatClampNeg)))), (a_made, .inl ((k 2), 512, .inl v_made)), (a_sectorOf, .inl ((k 2), 5100, .inl v_sectorOf)), (a_placeOf, .inl ((k 2), 5100, .inl v_placeOf)), (a_manyOf, .inl ((k 2), 5100, .inl v_manyOf)), (a_there, .inl ((k 1), 5100, .inl v_there)), (a_waitKind, .inl ((k 2), 100, .inl v_waitKind)), (a_waitMany, .inl ((k 2), 100, .inl v_waitMany)), (a_waitBytes, .inl ((k 3), 100, .inr (.inl v_waitBytes)))] := hD
      refine lv_iinc (v := (x3 + 1)) (lv' := [(3, .int (x3 + 1)), (0, .ref h0), (1, .int x1), (2, .int x2)]) hx hb dX6_repair_58 hl (k := 3) rfl rfl (by decide) rfl (fun ls hl => ?_)
      refine lv_goto (tgt := 25) hx hb dX6_repair_61 (by decide) ?_
      exact ih (x3 + 1) (upd v_disk (o4 + x3).toNatClampNeg (v_disk (o5 + x3).toNatClampNeg)) h K _ _ (hP.sub [0, 1, 2, 3, 4, 5, 6, 7, 8, 9] rfl) (hD.sub [0, 1, 2, 3, 4, 5, 6, 7, 8, 9] (by decide) rfl) hS ls (lv_sub hl [1, 2, 3, 0] rfl)
set_option maxHeartbeats 4000000 in
set_option maxRecDepth 100000 in
theorem mX6_repair (l : Launch) (D : va_G) (k : Nat → ClassId) (h0 a_disk a_made a_sectorOf a_placeOf a_manyOf a_there a_waitKind a_waitMany a_waitBytes : Nat) (sz : Nat) (v_thrown : Int32) (v_sectors : Int32) (v_power : Int32) (v_used : Int32) (v_reserve : Int32) (v_cutWrites : Int32) (v_cutBytes : Int32) (v_rows : Int32) (v_waits : Int32) (v_stateNumber : Int32) (v_stateNow : Int64) (v_second : Int32) (v_repaired : Int32) (v_up : Int32) (v_sent : Int32) (v_disk : Nat → Int32) (v_made : Nat → Int32) (v_sectorOf : Nat → Int32) (v_placeOf : Nat → Int32) (v_manyOf : Nat → Int32) (v_there : Nat → Int32) (v_waitKind : Nat → Int32) (v_waitMany : Nat → Int32) (v_waitBytes : Nat → Int64) (p1 : Int32) (o : Int32 × Int32 × (Nat → Int32)) (h : fX6_repair v_sectors v_repaired v_disk p1 = some o) : Met l yX6_repair wsX6_repair { frames := 4, cells := 0, slots := 0, locals := 91 } (dk_Pw D k [.ref h0, .int p1] [(h0, .inr (6, [.int v_thrown, .int v_sectors, .int v_power, .ref a_disk, .ref a_made, .int v_used, .int v_reserve, .int v_cutWrites, .int v_cutBytes, .int v_rows, .ref a_sectorOf, .ref a_placeOf, .ref a_manyOf, .ref a_there, .int v_waits, .ref a_waitKind, .ref a_waitMany, .ref a_waitBytes, .int v_stateNumber, .long v_stateNow, .int v_second, .int v_repaired, .int v_up, .int v_sent])), (a_disk, .inl ((k 2), 32768, .inl v_disk)), (a_made, .inl ((k 2), 512, .inl v_made)), (a_sectorOf, .inl ((k 2), 5100, .inl v_sectorOf)), (a_placeOf, .inl ((k 2), 5100, .inl v_placeOf)), (a_manyOf, .inl ((k 2), 5100, .inl v_manyOf)), (a_there, .inl ((k 1), 5100, .inl v_there)), (a_waitKind, .inl ((k 2), 100, .inl v_waitKind)), (a_waitMany, .inl ((k 2), 100, .inl v_waitMany)), (a_waitBytes, .inl ((k 3), 100, .inr (.inl v_waitBytes)))] sz) (dk_Qi o.1 D [(h0, .inr (6, [.int v_thrown, .int v_sectors, .int v_power, .ref a_disk, .ref a_made, .int v_used, .int v_reserve, .int v_cutWrites, .int v_cutBytes, .int v_rows, .ref a_sectorOf, .ref a_placeOf, .ref a_manyOf, .ref a_there, .int v_waits, .ref a_waitKind, .ref a_waitMany, .ref a_waitBytes, .int v_stateNumber, .long v_stateNow, .int v_second, .int o.2.1, .int v_up, .int v_sent])), (a_disk, .inl ((k 2), 32768, .inl o.2.2)), (a_made, .inl ((k 2), 512, .inl v_made)), (a_sectorOf, .inl ((k 2), 5100, .inl v_sectorOf)), (a_placeOf, .inl ((k 2), 5100, .inl v_placeOf)), (a_manyOf, .inl ((k 2), 5100, .inl v_manyOf)), (a_there, .inl ((k 1), 5100, .inl v_there)), (a_waitKind, .inl ((k 2), 100, .inl v_waitKind)), (a_waitMany, .inl ((k 2), 100, .inl v_waitMany)), (a_waitBytes, .inl ((k 3), 100, .inr (.inl v_waitBytes)))] (va_A [(h0, .inr (6, [.int v_thrown, .int v_sectors, .int v_power, .ref a_disk, .ref a_made, .int v_used, .int v_reserve, .int v_cutWrites, .int v_cutBytes, .int v_rows, .ref a_sectorOf, .ref a_placeOf, .ref a_manyOf, .ref a_there, .int v_waits, .ref a_waitKind, .ref a_waitMany, .ref a_waitBytes, .int v_stateNumber, .long v_stateNow, .int v_second, .int v_repaired, .int v_up, .int v_sent])), (a_disk, .inl ((k 2), 32768, .inl v_disk)), (a_made, .inl ((k 2), 512, .inl v_made)), (a_sectorOf, .inl ((k 2), 5100, .inl v_sectorOf)), (a_placeOf, .inl ((k 2), 5100, .inl v_placeOf)), (a_manyOf, .inl ((k 2), 5100, .inl v_manyOf)), (a_there, .inl ((k 1), 5100, .inl v_there)), (a_waitKind, .inl ((k 2), 100, .inl v_waitKind)), (a_waitMany, .inl ((k 2), 100, .inl v_waitMany)), (a_waitBytes, .inl ((k 3), 100, .inr (.inl v_waitBytes)))] sz)) 0 0 (va_A [(h0, .inr (6, [.int v_thrown, .int v_sectors, .int v_power, .ref a_disk, .ref a_made, .int v_used, .int v_reserve, .int v_cutWrites, .int v_cutBytes, .int v_rows, .ref a_sectorOf, .ref a_placeOf, .ref a_manyOf, .ref a_there, .int v_waits, .ref a_waitKind, .ref a_waitMany, .ref a_waitBytes, .int v_stateNumber, .long v_stateNow, .int v_second, .int v_repaired, .int v_up, .int v_sent])), (a_disk, .inl ((k 2), 32768, .inl v_disk)), (a_made, .inl ((k 2), 512, .inl v_made)), (a_sectorOf, .inl ((k 2), 5100, .inl v_sectorOf)), (a_placeOf, .inl ((k 2), 5100, .inl v_placeOf)), (a_manyOf, .inl ((k 2), 5100, .inl v_manyOf)), (a_there, .inl ((k 1), 5100, .inl v_there)), (a_waitKind, .inl ((k 2), 100, .inl v_waitKind)), (a_waitMany, .inl ((k 2), 100, .inl v_waitMany)), (a_waitBytes, .inl ((k 3), 100, .inr (.inl v_waitBytes)))] sz) := by
  unfold fX6_repair at h
  refine dk_ofW (Qc := fun A => dk_Qi o.1 D [(h0, .inr (6, [.int v_thrown, .int v_sectors, .int v_power, .ref a_disk, .ref a_made, .int v_used, .int v_reserve, .int v_cutWrites, .int v_cutBytes, .int v_rows, .ref a_sectorOf, .ref a_placeOf, .ref a_manyOf, .ref a_there, .int v_waits, .ref a_waitKind, .ref a_waitMany, .ref a_waitBytes, .int v_stateNumber, .long v_stateNow, .int v_second, .int o.2.1, .int v_up, .int v_sent])), (a_disk, .inl ((k 2), 32768, .inl o.2.2)), (a_made, .inl ((k 2), 512, .inl v_made)), (a_sectorOf, .inl ((k 2), 5100, .inl v_sectorOf)), (a_placeOf, .inl ((k 2), 5100, .inl v_placeOf)), (a_manyOf, .inl ((k 2), 5100, .inl v_manyOf)), (a_there, .inl ((k 1), 5100, .inl v_there)), (a_waitKind, .inl ((k 2), 100, .inl v_waitKind)), (a_waitMany, .inl ((k 2), 100, .inl v_waitMany)), (a_waitBytes, .inl ((k 3), 100, .inr (.inl v_waitBytes)))] A) (cc := cX6_repair) (maxL := 4) (ret := (some .boolean)) (lv := [(0, .ref h0), (1, .int p1)]) (by decide) rfl (Nat.le_of_ble_eq_true rfl) rfl ?_
  intro p e s m below meth c C hK hN hP A hA hD hS ls hl
  obtain ⟨hx, hb, hr, hml, hown, hts, hlocks⟩ := id C
  refine lv_aload_n hx hb dX6_repair_0 rfl (lv_at hl 0 rfl) ?_
  refine lv_iload_n hx hb dX6_repair_1 rfl (lv_at hl 1 rfl) ?_
  replace h := dk_b h
  obtain ⟨o1, e1, h⟩ := h
  refine dk_cri (va_runV (As := [.int p1]) (rest := []) ⟨hx, hb, hml, hown, hts⟩ (mX6_rightCopy l D k h0 a_disk a_made a_sectorOf a_placeOf a_manyOf a_there a_waitKind a_waitMany a_waitBytes v_thrown v_sectors v_power v_used v_reserve v_cutWrites v_cutBytes v_rows v_waits v_stateNumber v_stateNow v_second v_repaired v_up v_sent v_disk v_made v_sectorOf v_placeOf v_manyOf v_there v_waitKind v_waitMany v_waitBytes p1 o1 e1) (cwV 1 hts (dk_gV w_892 w_894 w_29 w_46 w_895) rfl rfl rfl (by decide +kernel) ⟨Nat.le_of_ble_eq_true rfl, Nat.le_of_ble_eq_true rfl⟩) (dk_pvr hK hN hP [0, 1, 2, 3, 4, 5, 6, 7, 8, 9] rfl rfl rfl) rfl rfl hl.1 rfl (lv_room (Nat.le_of_ble_eq_true rfl)) dX6_repair_2 ⟨Nat.le_of_ble_eq_true rfl, Nat.le_of_ble_eq_true rfl⟩) ?_
  refine lv_istore_n (lv' := [(2, .int o1), (0, .ref h0), (1, .int p1)]) hx hb dX6_repair_5 rfl hl (by decide) rfl (fun ls hl => ?_)
  refine lv_iload_n hx hb dX6_repair_6 rfl (lv_at hl 0 rfl) ?_
  refine lv_if_ge (tgt := 12) hx hb dX6_repair_7 (by decide) (fun q => ?_) (fun q => ?_)
  · replace h := dk_t q h
    refine lv_aload_n hx hb dX6_repair_12 rfl (lv_at hl 1 rfl) ?_
    refine lv_iconst (v := 1) hx hb dX6_repair_13 (by decide) ?_
    refine lv_iload_n hx hb dX6_repair_14 rfl (lv_at hl 0 rfl) ?_
    refine lv_isub hx hb dX6_repair_15 ?_
    refine lv_iload_n hx hb dX6_repair_16 rfl (lv_at hl 2 rfl) ?_
    replace h := dk_b h
    obtain ⟨o2, e2, h⟩ := h
    refine dk_cri (va_runV (As := [.int (1 - o1), .int p1]) (rest := []) ⟨hx, hb, hml, hown, hts⟩ (mX6_isRight l D k h0 a_disk a_made a_sectorOf a_placeOf a_manyOf a_there a_waitKind a_waitMany a_waitBytes v_thrown v_sectors v_power v_used v_reserve v_cutWrites v_cutBytes v_rows v_waits v_stateNumber v_stateNow v_second v_repaired v_up v_sent v_disk v_made v_sectorOf v_placeOf v_manyOf v_there v_waitKind v_waitMany v_waitBytes (1 - o1) p1 o2 e2) (cwV 2 hts (dk_gV w_896 w_898 w_30 w_46 w_899) rfl rfl rfl (by decide +kernel) ⟨Nat.le_of_ble_eq_true rfl, Nat.le_of_ble_eq_true rfl⟩) (dk_pvr hK hN hP [0, 1, 2, 3, 4, 5, 6, 7, 8, 9] rfl rfl rfl) rfl rfl hl.1 rfl (lv_room (Nat.le_of_ble_eq_true rfl)) dX6_repair_17 ⟨Nat.le_of_ble_eq_true rfl, Nat.le_of_ble_eq_true rfl⟩) ?_
    refine lv_if_ne (tgt := 74) hx hb dX6_repair_20 (by decide) (fun q => ?_) (fun q => ?_)
    · replace h := dk_f q h
      refine lv_iconst (v := 1) hx hb dX6_repair_74 (by decide) ?_
      have h := dk_r h
      subst h
      exact dk_rwz hx hb hr (Or.inr rfl) hlocks (hP.sub [0, 1, 2, 3, 4, 5, 6, 7, 8, 9] rfl) (hD.sub [0, 1, 2, 3, 4, 5, 6, 7, 8, 9] (by decide) rfl) hS dX6_repair_75 rfl
    · replace h := dk_t q h
      refine lv_iconst (v := 0) hx hb dX6_repair_23 (by decide) ?_
      refine lv_istore_n (lv' := [(3, .int 0), (2, .int o1), (0, .ref h0), (1, .int p1)]) hx hb dX6_repair_24 rfl hl (by decide) rfl (fun ls hl => ?_)
      replace h := dk_b h
      obtain ⟨o3, e3, h⟩ := h
      refine lX6_repair_25 C hK hN hA _ 0 v_disk  e3 (fun H locs hP hD hS ls hl => ?_) _ _ (hP.sub [0, 1, 2, 3, 4, 5, 6, 7, 8, 9] rfl) (hD.sub [0, 1, 2, 3, 4, 5, 6, 7, 8, 9] (by decide) rfl) hS ls (lv_sub hl [2, 3, 1, 0] rfl)
      have hP : va_P D vwCl [(h0, .inr (6, [.int v_thrown, .int v_sectors, .int v_power, .ref a_disk, .ref a_made, .int v_used, .int v_reserve, .int v_cutWrites, .int v_cutBytes, .int v_rows, .ref a_sectorOf, .ref a_placeOf, .ref a_manyOf, .ref a_there, .int v_waits, .ref a_waitKind, .ref a_waitMany, .ref a_waitBytes, .int v_stateNumber, .long v_stateNow, .int v_second, .int v_repaired, .int v_up, .int v_sent])), (a_disk, .inl ((k 2), 32768, .inl o3.2)), (a_made, .inl ((k 2), 512, .inl v_made)), (a_sectorOf, .inl ((k 2), 5100, .inl v_sectorOf)), (a_placeOf, .inl ((k 2), 5100, .inl v_placeOf)), (a_manyOf, .inl ((k 2), 5100, .inl v_manyOf)), (a_there, .inl ((k 1), 5100, .inl v_there)), (a_waitKind, .inl ((k 2), 100, .inl v_waitKind)), (a_waitMany, .inl ((k 2), 100, .inl v_waitMany)), (a_waitBytes, .inl ((k 3), 100, .inr (.inl v_waitBytes)))] H := hP
      have hD : va_D A [(h0, .inr (6, [.int v_thrown, .int v_sectors, .int v_power, .ref a_disk, .ref a_made, .int v_used, .int v_reserve, .int v_cutWrites, .int v_cutBytes, .int v_rows, .ref a_sectorOf, .ref a_placeOf, .ref a_manyOf, .ref a_there, .int v_waits, .ref a_waitKind, .ref a_waitMany, .ref a_waitBytes, .int v_stateNumber, .long v_stateNow, .int v_second, .int v_repaired, .int v_up, .int v_sent])), (a_disk, .inl ((k 2), 32768, .inl o3.2)), (a_made, .inl ((k 2), 512, .inl v_made)), (a_sectorOf, .inl ((k 2), 5100, .inl v_sectorOf)), (a_placeOf, .inl ((k 2), 5100, .inl v_placeOf)), (a_manyOf, .inl ((k 2), 5100, .inl v_manyOf)), (a_there, .inl ((k 1), 5100, .inl v_there)), (a_waitKind, .inl ((k 2), 100, .inl v_waitKind)), (a_waitMany, .inl ((k 2), 100, .inl v_waitMany)), (a_waitBytes, .inl ((k 3), 100, .inr (.inl v_waitBytes)))] := hD
      have hl : lv_has ls 4 [(0, .ref h0), (1, .int p1), (2, .int o1), (3, .int o3.1)] := hl
      refine lv_aload_n hx hb dX6_repair_64 rfl (lv_at hl 0 rfl) ?_
      refine lv_dup hx hb dX6_repair_65 rfl ?_
      refine va_get (D := D) (ci := 6) (v := .int v_repaired) (C := "ServiceDiskModel") (T := TX6) (N := 24) hx hb hts inX6 hown hK hP 0 rfl rfl 21 (by decide) (hts _ w_758) (fun _ h9 => h9) rfl dX6_repair_66 ?_
      refine lv_iconst (v := 1) hx hb dX6_repair_69 (by decide) ?_
      refine lv_iadd hx hb dX6_repair_70 ?_
      refine va_put (D := D) (ci := 6) (v := .int (v_repaired + 1)) (ty := .int) (C := "ServiceDiskModel") (T := TX6) (N := 24) hx hb hts inX6 tyX6 tyX6_ok nmX6 hown hK hP hD hS 0 rfl rfl 21 (by decide) (hts _ w_758) (fun _ h9 => h9) rfl (by decide +kernel) rfl rfl (Nat.le_of_ble_eq_true rfl) dX6_repair_71 (fun H locs hP hD hS => ?_)
      have hP : va_P D vwCl [(h0, .inr (6, [.int v_thrown, .int v_sectors, .int v_power, .ref a_disk, .ref a_made, .int v_used, .int v_reserve, .int v_cutWrites, .int v_cutBytes, .int v_rows, .ref a_sectorOf, .ref a_placeOf, .ref a_manyOf, .ref a_there, .int v_waits, .ref a_waitKind, .ref a_waitMany, .ref a_waitBytes, .int v_stateNumber, .long v_stateNow, .int v_second, .int (v_repaired + 1), .int v_up, .int v_sent])), (a_disk, .inl ((k 2), 32768, .inl o3.2)), (a_made, .inl ((k 2), 512, .inl v_made)), (a_sectorOf, .inl ((k 2), 5100, .inl v_sectorOf)), (a_placeOf, .inl ((k 2), 5100, .inl v_placeOf)), (a_manyOf, .inl ((k 2), 5100, .inl v_manyOf)), (a_there, .inl ((k 1), 5100, .inl v_there)), (a_waitKind, .inl ((k 2), 100, .inl v_waitKind)), (a_waitMany, .inl ((k 2), 100, .inl v_waitMany)), (a_waitBytes, .inl ((k 3), 100, .inr (.inl v_waitBytes)))] H := hP
      have hD : va_D A [(h0, .inr (6, [.int v_thrown, .int v_sectors, .int v_power, .ref a_disk, .ref a_made, .int v_used, .int v_reserve, .int v_cutWrites, .int v_cutBytes, .int v_rows, .ref a_sectorOf, .ref a_placeOf, .ref a_manyOf, .ref a_there, .int v_waits, .ref a_waitKind, .ref a_waitMany, .ref a_waitBytes, .int v_stateNumber, .long v_stateNow, .int v_second, .int (v_repaired + 1), .int v_up, .int v_sent])), (a_disk, .inl ((k 2), 32768, .inl o3.2)), (a_made, .inl ((k 2), 512, .inl v_made)), (a_sectorOf, .inl ((k 2), 5100, .inl v_sectorOf)), (a_placeOf, .inl ((k 2), 5100, .inl v_placeOf)), (a_manyOf, .inl ((k 2), 5100, .inl v_manyOf)), (a_there, .inl ((k 1), 5100, .inl v_there)), (a_waitKind, .inl ((k 2), 100, .inl v_waitKind)), (a_waitMany, .inl ((k 2), 100, .inl v_waitMany)), (a_waitBytes, .inl ((k 3), 100, .inr (.inl v_waitBytes)))] := hD
      refine lv_iconst (v := 1) hx hb dX6_repair_74 (by decide) ?_
      have h := dk_r h
      subst h
      exact dk_rwz hx hb hr (Or.inr rfl) hlocks (hP.sub [0, 1, 2, 3, 4, 5, 6, 7, 8, 9] rfl) (hD.sub [0, 1, 2, 3, 4, 5, 6, 7, 8, 9] (by decide) rfl) hS dX6_repair_75 rfl
  · replace h := dk_f q h
    refine lv_iconst (v := 0) hx hb dX6_repair_10 (by decide) ?_
    have h := dk_r h
    subst h
    exact dk_rwz hx hb hr (Or.inl rfl) hlocks (hP.sub [0, 1, 2, 3, 4, 5, 6, 7, 8, 9] rfl) (hD.sub [0, 1, 2, 3, 4, 5, 6, 7, 8, 9] (by decide) rfl) hS dX6_repair_11 rfl
/-! ServiceDiskModel.takeState(I)V: rw, frames 5, locals 114 -/
def fX6_takeState_L62 (v_disk : Nat → Int32) (x2 : Int32) : Nat → (Int32) → (Int64) → Option (Int32 × Int64)
  | 0, _, _ => none
  | n + 1, x4, v_stateNow =>
    if (8 : Int32) ≤ x4 then
      some (x4, v_stateNow)
    else
      if dk_in ((x2 + 6) + x4) 32768 then
      fX6_takeState_L62 v_disk x2 n (x4 + 1) ((dk_lshl v_stateNow 8) ||| (v_disk ((x2 + 6) + x4).toNatClampNeg).toInt64)
      else none
def fX6_takeState (v_sectors : Int32) (v_stateNumber : Int32) (v_stateNow : Int64) (v_repaired : Int32) (v_disk : Nat → Int32) (p1 : Int32) : Option (Int32 × Int64 × Int32 × (Nat → Int32)) :=
  (fX6_repair v_sectors v_repaired v_disk p1).bind fun o1 =>
  if o1.1 = 0 then
    some (v_stateNumber, v_stateNow, o1.2.1, o1.2.2)
  else
    (fX6_at 0 p1).bind fun o2 =>
    if v_stateNumber = 0 then
      (fX6_four o1.2.2 o2).bind fun o3 =>
      (fX6_takeState_L62 o1.2.2 o2 dkF 0 0).bind fun o4 =>
      some (o3, o4.2, o1.2.1, o1.2.2)
    else
      (fX6_four o1.2.2 o2).bind fun o5 =>
      if ((if o5 ≤ v_stateNumber then 0 else 1) : Int32) = 0 then
        some (v_stateNumber, v_stateNow, o1.2.1, o1.2.2)
      else
        (fX6_four o1.2.2 o2).bind fun o6 =>
        (fX6_takeState_L62 o1.2.2 o2 dkF 0 0).bind fun o7 =>
        some (o6, o7.2, o1.2.1, o1.2.2)
set_option maxHeartbeats 4000000 in
set_option maxRecDepth 100000 in
theorem lX6_takeState_62 {p : Program} {l : Launch} {e : Env} {s : State} {m : MethodId} {below : List Frame} {meth : Method} {c : Code} {args : Array Value} {D : va_G} {k : Nat → ClassId} {h0 : Nat} {a_disk : Nat} {a_made : Nat} {a_sectorOf : Nat} {a_placeOf : Nat} {a_manyOf : Nat} {a_there : Nat} {a_waitKind : Nat} {a_waitMany : Nat} {a_waitBytes : Nat} {v_thrown : Int32} {v_sectors : Int32} {v_power : Int32} {v_used : Int32} {v_reserve : Int32} {v_cutWrites : Int32} {v_cutBytes : Int32} {v_rows : Int32} {v_waits : Int32} {v_stateNumber : Int32} {v_second : Int32} {v_repaired : Int32} {v_up : Int32} {v_sent : Int32} {v_disk : Nat → Int32} {v_made : Nat → Int32} {v_sectorOf : Nat → Int32} {v_placeOf : Nat → Int32} {v_manyOf : Nat → Int32} {v_there : Nat → Int32} {v_waitKind : Nat → Int32} {v_waitMany : Nat → Int32} {v_waitBytes : Nat → Int64} {x2 : Int32} {Q : State → Prop} {o : Int32 × Int64} {A : Nat → Prop} (C : dk_Cx p s m meth c cX6_takeState none 5 "ServiceDiskModel" dkB args) (hK : va_K D vwCl (dkT k) s) (hN : dk_N s) (hA : ∀ q : Nat, s.heap.size ≤ q → A q) :
    ∀ (n : Nat) (x4 : Int32) (v_stateNow : Int64), fX6_takeState_L62 v_disk x2 n x4 v_stateNow = some o → (∀ (H : Heap) (locs : List Loc), va_P D vwCl [(h0, .inr (6, [.int v_thrown, .int v_sectors, .int v_power, .ref a_disk, .ref a_made, .int v_used, .int v_reserve, .int v_cutWrites, .int v_cutBytes, .int v_rows, .ref a_sectorOf, .ref a_placeOf, .ref a_manyOf, .ref a_there, .int v_waits, .ref a_waitKind, .ref a_waitMany, .ref a_waitBytes, .int v_stateNumber, .long o.2, .int v_second, .int v_repaired, .int v_up, .int v_sent])), (a_disk, .inl ((k 2), 32768, .inl v_disk)), (a_made, .inl ((k 2), 512, .inl v_made)), (a_sectorOf, .inl ((k 2), 5100, .inl v_sectorOf)), (a_placeOf, .inl ((k 2), 5100, .inl v_placeOf)), (a_manyOf, .inl ((k 2), 5100, .inl v_manyOf)), (a_there, .inl ((k 1), 5100, .inl v_there)), (a_waitKind, .inl ((k 2), 100, .inl v_waitKind)), (a_waitMany, .inl ((k 2), 100, .inl v_waitMany)), (a_waitBytes, .inl ((k 3), 100, .inr (.inl v_waitBytes)))] H → va_D A [(h0, .inr (6, [.int v_thrown, .int v_sectors, .int v_power, .ref a_disk, .ref a_made, .int v_used, .int v_reserve, .int v_cutWrites, .int v_cutBytes, .int v_rows, .ref a_sectorOf, .ref a_placeOf, .ref a_manyOf, .ref a_there, .int v_waits, .ref a_waitKind, .ref a_waitMany, .ref a_waitBytes, .int v_stateNumber, .long o.2, .int v_second, .int v_repaired, .int v_up, .int v_sent])), (a_disk, .inl ((k 2), 32768, .inl v_disk)), (a_made, .inl ((k 2), 512, .inl v_made)), (a_sectorOf, .inl ((k 2), 5100, .inl v_sectorOf)), (a_placeOf, .inl ((k 2), 5100, .inl v_placeOf)), (a_manyOf, .inl ((k 2), 5100, .inl v_manyOf)), (a_there, .inl ((k 1), 5100, .inl v_there)), (a_waitKind, .inl ((k 2), 100, .inl v_waitKind)), (a_waitMany, .inl ((k 2), 100, .inl v_waitMany)), (a_waitBytes, .inl ((k 3), 100, .inr (.inl v_waitBytes)))] → va_S A s.heap H locs → ∀ ls : Array Slot, lv_has ls 5 [(0, .ref h0), (2, .int x2), (4, .int o.1)] → W p l e { frames := 5, cells := 0, slots := 0, locals := 114 } s m args below meth c H locs 0 0 Q (F0 m 100 ls [])) → ∀ (H : Heap) (locs : List Loc), va_P D vwCl [(h0, .inr (6, [.int v_thrown, .int v_sectors, .int v_power, .ref a_disk, .ref a_made, .int v_used, .int v_reserve, .int v_cutWrites, .int v_cutBytes, .int v_rows, .ref a_sectorOf, .ref a_placeOf, .ref a_manyOf, .ref a_there, .int v_waits, .ref a_waitKind, .ref a_waitMany, .ref a_waitBytes, .int v_stateNumber, .long v_stateNow, .int v_second, .int v_repaired, .int v_up, .int v_sent])), (a_disk, .inl ((k 2), 32768, .inl v_disk)), (a_made, .inl ((k 2), 512, .inl v_made)), (a_sectorOf, .inl ((k 2), 5100, .inl v_sectorOf)), (a_placeOf, .inl ((k 2), 5100, .inl v_placeOf)), (a_manyOf, .inl ((k 2), 5100, .inl v_manyOf)), (a_there, .inl ((k 1), 5100, .inl v_there)), (a_waitKind, .inl ((k 2), 100, .inl v_waitKind)), (a_waitMany, .inl ((k 2), 100, .inl v_waitMany)), (a_waitBytes, .inl ((k 3), 100, .inr (.inl v_waitBytes)))] H → va_D A [(h0, .inr (6, [.int v_thrown, .int v_sectors, .int v_power, .ref a_disk, .ref a_made, .int v_used, .int v_reserve, .int v_cutWrites, .int v_cutBytes, .int v_rows, .ref a_sectorOf, .ref a_placeOf, .ref a_manyOf, .ref a_there, .int v_waits, .ref a_waitKind, .ref a_waitMany, .ref a_waitBytes, .int v_stateNumber, .long v_stateNow, .int v_second, .int v_repaired, .int v_up, .int v_sent])), (a_disk, .inl ((k 2), 32768, .inl v_disk)), (a_made, .inl ((k 2), 512, .inl v_made)), (a_sectorOf, .inl ((k 2), 5100, .inl v_sectorOf)), (a_placeOf, .inl ((k 2), 5100, .inl v_placeOf)), (a_manyOf, .inl ((k 2), 5100, .inl v_manyOf)), (a_there, .inl ((k 1), 5100, .inl v_there)), (a_waitKind, .inl ((k 2), 100, .inl v_waitKind)), (a_waitMany, .inl ((k 2), 100, .inl v_waitMany)), (a_waitBytes, .inl ((k 3), 100, .inr (.inl v_waitBytes)))] → va_S A s.heap H locs → ∀ ls : Array Slot, lv_has ls 5 [(0, .ref h0), (2, .int x2), (4, .int x4)] → W p l e { frames := 5, cells := 0, slots := 0, locals := 114 } s m args below meth c H locs 0 0 Q (F0 m 62 ls []) := by
  obtain ⟨hx, hb, hr, hml, hown, hts, hlocks⟩ := id C
  intro n
  induction n with
  | zero =>
    intro x4 v_stateNow h
    exact dk_n (o := o) h
  | succ n ih =>
    intro x4 v_stateNow h K H locs hP hD hS ls hl
    rw [fX6_takeState_L62.eq_2] at h
    refine lv_iload hx hb dX6_takeState_62 (lv_at hl 2 rfl) ?_
    refine lv_bipush (v := 8) hx hb dX6_takeState_64 (by decide) ?_
    refine lv_icmp_ge (tgt := 100) hx hb dX6_takeState_66 (by decide) (fun q => ?_) (fun q => ?_)
    · replace h := dk_t q h
      have h := dk_r h
      subst h
      exact K _ _ (hP.sub [0, 1, 2, 3, 4, 5, 6, 7, 8, 9] rfl) (hD.sub [0, 1, 2, 3, 4, 5, 6, 7, 8, 9] (by decide) rfl) hS ls (lv_sub hl [0, 1, 2] rfl)
    · replace h := dk_f q h
      refine lv_aload_n hx hb dX6_takeState_69 rfl (lv_at hl 0 rfl) ?_
      refine lv_aload_n hx hb dX6_takeState_70 rfl (lv_at hl 0 rfl) ?_
      refine va_get (D := D) (ci := 6) (v := .long v_stateNow) (C := "ServiceDiskModel") (T := TX6) (N := 24) hx hb hts inX6 hown hK hP 0 rfl rfl 19 (by decide) (hts _ w_756) (fun _ h9 => h9) rfl dX6_takeState_71 ?_
      refine lv_bipush (v := 8) hx hb dX6_takeState_74 (by decide) ?_
      refine lv_lshl (v := (dk_lshl v_stateNow 8)) hx hb dX6_takeState_76 rfl ?_
      refine lv_aload_n hx hb dX6_takeState_77 rfl (lv_at hl 0 rfl) ?_
      refine va_get (D := D) (ci := 6) (v := .ref a_disk) (C := "ServiceDiskModel") (T := TX6) (N := 24) hx hb hts inX6 hown hK hP 0 rfl rfl 3 (by decide) (hts _ w_740) (fun _ h9 => h9) rfl dX6_takeState_78 ?_
      refine lv_iload_n hx hb dX6_takeState_81 rfl (lv_at hl 1 rfl) ?_
      refine lv_bipush (v := 6) hx hb dX6_takeState_82 (by decide) ?_
      refine lv_iadd hx hb dX6_takeState_84 ?_
      refine lv_iload hx hb dX6_takeState_85 (lv_at hl 2 rfl) ?_
      refine lv_iadd hx hb dX6_takeState_87 ?_
      obtain ⟨q, h⟩ := dk_g h
      refine va_iald hx hb hK hP 1 2 rfl rfl q dX6_takeState_88 ?_
      refine lv_i2l (v := (v_disk ((x2 + 6) + x4).toNatClampNeg).toInt64) hx hb dX6_takeState_89 rfl ?_
      refine lv_lor hx hb dX6_takeState_90 ?_
      refine va_put (D := D) (ci := 6) (v := .long ((dk_lshl v_stateNow 8) ||| (v_disk ((x2 + 6) + x4).toNatClampNeg).toInt64)) (ty := .long) (C := "ServiceDiskModel") (T := TX6) (N := 24) hx hb hts inX6 tyX6 tyX6_ok nmX6 hown hK hP hD hS 0 rfl rfl 19 (by decide) (hts _ w_756) (fun _ h9 => h9) rfl (by decide +kernel) rfl rfl (Nat.le_of_ble_eq_true rfl) dX6_takeState_91 (fun H locs hP hD hS => ?_)
      have hP : va_P D vwCl [(h0, .inr (6, [.int v_thrown, .int v_sectors, .int v_power, .ref a_disk, .ref a_made, .int v_used, .int v_reserve, .int v_cutWrites, .int v_cutBytes, .int v_rows, .ref a_sectorOf, .ref a_placeOf, .ref a_manyOf, .ref a_there, .int v_waits, .ref a_waitKind, .ref a_waitMany, .ref a_waitBytes, .int v_stateNumber, .long ((dk_lshl v_stateNow 8) ||| (v_disk ((x2 + 6) + x4).toNatClampNeg).toInt64), .int v_second, .int v_repaired, .int v_up, .int v_sent])), (a_disk, .inl ((k 2), 32768, .inl v_disk)), (a_made, .inl ((k 2), 512, .inl v_made)), (a_sectorOf, .inl ((k 2), 5100, .inl v_sectorOf)), (a_placeOf, .inl ((k 2), 5100, .inl v_placeOf)), (a_manyOf, .inl ((k 2), 5100, .inl v_manyOf)), (a_there, .inl ((k 1), 5100, .inl v_there)), (a_waitKind, .inl ((k 2), 100, .inl v_waitKind)), (a_waitMany, .inl ((k 2), 100, .inl v_waitMany)), (a_waitBytes, .inl ((k 3), 100, .inr (.inl v_waitBytes)))] H := hP
      have hD : va_D A [(h0, .inr (6, [.int v_thrown, .int v_sectors, .int v_power, .ref a_disk, .ref a_made, .int v_used, .int v_reserve, .int v_cutWrites, .int v_cutBytes, .int v_rows, .ref a_sectorOf, .ref a_placeOf, .ref a_manyOf, .ref a_there, .int v_waits, .ref a_waitKind, .ref a_waitMany, .ref a_waitBytes, .int v_stateNumber, .long ((dk_lshl v_stateNow 8) ||| (v_disk ((x2 + 6) + x4).toNatClampNeg).toInt64), .int v_second, .int v_repaired, .int v_up, .int v_sent])), (a_disk, .inl ((k 2), 32768, .inl v_disk)), (a_made, .inl ((k 2), 512, .inl v_made)), (a_sectorOf, .inl ((k 2), 5100, .inl v_sectorOf)), (a_placeOf, .inl ((k 2), 5100, .inl v_placeOf)), (a_manyOf, .inl ((k 2), 5100, .inl v_manyOf)), (a_there, .inl ((k 1), 5100, .inl v_there)), (a_waitKind, .inl ((k 2), 100, .inl v_waitKind)), (a_waitMany, .inl ((k 2), 100, .inl v_waitMany)), (a_waitBytes, .inl ((k 3), 100, .inr (.inl v_waitBytes)))] := hD
      refine lv_iinc (v := (x4 + 1)) (lv' := [(4, .int (x4 + 1)), (0, .ref h0), (2, .int x2)]) hx hb dX6_takeState_94 hl (k := 2) rfl rfl (by decide) rfl (fun ls hl => ?_)
      refine lv_goto (tgt := 62) hx hb dX6_takeState_97 (by decide) ?_
      exact ih (x4 + 1) ((dk_lshl v_stateNow 8) ||| (v_disk ((x2 + 6) + x4).toNatClampNeg).toInt64) h K _ _ (hP.sub [0, 1, 2, 3, 4, 5, 6, 7, 8, 9] rfl) (hD.sub [0, 1, 2, 3, 4, 5, 6, 7, 8, 9] (by decide) rfl) hS ls (lv_sub hl [1, 2, 0] rfl)
set_option maxHeartbeats 4000000 in
set_option maxRecDepth 100000 in
theorem mX6_takeState (l : Launch) (D : va_G) (k : Nat → ClassId) (h0 a_disk a_made a_sectorOf a_placeOf a_manyOf a_there a_waitKind a_waitMany a_waitBytes : Nat) (sz : Nat) (v_thrown : Int32) (v_sectors : Int32) (v_power : Int32) (v_used : Int32) (v_reserve : Int32) (v_cutWrites : Int32) (v_cutBytes : Int32) (v_rows : Int32) (v_waits : Int32) (v_stateNumber : Int32) (v_stateNow : Int64) (v_second : Int32) (v_repaired : Int32) (v_up : Int32) (v_sent : Int32) (v_disk : Nat → Int32) (v_made : Nat → Int32) (v_sectorOf : Nat → Int32) (v_placeOf : Nat → Int32) (v_manyOf : Nat → Int32) (v_there : Nat → Int32) (v_waitKind : Nat → Int32) (v_waitMany : Nat → Int32) (v_waitBytes : Nat → Int64) (p1 : Int32) (o : Int32 × Int64 × Int32 × (Nat → Int32)) (h : fX6_takeState v_sectors v_stateNumber v_stateNow v_repaired v_disk p1 = some o) : Met l yX6_takeState wsX6_takeState { frames := 5, cells := 0, slots := 0, locals := 114 } (dk_Pw D k [.ref h0, .int p1] [(h0, .inr (6, [.int v_thrown, .int v_sectors, .int v_power, .ref a_disk, .ref a_made, .int v_used, .int v_reserve, .int v_cutWrites, .int v_cutBytes, .int v_rows, .ref a_sectorOf, .ref a_placeOf, .ref a_manyOf, .ref a_there, .int v_waits, .ref a_waitKind, .ref a_waitMany, .ref a_waitBytes, .int v_stateNumber, .long v_stateNow, .int v_second, .int v_repaired, .int v_up, .int v_sent])), (a_disk, .inl ((k 2), 32768, .inl v_disk)), (a_made, .inl ((k 2), 512, .inl v_made)), (a_sectorOf, .inl ((k 2), 5100, .inl v_sectorOf)), (a_placeOf, .inl ((k 2), 5100, .inl v_placeOf)), (a_manyOf, .inl ((k 2), 5100, .inl v_manyOf)), (a_there, .inl ((k 1), 5100, .inl v_there)), (a_waitKind, .inl ((k 2), 100, .inl v_waitKind)), (a_waitMany, .inl ((k 2), 100, .inl v_waitMany)), (a_waitBytes, .inl ((k 3), 100, .inr (.inl v_waitBytes)))] sz) (dk_Qv D [(h0, .inr (6, [.int v_thrown, .int v_sectors, .int v_power, .ref a_disk, .ref a_made, .int v_used, .int v_reserve, .int v_cutWrites, .int v_cutBytes, .int v_rows, .ref a_sectorOf, .ref a_placeOf, .ref a_manyOf, .ref a_there, .int v_waits, .ref a_waitKind, .ref a_waitMany, .ref a_waitBytes, .int o.1, .long o.2.1, .int v_second, .int o.2.2.1, .int v_up, .int v_sent])), (a_disk, .inl ((k 2), 32768, .inl o.2.2.2)), (a_made, .inl ((k 2), 512, .inl v_made)), (a_sectorOf, .inl ((k 2), 5100, .inl v_sectorOf)), (a_placeOf, .inl ((k 2), 5100, .inl v_placeOf)), (a_manyOf, .inl ((k 2), 5100, .inl v_manyOf)), (a_there, .inl ((k 1), 5100, .inl v_there)), (a_waitKind, .inl ((k 2), 100, .inl v_waitKind)), (a_waitMany, .inl ((k 2), 100, .inl v_waitMany)), (a_waitBytes, .inl ((k 3), 100, .inr (.inl v_waitBytes)))] (va_A [(h0, .inr (6, [.int v_thrown, .int v_sectors, .int v_power, .ref a_disk, .ref a_made, .int v_used, .int v_reserve, .int v_cutWrites, .int v_cutBytes, .int v_rows, .ref a_sectorOf, .ref a_placeOf, .ref a_manyOf, .ref a_there, .int v_waits, .ref a_waitKind, .ref a_waitMany, .ref a_waitBytes, .int v_stateNumber, .long v_stateNow, .int v_second, .int v_repaired, .int v_up, .int v_sent])), (a_disk, .inl ((k 2), 32768, .inl v_disk)), (a_made, .inl ((k 2), 512, .inl v_made)), (a_sectorOf, .inl ((k 2), 5100, .inl v_sectorOf)), (a_placeOf, .inl ((k 2), 5100, .inl v_placeOf)), (a_manyOf, .inl ((k 2), 5100, .inl v_manyOf)), (a_there, .inl ((k 1), 5100, .inl v_there)), (a_waitKind, .inl ((k 2), 100, .inl v_waitKind)), (a_waitMany, .inl ((k 2), 100, .inl v_waitMany)), (a_waitBytes, .inl ((k 3), 100, .inr (.inl v_waitBytes)))] sz)) 0 0 (va_A [(h0, .inr (6, [.int v_thrown, .int v_sectors, .int v_power, .ref a_disk, .ref a_made, .int v_used, .int v_reserve, .int v_cutWrites, .int v_cutBytes, .int v_rows, .ref a_sectorOf, .ref a_placeOf, .ref a_manyOf, .ref a_there, .int v_waits, .ref a_waitKind, .ref a_waitMany, .ref a_waitBytes, .int v_stateNumber, .long v_stateNow, .int v_second, .int v_repaired, .int v_up, .int v_sent])), (a_disk, .inl ((k 2), 32768, .inl v_disk)), (a_made, .inl ((k 2), 512, .inl v_made)), (a_sectorOf, .inl ((k 2), 5100, .inl v_sectorOf)), (a_placeOf, .inl ((k 2), 5100, .inl v_placeOf)), (a_manyOf, .inl ((k 2), 5100, .inl v_manyOf)), (a_there, .inl ((k 1), 5100, .inl v_there)), (a_waitKind, .inl ((k 2), 100, .inl v_waitKind)), (a_waitMany, .inl ((k 2), 100, .inl v_waitMany)), (a_waitBytes, .inl ((k 3), 100, .inr (.inl v_waitBytes)))] sz) := by
  unfold fX6_takeState at h
  refine dk_ofW (Qc := fun A => dk_Qv D [(h0, .inr (6, [.int v_thrown, .int v_sectors, .int v_power, .ref a_disk, .ref a_made, .int v_used, .int v_reserve, .int v_cutWrites, .int v_cutBytes, .int v_rows, .ref a_sectorOf, .ref a_placeOf, .ref a_manyOf, .ref a_there, .int v_waits, .ref a_waitKind, .ref a_waitMany, .ref a_waitBytes, .int o.1, .long o.2.1, .int v_second, .int o.2.2.1, .int v_up, .int v_sent])), (a_disk, .inl ((k 2), 32768, .inl o.2.2.2)), (a_made, .inl ((k 2), 512, .inl v_made)), (a_sectorOf, .inl ((k 2), 5100, .inl v_sectorOf)), (a_placeOf, .inl ((k 2), 5100, .inl v_placeOf)), (a_manyOf, .inl ((k 2), 5100, .inl v_manyOf)), (a_there, .inl ((k 1), 5100, .inl v_there)), (a_waitKind, .inl ((k 2), 100, .inl v_waitKind)), (a_waitMany, .inl ((k 2), 100, .inl v_waitMany)), (a_waitBytes, .inl ((k 3), 100, .inr (.inl v_waitBytes)))] A) (cc := cX6_takeState) (maxL := 5) (ret := none) (lv := [(0, .ref h0), (1, .int p1)]) (by decide) rfl (Nat.le_of_ble_eq_true rfl) rfl ?_
  intro p e s m below meth c C hK hN hP A hA hD hS ls hl
  obtain ⟨hx, hb, hr, hml, hown, hts, hlocks⟩ := id C
  refine lv_aload_n hx hb dX6_takeState_0 rfl (lv_at hl 0 rfl) ?_
  refine lv_iload_n hx hb dX6_takeState_1 rfl (lv_at hl 1 rfl) ?_
  replace h := dk_b h
  obtain ⟨o1, e1, h⟩ := h
  refine dk_cwi (wr := []) (va_runV (As := [.int p1]) (rest := []) ⟨hx, hb, hml, hown, hts⟩ (mX6_repair l D k h0 a_disk a_made a_sectorOf a_placeOf a_manyOf a_there a_waitKind a_waitMany a_waitBytes s.heap.size v_thrown v_sectors v_power v_used v_reserve v_cutWrites v_cutBytes v_rows v_waits v_stateNumber v_stateNow v_second v_repaired v_up v_sent v_disk v_made v_sectorOf v_placeOf v_manyOf v_there v_waitKind v_waitMany v_waitBytes p1 o1 e1) (cwV 1 hts (dk_gV w_888 w_890 w_28 w_46 w_891) rfl rfl rfl (by decide +kernel) ⟨Nat.le_of_ble_eq_true rfl, Nat.le_of_ble_eq_true rfl⟩) (dk_pvw hK hN hP hD [0, 1, 2, 3, 4, 5, 6, 7, 8, 9] rfl rfl rfl rfl (hP.sub [0, 1, 2, 3, 4, 5, 6, 7, 8, 9] rfl)) rfl rfl hl.1 rfl (lv_room (Nat.le_of_ble_eq_true rfl)) dX6_takeState_2 ⟨Nat.le_of_ble_eq_true rfl, Nat.le_of_ble_eq_true rfl⟩) hP hD hS hA [0, 1, 2, 3, 4, 5, 6, 7, 8, 9] [] rfl rfl rfl (by decide) (fun H locs hP hD hS => ?_)
  have hP : va_P D vwCl [(h0, .inr (6, [.int v_thrown, .int v_sectors, .int v_power, .ref a_disk, .ref a_made, .int v_used, .int v_reserve, .int v_cutWrites, .int v_cutBytes, .int v_rows, .ref a_sectorOf, .ref a_placeOf, .ref a_manyOf, .ref a_there, .int v_waits, .ref a_waitKind, .ref a_waitMany, .ref a_waitBytes, .int v_stateNumber, .long v_stateNow, .int v_second, .int o1.2.1, .int v_up, .int v_sent])), (a_disk, .inl ((k 2), 32768, .inl o1.2.2)), (a_made, .inl ((k 2), 512, .inl v_made)), (a_sectorOf, .inl ((k 2), 5100, .inl v_sectorOf)), (a_placeOf, .inl ((k 2), 5100, .inl v_placeOf)), (a_manyOf, .inl ((k 2), 5100, .inl v_manyOf)), (a_there, .inl ((k 1), 5100, .inl v_there)), (a_waitKind, .inl ((k 2), 100, .inl v_waitKind)), (a_waitMany, .inl ((k 2), 100, .inl v_waitMany)), (a_waitBytes, .inl ((k 3), 100, .inr (.inl v_waitBytes)))] H := hP
  have hD : va_D A [(h0, .inr (6, [.int v_thrown, .int v_sectors, .int v_power, .ref a_disk, .ref a_made, .int v_used, .int v_reserve, .int v_cutWrites, .int v_cutBytes, .int v_rows, .ref a_sectorOf, .ref a_placeOf, .ref a_manyOf, .ref a_there, .int v_waits, .ref a_waitKind, .ref a_waitMany, .ref a_waitBytes, .int v_stateNumber, .long v_stateNow, .int v_second, .int o1.2.1, .int v_up, .int v_sent])), (a_disk, .inl ((k 2), 32768, .inl o1.2.2)), (a_made, .inl ((k 2), 512, .inl v_made)), (a_sectorOf, .inl ((k 2), 5100, .inl v_sectorOf)), (a_placeOf, .inl ((k 2), 5100, .inl v_placeOf)), (a_manyOf, .inl ((k 2), 5100, .inl v_manyOf)), (a_there, .inl ((k 1), 5100, .inl v_there)), (a_waitKind, .inl ((k 2), 100, .inl v_waitKind)), (a_waitMany, .inl ((k 2), 100, .inl v_waitMany)), (a_waitBytes, .inl ((k 3), 100, .inr (.inl v_waitBytes)))] := hD
  refine lv_if_ne (tgt := 9) hx hb dX6_takeState_5 (by decide) (fun q => ?_) (fun q => ?_)
  · replace h := dk_f q h
    refine lv_iconst (v := 0) hx hb dX6_takeState_9 (by decide) ?_
    refine lv_iload_n hx hb dX6_takeState_10 rfl (lv_at hl 1 rfl) ?_
    replace h := dk_b h
    obtain ⟨o2, e2, h⟩ := h
    refine dk_cri (va_runS (As := [.int 0, .int p1]) (rest := []) ⟨hx, hb, hml, hown, hts⟩ (mX6_at l D k 0 p1 o2 e2) (va_cwS 2 hts (dk_gS w_869 w_870 w_46 w_871) rfl rfl rfl (by decide +kernel) ⟨Nat.le_of_ble_eq_true rfl, Nat.le_of_ble_eq_true rfl⟩) (dk_psr hK hN hP [] rfl) rfl rfl hl.1 rfl (lv_room (Nat.le_of_ble_eq_true rfl)) dX6_takeState_11 ⟨Nat.le_of_ble_eq_true rfl, Nat.le_of_ble_eq_true rfl⟩) ?_
    refine lv_istore_n (lv' := [(2, .int o2), (0, .ref h0), (1, .int p1)]) hx hb dX6_takeState_14 rfl hl (by decide) rfl (fun ls hl => ?_)
    refine lv_aload_n hx hb dX6_takeState_15 rfl (lv_at hl 1 rfl) ?_
    refine va_get (D := D) (ci := 6) (v := .int v_stateNumber) (C := "ServiceDiskModel") (T := TX6) (N := 24) hx hb hts inX6 hown hK hP 0 rfl rfl 18 (by decide) (hts _ w_755) (fun _ h9 => h9) rfl dX6_takeState_16 ?_
    refine lv_if_eq (tgt := 34) hx hb dX6_takeState_19 (by decide) (fun q => ?_) (fun q => ?_)
    · replace h := dk_t q h
      refine lv_iconst (v := 1) hx hb dX6_takeState_34 (by decide) ?_
      refine lv_goto (tgt := 39) hx hb dX6_takeState_35 (by decide) ?_
      refine lv_istore_n (lv' := [(3, .int 1), (2, .int o2), (0, .ref h0), (1, .int p1)]) hx hb dX6_takeState_39 rfl hl (by decide) rfl (fun ls hl => ?_)
      refine lv_iload_n hx hb dX6_takeState_40 rfl (lv_at hl 0 rfl) ?_
      refine lv_if_ne (tgt := 45) hx hb dX6_takeState_41 (by decide) (fun _ => ?_) (fun q => absurd q (by decide))
      refine lv_aload_n hx hb dX6_takeState_45 rfl (lv_at hl 2 rfl) ?_
      refine lv_aload_n hx hb dX6_takeState_46 rfl (lv_at hl 2 rfl) ?_
      refine lv_iload_n hx hb dX6_takeState_47 rfl (lv_at hl 1 rfl) ?_
      replace h := dk_b h
      obtain ⟨o3, e3, h⟩ := h
      refine dk_cri (va_runV (As := [.int o2]) (rest := [.ref h0]) ⟨hx, hb, hml, hown, hts⟩ (mX6_four l D k h0 a_disk a_made a_sectorOf a_placeOf a_manyOf a_there a_waitKind a_waitMany a_waitBytes v_thrown v_sectors v_power v_used v_reserve v_cutWrites v_cutBytes v_rows v_waits v_stateNumber v_stateNow v_second o1.2.1 v_up v_sent o1.2.2 v_made v_sectorOf v_placeOf v_manyOf v_there v_waitKind v_waitMany v_waitBytes o2 o3 e3) (cwV 1 hts (dk_gV w_904 w_906 w_32 w_46 w_907) rfl rfl rfl (by decide +kernel) ⟨Nat.le_of_ble_eq_true rfl, Nat.le_of_ble_eq_true rfl⟩) (dk_pvr hK hN hP [0, 1, 2, 3, 4, 5, 6, 7, 8, 9] rfl rfl rfl) rfl rfl hl.1 rfl (lv_room (Nat.le_of_ble_eq_true rfl)) dX6_takeState_48 ⟨Nat.le_of_ble_eq_true rfl, Nat.le_of_ble_eq_true rfl⟩) ?_
      refine va_put (D := D) (ci := 6) (v := .int o3) (ty := .int) (C := "ServiceDiskModel") (T := TX6) (N := 24) hx hb hts inX6 tyX6 tyX6_ok nmX6 hown hK hP hD hS 0 rfl rfl 18 (by decide) (hts _ w_755) (fun _ h9 => h9) rfl (by decide +kernel) rfl rfl (Nat.le_of_ble_eq_true rfl) dX6_takeState_51 (fun H locs hP hD hS => ?_)
      have hP : va_P D vwCl [(h0, .inr (6, [.int v_thrown, .int v_sectors, .int v_power, .ref a_disk, .ref a_made, .int v_used, .int v_reserve, .int v_cutWrites, .int v_cutBytes, .int v_rows, .ref a_sectorOf, .ref a_placeOf, .ref a_manyOf, .ref a_there, .int v_waits, .ref a_waitKind, .ref a_waitMany, .ref a_waitBytes, .int o3, .long v_stateNow, .int v_second, .int o1.2.1, .int v_up, .int v_sent])), (a_disk, .inl ((k 2), 32768, .inl o1.2.2)), (a_made, .inl ((k 2), 512, .inl v_made)), (a_sectorOf, .inl ((k 2), 5100, .inl v_sectorOf)), (a_placeOf, .inl ((k 2), 5100, .inl v_placeOf)), (a_manyOf, .inl ((k 2), 5100, .inl v_manyOf)), (a_there, .inl ((k 1), 5100, .inl v_there)), (a_waitKind, .inl ((k 2), 100, .inl v_waitKind)), (a_waitMany, .inl ((k 2), 100, .inl v_waitMany)), (a_waitBytes, .inl ((k 3), 100, .inr (.inl v_waitBytes)))] H := hP
      have hD : va_D A [(h0, .inr (6, [.int v_thrown, .int v_sectors, .int v_power, .ref a_disk, .ref a_made, .int v_used, .int v_reserve, .int v_cutWrites, .int v_cutBytes, .int v_rows, .ref a_sectorOf, .ref a_placeOf, .ref a_manyOf, .ref a_there, .int v_waits, .ref a_waitKind, .ref a_waitMany, .ref a_waitBytes, .int o3, .long v_stateNow, .int v_second, .int o1.2.1, .int v_up, .int v_sent])), (a_disk, .inl ((k 2), 32768, .inl o1.2.2)), (a_made, .inl ((k 2), 512, .inl v_made)), (a_sectorOf, .inl ((k 2), 5100, .inl v_sectorOf)), (a_placeOf, .inl ((k 2), 5100, .inl v_placeOf)), (a_manyOf, .inl ((k 2), 5100, .inl v_manyOf)), (a_there, .inl ((k 1), 5100, .inl v_there)), (a_waitKind, .inl ((k 2), 100, .inl v_waitKind)), (a_waitMany, .inl ((k 2), 100, .inl v_waitMany)), (a_waitBytes, .inl ((k 3), 100, .inr (.inl v_waitBytes)))] := hD
      refine lv_aload_n hx hb dX6_takeState_54 rfl (lv_at hl 2 rfl) ?_
      refine lv_lconst (v := 0) hx hb dX6_takeState_55 (by decide) ?_
      refine va_put (D := D) (ci := 6) (v := .long 0) (ty := .long) (C := "ServiceDiskModel") (T := TX6) (N := 24) hx hb hts inX6 tyX6 tyX6_ok nmX6 hown hK hP hD hS 0 rfl rfl 19 (by decide) (hts _ w_756) (fun _ h9 => h9) rfl (by decide +kernel) rfl rfl (Nat.le_of_ble_eq_true rfl) dX6_takeState_56 (fun H locs hP hD hS => ?_)
      have hP : va_P D vwCl [(h0, .inr (6, [.int v_thrown, .int v_sectors, .int v_power, .ref a_disk, .ref a_made, .int v_used, .int v_reserve, .int v_cutWrites, .int v_cutBytes, .int v_rows, .ref a_sectorOf, .ref a_placeOf, .ref a_manyOf, .ref a_there, .int v_waits, .ref a_waitKind, .ref a_waitMany, .ref a_waitBytes, .int o3, .long 0, .int v_second, .int o1.2.1, .int v_up, .int v_sent])), (a_disk, .inl ((k 2), 32768, .inl o1.2.2)), (a_made, .inl ((k 2), 512, .inl v_made)), (a_sectorOf, .inl ((k 2), 5100, .inl v_sectorOf)), (a_placeOf, .inl ((k 2), 5100, .inl v_placeOf)), (a_manyOf, .inl ((k 2), 5100, .inl v_manyOf)), (a_there, .inl ((k 1), 5100, .inl v_there)), (a_waitKind, .inl ((k 2), 100, .inl v_waitKind)), (a_waitMany, .inl ((k 2), 100, .inl v_waitMany)), (a_waitBytes, .inl ((k 3), 100, .inr (.inl v_waitBytes)))] H := hP
      have hD : va_D A [(h0, .inr (6, [.int v_thrown, .int v_sectors, .int v_power, .ref a_disk, .ref a_made, .int v_used, .int v_reserve, .int v_cutWrites, .int v_cutBytes, .int v_rows, .ref a_sectorOf, .ref a_placeOf, .ref a_manyOf, .ref a_there, .int v_waits, .ref a_waitKind, .ref a_waitMany, .ref a_waitBytes, .int o3, .long 0, .int v_second, .int o1.2.1, .int v_up, .int v_sent])), (a_disk, .inl ((k 2), 32768, .inl o1.2.2)), (a_made, .inl ((k 2), 512, .inl v_made)), (a_sectorOf, .inl ((k 2), 5100, .inl v_sectorOf)), (a_placeOf, .inl ((k 2), 5100, .inl v_placeOf)), (a_manyOf, .inl ((k 2), 5100, .inl v_manyOf)), (a_there, .inl ((k 1), 5100, .inl v_there)), (a_waitKind, .inl ((k 2), 100, .inl v_waitKind)), (a_waitMany, .inl ((k 2), 100, .inl v_waitMany)), (a_waitBytes, .inl ((k 3), 100, .inr (.inl v_waitBytes)))] := hD
      refine lv_iconst (v := 0) hx hb dX6_takeState_59 (by decide) ?_
      refine lv_istore (lv' := [(4, .int 0), (3, .int 1), (2, .int o2), (0, .ref h0), (1, .int p1)]) hx hb dX6_takeState_60 hl (by decide) rfl (fun ls hl => ?_)
      replace h := dk_b h
      obtain ⟨o4, e4, h⟩ := h
      refine lX6_takeState_62 C hK hN hA _ 0 0  e4 (fun H locs hP hD hS ls hl => ?_) _ _ (hP.sub [0, 1, 2, 3, 4, 5, 6, 7, 8, 9] rfl) (hD.sub [0, 1, 2, 3, 4, 5, 6, 7, 8, 9] (by decide) rfl) hS ls (lv_sub hl [3, 2, 0] rfl)
      have hP : va_P D vwCl [(h0, .inr (6, [.int v_thrown, .int v_sectors, .int v_power, .ref a_disk, .ref a_made, .int v_used, .int v_reserve, .int v_cutWrites, .int v_cutBytes, .int v_rows, .ref a_sectorOf, .ref a_placeOf, .ref a_manyOf, .ref a_there, .int v_waits, .ref a_waitKind, .ref a_waitMany, .ref a_waitBytes, .int o3, .long o4.2, .int v_second, .int o1.2.1, .int v_up, .int v_sent])), (a_disk, .inl ((k 2), 32768, .inl o1.2.2)), (a_made, .inl ((k 2), 512, .inl v_made)), (a_sectorOf, .inl ((k 2), 5100, .inl v_sectorOf)), (a_placeOf, .inl ((k 2), 5100, .inl v_placeOf)), (a_manyOf, .inl ((k 2), 5100, .inl v_manyOf)), (a_there, .inl ((k 1), 5100, .inl v_there)), (a_waitKind, .inl ((k 2), 100, .inl v_waitKind)), (a_waitMany, .inl ((k 2), 100, .inl v_waitMany)), (a_waitBytes, .inl ((k 3), 100, .inr (.inl v_waitBytes)))] H := hP
      have hD : va_D A [(h0, .inr (6, [.int v_thrown, .int v_sectors, .int v_power, .ref a_disk, .ref a_made, .int v_used, .int v_reserve, .int v_cutWrites, .int v_cutBytes, .int v_rows, .ref a_sectorOf, .ref a_placeOf, .ref a_manyOf, .ref a_there, .int v_waits, .ref a_waitKind, .ref a_waitMany, .ref a_waitBytes, .int o3, .long o4.2, .int v_second, .int o1.2.1, .int v_up, .int v_sent])), (a_disk, .inl ((k 2), 32768, .inl o1.2.2)), (a_made, .inl ((k 2), 512, .inl v_made)), (a_sectorOf, .inl ((k 2), 5100, .inl v_sectorOf)), (a_placeOf, .inl ((k 2), 5100, .inl v_placeOf)), (a_manyOf, .inl ((k 2), 5100, .inl v_manyOf)), (a_there, .inl ((k 1), 5100, .inl v_there)), (a_waitKind, .inl ((k 2), 100, .inl v_waitKind)), (a_waitMany, .inl ((k 2), 100, .inl v_waitMany)), (a_waitBytes, .inl ((k 3), 100, .inr (.inl v_waitBytes)))] := hD
      have hl : lv_has ls 5 [(0, .ref h0), (2, .int o2), (4, .int o4.1)] := hl
      have h := dk_r h
      subst h
      exact dk_rwv hx hb hr hlocks (hP.sub [0, 1, 2, 3, 4, 5, 6, 7, 8, 9] rfl) (hD.sub [0, 1, 2, 3, 4, 5, 6, 7, 8, 9] (by decide) rfl) hS dX6_takeState_100
    · replace h := dk_f q h
      refine lv_aload_n hx hb dX6_takeState_22 rfl (lv_at hl 1 rfl) ?_
      refine lv_iload_n hx hb dX6_takeState_23 rfl (lv_at hl 0 rfl) ?_
      replace h := dk_b h
      obtain ⟨o5, e5, h⟩ := h
      refine dk_cri (va_runV (As := [.int o2]) (rest := []) ⟨hx, hb, hml, hown, hts⟩ (mX6_four l D k h0 a_disk a_made a_sectorOf a_placeOf a_manyOf a_there a_waitKind a_waitMany a_waitBytes v_thrown v_sectors v_power v_used v_reserve v_cutWrites v_cutBytes v_rows v_waits v_stateNumber v_stateNow v_second o1.2.1 v_up v_sent o1.2.2 v_made v_sectorOf v_placeOf v_manyOf v_there v_waitKind v_waitMany v_waitBytes o2 o5 e5) (cwV 1 hts (dk_gV w_904 w_906 w_32 w_46 w_907) rfl rfl rfl (by decide +kernel) ⟨Nat.le_of_ble_eq_true rfl, Nat.le_of_ble_eq_true rfl⟩) (dk_pvr hK hN hP [0, 1, 2, 3, 4, 5, 6, 7, 8, 9] rfl rfl rfl) rfl rfl hl.1 rfl (lv_room (Nat.le_of_ble_eq_true rfl)) dX6_takeState_24 ⟨Nat.le_of_ble_eq_true rfl, Nat.le_of_ble_eq_true rfl⟩) ?_
      refine lv_aload_n hx hb dX6_takeState_27 rfl (lv_at hl 1 rfl) ?_
      refine va_get (D := D) (ci := 6) (v := .int v_stateNumber) (C := "ServiceDiskModel") (T := TX6) (N := 24) hx hb hts inX6 hown hK hP 0 rfl rfl 18 (by decide) (hts _ w_755) (fun _ h9 => h9) rfl dX6_takeState_28 ?_
      refine dk_jn (F0 m 39 ls [.int (if o5 ≤ v_stateNumber then 0 else 1)]) (fun K => ?_) ?_
      · refine lv_icmp_le (tgt := 38) hx hb dX6_takeState_31 (by decide) (fun q1 => ?_) (fun q1 => ?_)
        · refine lv_iconst (v := 0) hx hb dX6_takeState_38 (by decide) ?_
          have K := K
          rw [if_pos q1] at K
          exact K
        · refine lv_iconst (v := 1) hx hb dX6_takeState_34 (by decide) ?_
          refine lv_goto (tgt := 39) hx hb dX6_takeState_35 (by decide) ?_
          have K := K
          rw [if_neg q1] at K
          exact K
      refine lv_istore_n (lv' := [(3, .int (if o5 ≤ v_stateNumber then 0 else 1)), (2, .int o2), (0, .ref h0), (1, .int p1)]) hx hb dX6_takeState_39 rfl hl (by decide) rfl (fun ls hl => ?_)
      refine lv_iload_n hx hb dX6_takeState_40 rfl (lv_at hl 0 rfl) ?_
      refine lv_if_ne (tgt := 45) hx hb dX6_takeState_41 (by decide) (fun q => ?_) (fun q => ?_)
      · replace h := dk_f q h
        refine lv_aload_n hx hb dX6_takeState_45 rfl (lv_at hl 2 rfl) ?_
        refine lv_aload_n hx hb dX6_takeState_46 rfl (lv_at hl 2 rfl) ?_
        refine lv_iload_n hx hb dX6_takeState_47 rfl (lv_at hl 1 rfl) ?_
        replace h := dk_b h
        obtain ⟨o6, e6, h⟩ := h
        refine dk_cri (va_runV (As := [.int o2]) (rest := [.ref h0]) ⟨hx, hb, hml, hown, hts⟩ (mX6_four l D k h0 a_disk a_made a_sectorOf a_placeOf a_manyOf a_there a_waitKind a_waitMany a_waitBytes v_thrown v_sectors v_power v_used v_reserve v_cutWrites v_cutBytes v_rows v_waits v_stateNumber v_stateNow v_second o1.2.1 v_up v_sent o1.2.2 v_made v_sectorOf v_placeOf v_manyOf v_there v_waitKind v_waitMany v_waitBytes o2 o6 e6) (cwV 1 hts (dk_gV w_904 w_906 w_32 w_46 w_907) rfl rfl rfl (by decide +kernel) ⟨Nat.le_of_ble_eq_true rfl, Nat.le_of_ble_eq_true rfl⟩) (dk_pvr hK hN hP [0, 1, 2, 3, 4, 5, 6, 7, 8, 9] rfl rfl rfl) rfl rfl hl.1 rfl (lv_room (Nat.le_of_ble_eq_true rfl)) dX6_takeState_48 ⟨Nat.le_of_ble_eq_true rfl, Nat.le_of_ble_eq_true rfl⟩) ?_
        refine va_put (D := D) (ci := 6) (v := .int o6) (ty := .int) (C := "ServiceDiskModel") (T := TX6) (N := 24) hx hb hts inX6 tyX6 tyX6_ok nmX6 hown hK hP hD hS 0 rfl rfl 18 (by decide) (hts _ w_755) (fun _ h9 => h9) rfl (by decide +kernel) rfl rfl (Nat.le_of_ble_eq_true rfl) dX6_takeState_51 (fun H locs hP hD hS => ?_)
        have hP : va_P D vwCl [(h0, .inr (6, [.int v_thrown, .int v_sectors, .int v_power, .ref a_disk, .ref a_made, .int v_used, .int v_reserve, .int v_cutWrites, .int v_cutBytes, .int v_rows, .ref a_sectorOf, .ref a_placeOf, .ref a_manyOf, .ref a_there, .int v_waits, .ref a_waitKind, .ref a_waitMany, .ref a_waitBytes, .int o6, .long v_stateNow, .int v_second, .int o1.2.1, .int v_up, .int v_sent])), (a_disk, .inl ((k 2), 32768, .inl o1.2.2)), (a_made, .inl ((k 2), 512, .inl v_made)), (a_sectorOf, .inl ((k 2), 5100, .inl v_sectorOf)), (a_placeOf, .inl ((k 2), 5100, .inl v_placeOf)), (a_manyOf, .inl ((k 2), 5100, .inl v_manyOf)), (a_there, .inl ((k 1), 5100, .inl v_there)), (a_waitKind, .inl ((k 2), 100, .inl v_waitKind)), (a_waitMany, .inl ((k 2), 100, .inl v_waitMany)), (a_waitBytes, .inl ((k 3), 100, .inr (.inl v_waitBytes)))] H := hP
        have hD : va_D A [(h0, .inr (6, [.int v_thrown, .int v_sectors, .int v_power, .ref a_disk, .ref a_made, .int v_used, .int v_reserve, .int v_cutWrites, .int v_cutBytes, .int v_rows, .ref a_sectorOf, .ref a_placeOf, .ref a_manyOf, .ref a_there, .int v_waits, .ref a_waitKind, .ref a_waitMany, .ref a_waitBytes, .int o6, .long v_stateNow, .int v_second, .int o1.2.1, .int v_up, .int v_sent])), (a_disk, .inl ((k 2), 32768, .inl o1.2.2)), (a_made, .inl ((k 2), 512, .inl v_made)), (a_sectorOf, .inl ((k 2), 5100, .inl v_sectorOf)), (a_placeOf, .inl ((k 2), 5100, .inl v_placeOf)), (a_manyOf, .inl ((k 2), 5100, .inl v_manyOf)), (a_there, .inl ((k 1), 5100, .inl v_there)), (a_waitKind, .inl ((k 2), 100, .inl v_waitKind)), (a_waitMany, .inl ((k 2), 100, .inl v_waitMany)), (a_waitBytes, .inl ((k 3), 100, .inr (.inl v_waitBytes)))] := hD
        refine lv_aload_n hx hb dX6_takeState_54 rfl (lv_at hl 2 rfl) ?_
        refine lv_lconst (v := 0) hx hb dX6_takeState_55 (by decide) ?_
        refine va_put (D := D) (ci := 6) (v := .long 0) (ty := .long) (C := "ServiceDiskModel") (T := TX6) (N := 24) hx hb hts inX6 tyX6 tyX6_ok nmX6 hown hK hP hD hS 0 rfl rfl 19 (by decide) (hts _ w_756) (fun _ h9 => h9) rfl (by decide +kernel) rfl rfl (Nat.le_of_ble_eq_true rfl) dX6_takeState_56 (fun H locs hP hD hS => ?_)
        have hP : va_P D vwCl [(h0, .inr (6, [.int v_thrown, .int v_sectors, .int v_power, .ref a_disk, .ref a_made, .int v_used, .int v_reserve, .int v_cutWrites, .int v_cutBytes, .int v_rows, .ref a_sectorOf, .ref a_placeOf, .ref a_manyOf, .ref a_there, .int v_waits, .ref a_waitKind, .ref a_waitMany, .ref a_waitBytes, .int o6, .long 0, .int v_second, .int o1.2.1, .int v_up, .int v_sent])), (a_disk, .inl ((k 2), 32768, .inl o1.2.2)), (a_made, .inl ((k 2), 512, .inl v_made)), (a_sectorOf, .inl ((k 2), 5100, .inl v_sectorOf)), (a_placeOf, .inl ((k 2), 5100, .inl v_placeOf)), (a_manyOf, .inl ((k 2), 5100, .inl v_manyOf)), (a_there, .inl ((k 1), 5100, .inl v_there)), (a_waitKind, .inl ((k 2), 100, .inl v_waitKind)), (a_waitMany, .inl ((k 2), 100, .inl v_waitMany)), (a_waitBytes, .inl ((k 3), 100, .inr (.inl v_waitBytes)))] H := hP
        have hD : va_D A [(h0, .inr (6, [.int v_thrown, .int v_sectors, .int v_power, .ref a_disk, .ref a_made, .int v_used, .int v_reserve, .int v_cutWrites, .int v_cutBytes, .int v_rows, .ref a_sectorOf, .ref a_placeOf, .ref a_manyOf, .ref a_there, .int v_waits, .ref a_waitKind, .ref a_waitMany, .ref a_waitBytes, .int o6, .long 0, .int v_second, .int o1.2.1, .int v_up, .int v_sent])), (a_disk, .inl ((k 2), 32768, .inl o1.2.2)), (a_made, .inl ((k 2), 512, .inl v_made)), (a_sectorOf, .inl ((k 2), 5100, .inl v_sectorOf)), (a_placeOf, .inl ((k 2), 5100, .inl v_placeOf)), (a_manyOf, .inl ((k 2), 5100, .inl v_manyOf)), (a_there, .inl ((k 1), 5100, .inl v_there)), (a_waitKind, .inl ((k 2), 100, .inl v_waitKind)), (a_waitMany, .inl ((k 2), 100, .inl v_waitMany)), (a_waitBytes, .inl ((k 3), 100, .inr (.inl v_waitBytes)))] := hD
        refine lv_iconst (v := 0) hx hb dX6_takeState_59 (by decide) ?_
        refine lv_istore (lv' := [(4, .int 0), (3, .int (if o5 ≤ v_stateNumber then 0 else 1)), (2, .int o2), (0, .ref h0), (1, .int p1)]) hx hb dX6_takeState_60 hl (by decide) rfl (fun ls hl => ?_)
        replace h := dk_b h
        obtain ⟨o7, e7, h⟩ := h
        refine lX6_takeState_62 C hK hN hA _ 0 0  e7 (fun H locs hP hD hS ls hl => ?_) _ _ (hP.sub [0, 1, 2, 3, 4, 5, 6, 7, 8, 9] rfl) (hD.sub [0, 1, 2, 3, 4, 5, 6, 7, 8, 9] (by decide) rfl) hS ls (lv_sub hl [3, 2, 0] rfl)
        have hP : va_P D vwCl [(h0, .inr (6, [.int v_thrown, .int v_sectors, .int v_power, .ref a_disk, .ref a_made, .int v_used, .int v_reserve, .int v_cutWrites, .int v_cutBytes, .int v_rows, .ref a_sectorOf, .ref a_placeOf, .ref a_manyOf, .ref a_there, .int v_waits, .ref a_waitKind, .ref a_waitMany, .ref a_waitBytes, .int o6, .long o7.2, .int v_second, .int o1.2.1, .int v_up, .int v_sent])), (a_disk, .inl ((k 2), 32768, .inl o1.2.2)), (a_made, .inl ((k 2), 512, .inl v_made)), (a_sectorOf, .inl ((k 2), 5100, .inl v_sectorOf)), (a_placeOf, .inl ((k 2), 5100, .inl v_placeOf)), (a_manyOf, .inl ((k 2), 5100, .inl v_manyOf)), (a_there, .inl ((k 1), 5100, .inl v_there)), (a_waitKind, .inl ((k 2), 100, .inl v_waitKind)), (a_waitMany, .inl ((k 2), 100, .inl v_waitMany)), (a_waitBytes, .inl ((k 3), 100, .inr (.inl v_waitBytes)))] H := hP
        have hD : va_D A [(h0, .inr (6, [.int v_thrown, .int v_sectors, .int v_power, .ref a_disk, .ref a_made, .int v_used, .int v_reserve, .int v_cutWrites, .int v_cutBytes, .int v_rows, .ref a_sectorOf, .ref a_placeOf, .ref a_manyOf, .ref a_there, .int v_waits, .ref a_waitKind, .ref a_waitMany, .ref a_waitBytes, .int o6, .long o7.2, .int v_second, .int o1.2.1, .int v_up, .int v_sent])), (a_disk, .inl ((k 2), 32768, .inl o1.2.2)), (a_made, .inl ((k 2), 512, .inl v_made)), (a_sectorOf, .inl ((k 2), 5100, .inl v_sectorOf)), (a_placeOf, .inl ((k 2), 5100, .inl v_placeOf)), (a_manyOf, .inl ((k 2), 5100, .inl v_manyOf)), (a_there, .inl ((k 1), 5100, .inl v_there)), (a_waitKind, .inl ((k 2), 100, .inl v_waitKind)), (a_waitMany, .inl ((k 2), 100, .inl v_waitMany)), (a_waitBytes, .inl ((k 3), 100, .inr (.inl v_waitBytes)))] := hD
        have hl : lv_has ls 5 [(0, .ref h0), (2, .int o2), (4, .int o7.1)] := hl
        have h := dk_r h
        subst h
        exact dk_rwv hx hb hr hlocks (hP.sub [0, 1, 2, 3, 4, 5, 6, 7, 8, 9] rfl) (hD.sub [0, 1, 2, 3, 4, 5, 6, 7, 8, 9] (by decide) rfl) hS dX6_takeState_100
      · replace h := dk_t q h
        have h := dk_r h
        subst h
        exact dk_rwv hx hb hr hlocks (hP.sub [0, 1, 2, 3, 4, 5, 6, 7, 8, 9] rfl) (hD.sub [0, 1, 2, 3, 4, 5, 6, 7, 8, 9] (by decide) rfl) hS dX6_takeState_44
  · replace h := dk_t q h
    have h := dk_r h
    subst h
    exact dk_rwv hx hb hr hlocks (hP.sub [0, 1, 2, 3, 4, 5, 6, 7, 8, 9] rfl) (hD.sub [0, 1, 2, 3, 4, 5, 6, 7, 8, 9] (by decide) rfl) hS dX6_takeState_8
/-! ServiceDiskModel.find(I)I: rw, frames 4, locals 91 -/
def fX6_find (v_sectors : Int32) (v_second : Int32) (v_disk : Nat → Int32) (v_sectorOf : Nat → Int32) (v_placeOf : Nat → Int32) (p1 : Int32) : Option (Int32 × Int32) :=
  if dk_in p1 5100 then
  (fX6_rightCopy v_sectors v_disk (v_sectorOf p1.toNatClampNeg)).bind fun o1 =>
  if 0 ≤ o1 then
    if dk_in p1 5100 then
    (fX6_at o1 (v_sectorOf p1.toNatClampNeg)).bind fun o2 =>
    if dk_in p1 5100 then
    some ((o2 + (v_placeOf p1.toNatClampNeg)), (v_second + o1))
    else none
    else none
  else
    some ((-1), v_second)
  else none
set_option maxHeartbeats 4000000 in
set_option maxRecDepth 100000 in
theorem mX6_find (l : Launch) (D : va_G) (k : Nat → ClassId) (h0 a_disk a_made a_sectorOf a_placeOf a_manyOf a_there a_waitKind a_waitMany a_waitBytes : Nat) (sz : Nat) (v_thrown : Int32) (v_sectors : Int32) (v_power : Int32) (v_used : Int32) (v_reserve : Int32) (v_cutWrites : Int32) (v_cutBytes : Int32) (v_rows : Int32) (v_waits : Int32) (v_stateNumber : Int32) (v_stateNow : Int64) (v_second : Int32) (v_repaired : Int32) (v_up : Int32) (v_sent : Int32) (v_disk : Nat → Int32) (v_made : Nat → Int32) (v_sectorOf : Nat → Int32) (v_placeOf : Nat → Int32) (v_manyOf : Nat → Int32) (v_there : Nat → Int32) (v_waitKind : Nat → Int32) (v_waitMany : Nat → Int32) (v_waitBytes : Nat → Int64) (p1 : Int32) (o : Int32 × Int32) (h : fX6_find v_sectors v_second v_disk v_sectorOf v_placeOf p1 = some o) : Met l yX6_find wsX6_find { frames := 4, cells := 0, slots := 0, locals := 91 } (dk_Pw D k [.ref h0, .int p1] [(h0, .inr (6, [.int v_thrown, .int v_sectors, .int v_power, .ref a_disk, .ref a_made, .int v_used, .int v_reserve, .int v_cutWrites, .int v_cutBytes, .int v_rows, .ref a_sectorOf, .ref a_placeOf, .ref a_manyOf, .ref a_there, .int v_waits, .ref a_waitKind, .ref a_waitMany, .ref a_waitBytes, .int v_stateNumber, .long v_stateNow, .int v_second, .int v_repaired, .int v_up, .int v_sent])), (a_disk, .inl ((k 2), 32768, .inl v_disk)), (a_made, .inl ((k 2), 512, .inl v_made)), (a_sectorOf, .inl ((k 2), 5100, .inl v_sectorOf)), (a_placeOf, .inl ((k 2), 5100, .inl v_placeOf)), (a_manyOf, .inl ((k 2), 5100, .inl v_manyOf)), (a_there, .inl ((k 1), 5100, .inl v_there)), (a_waitKind, .inl ((k 2), 100, .inl v_waitKind)), (a_waitMany, .inl ((k 2), 100, .inl v_waitMany)), (a_waitBytes, .inl ((k 3), 100, .inr (.inl v_waitBytes)))] sz) (dk_Qi o.1 D [(h0, .inr (6, [.int v_thrown, .int v_sectors, .int v_power, .ref a_disk, .ref a_made, .int v_used, .int v_reserve, .int v_cutWrites, .int v_cutBytes, .int v_rows, .ref a_sectorOf, .ref a_placeOf, .ref a_manyOf, .ref a_there, .int v_waits, .ref a_waitKind, .ref a_waitMany, .ref a_waitBytes, .int v_stateNumber, .long v_stateNow, .int o.2, .int v_repaired, .int v_up, .int v_sent])), (a_disk, .inl ((k 2), 32768, .inl v_disk)), (a_made, .inl ((k 2), 512, .inl v_made)), (a_sectorOf, .inl ((k 2), 5100, .inl v_sectorOf)), (a_placeOf, .inl ((k 2), 5100, .inl v_placeOf)), (a_manyOf, .inl ((k 2), 5100, .inl v_manyOf)), (a_there, .inl ((k 1), 5100, .inl v_there)), (a_waitKind, .inl ((k 2), 100, .inl v_waitKind)), (a_waitMany, .inl ((k 2), 100, .inl v_waitMany)), (a_waitBytes, .inl ((k 3), 100, .inr (.inl v_waitBytes)))] (va_A [(h0, .inr (6, [.int v_thrown, .int v_sectors, .int v_power, .ref a_disk, .ref a_made, .int v_used, .int v_reserve, .int v_cutWrites, .int v_cutBytes, .int v_rows, .ref a_sectorOf, .ref a_placeOf, .ref a_manyOf, .ref a_there, .int v_waits, .ref a_waitKind, .ref a_waitMany, .ref a_waitBytes, .int v_stateNumber, .long v_stateNow, .int v_second, .int v_repaired, .int v_up, .int v_sent])), (a_disk, .inl ((k 2), 32768, .inl v_disk)), (a_made, .inl ((k 2), 512, .inl v_made)), (a_sectorOf, .inl ((k 2), 5100, .inl v_sectorOf)), (a_placeOf, .inl ((k 2), 5100, .inl v_placeOf)), (a_manyOf, .inl ((k 2), 5100, .inl v_manyOf)), (a_there, .inl ((k 1), 5100, .inl v_there)), (a_waitKind, .inl ((k 2), 100, .inl v_waitKind)), (a_waitMany, .inl ((k 2), 100, .inl v_waitMany)), (a_waitBytes, .inl ((k 3), 100, .inr (.inl v_waitBytes)))] sz)) 0 0 (va_A [(h0, .inr (6, [.int v_thrown, .int v_sectors, .int v_power, .ref a_disk, .ref a_made, .int v_used, .int v_reserve, .int v_cutWrites, .int v_cutBytes, .int v_rows, .ref a_sectorOf, .ref a_placeOf, .ref a_manyOf, .ref a_there, .int v_waits, .ref a_waitKind, .ref a_waitMany, .ref a_waitBytes, .int v_stateNumber, .long v_stateNow, .int v_second, .int v_repaired, .int v_up, .int v_sent])), (a_disk, .inl ((k 2), 32768, .inl v_disk)), (a_made, .inl ((k 2), 512, .inl v_made)), (a_sectorOf, .inl ((k 2), 5100, .inl v_sectorOf)), (a_placeOf, .inl ((k 2), 5100, .inl v_placeOf)), (a_manyOf, .inl ((k 2), 5100, .inl v_manyOf)), (a_there, .inl ((k 1), 5100, .inl v_there)), (a_waitKind, .inl ((k 2), 100, .inl v_waitKind)), (a_waitMany, .inl ((k 2), 100, .inl v_waitMany)), (a_waitBytes, .inl ((k 3), 100, .inr (.inl v_waitBytes)))] sz) := by
  unfold fX6_find at h
  refine dk_ofW (Qc := fun A => dk_Qi o.1 D [(h0, .inr (6, [.int v_thrown, .int v_sectors, .int v_power, .ref a_disk, .ref a_made, .int v_used, .int v_reserve, .int v_cutWrites, .int v_cutBytes, .int v_rows, .ref a_sectorOf, .ref a_placeOf, .ref a_manyOf, .ref a_there, .int v_waits, .ref a_waitKind, .ref a_waitMany, .ref a_waitBytes, .int v_stateNumber, .long v_stateNow, .int o.2, .int v_repaired, .int v_up, .int v_sent])), (a_disk, .inl ((k 2), 32768, .inl v_disk)), (a_made, .inl ((k 2), 512, .inl v_made)), (a_sectorOf, .inl ((k 2), 5100, .inl v_sectorOf)), (a_placeOf, .inl ((k 2), 5100, .inl v_placeOf)), (a_manyOf, .inl ((k 2), 5100, .inl v_manyOf)), (a_there, .inl ((k 1), 5100, .inl v_there)), (a_waitKind, .inl ((k 2), 100, .inl v_waitKind)), (a_waitMany, .inl ((k 2), 100, .inl v_waitMany)), (a_waitBytes, .inl ((k 3), 100, .inr (.inl v_waitBytes)))] A) (cc := cX6_find) (maxL := 3) (ret := (some .int)) (lv := [(0, .ref h0), (1, .int p1)]) (by decide) rfl (Nat.le_of_ble_eq_true rfl) rfl ?_
  intro p e s m below meth c C hK hN hP A hA hD hS ls hl
  obtain ⟨hx, hb, hr, hml, hown, hts, hlocks⟩ := id C
  refine lv_aload_n hx hb dX6_find_0 rfl (lv_at hl 0 rfl) ?_
  refine lv_aload_n hx hb dX6_find_1 rfl (lv_at hl 0 rfl) ?_
  refine va_get (D := D) (ci := 6) (v := .ref a_sectorOf) (C := "ServiceDiskModel") (T := TX6) (N := 24) hx hb hts inX6 hown hK hP 0 rfl rfl 10 (by decide) (hts _ w_747) (fun _ h9 => h9) rfl dX6_find_2 ?_
  refine lv_iload_n hx hb dX6_find_5 rfl (lv_at hl 1 rfl) ?_
  obtain ⟨q, h⟩ := dk_g h
  refine va_iald hx hb hK hP 3 2 rfl rfl q dX6_find_6 ?_
  replace h := dk_b h
  obtain ⟨o1, e1, h⟩ := h
  refine dk_cri (va_runV (As := [.int (v_sectorOf p1.toNatClampNeg)]) (rest := []) ⟨hx, hb, hml, hown, hts⟩ (mX6_rightCopy l D k h0 a_disk a_made a_sectorOf a_placeOf a_manyOf a_there a_waitKind a_waitMany a_waitBytes v_thrown v_sectors v_power v_used v_reserve v_cutWrites v_cutBytes v_rows v_waits v_stateNumber v_stateNow v_second v_repaired v_up v_sent v_disk v_made v_sectorOf v_placeOf v_manyOf v_there v_waitKind v_waitMany v_waitBytes (v_sectorOf p1.toNatClampNeg) o1 e1) (cwV 1 hts (dk_gV w_892 w_894 w_29 w_46 w_895) rfl rfl rfl (by decide +kernel) ⟨Nat.le_of_ble_eq_true rfl, Nat.le_of_ble_eq_true rfl⟩) (dk_pvr hK hN hP [0, 1, 2, 3, 4, 5, 6, 7, 8, 9] rfl rfl rfl) rfl rfl hl.1 rfl (lv_room (Nat.le_of_ble_eq_true rfl)) dX6_find_7 ⟨Nat.le_of_ble_eq_true rfl, Nat.le_of_ble_eq_true rfl⟩) ?_
  refine lv_istore_n (lv' := [(2, .int o1), (0, .ref h0), (1, .int p1)]) hx hb dX6_find_10 rfl hl (by decide) rfl (fun ls hl => ?_)
  refine lv_iload_n hx hb dX6_find_11 rfl (lv_at hl 0 rfl) ?_
  refine lv_if_ge (tgt := 17) hx hb dX6_find_12 (by decide) (fun q => ?_) (fun q => ?_)
  · replace h := dk_t q h
    refine lv_aload_n hx hb dX6_find_17 rfl (lv_at hl 1 rfl) ?_
    refine lv_dup hx hb dX6_find_18 rfl ?_
    refine va_get (D := D) (ci := 6) (v := .int v_second) (C := "ServiceDiskModel") (T := TX6) (N := 24) hx hb hts inX6 hown hK hP 0 rfl rfl 20 (by decide) (hts _ w_757) (fun _ h9 => h9) rfl dX6_find_19 ?_
    refine lv_iload_n hx hb dX6_find_22 rfl (lv_at hl 0 rfl) ?_
    refine lv_iadd hx hb dX6_find_23 ?_
    refine va_put (D := D) (ci := 6) (v := .int (v_second + o1)) (ty := .int) (C := "ServiceDiskModel") (T := TX6) (N := 24) hx hb hts inX6 tyX6 tyX6_ok nmX6 hown hK hP hD hS 0 rfl rfl 20 (by decide) (hts _ w_757) (fun _ h9 => h9) rfl (by decide +kernel) rfl rfl (Nat.le_of_ble_eq_true rfl) dX6_find_24 (fun H locs hP hD hS => ?_)
    have hP : va_P D vwCl [(h0, .inr (6, [.int v_thrown, .int v_sectors, .int v_power, .ref a_disk, .ref a_made, .int v_used, .int v_reserve, .int v_cutWrites, .int v_cutBytes, .int v_rows, .ref a_sectorOf, .ref a_placeOf, .ref a_manyOf, .ref a_there, .int v_waits, .ref a_waitKind, .ref a_waitMany, .ref a_waitBytes, .int v_stateNumber, .long v_stateNow, .int (v_second + o1), .int v_repaired, .int v_up, .int v_sent])), (a_disk, .inl ((k 2), 32768, .inl v_disk)), (a_made, .inl ((k 2), 512, .inl v_made)), (a_sectorOf, .inl ((k 2), 5100, .inl v_sectorOf)), (a_placeOf, .inl ((k 2), 5100, .inl v_placeOf)), (a_manyOf, .inl ((k 2), 5100, .inl v_manyOf)), (a_there, .inl ((k 1), 5100, .inl v_there)), (a_waitKind, .inl ((k 2), 100, .inl v_waitKind)), (a_waitMany, .inl ((k 2), 100, .inl v_waitMany)), (a_waitBytes, .inl ((k 3), 100, .inr (.inl v_waitBytes)))] H := hP
    have hD : va_D A [(h0, .inr (6, [.int v_thrown, .int v_sectors, .int v_power, .ref a_disk, .ref a_made, .int v_used, .int v_reserve, .int v_cutWrites, .int v_cutBytes, .int v_rows, .ref a_sectorOf, .ref a_placeOf, .ref a_manyOf, .ref a_there, .int v_waits, .ref a_waitKind, .ref a_waitMany, .ref a_waitBytes, .int v_stateNumber, .long v_stateNow, .int (v_second + o1), .int v_repaired, .int v_up, .int v_sent])), (a_disk, .inl ((k 2), 32768, .inl v_disk)), (a_made, .inl ((k 2), 512, .inl v_made)), (a_sectorOf, .inl ((k 2), 5100, .inl v_sectorOf)), (a_placeOf, .inl ((k 2), 5100, .inl v_placeOf)), (a_manyOf, .inl ((k 2), 5100, .inl v_manyOf)), (a_there, .inl ((k 1), 5100, .inl v_there)), (a_waitKind, .inl ((k 2), 100, .inl v_waitKind)), (a_waitMany, .inl ((k 2), 100, .inl v_waitMany)), (a_waitBytes, .inl ((k 3), 100, .inr (.inl v_waitBytes)))] := hD
    refine lv_iload_n hx hb dX6_find_27 rfl (lv_at hl 0 rfl) ?_
    refine lv_aload_n hx hb dX6_find_28 rfl (lv_at hl 1 rfl) ?_
    refine va_get (D := D) (ci := 6) (v := .ref a_sectorOf) (C := "ServiceDiskModel") (T := TX6) (N := 24) hx hb hts inX6 hown hK hP 0 rfl rfl 10 (by decide) (hts _ w_747) (fun _ h9 => h9) rfl dX6_find_29 ?_
    refine lv_iload_n hx hb dX6_find_32 rfl (lv_at hl 2 rfl) ?_
    obtain ⟨q, h⟩ := dk_g h
    refine va_iald hx hb hK hP 3 2 rfl rfl q dX6_find_33 ?_
    replace h := dk_b h
    obtain ⟨o2, e2, h⟩ := h
    refine dk_cri (va_runS (As := [.int o1, .int (v_sectorOf p1.toNatClampNeg)]) (rest := []) ⟨hx, hb, hml, hown, hts⟩ (mX6_at l D k o1 (v_sectorOf p1.toNatClampNeg) o2 e2) (va_cwS 2 hts (dk_gS w_869 w_870 w_46 w_871) rfl rfl rfl (by decide +kernel) ⟨Nat.le_of_ble_eq_true rfl, Nat.le_of_ble_eq_true rfl⟩) (dk_psr hK hN hP [] rfl) rfl rfl hl.1 rfl (lv_room (Nat.le_of_ble_eq_true rfl)) dX6_find_34 ⟨Nat.le_of_ble_eq_true rfl, Nat.le_of_ble_eq_true rfl⟩) ?_
    refine lv_aload_n hx hb dX6_find_37 rfl (lv_at hl 1 rfl) ?_
    refine va_get (D := D) (ci := 6) (v := .ref a_placeOf) (C := "ServiceDiskModel") (T := TX6) (N := 24) hx hb hts inX6 hown hK hP 0 rfl rfl 11 (by decide) (hts _ w_748) (fun _ h9 => h9) rfl dX6_find_38 ?_
    refine lv_iload_n hx hb dX6_find_41 rfl (lv_at hl 2 rfl) ?_
    obtain ⟨q, h⟩ := dk_g h
    refine va_iald hx hb hK hP 4 2 rfl rfl q dX6_find_42 ?_
    refine lv_iadd hx hb dX6_find_43 ?_
    have h := dk_r h
    subst h
    exact dk_rwi hx hb hr hlocks (hP.sub [0, 1, 2, 3, 4, 5, 6, 7, 8, 9] rfl) (hD.sub [0, 1, 2, 3, 4, 5, 6, 7, 8, 9] (by decide) rfl) hS dX6_find_44 rfl
  · replace h := dk_f q h
    refine lv_iconst (v := -1) hx hb dX6_find_15 (by decide) ?_
    have h := dk_r h
    subst h
    exact dk_rwi hx hb hr hlocks (hP.sub [0, 1, 2, 3, 4, 5, 6, 7, 8, 9] rfl) (hD.sub [0, 1, 2, 3, 4, 5, 6, 7, 8, 9] (by decide) rfl) hS dX6_find_16 rfl
/-! ServiceDiskModel.refuses(IZI)Z: rw, frames 1, locals 22 -/
def fX6_refuses (v_power : Int32) (v_rows : Int32) (p1 : Int32) (p2 : Int32) (p3 : Int32) : Option (Int32 × Int32) :=
  (fX6_in p1 0 (v_rows - 1)).bind fun o1 =>
  if dk_01 (if ((if v_power = 0 then p3 else (if ((if o1 = 0 then 1 else 0) : Int32) = 0 then (if p2 = 0 then 0 else 2) else 1)) : Int32) ≤ 0 then 0 else 1) then some ((if ((if v_power = 0 then p3 else (if ((if o1 = 0 then 1 else 0) : Int32) = 0 then (if p2 = 0 then 0 else 2) else 1)) : Int32) ≤ 0 then 0 else 1), (if v_power = 0 then p3 else (if ((if o1 = 0 then 1 else 0) : Int32) = 0 then (if p2 = 0 then 0 else 2) else 1))) else none
set_option maxHeartbeats 4000000 in
set_option maxRecDepth 100000 in
theorem mX6_refuses (l : Launch) (D : va_G) (k : Nat → ClassId) (h0 a_disk a_made a_sectorOf a_placeOf a_manyOf a_there a_waitKind a_waitMany a_waitBytes : Nat) (sz : Nat) (v_thrown : Int32) (v_sectors : Int32) (v_power : Int32) (v_used : Int32) (v_reserve : Int32) (v_cutWrites : Int32) (v_cutBytes : Int32) (v_rows : Int32) (v_waits : Int32) (v_stateNumber : Int32) (v_stateNow : Int64) (v_second : Int32) (v_repaired : Int32) (v_up : Int32) (v_sent : Int32) (v_disk : Nat → Int32) (v_made : Nat → Int32) (v_sectorOf : Nat → Int32) (v_placeOf : Nat → Int32) (v_manyOf : Nat → Int32) (v_there : Nat → Int32) (v_waitKind : Nat → Int32) (v_waitMany : Nat → Int32) (v_waitBytes : Nat → Int64) (p1 : Int32) (p2 : Int32) (p3 : Int32) (o : Int32 × Int32) (h : fX6_refuses v_power v_rows p1 p2 p3 = some o) : Met l yX6_refuses wsX6_refuses { frames := 1, cells := 0, slots := 0, locals := 22 } (dk_Pw D k [.ref h0, .int p1, .int p2, .int p3] [(h0, .inr (6, [.int v_thrown, .int v_sectors, .int v_power, .ref a_disk, .ref a_made, .int v_used, .int v_reserve, .int v_cutWrites, .int v_cutBytes, .int v_rows, .ref a_sectorOf, .ref a_placeOf, .ref a_manyOf, .ref a_there, .int v_waits, .ref a_waitKind, .ref a_waitMany, .ref a_waitBytes, .int v_stateNumber, .long v_stateNow, .int v_second, .int v_repaired, .int v_up, .int v_sent])), (a_disk, .inl ((k 2), 32768, .inl v_disk)), (a_made, .inl ((k 2), 512, .inl v_made)), (a_sectorOf, .inl ((k 2), 5100, .inl v_sectorOf)), (a_placeOf, .inl ((k 2), 5100, .inl v_placeOf)), (a_manyOf, .inl ((k 2), 5100, .inl v_manyOf)), (a_there, .inl ((k 1), 5100, .inl v_there)), (a_waitKind, .inl ((k 2), 100, .inl v_waitKind)), (a_waitMany, .inl ((k 2), 100, .inl v_waitMany)), (a_waitBytes, .inl ((k 3), 100, .inr (.inl v_waitBytes)))] sz) (dk_Qi o.1 D [(h0, .inr (6, [.int o.2, .int v_sectors, .int v_power, .ref a_disk, .ref a_made, .int v_used, .int v_reserve, .int v_cutWrites, .int v_cutBytes, .int v_rows, .ref a_sectorOf, .ref a_placeOf, .ref a_manyOf, .ref a_there, .int v_waits, .ref a_waitKind, .ref a_waitMany, .ref a_waitBytes, .int v_stateNumber, .long v_stateNow, .int v_second, .int v_repaired, .int v_up, .int v_sent])), (a_disk, .inl ((k 2), 32768, .inl v_disk)), (a_made, .inl ((k 2), 512, .inl v_made)), (a_sectorOf, .inl ((k 2), 5100, .inl v_sectorOf)), (a_placeOf, .inl ((k 2), 5100, .inl v_placeOf)), (a_manyOf, .inl ((k 2), 5100, .inl v_manyOf)), (a_there, .inl ((k 1), 5100, .inl v_there)), (a_waitKind, .inl ((k 2), 100, .inl v_waitKind)), (a_waitMany, .inl ((k 2), 100, .inl v_waitMany)), (a_waitBytes, .inl ((k 3), 100, .inr (.inl v_waitBytes)))] (va_A [(h0, .inr (6, [.int v_thrown, .int v_sectors, .int v_power, .ref a_disk, .ref a_made, .int v_used, .int v_reserve, .int v_cutWrites, .int v_cutBytes, .int v_rows, .ref a_sectorOf, .ref a_placeOf, .ref a_manyOf, .ref a_there, .int v_waits, .ref a_waitKind, .ref a_waitMany, .ref a_waitBytes, .int v_stateNumber, .long v_stateNow, .int v_second, .int v_repaired, .int v_up, .int v_sent])), (a_disk, .inl ((k 2), 32768, .inl v_disk)), (a_made, .inl ((k 2), 512, .inl v_made)), (a_sectorOf, .inl ((k 2), 5100, .inl v_sectorOf)), (a_placeOf, .inl ((k 2), 5100, .inl v_placeOf)), (a_manyOf, .inl ((k 2), 5100, .inl v_manyOf)), (a_there, .inl ((k 1), 5100, .inl v_there)), (a_waitKind, .inl ((k 2), 100, .inl v_waitKind)), (a_waitMany, .inl ((k 2), 100, .inl v_waitMany)), (a_waitBytes, .inl ((k 3), 100, .inr (.inl v_waitBytes)))] sz)) 0 0 (va_A [(h0, .inr (6, [.int v_thrown, .int v_sectors, .int v_power, .ref a_disk, .ref a_made, .int v_used, .int v_reserve, .int v_cutWrites, .int v_cutBytes, .int v_rows, .ref a_sectorOf, .ref a_placeOf, .ref a_manyOf, .ref a_there, .int v_waits, .ref a_waitKind, .ref a_waitMany, .ref a_waitBytes, .int v_stateNumber, .long v_stateNow, .int v_second, .int v_repaired, .int v_up, .int v_sent])), (a_disk, .inl ((k 2), 32768, .inl v_disk)), (a_made, .inl ((k 2), 512, .inl v_made)), (a_sectorOf, .inl ((k 2), 5100, .inl v_sectorOf)), (a_placeOf, .inl ((k 2), 5100, .inl v_placeOf)), (a_manyOf, .inl ((k 2), 5100, .inl v_manyOf)), (a_there, .inl ((k 1), 5100, .inl v_there)), (a_waitKind, .inl ((k 2), 100, .inl v_waitKind)), (a_waitMany, .inl ((k 2), 100, .inl v_waitMany)), (a_waitBytes, .inl ((k 3), 100, .inr (.inl v_waitBytes)))] sz) := by
  unfold fX6_refuses at h
  refine dk_ofW (Qc := fun A => dk_Qi o.1 D [(h0, .inr (6, [.int o.2, .int v_sectors, .int v_power, .ref a_disk, .ref a_made, .int v_used, .int v_reserve, .int v_cutWrites, .int v_cutBytes, .int v_rows, .ref a_sectorOf, .ref a_placeOf, .ref a_manyOf, .ref a_there, .int v_waits, .ref a_waitKind, .ref a_waitMany, .ref a_waitBytes, .int v_stateNumber, .long v_stateNow, .int v_second, .int v_repaired, .int v_up, .int v_sent])), (a_disk, .inl ((k 2), 32768, .inl v_disk)), (a_made, .inl ((k 2), 512, .inl v_made)), (a_sectorOf, .inl ((k 2), 5100, .inl v_sectorOf)), (a_placeOf, .inl ((k 2), 5100, .inl v_placeOf)), (a_manyOf, .inl ((k 2), 5100, .inl v_manyOf)), (a_there, .inl ((k 1), 5100, .inl v_there)), (a_waitKind, .inl ((k 2), 100, .inl v_waitKind)), (a_waitMany, .inl ((k 2), 100, .inl v_waitMany)), (a_waitBytes, .inl ((k 3), 100, .inr (.inl v_waitBytes)))] A) (cc := cX6_refuses) (maxL := 5) (ret := (some .boolean)) (lv := [(0, .ref h0), (1, .int p1), (2, .int p2), (3, .int p3)]) (by decide) rfl (Nat.le_of_ble_eq_true rfl) rfl ?_
  intro p e s m below meth c C hK hN hP A hA hD hS ls hl
  obtain ⟨hx, hb, hr, hml, hown, hts, hlocks⟩ := id C
  refine lv_iload_n hx hb dX6_refuses_0 rfl (lv_at hl 1 rfl) ?_
  refine lv_iconst (v := 0) hx hb dX6_refuses_1 (by decide) ?_
  refine lv_aload_n hx hb dX6_refuses_2 rfl (lv_at hl 0 rfl) ?_
  refine va_get (D := D) (ci := 6) (v := .int v_rows) (C := "ServiceDiskModel") (T := TX6) (N := 24) hx hb hts inX6 hown hK hP 0 rfl rfl 9 (by decide) (hts _ w_746) (fun _ h9 => h9) rfl dX6_refuses_3 ?_
  refine lv_iconst (v := 1) hx hb dX6_refuses_6 (by decide) ?_
  refine lv_isub hx hb dX6_refuses_7 ?_
  replace h := dk_b h
  obtain ⟨o1, e1, h⟩ := h
  refine dk_cri (va_runS (As := [.int p1, .int 0, .int (v_rows - 1)]) (rest := []) ⟨hx, hb, hml, hown, hts⟩ (mX6_in l D k p1 0 (v_rows - 1) o1 e1) (va_cwS 3 hts (dk_gS w_818 w_819 w_46 w_820) rfl rfl rfl (by decide +kernel) ⟨Nat.le_of_ble_eq_true rfl, Nat.le_of_ble_eq_true rfl⟩) (dk_psr hK hN hP [] rfl) rfl rfl hl.1 rfl (lv_room (Nat.le_of_ble_eq_true rfl)) dX6_refuses_8 ⟨Nat.le_of_ble_eq_true rfl, Nat.le_of_ble_eq_true rfl⟩) ?_
  refine dk_jn (F0 m 19 ls [.int (if o1 = 0 then 1 else 0)]) (fun K => ?_) ?_
  · refine lv_if_ne (tgt := 18) hx hb dX6_refuses_11 (by decide) (fun q1 => ?_) (fun q1 => ?_)
    · refine lv_iconst (v := 0) hx hb dX6_refuses_18 (by decide) ?_
      have K := K
      rw [if_neg q1] at K
      exact K
    · refine lv_iconst (v := 1) hx hb dX6_refuses_14 (by decide) ?_
      refine lv_goto (tgt := 19) hx hb dX6_refuses_15 (by decide) ?_
      have K := K
      rw [if_pos q1] at K
      exact K
  refine lv_istore (lv' := [(4, .int (if o1 = 0 then 1 else 0)), (0, .ref h0), (1, .int p1), (2, .int p2), (3, .int p3)]) hx hb dX6_refuses_19 hl (by decide) rfl (fun ls hl => ?_)
  refine lv_aload_n hx hb dX6_refuses_21 rfl (lv_at hl 1 rfl) ?_
  refine lv_aload_n hx hb dX6_refuses_22 rfl (lv_at hl 1 rfl) ?_
  refine va_get (D := D) (ci := 6) (v := .int v_power) (C := "ServiceDiskModel") (T := TX6) (N := 24) hx hb hts inX6 hown hK hP 0 rfl rfl 2 (by decide) (hts _ w_739) (fun _ h9 => h9) rfl dX6_refuses_23 ?_
  refine dk_jn (F0 m 51 ls [.int (if v_power = 0 then p3 else (if ((if o1 = 0 then 1 else 0) : Int32) = 0 then (if p2 = 0 then 0 else 2) else 1)), .ref h0]) (fun K => ?_) ?_
  · refine lv_if_ne (tgt := 33) hx hb dX6_refuses_26 (by decide) (fun q1 => ?_) (fun q1 => ?_)
    · refine lv_iload hx hb dX6_refuses_33 (lv_at hl 0 rfl) ?_
      refine lv_if_eq (tgt := 42) hx hb dX6_refuses_35 (by decide) (fun q2 => ?_) (fun q2 => ?_)
      · refine lv_iload_n hx hb dX6_refuses_42 rfl (lv_at hl 3 rfl) ?_
        refine lv_if_eq (tgt := 50) hx hb dX6_refuses_43 (by decide) (fun q3 => ?_) (fun q3 => ?_)
        · refine lv_iconst (v := 0) hx hb dX6_refuses_50 (by decide) ?_
          have K := K
          rw [if_neg q1, if_pos q2, if_pos q3] at K
          exact K
        · refine lv_iconst (v := 2) hx hb dX6_refuses_46 (by decide) ?_
          refine lv_goto (tgt := 51) hx hb dX6_refuses_47 (by decide) ?_
          have K := K
          rw [if_neg q1, if_pos q2, if_neg q3] at K
          exact K
      · refine lv_iconst (v := 1) hx hb dX6_refuses_38 (by decide) ?_
        refine lv_goto (tgt := 51) hx hb dX6_refuses_39 (by decide) ?_
        have K := K
        rw [if_neg q1, if_neg q2] at K
        exact K
    · refine lv_iload_n hx hb dX6_refuses_29 rfl (lv_at hl 4 rfl) ?_
      refine lv_goto (tgt := 51) hx hb dX6_refuses_30 (by decide) ?_
      have K := K
      rw [if_pos q1] at K
      exact K
  refine va_put (D := D) (ci := 6) (v := .int (if v_power = 0 then p3 else (if ((if o1 = 0 then 1 else 0) : Int32) = 0 then (if p2 = 0 then 0 else 2) else 1))) (ty := .int) (C := "ServiceDiskModel") (T := TX6) (N := 24) hx hb hts inX6 tyX6 tyX6_ok nmX6 hown hK hP hD hS 0 rfl rfl 0 (by decide) (hts _ w_737) (fun _ h9 => h9) rfl (by decide +kernel) rfl rfl (Nat.le_of_ble_eq_true rfl) dX6_refuses_51 (fun H locs hP hD hS => ?_)
  have hP : va_P D vwCl [(h0, .inr (6, [.int (if v_power = 0 then p3 else (if ((if o1 = 0 then 1 else 0) : Int32) = 0 then (if p2 = 0 then 0 else 2) else 1)), .int v_sectors, .int v_power, .ref a_disk, .ref a_made, .int v_used, .int v_reserve, .int v_cutWrites, .int v_cutBytes, .int v_rows, .ref a_sectorOf, .ref a_placeOf, .ref a_manyOf, .ref a_there, .int v_waits, .ref a_waitKind, .ref a_waitMany, .ref a_waitBytes, .int v_stateNumber, .long v_stateNow, .int v_second, .int v_repaired, .int v_up, .int v_sent])), (a_disk, .inl ((k 2), 32768, .inl v_disk)), (a_made, .inl ((k 2), 512, .inl v_made)), (a_sectorOf, .inl ((k 2), 5100, .inl v_sectorOf)), (a_placeOf, .inl ((k 2), 5100, .inl v_placeOf)), (a_manyOf, .inl ((k 2), 5100, .inl v_manyOf)), (a_there, .inl ((k 1), 5100, .inl v_there)), (a_waitKind, .inl ((k 2), 100, .inl v_waitKind)), (a_waitMany, .inl ((k 2), 100, .inl v_waitMany)), (a_waitBytes, .inl ((k 3), 100, .inr (.inl v_waitBytes)))] H := hP
  have hD : va_D A [(h0, .inr (6, [.int (if v_power = 0 then p3 else (if ((if o1 = 0 then 1 else 0) : Int32) = 0 then (if p2 = 0 then 0 else 2) else 1)), .int v_sectors, .int v_power, .ref a_disk, .ref a_made, .int v_used, .int v_reserve, .int v_cutWrites, .int v_cutBytes, .int v_rows, .ref a_sectorOf, .ref a_placeOf, .ref a_manyOf, .ref a_there, .int v_waits, .ref a_waitKind, .ref a_waitMany, .ref a_waitBytes, .int v_stateNumber, .long v_stateNow, .int v_second, .int v_repaired, .int v_up, .int v_sent])), (a_disk, .inl ((k 2), 32768, .inl v_disk)), (a_made, .inl ((k 2), 512, .inl v_made)), (a_sectorOf, .inl ((k 2), 5100, .inl v_sectorOf)), (a_placeOf, .inl ((k 2), 5100, .inl v_placeOf)), (a_manyOf, .inl ((k 2), 5100, .inl v_manyOf)), (a_there, .inl ((k 1), 5100, .inl v_there)), (a_waitKind, .inl ((k 2), 100, .inl v_waitKind)), (a_waitMany, .inl ((k 2), 100, .inl v_waitMany)), (a_waitBytes, .inl ((k 3), 100, .inr (.inl v_waitBytes)))] := hD
  refine lv_aload_n hx hb dX6_refuses_54 rfl (lv_at hl 1 rfl) ?_
  refine va_get (D := D) (ci := 6) (v := .int (if v_power = 0 then p3 else (if ((if o1 = 0 then 1 else 0) : Int32) = 0 then (if p2 = 0 then 0 else 2) else 1))) (C := "ServiceDiskModel") (T := TX6) (N := 24) hx hb hts inX6 hown hK hP 0 rfl rfl 0 (by decide) (hts _ w_737) (fun _ h9 => h9) rfl dX6_refuses_55 ?_
  refine dk_jn (F0 m 66 ls [.int (if ((if v_power = 0 then p3 else (if ((if o1 = 0 then 1 else 0) : Int32) = 0 then (if p2 = 0 then 0 else 2) else 1)) : Int32) ≤ 0 then 0 else 1)]) (fun K => ?_) ?_
  · refine lv_if_le (tgt := 65) hx hb dX6_refuses_58 (by decide) (fun q1 => ?_) (fun q1 => ?_)
    · refine lv_iconst (v := 0) hx hb dX6_refuses_65 (by decide) ?_
      have K := K
      rw [if_pos q1] at K
      exact K
    · refine lv_iconst (v := 1) hx hb dX6_refuses_61 (by decide) ?_
      refine lv_goto (tgt := 66) hx hb dX6_refuses_62 (by decide) ?_
      have K := K
      rw [if_neg q1] at K
      exact K
  obtain ⟨q, h⟩ := dk_g h
  have h := dk_r h
  subst h
  exact dk_rwz hx hb hr q hlocks (hP.sub [0, 1, 2, 3, 4, 5, 6, 7, 8, 9] rfl) (hD.sub [0, 1, 2, 3, 4, 5, 6, 7, 8, 9] (by decide) rfl) hS dX6_refuses_66 rfl
/-! ServiceDiskModel.inRoom()I: ro, frames 0, locals 0 -/
def fX6_inRoom_L4 (v_rows : Int32) (v_there : Nat → Int32)  : Nat → (Int32) → (Int32) → Option (Int32 × Int32)
  | 0, _, _ => none
  | n + 1, x1, x2 =>
    if v_rows ≤ x2 then
      some (x1, x2)
    else
      if dk_in x2 5100 then
      fX6_inRoom_L4 v_rows v_there n (x1 + (if (v_there x2.toNatClampNeg) = 0 then 0 else 1)) (x2 + 1)
      else none
def fX6_inRoom (v_rows : Int32) (v_there : Nat → Int32) : Option (Int32) :=
  (fX6_inRoom_L4 v_rows v_there dkF 0 0).bind fun o1 =>
  some (o1.1)
set_option maxHeartbeats 4000000 in
set_option maxRecDepth 100000 in
theorem lX6_inRoom_4 {p : Program} {l : Launch} {e : Env} {s : State} {m : MethodId} {below : List Frame} {meth : Method} {c : Code} {args : Array Value} {D : va_G} {k : Nat → ClassId} {h0 : Nat} {a_disk : Nat} {a_made : Nat} {a_sectorOf : Nat} {a_placeOf : Nat} {a_manyOf : Nat} {a_there : Nat} {a_waitKind : Nat} {a_waitMany : Nat} {a_waitBytes : Nat} {v_thrown : Int32} {v_sectors : Int32} {v_power : Int32} {v_used : Int32} {v_reserve : Int32} {v_cutWrites : Int32} {v_cutBytes : Int32} {v_rows : Int32} {v_waits : Int32} {v_stateNumber : Int32} {v_stateNow : Int64} {v_second : Int32} {v_repaired : Int32} {v_up : Int32} {v_sent : Int32} {v_disk : Nat → Int32} {v_made : Nat → Int32} {v_sectorOf : Nat → Int32} {v_placeOf : Nat → Int32} {v_manyOf : Nat → Int32} {v_there : Nat → Int32} {v_waitKind : Nat → Int32} {v_waitMany : Nat → Int32} {v_waitBytes : Nat → Int64} {Q : State → Prop} {o : Int32 × Int32} (C : dk_Cx p s m meth c cX6_inRoom (some .int) 3 "ServiceDiskModel" dkB args) (hK : va_K D vwCl (dkT k) s) (hN : dk_N s) (hP : va_P D vwCl [(h0, .inr (6, [.int v_thrown, .int v_sectors, .int v_power, .ref a_disk, .ref a_made, .int v_used, .int v_reserve, .int v_cutWrites, .int v_cutBytes, .int v_rows, .ref a_sectorOf, .ref a_placeOf, .ref a_manyOf, .ref a_there, .int v_waits, .ref a_waitKind, .ref a_waitMany, .ref a_waitBytes, .int v_stateNumber, .long v_stateNow, .int v_second, .int v_repaired, .int v_up, .int v_sent])), (a_disk, .inl ((k 2), 32768, .inl v_disk)), (a_made, .inl ((k 2), 512, .inl v_made)), (a_sectorOf, .inl ((k 2), 5100, .inl v_sectorOf)), (a_placeOf, .inl ((k 2), 5100, .inl v_placeOf)), (a_manyOf, .inl ((k 2), 5100, .inl v_manyOf)), (a_there, .inl ((k 1), 5100, .inl v_there)), (a_waitKind, .inl ((k 2), 100, .inl v_waitKind)), (a_waitMany, .inl ((k 2), 100, .inl v_waitMany)), (a_waitBytes, .inl ((k 3), 100, .inr (.inl v_waitBytes)))] s.heap) :
    ∀ (n : Nat) (x1 : Int32) (x2 : Int32), fX6_inRoom_L4 v_rows v_there n x1 x2 = some o → (∀ ls : Array Slot, lv_has ls 3 [(0, .ref h0), (1, .int o.1), (2, .int o.2)] → W p l e { frames := 0, cells := 0, slots := 0, locals := 0 } s m args below meth c s.heap [] 0 0 Q (F0 m 35 ls [])) → ∀ ls : Array Slot, lv_has ls 3 [(0, .ref h0), (1, .int x1), (2, .int x2)] → W p l e { frames := 0, cells := 0, slots := 0, locals := 0 } s m args below meth c s.heap [] 0 0 Q (F0 m 4 ls []) := by
  obtain ⟨hx, hb, hr, hml, hown, hts, hlocks⟩ := id C
  intro n
  induction n with
  | zero =>
    intro x1 x2 h
    exact dk_n (o := o) h
  | succ n ih =>
    intro x1 x2 h K ls hl
    rw [fX6_inRoom_L4.eq_2] at h
    refine lv_iload_n hx hb dX6_inRoom_4 rfl (lv_at hl 2 rfl) ?_
    refine lv_aload_n hx hb dX6_inRoom_5 rfl (lv_at hl 0 rfl) ?_
    refine va_get (D := D) (ci := 6) (v := .int v_rows) (C := "ServiceDiskModel") (T := TX6) (N := 24) hx hb hts inX6 hown hK hP 0 rfl rfl 9 (by decide) (hts _ w_746) (fun _ h9 => h9) rfl dX6_inRoom_6 ?_
    refine lv_icmp_ge (tgt := 35) hx hb dX6_inRoom_9 (by decide) (fun q => ?_) (fun q => ?_)
    · replace h := dk_t q h
      have h := dk_r h
      subst h
      exact K ls (lv_sub hl [0, 1, 2] rfl)
    · replace h := dk_f q h
      refine lv_iload_n hx hb dX6_inRoom_12 rfl (lv_at hl 1 rfl) ?_
      refine lv_aload_n hx hb dX6_inRoom_13 rfl (lv_at hl 0 rfl) ?_
      refine va_get (D := D) (ci := 6) (v := .ref a_there) (C := "ServiceDiskModel") (T := TX6) (N := 24) hx hb hts inX6 hown hK hP 0 rfl rfl 13 (by decide) (hts _ w_750) (fun _ h9 => h9) rfl dX6_inRoom_14 ?_
      refine lv_iload_n hx hb dX6_inRoom_17 rfl (lv_at hl 2 rfl) ?_
      obtain ⟨q, h⟩ := dk_g h
      refine va_zald hx hb hK hP 6 1 rfl rfl q dX6_inRoom_18 ?_
      refine dk_jn (F0 m 27 ls [.int (if (v_there x2.toNatClampNeg) = 0 then 0 else 1), .int x1]) (fun K => ?_) ?_
      · refine lv_if_eq (tgt := 26) hx hb dX6_inRoom_19 (by decide) (fun q1 => ?_) (fun q1 => ?_)
        · refine lv_iconst (v := 0) hx hb dX6_inRoom_26 (by decide) ?_
          have K := K
          rw [if_pos q1] at K
          exact K
        · refine lv_iconst (v := 1) hx hb dX6_inRoom_22 (by decide) ?_
          refine lv_goto (tgt := 27) hx hb dX6_inRoom_23 (by decide) ?_
          have K := K
          rw [if_neg q1] at K
          exact K
      refine lv_iadd hx hb dX6_inRoom_27 ?_
      refine lv_istore_n (lv' := [(1, .int (x1 + (if (v_there x2.toNatClampNeg) = 0 then 0 else 1))), (0, .ref h0), (2, .int x2)]) hx hb dX6_inRoom_28 rfl hl (by decide) rfl (fun ls hl => ?_)
      refine lv_iinc (v := (x2 + 1)) (lv' := [(2, .int (x2 + 1)), (1, .int (x1 + (if (v_there x2.toNatClampNeg) = 0 then 0 else 1))), (0, .ref h0)]) hx hb dX6_inRoom_29 hl (k := 2) rfl rfl (by decide) rfl (fun ls hl => ?_)
      refine lv_goto (tgt := 4) hx hb dX6_inRoom_32 (by decide) ?_
      exact ih (x1 + (if (v_there x2.toNatClampNeg) = 0 then 0 else 1)) (x2 + 1) h K ls (lv_sub hl [2, 1, 0] rfl)
set_option maxHeartbeats 4000000 in
set_option maxRecDepth 100000 in
theorem mX6_inRoom (l : Launch) (D : va_G) (k : Nat → ClassId) (h0 a_disk a_made a_sectorOf a_placeOf a_manyOf a_there a_waitKind a_waitMany a_waitBytes : Nat) (v_thrown : Int32) (v_sectors : Int32) (v_power : Int32) (v_used : Int32) (v_reserve : Int32) (v_cutWrites : Int32) (v_cutBytes : Int32) (v_rows : Int32) (v_waits : Int32) (v_stateNumber : Int32) (v_stateNow : Int64) (v_second : Int32) (v_repaired : Int32) (v_up : Int32) (v_sent : Int32) (v_disk : Nat → Int32) (v_made : Nat → Int32) (v_sectorOf : Nat → Int32) (v_placeOf : Nat → Int32) (v_manyOf : Nat → Int32) (v_there : Nat → Int32) (v_waitKind : Nat → Int32) (v_waitMany : Nat → Int32) (v_waitBytes : Nat → Int64) (o : Int32) (h : fX6_inRoom v_rows v_there = some o) : Met l yX6_inRoom wsX6_inRoom { frames := 0, cells := 0, slots := 0, locals := 0 } (dk_Pr D k [.ref h0] [(h0, .inr (6, [.int v_thrown, .int v_sectors, .int v_power, .ref a_disk, .ref a_made, .int v_used, .int v_reserve, .int v_cutWrites, .int v_cutBytes, .int v_rows, .ref a_sectorOf, .ref a_placeOf, .ref a_manyOf, .ref a_there, .int v_waits, .ref a_waitKind, .ref a_waitMany, .ref a_waitBytes, .int v_stateNumber, .long v_stateNow, .int v_second, .int v_repaired, .int v_up, .int v_sent])), (a_disk, .inl ((k 2), 32768, .inl v_disk)), (a_made, .inl ((k 2), 512, .inl v_made)), (a_sectorOf, .inl ((k 2), 5100, .inl v_sectorOf)), (a_placeOf, .inl ((k 2), 5100, .inl v_placeOf)), (a_manyOf, .inl ((k 2), 5100, .inl v_manyOf)), (a_there, .inl ((k 1), 5100, .inl v_there)), (a_waitKind, .inl ((k 2), 100, .inl v_waitKind)), (a_waitMany, .inl ((k 2), 100, .inl v_waitMany)), (a_waitBytes, .inl ((k 3), 100, .inr (.inl v_waitBytes)))]) (vp_Si (fun r => r = o)) 0 0 (fun _ => False) := by
  unfold fX6_inRoom at h
  refine dk_ofR (cc := cX6_inRoom) (maxL := 3) (ret := (some .int)) (lv := [(0, .ref h0)]) (by decide) rfl (Nat.le_of_ble_eq_true rfl) rfl ?_
  intro p e s m below meth c C hK hN hP ls hl
  obtain ⟨hx, hb, hr, hml, hown, hts, hlocks⟩ := id C
  refine lv_iconst (v := 0) hx hb dX6_inRoom_0 (by decide) ?_
  refine lv_istore_n (lv' := [(1, .int 0), (0, .ref h0)]) hx hb dX6_inRoom_1 rfl hl (by decide) rfl (fun ls hl => ?_)
  refine lv_iconst (v := 0) hx hb dX6_inRoom_2 (by decide) ?_
  refine lv_istore_n (lv' := [(2, .int 0), (1, .int 0), (0, .ref h0)]) hx hb dX6_inRoom_3 rfl hl (by decide) rfl (fun ls hl => ?_)
  replace h := dk_b h
  obtain ⟨o1, e1, h⟩ := h
  refine lX6_inRoom_4 C hK hN hP _ 0 0  e1 (fun ls hl => ?_) ls (lv_sub hl [2, 1, 0] rfl)
  have hl : lv_has ls 3 [(0, .ref h0), (1, .int o1.1), (2, .int o1.2)] := hl
  refine lv_iload_n hx hb dX6_inRoom_35 rfl (lv_at hl 1 rfl) ?_
  have h := dk_r h
  subst h
  exact dk_rri hx hb hr hlocks dX6_inRoom_36 rfl
