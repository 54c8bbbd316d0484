/-! ServiceDiskModel.format(I)V: rw, frames 1, locals 24 -/
def fX6_format_L39  : Nat → (Int32) → (Nat → Int32) → Option (Int32 × (Nat → Int32))
  | 0, _, _ => none
  | n + 1, x2, v_disk =>
    if (32768 : Int32) ≤ x2 then
      some (x2, v_disk)
    else
      if dk_in x2 32768 then
      fX6_format_L39 n (x2 + 1) (upd v_disk x2.toNatClampNeg 0)
      else none
def fX6_format_L115  : Nat → (Int32) → (Nat → Int32) → Option (Int32 × (Nat → Int32))
  | 0, _, _ => none
  | n + 1, x2, v_there =>
    if (5100 : Int32) ≤ x2 then
      some (x2, v_there)
    else
      if dk_in x2 5100 then
      fX6_format_L115 n (x2 + 1) (upd v_there x2.toNatClampNeg (vp_nar .boolean 0))
      else none
def fX6_format (v_sectors : Int32) (v_power : Int32) (v_used : Int32) (v_reserve : Int32) (v_cutWrites : Int32) (v_rows : Int32) (v_waits : Int32) (v_stateNumber : Int32) (v_stateNow : Int64) (v_second : Int32) (v_repaired : Int32) (v_up : Int32) (v_sent : Int32) (v_disk : Nat → Int32) (v_there : Nat → Int32) (p1 : Int32) : Option (Int32 × Int32 × Int32 × Int32 × Int32 × Int32 × Int32 × Int32 × Int32 × Int64 × Int32 × Int32 × Int32 × Int32 × (Nat → Int32) × (Nat → Int32)) :=
  (fX6_in p1 8 32).bind fun o1 =>
  (fX6_throwing (if o1 = 0 then 1 else 0) 0 0 0).bind fun o2 =>
  if o2.1 = 0 then
    (fX6_format_L39 dkF 0 v_disk).bind fun o3 =>
    (fX6_format_L115 dkF 0 v_there).bind fun o4 =>
    some (o2.2, p1, 1, 0, 2, (-1), 0, 0, 0, 0, 0, 0, 1, 0, o3.2, o4.2)
  else
    some (o2.2, v_sectors, v_power, v_used, v_reserve, v_cutWrites, v_rows, v_waits, v_stateNumber, v_stateNow, v_second, v_repaired, v_up, v_sent, v_disk, v_there)
set_option maxHeartbeats 4000000 in
set_option maxRecDepth 100000 in
theorem lX6_format_39 {p : Program} {l : Launch} {e : Env} {s : State} {m : MethodId} {below : List Frame} {meth : Method} {c : Code} {args : Array Value} {D : va_G} {k : Nat → ClassId} {h0 : Nat} {a_disk : Nat} {a_made : Nat} {a_sectorOf : Nat} {a_placeOf : Nat} {a_manyOf : Nat} {a_there : Nat} {a_waitKind : Nat} {a_waitMany : Nat} {a_waitBytes : Nat} {v_thrown : Int32} {v_sectors : Int32} {v_power : Int32} {v_used : Int32} {v_reserve : Int32} {v_cutWrites : Int32} {v_cutBytes : Int32} {v_rows : Int32} {v_waits : Int32} {v_stateNumber : Int32} {v_stateNow : Int64} {v_second : Int32} {v_repaired : Int32} {v_up : Int32} {v_sent : Int32} {v_made : Nat → Int32} {v_sectorOf : Nat → Int32} {v_placeOf : Nat → Int32} {v_manyOf : Nat → Int32} {v_there : Nat → Int32} {v_waitKind : Nat → Int32} {v_waitMany : Nat → Int32} {v_waitBytes : Nat → Int64} {Q : State → Prop} {o : Int32 × (Nat → Int32)} {A : Nat → Prop} (C : dk_Cx p s m meth c cX6_format none 3 "ServiceDiskModel" dkB args) (hK : va_K D vwCl (dkT k) s) (hN : dk_N s) (hA : ∀ q : Nat, s.heap.size ≤ q → A q) :
    ∀ (n : Nat) (x2 : Int32) (v_disk : Nat → Int32), fX6_format_L39 n x2 v_disk = some o → (∀ (H : Heap) (locs : List Loc), va_P D vwCl [(h0, .inr (6, [.int v_thrown, .int v_sectors, .int v_power, .ref a_disk, .ref a_made, .int v_used, .int v_reserve, .int v_cutWrites, .int v_cutBytes, .int v_rows, .ref a_sectorOf, .ref a_placeOf, .ref a_manyOf, .ref a_there, .int v_waits, .ref a_waitKind, .ref a_waitMany, .ref a_waitBytes, .int v_stateNumber, .long v_stateNow, .int v_second, .int v_repaired, .int v_up, .int v_sent])), (a_disk, .inl ((k 2), 32768, .inl o.2)), (a_made, .inl ((k 2), 512, .inl v_made)), (a_sectorOf, .inl ((k 2), 5100, .inl v_sectorOf)), (a_placeOf, .inl ((k 2), 5100, .inl v_placeOf)), (a_manyOf, .inl ((k 2), 5100, .inl v_manyOf)), (a_there, .inl ((k 1), 5100, .inl v_there)), (a_waitKind, .inl ((k 2), 100, .inl v_waitKind)), (a_waitMany, .inl ((k 2), 100, .inl v_waitMany)), (a_waitBytes, .inl ((k 3), 100, .inr (.inl v_waitBytes)))] H → va_D A [(h0, .inr (6, [.int v_thrown, .int v_sectors, .int v_power, .ref a_disk, .ref a_made, .int v_used, .int v_reserve, .int v_cutWrites, .int v_cutBytes, .int v_rows, .ref a_sectorOf, .ref a_placeOf, .ref a_manyOf, .ref a_there, .int v_waits, .ref a_waitKind, .ref a_waitMany, .ref a_waitBytes, .int v_stateNumber, .long v_stateNow, .int v_second, .int v_repaired, .int v_up, .int v_sent])), (a_disk, .inl ((k 2), 32768, .inl o.2)), (a_made, .inl ((k 2), 512, .inl v_made)), (a_sectorOf, .inl ((k 2), 5100, .inl v_sectorOf)), (a_placeOf, .inl ((k 2), 5100, .inl v_placeOf)), (a_manyOf, .inl ((k 2), 5100, .inl v_manyOf)), (a_there, .inl ((k 1), 5100, .inl v_there)), (a_waitKind, .inl ((k 2), 100, .inl v_waitKind)), (a_waitMany, .inl ((k 2), 100, .inl v_waitMany)), (a_waitBytes, .inl ((k 3), 100, .inr (.inl v_waitBytes)))] → va_S A s.heap H locs → ∀ ls : Array Slot, lv_has ls 3 [(0, .ref h0), (2, .int o.1)] → W p l e { frames := 1, cells := 0, slots := 0, locals := 24 } s m args below meth c H locs 0 0 Q (F0 m 58 ls [])) → ∀ (H : Heap) (locs : List Loc), va_P D vwCl [(h0, .inr (6, [.int v_thrown, .int v_sectors, .int v_power, .ref a_disk, .ref a_made, .int v_used, .int v_reserve, .int v_cutWrites, .int v_cutBytes, .int v_rows, .ref a_sectorOf, .ref a_placeOf, .ref a_manyOf, .ref a_there, .int v_waits, .ref a_waitKind, .ref a_waitMany, .ref a_waitBytes, .int v_stateNumber, .long v_stateNow, .int v_second, .int v_repaired, .int v_up, .int v_sent])), (a_disk, .inl ((k 2), 32768, .inl v_disk)), (a_made, .inl ((k 2), 512, .inl v_made)), (a_sectorOf, .inl ((k 2), 5100, .inl v_sectorOf)), (a_placeOf, .inl ((k 2), 5100, .inl v_placeOf)), (a_manyOf, .inl ((k 2), 5100, .inl v_manyOf)), (a_there, .inl ((k 1), 5100, .inl v_there)), (a_waitKind, .inl ((k 2), 100, .inl v_waitKind)), (a_waitMany, .inl ((k 2), 100, .inl v_waitMany)), (a_waitBytes, .inl ((k 3), 100, .inr (.inl v_waitBytes)))] H → va_D A [(h0, .inr (6, [.int v_thrown, .int v_sectors, .int v_power, .ref a_disk, .ref a_made, .int v_used, .int v_reserve, .int v_cutWrites, .int v_cutBytes, .int v_rows, .ref a_sectorOf, .ref a_placeOf, .ref a_manyOf, .ref a_there, .int v_waits, .ref a_waitKind, .ref a_waitMany, .ref a_waitBytes, .int v_stateNumber, .long v_stateNow, .int v_second, .int v_repaired, .int v_up, .int v_sent])), (a_disk, .inl ((k 2), 32768, .inl v_disk)), (a_made, .inl ((k 2), 512, .inl v_made)), (a_sectorOf, .inl ((k 2), 5100, .inl v_sectorOf)), (a_placeOf, .inl ((k 2), 5100, .inl v_placeOf)), (a_manyOf, .inl ((k 2), 5100, .inl v_manyOf)), (a_there, .inl ((k 1), 5100, .inl v_there)), (a_waitKind, .inl ((k 2), 100, .inl v_waitKind)), (a_waitMany, .inl ((k 2), 100, .inl v_waitMany)), (a_waitBytes, .inl ((k 3), 100, .inr (.inl v_waitBytes)))] → va_S A s.heap H locs → ∀ ls : Array Slot, lv_has ls 3 [(0, .ref h0), (2, .int x2)] → W p l e { frames := 1, cells := 0, slots := 0, locals := 24 } s m args below meth c H locs 0 0 Q (F0 m 39 ls []) := by
  obtain ⟨hx, hb, hr, hml, hown, hts, hlocks⟩ := id C
  intro n
  induction n with
  | zero =>
    intro x2 v_disk h
    exact dk_n (o := o) h
  | succ n ih =>
    intro x2 v_disk h K H locs hP hD hS ls hl
    rw [fX6_format_L39.eq_2] at h
    refine lv_iload_n hx hb dX6_format_39 rfl (lv_at hl 1 rfl) ?_
    refine lv_ldc (v := 32768) hx hb hown (hts _ w_736) dX6_format_40 ?_
    refine lv_icmp_ge (tgt := 58) hx hb dX6_format_42 (by decide) (fun q => ?_) (fun q => ?_)
    · replace h := dk_t q h
      have h := dk_r h
      subst h
      exact K _ _ (hP.sub [0, 1, 2, 3, 4, 5, 6, 7, 8, 9] rfl) (hD.sub [0, 1, 2, 3, 4, 5, 6, 7, 8, 9] (by decide) rfl) hS ls (lv_sub hl [0, 1] rfl)
    · replace h := dk_f q h
      refine lv_aload_n hx hb dX6_format_45 rfl (lv_at hl 0 rfl) ?_
      refine va_get (D := D) (ci := 6) (v := .ref a_disk) (C := "ServiceDiskModel") (T := TX6) (N := 24) hx hb hts inX6 hown hK hP 0 rfl rfl 3 (by decide) (hts _ w_740) (fun _ h9 => h9) rfl dX6_format_46 ?_
      refine lv_iload_n hx hb dX6_format_49 rfl (lv_at hl 1 rfl) ?_
      refine lv_iconst (v := 0) hx hb dX6_format_50 (by decide) ?_
      obtain ⟨q, h⟩ := dk_g h
      refine va_iast hx hb hK hP hD hS 1 2 rfl rfl q dX6_format_51 (fun H locs hP hD hS => ?_)
      have hP : va_P D vwCl [(h0, .inr (6, [.int v_thrown, .int v_sectors, .int v_power, .ref a_disk, .ref a_made, .int v_used, .int v_reserve, .int v_cutWrites, .int v_cutBytes, .int v_rows, .ref a_sectorOf, .ref a_placeOf, .ref a_manyOf, .ref a_there, .int v_waits, .ref a_waitKind, .ref a_waitMany, .ref a_waitBytes, .int v_stateNumber, .long v_stateNow, .int v_second, .int v_repaired, .int v_up, .int v_sent])), (a_disk, .inl ((k 2), 32768, .inl (upd v_disk x2.toNatClampNeg 0))), (a_made, .inl ((k 2), 512, .inl v_made)), (a_sectorOf, .inl ((k 2), 5100, .inl v_sectorOf)), (a_placeOf, .inl ((k 2), 5100, .inl v_placeOf)), (a_manyOf, .inl ((k 2), 5100, .inl v_manyOf)), (a_there, .inl ((k 1), 5100, .inl v_there)), (a_waitKind, .inl ((k 2), 100, .inl v_waitKind)), (a_waitMany, .inl ((k 2), 100, .inl v_waitMany)), (a_waitBytes, .inl ((k 3), 100, .inr (.inl v_waitBytes)))] H := hP
      have hD : va_D A [(h0, .inr (6, [.int v_thrown, .int v_sectors, .int v_power, .ref a_disk, .ref a_made, .int v_used, .int v_reserve, .int v_cutWrites, .int v_cutBytes, .int v_rows, .ref a_sectorOf, .ref a_placeOf, .ref a_manyOf, .ref a_there, .int v_waits, .ref a_waitKind, .ref a_waitMany, .ref a_waitBytes, .int v_stateNumber, .long v_stateNow, .int v_second, .int v_repaired, .int v_up, .int v_sent])), (a_disk, .inl ((k 2), 32768, .inl (upd v_disk x2.toNatClampNeg 0))), (a_made, .inl ((k 2), 512, .inl v_made)), (a_sectorOf, .inl ((k 2), 5100, .inl v_sectorOf)), (a_placeOf, .inl ((k 2), 5100, .inl v_placeOf)), (a_manyOf, .inl ((k 2), 5100, .inl v_manyOf)), (a_there, .inl ((k 1), 5100, .inl v_there)), (a_waitKind, .inl ((k 2), 100, .inl v_waitKind)), (a_waitMany, .inl ((k 2), 100, .inl v_waitMany)), (a_waitBytes, .inl ((k 3), 100, .inr (.inl v_waitBytes)))] := hD
      refine lv_iinc (v := (x2 + 1)) (lv' := [(2, .int (x2 + 1)), (0, .ref h0)]) hx hb dX6_format_52 hl (k := 1) rfl rfl (by decide) rfl (fun ls hl => ?_)
      refine lv_goto (tgt := 39) hx hb dX6_format_55 (by decide) ?_
      exact ih (x2 + 1) (upd v_disk x2.toNatClampNeg 0) h K _ _ (hP.sub [0, 1, 2, 3, 4, 5, 6, 7, 8, 9] rfl) (hD.sub [0, 1, 2, 3, 4, 5, 6, 7, 8, 9] (by decide) rfl) hS ls (lv_sub hl [1, 0] rfl)
set_option maxHeartbeats 4000000 in
set_option maxRecDepth 100000 in
theorem lX6_format_115 {p : Program} {l : Launch} {e : Env} {s : State} {m : MethodId} {below : List Frame} {meth : Method} {c : Code} {args : Array Value} {D : va_G} {k : Nat → ClassId} {h0 : Nat} {a_disk : Nat} {a_made : Nat} {a_sectorOf : Nat} {a_placeOf : Nat} {a_manyOf : Nat} {a_there : Nat} {a_waitKind : Nat} {a_waitMany : Nat} {a_waitBytes : Nat} {v_thrown : Int32} {v_sectors : Int32} {v_power : Int32} {v_used : Int32} {v_reserve : Int32} {v_cutWrites : Int32} {v_cutBytes : Int32} {v_rows : Int32} {v_waits : Int32} {v_stateNumber : Int32} {v_stateNow : Int64} {v_second : Int32} {v_repaired : Int32} {v_up : Int32} {v_sent : Int32} {v_disk : Nat → Int32} {v_made : Nat → Int32} {v_sectorOf : Nat → Int32} {v_placeOf : Nat → Int32} {v_manyOf : Nat → Int32} {v_waitKind : Nat → Int32} {v_waitMany : Nat → Int32} {v_waitBytes : Nat → Int64} {Q : State → Prop} {o : Int32 × (Nat → Int32)} {A : Nat → Prop} (C : dk_Cx p s m meth c cX6_format none 3 "ServiceDiskModel" dkB args) (hK : va_K D vwCl (dkT k) s) (hN : dk_N s) (hA : ∀ q : Nat, s.heap.size ≤ q → A q) :
    ∀ (n : Nat) (x2 : Int32) (v_there : Nat → Int32), fX6_format_L115 n x2 v_there = some o → (∀ (H : Heap) (locs : List Loc), va_P D vwCl [(h0, .inr (6, [.int v_thrown, .int v_sectors, .int v_power, .ref a_disk, .ref a_made, .int v_used, .int v_reserve, .int v_cutWrites, .int v_cutBytes, .int v_rows, .ref a_sectorOf, .ref a_placeOf, .ref a_manyOf, .ref a_there, .int v_waits, .ref a_waitKind, .ref a_waitMany, .ref a_waitBytes, .int v_stateNumber, .long v_stateNow, .int v_second, .int v_repaired, .int v_up, .int v_sent])), (a_disk, .inl ((k 2), 32768, .inl v_disk)), (a_made, .inl ((k 2), 512, .inl v_made)), (a_sectorOf, .inl ((k 2), 5100, .inl v_sectorOf)), (a_placeOf, .inl ((k 2), 5100, .inl v_placeOf)), (a_manyOf, .inl ((k 2), 5100, .inl v_manyOf)), (a_there, .inl ((k 1), 5100, .inl o.2)), (a_waitKind, .inl ((k 2), 100, .inl v_waitKind)), (a_waitMany, .inl ((k 2), 100, .inl v_waitMany)), (a_waitBytes, .inl ((k 3), 100, .inr (.inl v_waitBytes)))] H → va_D A [(h0, .inr (6, [.int v_thrown, .int v_sectors, .int v_power, .ref a_disk, .ref a_made, .int v_used, .int v_reserve, .int v_cutWrites, .int v_cutBytes, .int v_rows, .ref a_sectorOf, .ref a_placeOf, .ref a_manyOf, .ref a_there, .int v_waits, .ref a_waitKind, .ref a_waitMany, .ref a_waitBytes, .int v_stateNumber, .long v_stateNow, .int v_second, .int v_repaired, .int v_up, .int v_sent])), (a_disk, .inl ((k 2), 32768, .inl v_disk)), (a_made, .inl ((k 2), 512, .inl v_made)), (a_sectorOf, .inl ((k 2), 5100, .inl v_sectorOf)), (a_placeOf, .inl ((k 2), 5100, .inl v_placeOf)), (a_manyOf, .inl ((k 2), 5100, .inl v_manyOf)), (a_there, .inl ((k 1), 5100, .inl o.2)), (a_waitKind, .inl ((k 2), 100, .inl v_waitKind)), (a_waitMany, .inl ((k 2), 100, .inl v_waitMany)), (a_waitBytes, .inl ((k 3), 100, .inr (.inl v_waitBytes)))] → va_S A s.heap H locs → ∀ ls : Array Slot, lv_has ls 3 [(0, .ref h0), (2, .int o.1)] → W p l e { frames := 1, cells := 0, slots := 0, locals := 24 } s m args below meth c H locs 0 0 Q (F0 m 135 ls [])) → ∀ (H : Heap) (locs : List Loc), va_P D vwCl [(h0, .inr (6, [.int v_thrown, .int v_sectors, .int v_power, .ref a_disk, .ref a_made, .int v_used, .int v_reserve, .int v_cutWrites, .int v_cutBytes, .int v_rows, .ref a_sectorOf, .ref a_placeOf, .ref a_manyOf, .ref a_there, .int v_waits, .ref a_waitKind, .ref a_waitMany, .ref a_waitBytes, .int v_stateNumber, .long v_stateNow, .int v_second, .int v_repaired, .int v_up, .int v_sent])), (a_disk, .inl ((k 2), 32768, .inl v_disk)), (a_made, .inl ((k 2), 512, .inl v_made)), (a_sectorOf, .inl ((k 2), 5100, .inl v_sectorOf)), (a_placeOf, .inl ((k 2), 5100, .inl v_placeOf)), (a_manyOf, .inl ((k 2), 5100, .inl v_manyOf)), (a_there, .inl ((k 1), 5100, .inl v_there)), (a_waitKind, .inl ((k 2), 100, .inl v_waitKind)), (a_waitMany, .inl ((k 2), 100, .inl v_waitMany)), (a_waitBytes, .inl ((k 3), 100, .inr (.inl v_waitBytes)))] H → va_D A [(h0, .inr (6, [.int v_thrown, .int v_sectors, .int v_power, .ref a_disk, .ref a_made, .int v_used, .int v_reserve, .int v_cutWrites, .int v_cutBytes, .int v_rows, .ref a_sectorOf, .ref a_placeOf, .ref a_manyOf, .ref a_there, .int v_waits, .ref a_waitKind, .ref a_waitMany, .ref a_waitBytes, .int v_stateNumber, .long v_stateNow, .int v_second, .int v_repaired, .int v_up, .int v_sent])), (a_disk, .inl ((k 2), 32768, .inl v_disk)), (a_made, .inl ((k 2), 512, .inl v_made)), (a_sectorOf, .inl ((k 2), 5100, .inl v_sectorOf)), (a_placeOf, .inl ((k 2), 5100, .inl v_placeOf)), (a_manyOf, .inl ((k 2), 5100, .inl v_manyOf)), (a_there, .inl ((k 1), 5100, .inl v_there)), (a_waitKind, .inl ((k 2), 100, .inl v_waitKind)), (a_waitMany, .inl ((k 2), 100, .inl v_waitMany)), (a_waitBytes, .inl ((k 3), 100, .inr (.inl v_waitBytes)))] → va_S A s.heap H locs → ∀ ls : Array Slot, lv_has ls 3 [(0, .ref h0), (2, .int x2)] → W p l e { frames := 1, cells := 0, slots := 0, locals := 24 } s m args below meth c H locs 0 0 Q (F0 m 115 ls []) := by
  obtain ⟨hx, hb, hr, hml, hown, hts, hlocks⟩ := id C
  intro n
  induction n with
  | zero =>
    intro x2 v_there h
    exact dk_n (o := o) h
  | succ n ih =>
    intro x2 v_there h K H locs hP hD hS ls hl
    rw [fX6_format_L115.eq_2] at h
    refine lv_iload_n hx hb dX6_format_115 rfl (lv_at hl 1 rfl) ?_
    refine lv_sipush (v := 5100) hx hb dX6_format_116 (by decide) ?_
    refine lv_icmp_ge (tgt := 135) hx hb dX6_format_119 (by decide) (fun q => ?_) (fun q => ?_)
    · replace h := dk_t q h
      have h := dk_r h
      subst h
      exact K _ _ (hP.sub [0, 1, 2, 3, 4, 5, 6, 7, 8, 9] rfl) (hD.sub [0, 1, 2, 3, 4, 5, 6, 7, 8, 9] (by decide) rfl) hS ls (lv_sub hl [0, 1] rfl)
    · replace h := dk_f q h
      refine lv_aload_n hx hb dX6_format_122 rfl (lv_at hl 0 rfl) ?_
      refine va_get (D := D) (ci := 6) (v := .ref a_there) (C := "ServiceDiskModel") (T := TX6) (N := 24) hx hb hts inX6 hown hK hP 0 rfl rfl 13 (by decide) (hts _ w_750) (fun _ h9 => h9) rfl dX6_format_123 ?_
      refine lv_iload_n hx hb dX6_format_126 rfl (lv_at hl 1 rfl) ?_
      refine lv_iconst (v := 0) hx hb dX6_format_127 (by decide) ?_
      obtain ⟨q, h⟩ := dk_g h
      refine va_zast hx hb hK hP hD hS 6 1 rfl rfl q dX6_format_128 (fun H locs hP hD hS => ?_)
      have hP : va_P D vwCl [(h0, .inr (6, [.int v_thrown, .int v_sectors, .int v_power, .ref a_disk, .ref a_made, .int v_used, .int v_reserve, .int v_cutWrites, .int v_cutBytes, .int v_rows, .ref a_sectorOf, .ref a_placeOf, .ref a_manyOf, .ref a_there, .int v_waits, .ref a_waitKind, .ref a_waitMany, .ref a_waitBytes, .int v_stateNumber, .long v_stateNow, .int v_second, .int v_repaired, .int v_up, .int v_sent])), (a_disk, .inl ((k 2), 32768, .inl v_disk)), (a_made, .inl ((k 2), 512, .inl v_made)), (a_sectorOf, .inl ((k 2), 5100, .inl v_sectorOf)), (a_placeOf, .inl ((k 2), 5100, .inl v_placeOf)), (a_manyOf, .inl ((k 2), 5100, .inl v_manyOf)), (a_there, .inl ((k 1), 5100, .inl (upd v_there x2.toNatClampNeg (vp_nar .boolean 0)))), (a_waitKind, .inl ((k 2), 100, .inl v_waitKind)), (a_waitMany, .inl ((k 2), 100, .inl v_waitMany)), (a_waitBytes, .inl ((k 3), 100, .inr (.inl v_waitBytes)))] H := hP
      have hD : va_D A [(h0, .inr (6, [.int v_thrown, .int v_sectors, .int v_power, .ref a_disk, .ref a_made, .int v_used, .int v_reserve, .int v_cutWrites, .int v_cutBytes, .int v_rows, .ref a_sectorOf, .ref a_placeOf, .ref a_manyOf, .ref a_there, .int v_waits, .ref a_waitKind, .ref a_waitMany, .ref a_waitBytes, .int v_stateNumber, .long v_stateNow, .int v_second, .int v_repaired, .int v_up, .int v_sent])), (a_disk, .inl ((k 2), 32768, .inl v_disk)), (a_made, .inl ((k 2), 512, .inl v_made)), (a_sectorOf, .inl ((k 2), 5100, .inl v_sectorOf)), (a_placeOf, .inl ((k 2), 5100, .inl v_placeOf)), (a_manyOf, .inl ((k 2), 5100, .inl v_manyOf)), (a_there, .inl ((k 1), 5100, .inl (upd v_there x2.toNatClampNeg (vp_nar .boolean 0)))), (a_waitKind, .inl ((k 2), 100, .inl v_waitKind)), (a_waitMany, .inl ((k 2), 100, .inl v_waitMany)), (a_waitBytes, .inl ((k 3), 100, .inr (.inl v_waitBytes)))] := hD
      refine lv_iinc (v := (x2 + 1)) (lv' := [(2, .int (x2 + 1)), (0, .ref h0)]) hx hb dX6_format_129 hl (k := 1) rfl rfl (by decide) rfl (fun ls hl => ?_)
      refine lv_goto (tgt := 115) hx hb dX6_format_132 (by decide) ?_
      exact ih (x2 + 1) (upd v_there x2.toNatClampNeg (vp_nar .boolean 0)) h K _ _ (hP.sub [0, 1, 2, 3, 4, 5, 6, 7, 8, 9] rfl) (hD.sub [0, 1, 2, 3, 4, 5, 6, 7, 8, 9] (by decide) rfl) hS ls (lv_sub hl [1, 0] rfl)
set_option maxHeartbeats 4000000 in
set_option maxRecDepth 100000 in
theorem mX6_format (l : Launch) (D : va_G) (k : Nat → ClassId) (h0 a_disk a_made a_sectorOf a_placeOf a_manyOf a_there a_waitKind a_waitMany a_waitBytes : Nat) (sz : Nat) (v_thrown : Int32) (v_sectors : Int32) (v_power : Int32) (v_used : Int32) (v_reserve : Int32) (v_cutWrites : Int32) (v_cutBytes : Int32) (v_rows : Int32) (v_waits : Int32) (v_stateNumber : Int32) (v_stateNow : Int64) (v_second : Int32) (v_repaired : Int32) (v_up : Int32) (v_sent : Int32) (v_disk : Nat → Int32) (v_made : Nat → Int32) (v_sectorOf : Nat → Int32) (v_placeOf : Nat → Int32) (v_manyOf : Nat → Int32) (v_there : Nat → Int32) (v_waitKind : Nat → Int32) (v_waitMany : Nat → Int32) (v_waitBytes : Nat → Int64) (p1 : Int32) (o : Int32 × Int32 × Int32 × Int32 × Int32 × Int32 × Int32 × Int32 × Int32 × Int64 × Int32 × Int32 × Int32 × Int32 × (Nat → Int32) × (Nat → Int32)) (h : fX6_format v_sectors v_power v_used v_reserve v_cutWrites v_rows v_waits v_stateNumber v_stateNow v_second v_repaired v_up v_sent v_disk v_there p1 = some o) : Met l yX6_format wsX6_format { frames := 1, cells := 0, slots := 0, locals := 24 } (dk_Pw D k [.ref h0, .int p1] [(h0, .inr (6, [.int v_thrown, .int v_sectors, .int v_power, .ref a_disk, .ref a_made, .int v_used, .int v_reserve, .int v_cutWrites, .int v_cutBytes, .int v_rows, .ref a_sectorOf, .ref a_placeOf, .ref a_manyOf, .ref a_there, .int v_waits, .ref a_waitKind, .ref a_waitMany, .ref a_waitBytes, .int v_stateNumber, .long v_stateNow, .int v_second, .int v_repaired, .int v_up, .int v_sent])), (a_disk, .inl ((k 2), 32768, .inl v_disk)), (a_made, .inl ((k 2), 512, .inl v_made)), (a_sectorOf, .inl ((k 2), 5100, .inl v_sectorOf)), (a_placeOf, .inl ((k 2), 5100, .inl v_placeOf)), (a_manyOf, .inl ((k 2), 5100, .inl v_manyOf)), (a_there, .inl ((k 1), 5100, .inl v_there)), (a_waitKind, .inl ((k 2), 100, .inl v_waitKind)), (a_waitMany, .inl ((k 2), 100, .inl v_waitMany)), (a_waitBytes, .inl ((k 3), 100, .inr (.inl v_waitBytes)))] sz) (dk_Qv D [(h0, .inr (6, [.int o.1, .int o.2.1, .int o.2.2.1, .ref a_disk, .ref a_made, .int o.2.2.2.1, .int o.2.2.2.2.1, .int o.2.2.2.2.2.1, .int v_cutBytes, .int o.2.2.2.2.2.2.1, .ref a_sectorOf, .ref a_placeOf, .ref a_manyOf, .ref a_there, .int o.2.2.2.2.2.2.2.1, .ref a_waitKind, .ref a_waitMany, .ref a_waitBytes, .int o.2.2.2.2.2.2.2.2.1, .long o.2.2.2.2.2.2.2.2.2.1, .int o.2.2.2.2.2.2.2.2.2.2.1, .int o.2.2.2.2.2.2.2.2.2.2.2.1, .int o.2.2.2.2.2.2.2.2.2.2.2.2.1, .int o.2.2.2.2.2.2.2.2.2.2.2.2.2.1])), (a_disk, .inl ((k 2), 32768, .inl o.2.2.2.2.2.2.2.2.2.2.2.2.2.2.1)), (a_made, .inl ((k 2), 512, .inl v_made)), (a_sectorOf, .inl ((k 2), 5100, .inl v_sectorOf)), (a_placeOf, .inl ((k 2), 5100, .inl v_placeOf)), (a_manyOf, .inl ((k 2), 5100, .inl v_manyOf)), (a_there, .inl ((k 1), 5100, .inl o.2.2.2.2.2.2.2.2.2.2.2.2.2.2.2)), (a_waitKind, .inl ((k 2), 100, .inl v_waitKind)), (a_waitMany, .inl ((k 2), 100, .inl v_waitMany)), (a_waitBytes, .inl ((k 3), 100, .inr (.inl v_waitBytes)))] (va_A [(h0, .inr (6, [.int v_thrown, .int v_sectors, .int v_power, .ref a_disk, .ref a_made, .int v_used, .int v_reserve, .int v_cutWrites, .int v_cutBytes, .int v_rows, .ref a_sectorOf, .ref a_placeOf, .ref a_manyOf, .ref a_there, .int v_waits, .ref a_waitKind, .ref a_waitMany, .ref a_waitBytes, .int v_stateNumber, .long v_stateNow, .int v_second, .int v_repaired, .int v_up, .int v_sent])), (a_disk, .inl ((k 2), 32768, .inl v_disk)), (a_made, .inl ((k 2), 512, .inl v_made)), (a_sectorOf, .inl ((k 2), 5100, .inl v_sectorOf)), (a_placeOf, .inl ((k 2), 5100, .inl v_placeOf)), (a_manyOf, .inl ((k 2), 5100, .inl v_manyOf)), (a_there, .inl ((k 1), 5100, .inl v_there)), (a_waitKind, .inl ((k 2), 100, .inl v_waitKind)), (a_waitMany, .inl ((k 2), 100, .inl v_waitMany)), (a_waitBytes, .inl ((k 3), 100, .inr (.inl v_waitBytes)))] sz)) 0 0 (va_A [(h0, .inr (6, [.int v_thrown, .int v_sectors, .int v_power, .ref a_disk, .ref a_made, .int v_used, .int v_reserve, .int v_cutWrites, .int v_cutBytes, .int v_rows, .ref a_sectorOf, .ref a_placeOf, .ref a_manyOf, .ref a_there, .int v_waits, .ref a_waitKind, .ref a_waitMany, .ref a_waitBytes, .int v_stateNumber, .long v_stateNow, .int v_second, .int v_repaired, .int v_up, .int v_sent])), (a_disk, .inl ((k 2), 32768, .inl v_disk)), (a_made, .inl ((k 2), 512, .inl v_made)), (a_sectorOf, .inl ((k 2), 5100, .inl v_sectorOf)), (a_placeOf, .inl ((k 2), 5100, .inl v_placeOf)), (a_manyOf, .inl ((k 2), 5100, .inl v_manyOf)), (a_there, .inl ((k 1), 5100, .inl v_there)), (a_waitKind, .inl ((k 2), 100, .inl v_waitKind)), (a_waitMany, .inl ((k 2), 100, .inl v_waitMany)), (a_waitBytes, .inl ((k 3), 100, .inr (.inl v_waitBytes)))] sz) := by
  unfold fX6_format at h
  refine dk_ofW (Qc := fun A => dk_Qv D [(h0, .inr (6, [.int o.1, .int o.2.1, .int o.2.2.1, .ref a_disk, .ref a_made, .int o.2.2.2.1, .int o.2.2.2.2.1, .int o.2.2.2.2.2.1, .int v_cutBytes, .int o.2.2.2.2.2.2.1, .ref a_sectorOf, .ref a_placeOf, .ref a_manyOf, .ref a_there, .int o.2.2.2.2.2.2.2.1, .ref a_waitKind, .ref a_waitMany, .ref a_waitBytes, .int o.2.2.2.2.2.2.2.2.1, .long o.2.2.2.2.2.2.2.2.2.1, .int o.2.2.2.2.2.2.2.2.2.2.1, .int o.2.2.2.2.2.2.2.2.2.2.2.1, .int o.2.2.2.2.2.2.2.2.2.2.2.2.1, .int o.2.2.2.2.2.2.2.2.2.2.2.2.2.1])), (a_disk, .inl ((k 2), 32768, .inl o.2.2.2.2.2.2.2.2.2.2.2.2.2.2.1)), (a_made, .inl ((k 2), 512, .inl v_made)), (a_sectorOf, .inl ((k 2), 5100, .inl v_sectorOf)), (a_placeOf, .inl ((k 2), 5100, .inl v_placeOf)), (a_manyOf, .inl ((k 2), 5100, .inl v_manyOf)), (a_there, .inl ((k 1), 5100, .inl o.2.2.2.2.2.2.2.2.2.2.2.2.2.2.2)), (a_waitKind, .inl ((k 2), 100, .inl v_waitKind)), (a_waitMany, .inl ((k 2), 100, .inl v_waitMany)), (a_waitBytes, .inl ((k 3), 100, .inr (.inl v_waitBytes)))] A) (cc := cX6_format) (maxL := 3) (ret := none) (lv := [(0, .ref h0), (1, .int p1)]) (by decide) rfl (Nat.le_of_ble_eq_true rfl) rfl ?_
  intro p e s m below meth c C hK hN hP A hA hD hS ls hl
  obtain ⟨hx, hb, hr, hml, hown, hts, hlocks⟩ := id C
  refine lv_aload_n hx hb dX6_format_0 rfl (lv_at hl 0 rfl) ?_
  refine lv_iload_n hx hb dX6_format_1 rfl (lv_at hl 1 rfl) ?_
  refine lv_bipush (v := 8) hx hb dX6_format_2 (by decide) ?_
  refine lv_bipush (v := 32) hx hb dX6_format_4 (by decide) ?_
  replace h := dk_b h
  obtain ⟨o1, e1, h⟩ := h
  refine dk_cri (va_runS (As := [.int p1, .int 8, .int 32]) (rest := [.ref h0]) ⟨hx, hb, hml, hown, hts⟩ (mX6_in l D k p1 8 32 o1 e1) (va_cwS 3 hts (dk_gS w_818 w_819 w_46 w_820) rfl rfl rfl (by decide +kernel) ⟨Nat.le_of_ble_eq_true rfl, Nat.le_of_ble_eq_true rfl⟩) (dk_psr hK hN hP [] rfl) rfl rfl hl.1 rfl (lv_room (Nat.le_of_ble_eq_true rfl)) dX6_format_6 ⟨Nat.le_of_ble_eq_true rfl, Nat.le_of_ble_eq_true rfl⟩) ?_
  refine dk_jn (F0 m 17 ls [.int (if o1 = 0 then 1 else 0), .ref h0]) (fun K => ?_) ?_
  · refine lv_if_ne (tgt := 16) hx hb dX6_format_9 (by decide) (fun q1 => ?_) (fun q1 => ?_)
    · refine lv_iconst (v := 0) hx hb dX6_format_16 (by decide) ?_
      have K := K
      rw [if_neg q1] at K
      exact K
    · refine lv_iconst (v := 1) hx hb dX6_format_12 (by decide) ?_
      refine lv_goto (tgt := 17) hx hb dX6_format_13 (by decide) ?_
      have K := K
      rw [if_pos q1] at K
      exact K
  refine lv_iconst (v := 0) hx hb dX6_format_17 (by decide) ?_
  refine lv_iconst (v := 0) hx hb dX6_format_18 (by decide) ?_
  refine lv_iconst (v := 0) hx hb dX6_format_19 (by decide) ?_
  replace h := dk_b h
  obtain ⟨o2, e2, h⟩ := h
  refine dk_cwi (wr := []) (va_runV (As := [.int (if o1 = 0 then 1 else 0), .int 0, .int 0, .int 0]) (rest := []) ⟨hx, hb, hml, hown, hts⟩ (mX6_throwing l D k h0 a_disk a_made a_sectorOf a_placeOf a_manyOf a_there a_waitKind a_waitMany a_waitBytes s.heap.size v_thrown v_sectors v_power v_used v_reserve v_cutWrites v_cutBytes v_rows v_waits v_stateNumber v_stateNow v_second v_repaired v_up v_sent v_disk v_made v_sectorOf v_placeOf v_manyOf v_there v_waitKind v_waitMany v_waitBytes (if o1 = 0 then 1 else 0) 0 0 0 o2 e2) (cwV 4 hts (dk_gV w_821 w_823 w_20 w_46 w_824) rfl rfl rfl (by decide +kernel) ⟨Nat.le_of_ble_eq_true rfl, Nat.le_of_ble_eq_true rfl⟩) (dk_pvw hK hN hP hD [0, 1, 2, 3, 4, 5, 6, 7, 8, 9] rfl rfl rfl rfl (hP.sub [0, 1, 2, 3, 4, 5, 6, 7, 8, 9] rfl)) rfl rfl hl.1 rfl (lv_room (Nat.le_of_ble_eq_true rfl)) dX6_format_20 ⟨Nat.le_of_ble_eq_true rfl, Nat.le_of_ble_eq_true rfl⟩) hP hD hS hA [0, 1, 2, 3, 4, 5, 6, 7, 8, 9] [] rfl rfl rfl (by decide) (fun H locs hP hD hS => ?_)
  have hP : va_P D vwCl [(h0, .inr (6, [.int o2.2, .int v_sectors, .int v_power, .ref a_disk, .ref a_made, .int v_used, .int v_reserve, .int v_cutWrites, .int v_cutBytes, .int v_rows, .ref a_sectorOf, .ref a_placeOf, .ref a_manyOf, .ref a_there, .int v_waits, .ref a_waitKind, .ref a_waitMany, .ref a_waitBytes, .int v_stateNumber, .long v_stateNow, .int v_second, .int v_repaired, .int v_up, .int v_sent])), (a_disk, .inl ((k 2), 32768, .inl v_disk)), (a_made, .inl ((k 2), 512, .inl v_made)), (a_sectorOf, .inl ((k 2), 5100, .inl v_sectorOf)), (a_placeOf, .inl ((k 2), 5100, .inl v_placeOf)), (a_manyOf, .inl ((k 2), 5100, .inl v_manyOf)), (a_there, .inl ((k 1), 5100, .inl v_there)), (a_waitKind, .inl ((k 2), 100, .inl v_waitKind)), (a_waitMany, .inl ((k 2), 100, .inl v_waitMany)), (a_waitBytes, .inl ((k 3), 100, .inr (.inl v_waitBytes)))] H := hP
  have hD : va_D A [(h0, .inr (6, [.int o2.2, .int v_sectors, .int v_power, .ref a_disk, .ref a_made, .int v_used, .int v_reserve, .int v_cutWrites, .int v_cutBytes, .int v_rows, .ref a_sectorOf, .ref a_placeOf, .ref a_manyOf, .ref a_there, .int v_waits, .ref a_waitKind, .ref a_waitMany, .ref a_waitBytes, .int v_stateNumber, .long v_stateNow, .int v_second, .int v_repaired, .int v_up, .int v_sent])), (a_disk, .inl ((k 2), 32768, .inl v_disk)), (a_made, .inl ((k 2), 512, .inl v_made)), (a_sectorOf, .inl ((k 2), 5100, .inl v_sectorOf)), (a_placeOf, .inl ((k 2), 5100, .inl v_placeOf)), (a_manyOf, .inl ((k 2), 5100, .inl v_manyOf)), (a_there, .inl ((k 1), 5100, .inl v_there)), (a_waitKind, .inl ((k 2), 100, .inl v_waitKind)), (a_waitMany, .inl ((k 2), 100, .inl v_waitMany)), (a_waitBytes, .inl ((k 3), 100, .inr (.inl v_waitBytes)))] := hD
  refine lv_if_eq (tgt := 27) hx hb dX6_format_23 (by decide) (fun q => ?_) (fun q => ?_)
  · replace h := dk_t q h
    refine lv_aload_n hx hb dX6_format_27 rfl (lv_at hl 0 rfl) ?_
    refine lv_iload_n hx hb dX6_format_28 rfl (lv_at hl 1 rfl) ?_
    refine va_put (D := D) (ci := 6) (v := .int p1) (ty := .int) (C := "ServiceDiskModel") (T := TX6) (N := 24) hx hb hts inX6 tyX6 tyX6_ok nmX6 hown hK hP hD hS 0 rfl rfl 1 (by decide) (hts _ w_738) (fun _ h9 => h9) rfl (by decide +kernel) rfl rfl (Nat.le_of_ble_eq_true rfl) dX6_format_29 (fun H locs hP hD hS => ?_)
    have hP : va_P D vwCl [(h0, .inr (6, [.int o2.2, .int p1, .int v_power, .ref a_disk, .ref a_made, .int v_used, .int v_reserve, .int v_cutWrites, .int v_cutBytes, .int v_rows, .ref a_sectorOf, .ref a_placeOf, .ref a_manyOf, .ref a_there, .int v_waits, .ref a_waitKind, .ref a_waitMany, .ref a_waitBytes, .int v_stateNumber, .long v_stateNow, .int v_second, .int v_repaired, .int v_up, .int v_sent])), (a_disk, .inl ((k 2), 32768, .inl v_disk)), (a_made, .inl ((k 2), 512, .inl v_made)), (a_sectorOf, .inl ((k 2), 5100, .inl v_sectorOf)), (a_placeOf, .inl ((k 2), 5100, .inl v_placeOf)), (a_manyOf, .inl ((k 2), 5100, .inl v_manyOf)), (a_there, .inl ((k 1), 5100, .inl v_there)), (a_waitKind, .inl ((k 2), 100, .inl v_waitKind)), (a_waitMany, .inl ((k 2), 100, .inl v_waitMany)), (a_waitBytes, .inl ((k 3), 100, .inr (.inl v_waitBytes)))] H := hP
    have hD : va_D A [(h0, .inr (6, [.int o2.2, .int p1, .int v_power, .ref a_disk, .ref a_made, .int v_used, .int v_reserve, .int v_cutWrites, .int v_cutBytes, .int v_rows, .ref a_sectorOf, .ref a_placeOf, .ref a_manyOf, .ref a_there, .int v_waits, .ref a_waitKind, .ref a_waitMany, .ref a_waitBytes, .int v_stateNumber, .long v_stateNow, .int v_second, .int v_repaired, .int v_up, .int v_sent])), (a_disk, .inl ((k 2), 32768, .inl v_disk)), (a_made, .inl ((k 2), 512, .inl v_made)), (a_sectorOf, .inl ((k 2), 5100, .inl v_sectorOf)), (a_placeOf, .inl ((k 2), 5100, .inl v_placeOf)), (a_manyOf, .inl ((k 2), 5100, .inl v_manyOf)), (a_there, .inl ((k 1), 5100, .inl v_there)), (a_waitKind, .inl ((k 2), 100, .inl v_waitKind)), (a_waitMany, .inl ((k 2), 100, .inl v_waitMany)), (a_waitBytes, .inl ((k 3), 100, .inr (.inl v_waitBytes)))] := hD
    refine lv_aload_n hx hb dX6_format_32 rfl (lv_at hl 0 rfl) ?_
    refine lv_iconst (v := 1) hx hb dX6_format_33 (by decide) ?_
    refine va_put (D := D) (ci := 6) (v := .int 1) (ty := .boolean) (C := "ServiceDiskModel") (T := TX6) (N := 24) hx hb hts inX6 tyX6 tyX6_ok nmX6 hown hK hP hD hS 0 rfl rfl 2 (by decide) (hts _ w_739) (fun _ h9 => h9) rfl (by decide +kernel) rfl rfl (Nat.le_of_ble_eq_true rfl) dX6_format_34 (fun H locs hP hD hS => ?_)
    have hP : va_P D vwCl [(h0, .inr (6, [.int o2.2, .int p1, .int 1, .ref a_disk, .ref a_made, .int v_used, .int v_reserve, .int v_cutWrites, .int v_cutBytes, .int v_rows, .ref a_sectorOf, .ref a_placeOf, .ref a_manyOf, .ref a_there, .int v_waits, .ref a_waitKind, .ref a_waitMany, .ref a_waitBytes, .int v_stateNumber, .long v_stateNow, .int v_second, .int v_repaired, .int v_up, .int v_sent])), (a_disk, .inl ((k 2), 32768, .inl v_disk)), (a_made, .inl ((k 2), 512, .inl v_made)), (a_sectorOf, .inl ((k 2), 5100, .inl v_sectorOf)), (a_placeOf, .inl ((k 2), 5100, .inl v_placeOf)), (a_manyOf, .inl ((k 2), 5100, .inl v_manyOf)), (a_there, .inl ((k 1), 5100, .inl v_there)), (a_waitKind, .inl ((k 2), 100, .inl v_waitKind)), (a_waitMany, .inl ((k 2), 100, .inl v_waitMany)), (a_waitBytes, .inl ((k 3), 100, .inr (.inl v_waitBytes)))] H := hP
    have hD : va_D A [(h0, .inr (6, [.int o2.2, .int p1, .int 1, .ref a_disk, .ref a_made, .int v_used, .int v_reserve, .int v_cutWrites, .int v_cutBytes, .int v_rows, .ref a_sectorOf, .ref a_placeOf, .ref a_manyOf, .ref a_there, .int v_waits, .ref a_waitKind, .ref a_waitMany, .ref a_waitBytes, .int v_stateNumber, .long v_stateNow, .int v_second, .int v_repaired, .int v_up, .int v_sent])), (a_disk, .inl ((k 2), 32768, .inl v_disk)), (a_made, .inl ((k 2), 512, .inl v_made)), (a_sectorOf, .inl ((k 2), 5100, .inl v_sectorOf)), (a_placeOf, .inl ((k 2), 5100, .inl v_placeOf)), (a_manyOf, .inl ((k 2), 5100, .inl v_manyOf)), (a_there, .inl ((k 1), 5100, .inl v_there)), (a_waitKind, .inl ((k 2), 100, .inl v_waitKind)), (a_waitMany, .inl ((k 2), 100, .inl v_waitMany)), (a_waitBytes, .inl ((k 3), 100, .inr (.inl v_waitBytes)))] := hD
    refine lv_iconst (v := 0) hx hb dX6_format_37 (by decide) ?_
    refine lv_istore_n (lv' := [(2, .int 0), (0, .ref h0), (1, .int p1)]) hx hb dX6_format_38 rfl hl (by decide) rfl (fun ls hl => ?_)
    replace h := dk_b h
    obtain ⟨o3, e3, h⟩ := h
    refine lX6_format_39 C hK hN hA _ 0 v_disk  e3 (fun H locs hP hD hS ls hl => ?_) _ _ (hP.sub [0, 1, 2, 3, 4, 5, 6, 7, 8, 9] rfl) (hD.sub [0, 1, 2, 3, 4, 5, 6, 7, 8, 9] (by decide) rfl) hS ls (lv_sub hl [1, 0] rfl)
    have hP : va_P D vwCl [(h0, .inr (6, [.int o2.2, .int p1, .int 1, .ref a_disk, .ref a_made, .int v_used, .int v_reserve, .int v_cutWrites, .int v_cutBytes, .int v_rows, .ref a_sectorOf, .ref a_placeOf, .ref a_manyOf, .ref a_there, .int v_waits, .ref a_waitKind, .ref a_waitMany, .ref a_waitBytes, .int v_stateNumber, .long v_stateNow, .int v_second, .int v_repaired, .int v_up, .int v_sent])), (a_disk, .inl ((k 2), 32768, .inl o3.2)), (a_made, .inl ((k 2), 512, .inl v_made)), (a_sectorOf, .inl ((k 2), 5100, .inl v_sectorOf)), (a_placeOf, .inl ((k 2), 5100, .inl v_placeOf)), (a_manyOf, .inl ((k 2), 5100, .inl v_manyOf)), (a_there, .inl ((k 1), 5100, .inl v_there)), (a_waitKind, .inl ((k 2), 100, .inl v_waitKind)), (a_waitMany, .inl ((k 2), 100, .inl v_waitMany)), (a_waitBytes, .inl ((k 3), 100, .inr (.inl v_waitBytes)))] H := hP
    have hD : va_D A [(h0, .inr (6, [.int o2.2, .int p1, .int 1, .ref a_disk, .ref a_made, .int v_used, .int v_reserve, .int v_cutWrites, .int v_cutBytes, .int v_rows, .ref a_sectorOf, .ref a_placeOf, .ref a_manyOf, .ref a_there, .int v_waits, .ref a_waitKind, .ref a_waitMany, .ref a_waitBytes, .int v_stateNumber, .long v_stateNow, .int v_second, .int v_repaired, .int v_up, .int v_sent])), (a_disk, .inl ((k 2), 32768, .inl o3.2)), (a_made, .inl ((k 2), 512, .inl v_made)), (a_sectorOf, .inl ((k 2), 5100, .inl v_sectorOf)), (a_placeOf, .inl ((k 2), 5100, .inl v_placeOf)), (a_manyOf, .inl ((k 2), 5100, .inl v_manyOf)), (a_there, .inl ((k 1), 5100, .inl v_there)), (a_waitKind, .inl ((k 2), 100, .inl v_waitKind)), (a_waitMany, .inl ((k 2), 100, .inl v_waitMany)), (a_waitBytes, .inl ((k 3), 100, .inr (.inl v_waitBytes)))] := hD
    have hl : lv_has ls 3 [(0, .ref h0), (2, .int o3.1)] := hl
    refine lv_aload_n hx hb dX6_format_58 rfl (lv_at hl 0 rfl) ?_
    refine lv_iconst (v := 0) hx hb dX6_format_59 (by decide) ?_
    refine va_put (D := D) (ci := 6) (v := .int 0) (ty := .int) (C := "ServiceDiskModel") (T := TX6) (N := 24) hx hb hts inX6 tyX6 tyX6_ok nmX6 hown hK hP hD hS 0 rfl rfl 5 (by decide) (hts _ w_742) (fun _ h9 => h9) rfl (by decide +kernel) rfl rfl (Nat.le_of_ble_eq_true rfl) dX6_format_60 (fun H locs hP hD hS => ?_)
    have hP : va_P D vwCl [(h0, .inr (6, [.int o2.2, .int p1, .int 1, .ref a_disk, .ref a_made, .int 0, .int v_reserve, .int v_cutWrites, .int v_cutBytes, .int v_rows, .ref a_sectorOf, .ref a_placeOf, .ref a_manyOf, .ref a_there, .int v_waits, .ref a_waitKind, .ref a_waitMany, .ref a_waitBytes, .int v_stateNumber, .long v_stateNow, .int v_second, .int v_repaired, .int v_up, .int v_sent])), (a_disk, .inl ((k 2), 32768, .inl o3.2)), (a_made, .inl ((k 2), 512, .inl v_made)), (a_sectorOf, .inl ((k 2), 5100, .inl v_sectorOf)), (a_placeOf, .inl ((k 2), 5100, .inl v_placeOf)), (a_manyOf, .inl ((k 2), 5100, .inl v_manyOf)), (a_there, .inl ((k 1), 5100, .inl v_there)), (a_waitKind, .inl ((k 2), 100, .inl v_waitKind)), (a_waitMany, .inl ((k 2), 100, .inl v_waitMany)), (a_waitBytes, .inl ((k 3), 100, .inr (.inl v_waitBytes)))] H := hP
    have hD : va_D A [(h0, .inr (6, [.int o2.2, .int p1, .int 1, .ref a_disk, .ref a_made, .int 0, .int v_reserve, .int v_cutWrites, .int v_cutBytes, .int v_rows, .ref a_sectorOf, .ref a_placeOf, .ref a_manyOf, .ref a_there, .int v_waits, .ref a_waitKind, .ref a_waitMany, .ref a_waitBytes, .int v_stateNumber, .long v_stateNow, .int v_second, .int v_repaired, .int v_up, .int v_sent])), (a_disk, .inl ((k 2), 32768, .inl o3.2)), (a_made, .inl ((k 2), 512, .inl v_made)), (a_sectorOf, .inl ((k 2), 5100, .inl v_sectorOf)), (a_placeOf, .inl ((k 2), 5100, .inl v_placeOf)), (a_manyOf, .inl ((k 2), 5100, .inl v_manyOf)), (a_there, .inl ((k 1), 5100, .inl v_there)), (a_waitKind, .inl ((k 2), 100, .inl v_waitKind)), (a_waitMany, .inl ((k 2), 100, .inl v_waitMany)), (a_waitBytes, .inl ((k 3), 100, .inr (.inl v_waitBytes)))] := hD
    refine lv_aload_n hx hb dX6_format_63 rfl (lv_at hl 0 rfl) ?_
    refine lv_iconst (v := 2) hx hb dX6_format_64 (by decide) ?_
    refine va_put (D := D) (ci := 6) (v := .int 2) (ty := .int) (C := "ServiceDiskModel") (T := TX6) (N := 24) hx hb hts inX6 tyX6 tyX6_ok nmX6 hown hK hP hD hS 0 rfl rfl 6 (by decide) (hts _ w_743) (fun _ h9 => h9) rfl (by decide +kernel) rfl rfl (Nat.le_of_ble_eq_true rfl) dX6_format_65 (fun H locs hP hD hS => ?_)
    have hP : va_P D vwCl [(h0, .inr (6, [.int o2.2, .int p1, .int 1, .ref a_disk, .ref a_made, .int 0, .int 2, .int v_cutWrites, .int v_cutBytes, .int v_rows, .ref a_sectorOf, .ref a_placeOf, .ref a_manyOf, .ref a_there, .int v_waits, .ref a_waitKind, .ref a_waitMany, .ref a_waitBytes, .int v_stateNumber, .long v_stateNow, .int v_second, .int v_repaired, .int v_up, .int v_sent])), (a_disk, .inl ((k 2), 32768, .inl o3.2)), (a_made, .inl ((k 2), 512, .inl v_made)), (a_sectorOf, .inl ((k 2), 5100, .inl v_sectorOf)), (a_placeOf, .inl ((k 2), 5100, .inl v_placeOf)), (a_manyOf, .inl ((k 2), 5100, .inl v_manyOf)), (a_there, .inl ((k 1), 5100, .inl v_there)), (a_waitKind, .inl ((k 2), 100, .inl v_waitKind)), (a_waitMany, .inl ((k 2), 100, .inl v_waitMany)), (a_waitBytes, .inl ((k 3), 100, .inr (.inl v_waitBytes)))] H := hP
    have hD : va_D A [(h0, .inr (6, [.int o2.2, .int p1, .int 1, .ref a_disk, .ref a_made, .int 0, .int 2, .int v_cutWrites, .int v_cutBytes, .int v_rows, .ref a_sectorOf, .ref a_placeOf, .ref a_manyOf, .ref a_there, .int v_waits, .ref a_waitKind, .ref a_waitMany, .ref a_waitBytes, .int v_stateNumber, .long v_stateNow, .int v_second, .int v_repaired, .int v_up, .int v_sent])), (a_disk, .inl ((k 2), 32768, .inl o3.2)), (a_made, .inl ((k 2), 512, .inl v_made)), (a_sectorOf, .inl ((k 2), 5100, .inl v_sectorOf)), (a_placeOf, .inl ((k 2), 5100, .inl v_placeOf)), (a_manyOf, .inl ((k 2), 5100, .inl v_manyOf)), (a_there, .inl ((k 1), 5100, .inl v_there)), (a_waitKind, .inl ((k 2), 100, .inl v_waitKind)), (a_waitMany, .inl ((k 2), 100, .inl v_waitMany)), (a_waitBytes, .inl ((k 3), 100, .inr (.inl v_waitBytes)))] := hD
    refine lv_aload_n hx hb dX6_format_68 rfl (lv_at hl 0 rfl) ?_
    refine lv_iconst (v := -1) hx hb dX6_format_69 (by decide) ?_
    refine va_put (D := D) (ci := 6) (v := .int (-1)) (ty := .int) (C := "ServiceDiskModel") (T := TX6) (N := 24) hx hb hts inX6 tyX6 tyX6_ok nmX6 hown hK hP hD hS 0 rfl rfl 7 (by decide) (hts _ w_744) (fun _ h9 => h9) rfl (by decide +kernel) rfl rfl (Nat.le_of_ble_eq_true rfl) dX6_format_70 (fun H locs hP hD hS => ?_)
    have hP : va_P D vwCl [(h0, .inr (6, [.int o2.2, .int p1, .int 1, .ref a_disk, .ref a_made, .int 0, .int 2, .int (-1), .int v_cutBytes, .int v_rows, .ref a_sectorOf, .ref a_placeOf, .ref a_manyOf, .ref a_there, .int v_waits, .ref a_waitKind, .ref a_waitMany, .ref a_waitBytes, .int v_stateNumber, .long v_stateNow, .int v_second, .int v_repaired, .int v_up, .int v_sent])), (a_disk, .inl ((k 2), 32768, .inl o3.2)), (a_made, .inl ((k 2), 512, .inl v_made)), (a_sectorOf, .inl ((k 2), 5100, .inl v_sectorOf)), (a_placeOf, .inl ((k 2), 5100, .inl v_placeOf)), (a_manyOf, .inl ((k 2), 5100, .inl v_manyOf)), (a_there, .inl ((k 1), 5100, .inl v_there)), (a_waitKind, .inl ((k 2), 100, .inl v_waitKind)), (a_waitMany, .inl ((k 2), 100, .inl v_waitMany)), (a_waitBytes, .inl ((k 3), 100, .inr (.inl v_waitBytes)))] H := hP
    have hD : va_D A [(h0, .inr (6, [.int o2.2, .int p1, .int 1, .ref a_disk, .ref a_made, .int 0, .int 2, .int (-1), .int v_cutBytes, .int v_rows, .ref a_sectorOf, .ref a_placeOf, .ref a_manyOf, .ref a_there, .int v_waits, .ref a_waitKind, .ref a_waitMany, .ref a_waitBytes, .int v_stateNumber, .long v_stateNow, .int v_second, .int v_repaired, .int v_up, .int v_sent])), (a_disk, .inl ((k 2), 32768, .inl o3.2)), (a_made, .inl ((k 2), 512, .inl v_made)), (a_sectorOf, .inl ((k 2), 5100, .inl v_sectorOf)), (a_placeOf, .inl ((k 2), 5100, .inl v_placeOf)), (a_manyOf, .inl ((k 2), 5100, .inl v_manyOf)), (a_there, .inl ((k 1), 5100, .inl v_there)), (a_waitKind, .inl ((k 2), 100, .inl v_waitKind)), (a_waitMany, .inl ((k 2), 100, .inl v_waitMany)), (a_waitBytes, .inl ((k 3), 100, .inr (.inl v_waitBytes)))] := hD
    refine lv_aload_n hx hb dX6_format_73 rfl (lv_at hl 0 rfl) ?_
    refine lv_iconst (v := 0) hx hb dX6_format_74 (by decide) ?_
    refine va_put (D := D) (ci := 6) (v := .int 0) (ty := .int) (C := "ServiceDiskModel") (T := TX6) (N := 24) hx hb hts inX6 tyX6 tyX6_ok nmX6 hown hK hP hD hS 0 rfl rfl 9 (by decide) (hts _ w_746) (fun _ h9 => h9) rfl (by decide +kernel) rfl rfl (Nat.le_of_ble_eq_true rfl) dX6_format_75 (fun H locs hP hD hS => ?_)
    have hP : va_P D vwCl [(h0, .inr (6, [.int o2.2, .int p1, .int 1, .ref a_disk, .ref a_made, .int 0, .int 2, .int (-1), .int v_cutBytes, .int 0, .ref a_sectorOf, .ref a_placeOf, .ref a_manyOf, .ref a_there, .int v_waits, .ref a_waitKind, .ref a_waitMany, .ref a_waitBytes, .int v_stateNumber, .long v_stateNow, .int v_second, .int v_repaired, .int v_up, .int v_sent])), (a_disk, .inl ((k 2), 32768, .inl o3.2)), (a_made, .inl ((k 2), 512, .inl v_made)), (a_sectorOf, .inl ((k 2), 5100, .inl v_sectorOf)), (a_placeOf, .inl ((k 2), 5100, .inl v_placeOf)), (a_manyOf, .inl ((k 2), 5100, .inl v_manyOf)), (a_there, .inl ((k 1), 5100, .inl v_there)), (a_waitKind, .inl ((k 2), 100, .inl v_waitKind)), (a_waitMany, .inl ((k 2), 100, .inl v_waitMany)), (a_waitBytes, .inl ((k 3), 100, .inr (.inl v_waitBytes)))] H := hP
    have hD : va_D A [(h0, .inr (6, [.int o2.2, .int p1, .int 1, .ref a_disk, .ref a_made, .int 0, .int 2, .int (-1), .int v_cutBytes, .int 0, .ref a_sectorOf, .ref a_placeOf, .ref a_manyOf, .ref a_there, .int v_waits, .ref a_waitKind, .ref a_waitMany, .ref a_waitBytes, .int v_stateNumber, .long v_stateNow, .int v_second, .int v_repaired, .int v_up, .int v_sent])), (a_disk, .inl ((k 2), 32768, .inl o3.2)), (a_made, .inl ((k 2), 512, .inl v_made)), (a_sectorOf, .inl ((k 2), 5100, .inl v_sectorOf)), (a_placeOf, .inl ((k 2), 5100, .inl v_placeOf)), (a_manyOf, .inl ((k 2), 5100, .inl v_manyOf)), (a_there, .inl ((k 1), 5100, .inl v_there)), (a_waitKind, .inl ((k 2), 100, .inl v_waitKind)), (a_waitMany, .inl ((k 2), 100, .inl v_waitMany)), (a_waitBytes, .inl ((k 3), 100, .inr (.inl v_waitBytes)))] := hD
    refine lv_aload_n hx hb dX6_format_78 rfl (lv_at hl 0 rfl) ?_
    refine lv_iconst (v := 0) hx hb dX6_format_79 (by decide) ?_
    refine va_put (D := D) (ci := 6) (v := .int 0) (ty := .int) (C := "ServiceDiskModel") (T := TX6) (N := 24) hx hb hts inX6 tyX6 tyX6_ok nmX6 hown hK hP hD hS 0 rfl rfl 14 (by decide) (hts _ w_751) (fun _ h9 => h9) rfl (by decide +kernel) rfl rfl (Nat.le_of_ble_eq_true rfl) dX6_format_80 (fun H locs hP hD hS => ?_)
    have hP : va_P D vwCl [(h0, .inr (6, [.int o2.2, .int p1, .int 1, .ref a_disk, .ref a_made, .int 0, .int 2, .int (-1), .int v_cutBytes, .int 0, .ref a_sectorOf, .ref a_placeOf, .ref a_manyOf, .ref a_there, .int 0, .ref a_waitKind, .ref a_waitMany, .ref a_waitBytes, .int v_stateNumber, .long v_stateNow, .int v_second, .int v_repaired, .int v_up, .int v_sent])), (a_disk, .inl ((k 2), 32768, .inl o3.2)), (a_made, .inl ((k 2), 512, .inl v_made)), (a_sectorOf, .inl ((k 2), 5100, .inl v_sectorOf)), (a_placeOf, .inl ((k 2), 5100, .inl v_placeOf)), (a_manyOf, .inl ((k 2), 5100, .inl v_manyOf)), (a_there, .inl ((k 1), 5100, .inl v_there)), (a_waitKind, .inl ((k 2), 100, .inl v_waitKind)), (a_waitMany, .inl ((k 2), 100, .inl v_waitMany)), (a_waitBytes, .inl ((k 3), 100, .inr (.inl v_waitBytes)))] H := hP
    have hD : va_D A [(h0, .inr (6, [.int o2.2, .int p1, .int 1, .ref a_disk, .ref a_made, .int 0, .int 2, .int (-1), .int v_cutBytes, .int 0, .ref a_sectorOf, .ref a_placeOf, .ref a_manyOf, .ref a_there, .int 0, .ref a_waitKind, .ref a_waitMany, .ref a_waitBytes, .int v_stateNumber, .long v_stateNow, .int v_second, .int v_repaired, .int v_up, .int v_sent])), (a_disk, .inl ((k 2), 32768, .inl o3.2)), (a_made, .inl ((k 2), 512, .inl v_made)), (a_sectorOf, .inl ((k 2), 5100, .inl v_sectorOf)), (a_placeOf, .inl ((k 2), 5100, .inl v_placeOf)), (a_manyOf, .inl ((k 2), 5100, .inl v_manyOf)), (a_there, .inl ((k 1), 5100, .inl v_there)), (a_waitKind, .inl ((k 2), 100, .inl v_waitKind)), (a_waitMany, .inl ((k 2), 100, .inl v_waitMany)), (a_waitBytes, .inl ((k 3), 100, .inr (.inl v_waitBytes)))] := hD
    refine lv_aload_n hx hb dX6_format_83 rfl (lv_at hl 0 rfl) ?_
    refine lv_iconst (v := 0) hx hb dX6_format_84 (by decide) ?_
    refine va_put (D := D) (ci := 6) (v := .int 0) (ty := .int) (C := "ServiceDiskModel") (T := TX6) (N := 24) hx hb hts inX6 tyX6 tyX6_ok nmX6 hown hK hP hD hS 0 rfl rfl 18 (by decide) (hts _ w_755) (fun _ h9 => h9) rfl (by decide +kernel) rfl rfl (Nat.le_of_ble_eq_true rfl) dX6_format_85 (fun H locs hP hD hS => ?_)
    have hP : va_P D vwCl [(h0, .inr (6, [.int o2.2, .int p1, .int 1, .ref a_disk, .ref a_made, .int 0, .int 2, .int (-1), .int v_cutBytes, .int 0, .ref a_sectorOf, .ref a_placeOf, .ref a_manyOf, .ref a_there, .int 0, .ref a_waitKind, .ref a_waitMany, .ref a_waitBytes, .int 0, .long v_stateNow, .int v_second, .int v_repaired, .int v_up, .int v_sent])), (a_disk, .inl ((k 2), 32768, .inl o3.2)), (a_made, .inl ((k 2), 512, .inl v_made)), (a_sectorOf, .inl ((k 2), 5100, .inl v_sectorOf)), (a_placeOf, .inl ((k 2), 5100, .inl v_placeOf)), (a_manyOf, .inl ((k 2), 5100, .inl v_manyOf)), (a_there, .inl ((k 1), 5100, .inl v_there)), (a_waitKind, .inl ((k 2), 100, .inl v_waitKind)), (a_waitMany, .inl ((k 2), 100, .inl v_waitMany)), (a_waitBytes, .inl ((k 3), 100, .inr (.inl v_waitBytes)))] H := hP
    have hD : va_D A [(h0, .inr (6, [.int o2.2, .int p1, .int 1, .ref a_disk, .ref a_made, .int 0, .int 2, .int (-1), .int v_cutBytes, .int 0, .ref a_sectorOf, .ref a_placeOf, .ref a_manyOf, .ref a_there, .int 0, .ref a_waitKind, .ref a_waitMany, .ref a_waitBytes, .int 0, .long v_stateNow, .int v_second, .int v_repaired, .int v_up, .int v_sent])), (a_disk, .inl ((k 2), 32768, .inl o3.2)), (a_made, .inl ((k 2), 512, .inl v_made)), (a_sectorOf, .inl ((k 2), 5100, .inl v_sectorOf)), (a_placeOf, .inl ((k 2), 5100, .inl v_placeOf)), (a_manyOf, .inl ((k 2), 5100, .inl v_manyOf)), (a_there, .inl ((k 1), 5100, .inl v_there)), (a_waitKind, .inl ((k 2), 100, .inl v_waitKind)), (a_waitMany, .inl ((k 2), 100, .inl v_waitMany)), (a_waitBytes, .inl ((k 3), 100, .inr (.inl v_waitBytes)))] := hD
    refine lv_aload_n hx hb dX6_format_88 rfl (lv_at hl 0 rfl) ?_
    refine lv_lconst (v := 0) hx hb dX6_format_89 (by decide) ?_
    refine va_put (D := D) (ci := 6) (v := .long 0) (ty := .long) (C := "ServiceDiskModel") (T := TX6) (N := 24) hx hb hts inX6 tyX6 tyX6_ok nmX6 hown hK hP hD hS 0 rfl rfl 19 (by decide) (hts _ w_756) (fun _ h9 => h9) rfl (by decide +kernel) rfl rfl (Nat.le_of_ble_eq_true rfl) dX6_format_90 (fun H locs hP hD hS => ?_)
    have hP : va_P D vwCl [(h0, .inr (6, [.int o2.2, .int p1, .int 1, .ref a_disk, .ref a_made, .int 0, .int 2, .int (-1), .int v_cutBytes, .int 0, .ref a_sectorOf, .ref a_placeOf, .ref a_manyOf, .ref a_there, .int 0, .ref a_waitKind, .ref a_waitMany, .ref a_waitBytes, .int 0, .long 0, .int v_second, .int v_repaired, .int v_up, .int v_sent])), (a_disk, .inl ((k 2), 32768, .inl o3.2)), (a_made, .inl ((k 2), 512, .inl v_made)), (a_sectorOf, .inl ((k 2), 5100, .inl v_sectorOf)), (a_placeOf, .inl ((k 2), 5100, .inl v_placeOf)), (a_manyOf, .inl ((k 2), 5100, .inl v_manyOf)), (a_there, .inl ((k 1), 5100, .inl v_there)), (a_waitKind, .inl ((k 2), 100, .inl v_waitKind)), (a_waitMany, .inl ((k 2), 100, .inl v_waitMany)), (a_waitBytes, .inl ((k 3), 100, .inr (.inl v_waitBytes)))] H := hP
    have hD : va_D A [(h0, .inr (6, [.int o2.2, .int p1, .int 1, .ref a_disk, .ref a_made, .int 0, .int 2, .int (-1), .int v_cutBytes, .int 0, .ref a_sectorOf, .ref a_placeOf, .ref a_manyOf, .ref a_there, .int 0, .ref a_waitKind, .ref a_waitMany, .ref a_waitBytes, .int 0, .long 0, .int v_second, .int v_repaired, .int v_up, .int v_sent])), (a_disk, .inl ((k 2), 32768, .inl o3.2)), (a_made, .inl ((k 2), 512, .inl v_made)), (a_sectorOf, .inl ((k 2), 5100, .inl v_sectorOf)), (a_placeOf, .inl ((k 2), 5100, .inl v_placeOf)), (a_manyOf, .inl ((k 2), 5100, .inl v_manyOf)), (a_there, .inl ((k 1), 5100, .inl v_there)), (a_waitKind, .inl ((k 2), 100, .inl v_waitKind)), (a_waitMany, .inl ((k 2), 100, .inl v_waitMany)), (a_waitBytes, .inl ((k 3), 100, .inr (.inl v_waitBytes)))] := hD
    refine lv_aload_n hx hb dX6_format_93 rfl (lv_at hl 0 rfl) ?_
    refine lv_iconst (v := 0) hx hb dX6_format_94 (by decide) ?_
    refine va_put (D := D) (ci := 6) (v := .int 0) (ty := .int) (C := "ServiceDiskModel") (T := TX6) (N := 24) hx hb hts inX6 tyX6 tyX6_ok nmX6 hown hK hP hD hS 0 rfl rfl 20 (by decide) (hts _ w_757) (fun _ h9 => h9) rfl (by decide +kernel) rfl rfl (Nat.le_of_ble_eq_true rfl) dX6_format_95 (fun H locs hP hD hS => ?_)
    have hP : va_P D vwCl [(h0, .inr (6, [.int o2.2, .int p1, .int 1, .ref a_disk, .ref a_made, .int 0, .int 2, .int (-1), .int v_cutBytes, .int 0, .ref a_sectorOf, .ref a_placeOf, .ref a_manyOf, .ref a_there, .int 0, .ref a_waitKind, .ref a_waitMany, .ref a_waitBytes, .int 0, .long 0, .int 0, .int v_repaired, .int v_up, .int v_sent])), (a_disk, .inl ((k 2), 32768, .inl o3.2)), (a_made, .inl ((k 2), 512, .inl v_made)), (a_sectorOf, .inl ((k 2), 5100, .inl v_sectorOf)), (a_placeOf, .inl ((k 2), 5100, .inl v_placeOf)), (a_manyOf, .inl ((k 2), 5100, .inl v_manyOf)), (a_there, .inl ((k 1), 5100, .inl v_there)), (a_waitKind, .inl ((k 2), 100, .inl v_waitKind)), (a_waitMany, .inl ((k 2), 100, .inl v_waitMany)), (a_waitBytes, .inl ((k 3), 100, .inr (.inl v_waitBytes)))] H := hP
    have hD : va_D A [(h0, .inr (6, [.int o2.2, .int p1, .int 1, .ref a_disk, .ref a_made, .int 0, .int 2, .int (-1), .int v_cutBytes, .int 0, .ref a_sectorOf, .ref a_placeOf, .ref a_manyOf, .ref a_there, .int 0, .ref a_waitKind, .ref a_waitMany, .ref a_waitBytes, .int 0, .long 0, .int 0, .int v_repaired, .int v_up, .int v_sent])), (a_disk, .inl ((k 2), 32768, .inl o3.2)), (a_made, .inl ((k 2), 512, .inl v_made)), (a_sectorOf, .inl ((k 2), 5100, .inl v_sectorOf)), (a_placeOf, .inl ((k 2), 5100, .inl v_placeOf)), (a_manyOf, .inl ((k 2), 5100, .inl v_manyOf)), (a_there, .inl ((k 1), 5100, .inl v_there)), (a_waitKind, .inl ((k 2), 100, .inl v_waitKind)), (a_waitMany, .inl ((k 2), 100, .inl v_waitMany)), (a_waitBytes, .inl ((k 3), 100, .inr (.inl v_waitBytes)))] := hD
    refine lv_aload_n hx hb dX6_format_98 rfl (lv_at hl 0 rfl) ?_
    refine lv_iconst (v := 0) hx hb dX6_format_99 (by decide) ?_
    refine va_put (D := D) (ci := 6) (v := .int 0) (ty := .int) (C := "ServiceDiskModel") (T := TX6) (N := 24) hx hb hts inX6 tyX6 tyX6_ok nmX6 hown hK hP hD hS 0 rfl rfl 21 (by decide) (hts _ w_758) (fun _ h9 => h9) rfl (by decide +kernel) rfl rfl (Nat.le_of_ble_eq_true rfl) dX6_format_100 (fun H locs hP hD hS => ?_)
    have hP : va_P D vwCl [(h0, .inr (6, [.int o2.2, .int p1, .int 1, .ref a_disk, .ref a_made, .int 0, .int 2, .int (-1), .int v_cutBytes, .int 0, .ref a_sectorOf, .ref a_placeOf, .ref a_manyOf, .ref a_there, .int 0, .ref a_waitKind, .ref a_waitMany, .ref a_waitBytes, .int 0, .long 0, .int 0, .int 0, .int v_up, .int v_sent])), (a_disk, .inl ((k 2), 32768, .inl o3.2)), (a_made, .inl ((k 2), 512, .inl v_made)), (a_sectorOf, .inl ((k 2), 5100, .inl v_sectorOf)), (a_placeOf, .inl ((k 2), 5100, .inl v_placeOf)), (a_manyOf, .inl ((k 2), 5100, .inl v_manyOf)), (a_there, .inl ((k 1), 5100, .inl v_there)), (a_waitKind, .inl ((k 2), 100, .inl v_waitKind)), (a_waitMany, .inl ((k 2), 100, .inl v_waitMany)), (a_waitBytes, .inl ((k 3), 100, .inr (.inl v_waitBytes)))] H := hP
    have hD : va_D A [(h0, .inr (6, [.int o2.2, .int p1, .int 1, .ref a_disk, .ref a_made, .int 0, .int 2, .int (-1), .int v_cutBytes, .int 0, .ref a_sectorOf, .ref a_placeOf, .ref a_manyOf, .ref a_there, .int 0, .ref a_waitKind, .ref a_waitMany, .ref a_waitBytes, .int 0, .long 0, .int 0, .int 0, .int v_up, .int v_sent])), (a_disk, .inl ((k 2), 32768, .inl o3.2)), (a_made, .inl ((k 2), 512, .inl v_made)), (a_sectorOf, .inl ((k 2), 5100, .inl v_sectorOf)), (a_placeOf, .inl ((k 2), 5100, .inl v_placeOf)), (a_manyOf, .inl ((k 2), 5100, .inl v_manyOf)), (a_there, .inl ((k 1), 5100, .inl v_there)), (a_waitKind, .inl ((k 2), 100, .inl v_waitKind)), (a_waitMany, .inl ((k 2), 100, .inl v_waitMany)), (a_waitBytes, .inl ((k 3), 100, .inr (.inl v_waitBytes)))] := hD
    refine lv_aload_n hx hb dX6_format_103 rfl (lv_at hl 0 rfl) ?_
    refine lv_iconst (v := 1) hx hb dX6_format_104 (by decide) ?_
    refine va_put (D := D) (ci := 6) (v := .int 1) (ty := .boolean) (C := "ServiceDiskModel") (T := TX6) (N := 24) hx hb hts inX6 tyX6 tyX6_ok nmX6 hown hK hP hD hS 0 rfl rfl 22 (by decide) (hts _ w_759) (fun _ h9 => h9) rfl (by decide +kernel) rfl rfl (Nat.le_of_ble_eq_true rfl) dX6_format_105 (fun H locs hP hD hS => ?_)
    have hP : va_P D vwCl [(h0, .inr (6, [.int o2.2, .int p1, .int 1, .ref a_disk, .ref a_made, .int 0, .int 2, .int (-1), .int v_cutBytes, .int 0, .ref a_sectorOf, .ref a_placeOf, .ref a_manyOf, .ref a_there, .int 0, .ref a_waitKind, .ref a_waitMany, .ref a_waitBytes, .int 0, .long 0, .int 0, .int 0, .int 1, .int v_sent])), (a_disk, .inl ((k 2), 32768, .inl o3.2)), (a_made, .inl ((k 2), 512, .inl v_made)), (a_sectorOf, .inl ((k 2), 5100, .inl v_sectorOf)), (a_placeOf, .inl ((k 2), 5100, .inl v_placeOf)), (a_manyOf, .inl ((k 2), 5100, .inl v_manyOf)), (a_there, .inl ((k 1), 5100, .inl v_there)), (a_waitKind, .inl ((k 2), 100, .inl v_waitKind)), (a_waitMany, .inl ((k 2), 100, .inl v_waitMany)), (a_waitBytes, .inl ((k 3), 100, .inr (.inl v_waitBytes)))] H := hP
    have hD : va_D A [(h0, .inr (6, [.int o2.2, .int p1, .int 1, .ref a_disk, .ref a_made, .int 0, .int 2, .int (-1), .int v_cutBytes, .int 0, .ref a_sectorOf, .ref a_placeOf, .ref a_manyOf, .ref a_there, .int 0, .ref a_waitKind, .ref a_waitMany, .ref a_waitBytes, .int 0, .long 0, .int 0, .int 0, .int 1, .int v_sent])), (a_disk, .inl ((k 2), 32768, .inl o3.2)), (a_made, .inl ((k 2), 512, .inl v_made)), (a_sectorOf, .inl ((k 2), 5100, .inl v_sectorOf)), (a_placeOf, .inl ((k 2), 5100, .inl v_placeOf)), (a_manyOf, .inl ((k 2), 5100, .inl v_manyOf)), (a_there, .inl ((k 1), 5100, .inl v_there)), (a_waitKind, .inl ((k 2), 100, .inl v_waitKind)), (a_waitMany, .inl ((k 2), 100, .inl v_waitMany)), (a_waitBytes, .inl ((k 3), 100, .inr (.inl v_waitBytes)))] := hD
    refine lv_aload_n hx hb dX6_format_108 rfl (lv_at hl 0 rfl) ?_
    refine lv_iconst (v := 0) hx hb dX6_format_109 (by decide) ?_
    refine va_put (D := D) (ci := 6) (v := .int 0) (ty := .int) (C := "ServiceDiskModel") (T := TX6) (N := 24) hx hb hts inX6 tyX6 tyX6_ok nmX6 hown hK hP hD hS 0 rfl rfl 23 (by decide) (hts _ w_760) (fun _ h9 => h9) rfl (by decide +kernel) rfl rfl (Nat.le_of_ble_eq_true rfl) dX6_format_110 (fun H locs hP hD hS => ?_)
    have hP : va_P D vwCl [(h0, .inr (6, [.int o2.2, .int p1, .int 1, .ref a_disk, .ref a_made, .int 0, .int 2, .int (-1), .int v_cutBytes, .int 0, .ref a_sectorOf, .ref a_placeOf, .ref a_manyOf, .ref a_there, .int 0, .ref a_waitKind, .ref a_waitMany, .ref a_waitBytes, .int 0, .long 0, .int 0, .int 0, .int 1, .int 0])), (a_disk, .inl ((k 2), 32768, .inl o3.2)), (a_made, .inl ((k 2), 512, .inl v_made)), (a_sectorOf, .inl ((k 2), 5100, .inl v_sectorOf)), (a_placeOf, .inl ((k 2), 5100, .inl v_placeOf)), (a_manyOf, .inl ((k 2), 5100, .inl v_manyOf)), (a_there, .inl ((k 1), 5100, .inl v_there)), (a_waitKind, .inl ((k 2), 100, .inl v_waitKind)), (a_waitMany, .inl ((k 2), 100, .inl v_waitMany)), (a_waitBytes, .inl ((k 3), 100, .inr (.inl v_waitBytes)))] H := hP
    have hD : va_D A [(h0, .inr (6, [.int o2.2, .int p1, .int 1, .ref a_disk, .ref a_made, .int 0, .int 2, .int (-1), .int v_cutBytes, .int 0, .ref a_sectorOf, .ref a_placeOf, .ref a_manyOf, .ref a_there, .int 0, .ref a_waitKind, .ref a_waitMany, .ref a_waitBytes, .int 0, .long 0, .int 0, .int 0, .int 1, .int 0])), (a_disk, .inl ((k 2), 32768, .inl o3.2)), (a_made, .inl ((k 2), 512, .inl v_made)), (a_sectorOf, .inl ((k 2), 5100, .inl v_sectorOf)), (a_placeOf, .inl ((k 2), 5100, .inl v_placeOf)), (a_manyOf, .inl ((k 2), 5100, .inl v_manyOf)), (a_there, .inl ((k 1), 5100, .inl v_there)), (a_waitKind, .inl ((k 2), 100, .inl v_waitKind)), (a_waitMany, .inl ((k 2), 100, .inl v_waitMany)), (a_waitBytes, .inl ((k 3), 100, .inr (.inl v_waitBytes)))] := hD
    refine lv_iconst (v := 0) hx hb dX6_format_113 (by decide) ?_
    refine lv_istore_n (lv' := [(2, .int 0), (0, .ref h0)]) hx hb dX6_format_114 rfl hl (by decide) rfl (fun ls hl => ?_)
    replace h := dk_b h
    obtain ⟨o4, e4, h⟩ := h
    refine lX6_format_115 C hK hN hA _ 0 v_there  e4 (fun H locs hP hD hS ls hl => ?_) _ _ (hP.sub [0, 1, 2, 3, 4, 5, 6, 7, 8, 9] rfl) (hD.sub [0, 1, 2, 3, 4, 5, 6, 7, 8, 9] (by decide) rfl) hS ls (lv_sub hl [1, 0] rfl)
    have hP : va_P D vwCl [(h0, .inr (6, [.int o2.2, .int p1, .int 1, .ref a_disk, .ref a_made, .int 0, .int 2, .int (-1), .int v_cutBytes, .int 0, .ref a_sectorOf, .ref a_placeOf, .ref a_manyOf, .ref a_there, .int 0, .ref a_waitKind, .ref a_waitMany, .ref a_waitBytes, .int 0, .long 0, .int 0, .int 0, .int 1, .int 0])), (a_disk, .inl ((k 2), 32768, .inl o3.2)), (a_made, .inl ((k 2), 512, .inl v_made)), (a_sectorOf, .inl ((k 2), 5100, .inl v_sectorOf)), (a_placeOf, .inl ((k 2), 5100, .inl v_placeOf)), (a_manyOf, .inl ((k 2), 5100, .inl v_manyOf)), (a_there, .inl ((k 1), 5100, .inl o4.2)), (a_waitKind, .inl ((k 2), 100, .inl v_waitKind)), (a_waitMany, .inl ((k 2), 100, .inl v_waitMany)), (a_waitBytes, .inl ((k 3), 100, .inr (.inl v_waitBytes)))] H := hP
    have hD : va_D A [(h0, .inr (6, [.int o2.2, .int p1, .int 1, .ref a_disk, .ref a_made, .int 0, .int 2, .int (-1), .int v_cutBytes, .int 0, .ref a_sectorOf, .ref a_placeOf, .ref a_manyOf, .ref a_there, .int 0, .ref a_waitKind, .ref a_waitMany, .ref a_waitBytes, .int 0, .long 0, .int 0, .int 0, .int 1, .int 0])), (a_disk, .inl ((k 2), 32768, .inl o3.2)), (a_made, .inl ((k 2), 512, .inl v_made)), (a_sectorOf, .inl ((k 2), 5100, .inl v_sectorOf)), (a_placeOf, .inl ((k 2), 5100, .inl v_placeOf)), (a_manyOf, .inl ((k 2), 5100, .inl v_manyOf)), (a_there, .inl ((k 1), 5100, .inl o4.2)), (a_waitKind, .inl ((k 2), 100, .inl v_waitKind)), (a_waitMany, .inl ((k 2), 100, .inl v_waitMany)), (a_waitBytes, .inl ((k 3), 100, .inr (.inl v_waitBytes)))] := hD
    have hl : lv_has ls 3 [(0, .ref h0), (2, .int o4.1)] := hl
    have h := dk_r h
    subst h
    exact dk_rwv hx hb hr hlocks (hP.sub [0, 1, 2, 3, 4, 5, 6, 7, 8, 9] rfl) (hD.sub [0, 1, 2, 3, 4, 5, 6, 7, 8, 9] (by decide) rfl) hS dX6_format_135
  · replace h := dk_f q h
    have h := dk_r h
    subst h
    exact dk_rwv hx hb hr hlocks (hP.sub [0, 1, 2, 3, 4, 5, 6, 7, 8, 9] rfl) (hD.sub [0, 1, 2, 3, 4, 5, 6, 7, 8, 9] (by decide) rfl) hS dX6_format_26
/-! ServiceDiskModel.reserve(I)V: rw, frames 1, locals 24 -/
def fX6_reserve (v_power : Int32) (v_reserve : Int32) (p1 : Int32) : Option (Int32 × Int32) :=
  (fX6_in p1 0 8).bind fun o1 =>
  (fX6_throwing (if o1 = 0 then 1 else 0) (if v_power = 0 then 1 else 0) 0 0).bind fun o2 =>
  if o2.1 = 0 then
    some (o2.2, p1)
  else
    some (o2.2, v_reserve)
set_option maxHeartbeats 4000000 in
set_option maxRecDepth 100000 in
theorem mX6_reserve (l : Launch) (D : va_G) (k : Nat → ClassId) (h0 a_disk a_made a_sectorOf a_placeOf a_manyOf a_there a_waitKind a_waitMany a_waitBytes : Nat) (sz : Nat) (v_thrown : Int32) (v_sectors : Int32) (v_power : Int32) (v_used : Int32) (v_reserve : Int32) (v_cutWrites : Int32) (v_cutBytes : Int32) (v_rows : Int32) (v_waits : Int32) (v_stateNumber : Int32) (v_stateNow : Int64) (v_second : Int32) (v_repaired : Int32) (v_up : Int32) (v_sent : Int32) (v_disk : Nat → Int32) (v_made : Nat → Int32) (v_sectorOf : Nat → Int32) (v_placeOf : Nat → Int32) (v_manyOf : Nat → Int32) (v_there : Nat → Int32) (v_waitKind : Nat → Int32) (v_waitMany : Nat → Int32) (v_waitBytes : Nat → Int64) (p1 : Int32) (o : Int32 × Int32) (h : fX6_reserve v_power v_reserve p1 = some o) : Met l yX6_reserve wsX6_reserve { frames := 1, cells := 0, slots := 0, locals := 24 } (dk_Pw D k [.ref h0, .int p1] [(h0, .inr (6, [.int v_thrown, .int v_sectors, .int v_power, .ref a_disk, .ref a_made, .int v_used, .int v_reserve, .int v_cutWrites, .int v_cutBytes, .int v_rows, .ref a_sectorOf, .ref a_placeOf, .ref a_manyOf, .ref a_there, .int v_waits, .ref a_waitKind, .ref a_waitMany, .ref a_waitBytes, .int v_stateNumber, .long v_stateNow, .int v_second, .int v_repaired, .int v_up, .int v_sent])), (a_disk, .inl ((k 2), 32768, .inl v_disk)), (a_made, .inl ((k 2), 512, .inl v_made)), (a_sectorOf, .inl ((k 2), 5100, .inl v_sectorOf)), (a_placeOf, .inl ((k 2), 5100, .inl v_placeOf)), (a_manyOf, .inl ((k 2), 5100, .inl v_manyOf)), (a_there, .inl ((k 1), 5100, .inl v_there)), (a_waitKind, .inl ((k 2), 100, .inl v_waitKind)), (a_waitMany, .inl ((k 2), 100, .inl v_waitMany)), (a_waitBytes, .inl ((k 3), 100, .inr (.inl v_waitBytes)))] sz) (dk_Qv D [(h0, .inr (6, [.int o.1, .int v_sectors, .int v_power, .ref a_disk, .ref a_made, .int v_used, .int o.2, .int v_cutWrites, .int v_cutBytes, .int v_rows, .ref a_sectorOf, .ref a_placeOf, .ref a_manyOf, .ref a_there, .int v_waits, .ref a_waitKind, .ref a_waitMany, .ref a_waitBytes, .int v_stateNumber, .long v_stateNow, .int v_second, .int v_repaired, .int v_up, .int v_sent])), (a_disk, .inl ((k 2), 32768, .inl v_disk)), (a_made, .inl ((k 2), 512, .inl v_made)), (a_sectorOf, .inl ((k 2), 5100, .inl v_sectorOf)), (a_placeOf, .inl ((k 2), 5100, .inl v_placeOf)), (a_manyOf, .inl ((k 2), 5100, .inl v_manyOf)), (a_there, .inl ((k 1), 5100, .inl v_there)), (a_waitKind, .inl ((k 2), 100, .inl v_waitKind)), (a_waitMany, .inl ((k 2), 100, .inl v_waitMany)), (a_waitBytes, .inl ((k 3), 100, .inr (.inl v_waitBytes)))] (va_A [(h0, .inr (6, [.int v_thrown, .int v_sectors, .int v_power, .ref a_disk, .ref a_made, .int v_used, .int v_reserve, .int v_cutWrites, .int v_cutBytes, .int v_rows, .ref a_sectorOf, .ref a_placeOf, .ref a_manyOf, .ref a_there, .int v_waits, .ref a_waitKind, .ref a_waitMany, .ref a_waitBytes, .int v_stateNumber, .long v_stateNow, .int v_second, .int v_repaired, .int v_up, .int v_sent])), (a_disk, .inl ((k 2), 32768, .inl v_disk)), (a_made, .inl ((k 2), 512, .inl v_made)), (a_sectorOf, .inl ((k 2), 5100, .inl v_sectorOf)), (a_placeOf, .inl ((k 2), 5100, .inl v_placeOf)), (a_manyOf, .inl ((k 2), 5100, .inl v_manyOf)), (a_there, .inl ((k 1), 5100, .inl v_there)), (a_waitKind, .inl ((k 2), 100, .inl v_waitKind)), (a_waitMany, .inl ((k 2), 100, .inl v_waitMany)), (a_waitBytes, .inl ((k 3), 100, .inr (.inl v_waitBytes)))] sz)) 0 0 (va_A [(h0, .inr (6, [.int v_thrown, .int v_sectors, .int v_power, .ref a_disk, .ref a_made, .int v_used, .int v_reserve, .int v_cutWrites, .int v_cutBytes, .int v_rows, .ref a_sectorOf, .ref a_placeOf, .ref a_manyOf, .ref a_there, .int v_waits, .ref a_waitKind, .ref a_waitMany, .ref a_waitBytes, .int v_stateNumber, .long v_stateNow, .int v_second, .int v_repaired, .int v_up, .int v_sent])), (a_disk, .inl ((k 2), 32768, .inl v_disk)), (a_made, .inl ((k 2), 512, .inl v_made)), (a_sectorOf, .inl ((k 2), 5100, .inl v_sectorOf)), (a_placeOf, .inl ((k 2), 5100, .inl v_placeOf)), (a_manyOf, .inl ((k 2), 5100, .inl v_manyOf)), (a_there, .inl ((k 1), 5100, .inl v_there)), (a_waitKind, .inl ((k 2), 100, .inl v_waitKind)), (a_waitMany, .inl ((k 2), 100, .inl v_waitMany)), (a_waitBytes, .inl ((k 3), 100, .inr (.inl v_waitBytes)))] sz) := by
  unfold fX6_reserve at h
  refine dk_ofW (Qc := fun A => dk_Qv D [(h0, .inr (6, [.int o.1, .int v_sectors, .int v_power, .ref a_disk, .ref a_made, .int v_used, .int o.2, .int v_cutWrites, .int v_cutBytes, .int v_rows, .ref a_sectorOf, .ref a_placeOf, .ref a_manyOf, .ref a_there, .int v_waits, .ref a_waitKind, .ref a_waitMany, .ref a_waitBytes, .int v_stateNumber, .long v_stateNow, .int v_second, .int v_repaired, .int v_up, .int v_sent])), (a_disk, .inl ((k 2), 32768, .inl v_disk)), (a_made, .inl ((k 2), 512, .inl v_made)), (a_sectorOf, .inl ((k 2), 5100, .inl v_sectorOf)), (a_placeOf, .inl ((k 2), 5100, .inl v_placeOf)), (a_manyOf, .inl ((k 2), 5100, .inl v_manyOf)), (a_there, .inl ((k 1), 5100, .inl v_there)), (a_waitKind, .inl ((k 2), 100, .inl v_waitKind)), (a_waitMany, .inl ((k 2), 100, .inl v_waitMany)), (a_waitBytes, .inl ((k 3), 100, .inr (.inl v_waitBytes)))] A) (cc := cX6_reserve) (maxL := 2) (ret := none) (lv := [(0, .ref h0), (1, .int p1)]) (by decide) rfl (Nat.le_of_ble_eq_true rfl) rfl ?_
  intro p e s m below meth c C hK hN hP A hA hD hS ls hl
  obtain ⟨hx, hb, hr, hml, hown, hts, hlocks⟩ := id C
  refine lv_aload_n hx hb dX6_reserve_0 rfl (lv_at hl 0 rfl) ?_
  refine lv_iload_n hx hb dX6_reserve_1 rfl (lv_at hl 1 rfl) ?_
  refine lv_iconst (v := 0) hx hb dX6_reserve_2 (by decide) ?_
  refine lv_bipush (v := 8) hx hb dX6_reserve_3 (by decide) ?_
  replace h := dk_b h
  obtain ⟨o1, e1, h⟩ := h
  refine dk_cri (va_runS (As := [.int p1, .int 0, .int 8]) (rest := [.ref h0]) ⟨hx, hb, hml, hown, hts⟩ (mX6_in l D k p1 0 8 o1 e1) (va_cwS 3 hts (dk_gS w_818 w_819 w_46 w_820) rfl rfl rfl (by decide +kernel) ⟨Nat.le_of_ble_eq_true rfl, Nat.le_of_ble_eq_true rfl⟩) (dk_psr hK hN hP [] rfl) rfl rfl hl.1 rfl (lv_room (Nat.le_of_ble_eq_true rfl)) dX6_reserve_5 ⟨Nat.le_of_ble_eq_true rfl, Nat.le_of_ble_eq_true rfl⟩) ?_
  refine dk_jn (F0 m 16 ls [.int (if o1 = 0 then 1 else 0), .ref h0]) (fun K => ?_) ?_
  · refine lv_if_ne (tgt := 15) hx hb dX6_reserve_8 (by decide) (fun q1 => ?_) (fun q1 => ?_)
    · refine lv_iconst (v := 0) hx hb dX6_reserve_15 (by decide) ?_
      have K := K
      rw [if_neg q1] at K
      exact K
    · refine lv_iconst (v := 1) hx hb dX6_reserve_11 (by decide) ?_
      refine lv_goto (tgt := 16) hx hb dX6_reserve_12 (by decide) ?_
      have K := K
      rw [if_pos q1] at K
      exact K
  refine lv_aload_n hx hb dX6_reserve_16 rfl (lv_at hl 0 rfl) ?_
  refine va_get (D := D) (ci := 6) (v := .int v_power) (C := "ServiceDiskModel") (T := TX6) (N := 24) hx hb hts inX6 hown hK hP 0 rfl rfl 2 (by decide) (hts _ w_739) (fun _ h9 => h9) rfl dX6_reserve_17 ?_
  refine dk_jn (F0 m 28 ls [.int (if v_power = 0 then 1 else 0), .int (if o1 = 0 then 1 else 0), .ref h0]) (fun K => ?_) ?_
  · refine lv_if_ne (tgt := 27) hx hb dX6_reserve_20 (by decide) (fun q1 => ?_) (fun q1 => ?_)
    · refine lv_iconst (v := 0) hx hb dX6_reserve_27 (by decide) ?_
      have K := K
      rw [if_neg q1] at K
      exact K
    · refine lv_iconst (v := 1) hx hb dX6_reserve_23 (by decide) ?_
      refine lv_goto (tgt := 28) hx hb dX6_reserve_24 (by decide) ?_
      have K := K
      rw [if_pos q1] at K
      exact K
  refine lv_iconst (v := 0) hx hb dX6_reserve_28 (by decide) ?_
  refine lv_iconst (v := 0) hx hb dX6_reserve_29 (by decide) ?_
  replace h := dk_b h
  obtain ⟨o2, e2, h⟩ := h
  refine dk_cwi (wr := []) (va_runV (As := [.int (if o1 = 0 then 1 else 0), .int (if v_power = 0 then 1 else 0), .int 0, .int 0]) (rest := []) ⟨hx, hb, hml, hown, hts⟩ (mX6_throwing l D k h0 a_disk a_made a_sectorOf a_placeOf a_manyOf a_there a_waitKind a_waitMany a_waitBytes s.heap.size v_thrown v_sectors v_power v_used v_reserve v_cutWrites v_cutBytes v_rows v_waits v_stateNumber v_stateNow v_second v_repaired v_up v_sent v_disk v_made v_sectorOf v_placeOf v_manyOf v_there v_waitKind v_waitMany v_waitBytes (if o1 = 0 then 1 else 0) (if v_power = 0 then 1 else 0) 0 0 o2 e2) (cwV 4 hts (dk_gV w_821 w_823 w_20 w_46 w_824) rfl rfl rfl (by decide +kernel) ⟨Nat.le_of_ble_eq_true rfl, Nat.le_of_ble_eq_true rfl⟩) (dk_pvw hK hN hP hD [0, 1, 2, 3, 4, 5, 6, 7, 8, 9] rfl rfl rfl rfl (hP.sub [0, 1, 2, 3, 4, 5, 6, 7, 8, 9] rfl)) rfl rfl hl.1 rfl (lv_room (Nat.le_of_ble_eq_true rfl)) dX6_reserve_30 ⟨Nat.le_of_ble_eq_true rfl, Nat.le_of_ble_eq_true rfl⟩) hP hD hS hA [0, 1, 2, 3, 4, 5, 6, 7, 8, 9] [] rfl rfl rfl (by decide) (fun H locs hP hD hS => ?_)
  have hP : va_P D vwCl [(h0, .inr (6, [.int o2.2, .int v_sectors, .int v_power, .ref a_disk, .ref a_made, .int v_used, .int v_reserve, .int v_cutWrites, .int v_cutBytes, .int v_rows, .ref a_sectorOf, .ref a_placeOf, .ref a_manyOf, .ref a_there, .int v_waits, .ref a_waitKind, .ref a_waitMany, .ref a_waitBytes, .int v_stateNumber, .long v_stateNow, .int v_second, .int v_repaired, .int v_up, .int v_sent])), (a_disk, .inl ((k 2), 32768, .inl v_disk)), (a_made, .inl ((k 2), 512, .inl v_made)), (a_sectorOf, .inl ((k 2), 5100, .inl v_sectorOf)), (a_placeOf, .inl ((k 2), 5100, .inl v_placeOf)), (a_manyOf, .inl ((k 2), 5100, .inl v_manyOf)), (a_there, .inl ((k 1), 5100, .inl v_there)), (a_waitKind, .inl ((k 2), 100, .inl v_waitKind)), (a_waitMany, .inl ((k 2), 100, .inl v_waitMany)), (a_waitBytes, .inl ((k 3), 100, .inr (.inl v_waitBytes)))] H := hP
  have hD : va_D A [(h0, .inr (6, [.int o2.2, .int v_sectors, .int v_power, .ref a_disk, .ref a_made, .int v_used, .int v_reserve, .int v_cutWrites, .int v_cutBytes, .int v_rows, .ref a_sectorOf, .ref a_placeOf, .ref a_manyOf, .ref a_there, .int v_waits, .ref a_waitKind, .ref a_waitMany, .ref a_waitBytes, .int v_stateNumber, .long v_stateNow, .int v_second, .int v_repaired, .int v_up, .int v_sent])), (a_disk, .inl ((k 2), 32768, .inl v_disk)), (a_made, .inl ((k 2), 512, .inl v_made)), (a_sectorOf, .inl ((k 2), 5100, .inl v_sectorOf)), (a_placeOf, .inl ((k 2), 5100, .inl v_placeOf)), (a_manyOf, .inl ((k 2), 5100, .inl v_manyOf)), (a_there, .inl ((k 1), 5100, .inl v_there)), (a_waitKind, .inl ((k 2), 100, .inl v_waitKind)), (a_waitMany, .inl ((k 2), 100, .inl v_waitMany)), (a_waitBytes, .inl ((k 3), 100, .inr (.inl v_waitBytes)))] := hD
  refine lv_if_eq (tgt := 37) hx hb dX6_reserve_33 (by decide) (fun q => ?_) (fun q => ?_)
  · replace h := dk_t q h
    refine lv_aload_n hx hb dX6_reserve_37 rfl (lv_at hl 0 rfl) ?_
    refine lv_iload_n hx hb dX6_reserve_38 rfl (lv_at hl 1 rfl) ?_
    refine va_put (D := D) (ci := 6) (v := .int p1) (ty := .int) (C := "ServiceDiskModel") (T := TX6) (N := 24) hx hb hts inX6 tyX6 tyX6_ok nmX6 hown hK hP hD hS 0 rfl rfl 6 (by decide) (hts _ w_743) (fun _ h9 => h9) rfl (by decide +kernel) rfl rfl (Nat.le_of_ble_eq_true rfl) dX6_reserve_39 (fun H locs hP hD hS => ?_)
    have hP : va_P D vwCl [(h0, .inr (6, [.int o2.2, .int v_sectors, .int v_power, .ref a_disk, .ref a_made, .int v_used, .int p1, .int v_cutWrites, .int v_cutBytes, .int v_rows, .ref a_sectorOf, .ref a_placeOf, .ref a_manyOf, .ref a_there, .int v_waits, .ref a_waitKind, .ref a_waitMany, .ref a_waitBytes, .int v_stateNumber, .long v_stateNow, .int v_second, .int v_repaired, .int v_up, .int v_sent])), (a_disk, .inl ((k 2), 32768, .inl v_disk)), (a_made, .inl ((k 2), 512, .inl v_made)), (a_sectorOf, .inl ((k 2), 5100, .inl v_sectorOf)), (a_placeOf, .inl ((k 2), 5100, .inl v_placeOf)), (a_manyOf, .inl ((k 2), 5100, .inl v_manyOf)), (a_there, .inl ((k 1), 5100, .inl v_there)), (a_waitKind, .inl ((k 2), 100, .inl v_waitKind)), (a_waitMany, .inl ((k 2), 100, .inl v_waitMany)), (a_waitBytes, .inl ((k 3), 100, .inr (.inl v_waitBytes)))] H := hP
    have hD : va_D A [(h0, .inr (6, [.int o2.2, .int v_sectors, .int v_power, .ref a_disk, .ref a_made, .int v_used, .int p1, .int v_cutWrites, .int v_cutBytes, .int v_rows, .ref a_sectorOf, .ref a_placeOf, .ref a_manyOf, .ref a_there, .int v_waits, .ref a_waitKind, .ref a_waitMany, .ref a_waitBytes, .int v_stateNumber, .long v_stateNow, .int v_second, .int v_repaired, .int v_up, .int v_sent])), (a_disk, .inl ((k 2), 32768, .inl v_disk)), (a_made, .inl ((k 2), 512, .inl v_made)), (a_sectorOf, .inl ((k 2), 5100, .inl v_sectorOf)), (a_placeOf, .inl ((k 2), 5100, .inl v_placeOf)), (a_manyOf, .inl ((k 2), 5100, .inl v_manyOf)), (a_there, .inl ((k 1), 5100, .inl v_there)), (a_waitKind, .inl ((k 2), 100, .inl v_waitKind)), (a_waitMany, .inl ((k 2), 100, .inl v_waitMany)), (a_waitBytes, .inl ((k 3), 100, .inr (.inl v_waitBytes)))] := hD
    have h := dk_r h
    subst h
    exact dk_rwv hx hb hr hlocks (hP.sub [0, 1, 2, 3, 4, 5, 6, 7, 8, 9] rfl) (hD.sub [0, 1, 2, 3, 4, 5, 6, 7, 8, 9] (by decide) rfl) hS dX6_reserve_42
  · replace h := dk_f q h
    have h := dk_r h
    subst h
    exact dk_rwv hx hb hr hlocks (hP.sub [0, 1, 2, 3, 4, 5, 6, 7, 8, 9] rfl) (hD.sub [0, 1, 2, 3, 4, 5, 6, 7, 8, 9] (by decide) rfl) hS dX6_reserve_36
/-! ServiceDiskModel.row(IJI)I: rw, frames 1, locals 25 -/
def fX6_row (v_sectors : Int32) (v_power : Int32) (v_used : Int32) (v_reserve : Int32) (v_rows : Int32) (v_waits : Int32) (v_waitKind : Nat → Int32) (v_waitMany : Nat → Int32) (v_waitBytes : Nat → Int64) (p1 : Int32) (p2 : Int64) (p3 : Int32) : Option (Int32 × Int32 × Int32 × (Nat → Int32) × (Nat → Int32) × (Nat → Int64)) :=
  (fX6_in p3 1 8).bind fun o1 =>
  if v_power = 0 then
    (fX6_in p1 0 7).bind fun o2 =>
    (fX6_throwing (if o2 = 0 then 1 else 0) (if o1 = 0 then 1 else 0) (if v_power = 0 then 1 else 0) 0).bind fun o3 =>
    if o3.1 = 0 then
      if dk_in v_waits 100 then
      if dk_in v_waits 100 then
      if dk_in v_waits 100 then
      some (((v_rows + (v_waits + 1)) - 1), o3.2, (v_waits + 1), (upd v_waitKind v_waits.toNatClampNeg p1), (upd v_waitMany v_waits.toNatClampNeg p3), (vp_updL v_waitBytes v_waits.toNatClampNeg p2))
      else none
      else none
      else none
    else
      some (0, o3.2, v_waits, v_waitKind, v_waitMany, v_waitBytes)
  else
    if ((if o1 = 0 then 1 else 0) : Int32) = 0 then
      if v_waits = (100 : Int32) then
        (fX6_in p1 0 7).bind fun o6 =>
        (fX6_throwing (if o6 = 0 then 1 else 0) (if o1 = 0 then 1 else 0) (if v_power = 0 then 1 else 0) 1).bind fun o7 =>
        if o7.1 = 0 then
          if dk_in v_waits 100 then
          if dk_in v_waits 100 then
          if dk_in v_waits 100 then
          some (((v_rows + (v_waits + 1)) - 1), o7.2, (v_waits + 1), (upd v_waitKind v_waits.toNatClampNeg p1), (upd v_waitMany v_waits.toNatClampNeg p3), (vp_updL v_waitBytes v_waits.toNatClampNeg p2))
          else none
          else none
          else none
        else
          some (0, o7.2, v_waits, v_waitKind, v_waitMany, v_waitBytes)
      else
        (fX6_needed v_waits v_waitMany p3).bind fun o8 =>
        (fX6_in p1 0 7).bind fun o9 =>
        (fX6_throwing (if o9 = 0 then 1 else 0) (if o1 = 0 then 1 else 0) (if v_power = 0 then 1 else 0) (if o8 ≤ (((v_sectors - 2) - v_used) - (if p1 ≤ (3 : Int32) then 0 else v_reserve)) then 0 else 1)).bind fun o10 =>
        if o10.1 = 0 then
          if dk_in v_waits 100 then
          if dk_in v_waits 100 then
          if dk_in v_waits 100 then
          some (((v_rows + (v_waits + 1)) - 1), o10.2, (v_waits + 1), (upd v_waitKind v_waits.toNatClampNeg p1), (upd v_waitMany v_waits.toNatClampNeg p3), (vp_updL v_waitBytes v_waits.toNatClampNeg p2))
          else none
          else none
          else none
        else
          some (0, o10.2, v_waits, v_waitKind, v_waitMany, v_waitBytes)
    else
      (fX6_in p1 0 7).bind fun o4 =>
      (fX6_throwing (if o4 = 0 then 1 else 0) (if o1 = 0 then 1 else 0) (if v_power = 0 then 1 else 0) 0).bind fun o5 =>
      if o5.1 = 0 then
        if dk_in v_waits 100 then
        if dk_in v_waits 100 then
        if dk_in v_waits 100 then
        some (((v_rows + (v_waits + 1)) - 1), o5.2, (v_waits + 1), (upd v_waitKind v_waits.toNatClampNeg p1), (upd v_waitMany v_waits.toNatClampNeg p3), (vp_updL v_waitBytes v_waits.toNatClampNeg p2))
        else none
        else none
        else none
      else
        some (0, o5.2, v_waits, v_waitKind, v_waitMany, v_waitBytes)
set_option maxHeartbeats 4000000 in
set_option maxRecDepth 100000 in
theorem mX6_row (l : Launch) (D : va_G) (k : Nat → ClassId) (h0 a_disk a_made a_sectorOf a_placeOf a_manyOf a_there a_waitKind a_waitMany a_waitBytes : Nat) (sz : Nat) (v_thrown : Int32) (v_sectors : Int32) (v_power : Int32) (v_used : Int32) (v_reserve : Int32) (v_cutWrites : Int32) (v_cutBytes : Int32) (v_rows : Int32) (v_waits : Int32) (v_stateNumber : Int32) (v_stateNow : Int64) (v_second : Int32) (v_repaired : Int32) (v_up : Int32) (v_sent : Int32) (v_disk : Nat → Int32) (v_made : Nat → Int32) (v_sectorOf : Nat → Int32) (v_placeOf : Nat → Int32) (v_manyOf : Nat → Int32) (v_there : Nat → Int32) (v_waitKind : Nat → Int32) (v_waitMany : Nat → Int32) (v_waitBytes : Nat → Int64) (p1 : Int32) (p2 : Int64) (p3 : Int32) (o : Int32 × Int32 × Int32 × (Nat → Int32) × (Nat → Int32) × (Nat → Int64)) (h : fX6_row v_sectors v_power v_used v_reserve v_rows v_waits v_waitKind v_waitMany v_waitBytes p1 p2 p3 = some o) : Met l yX6_row wsX6_row { frames := 1, cells := 0, slots := 0, locals := 25 } (dk_Pw D k [.ref h0, .int p1, .long p2, .int p3] [(h0, .inr (6, [.int v_thrown, .int v_sectors, .int v_power, .ref a_disk, .ref a_made, .int v_used, .int v_reserve, .int v_cutWrites, .int v_cutBytes, .int v_rows, .ref a_sectorOf, .ref a_placeOf, .ref a_manyOf, .ref a_there, .int v_waits, .ref a_waitKind, .ref a_waitMany, .ref a_waitBytes, .int v_stateNumber, .long v_stateNow, .int v_second, .int v_repaired, .int v_up, .int v_sent])), (a_disk, .inl ((k 2), 32768, .inl v_disk)), (a_made, .inl ((k 2), 512, .inl v_made)), (a_sectorOf, .inl ((k 2), 5100, .inl v_sectorOf)), (a_placeOf, .inl ((k 2), 5100, .inl v_placeOf)), (a_manyOf, .inl ((k 2), 5100, .inl v_manyOf)), (a_there, .inl ((k 1), 5100, .inl v_there)), (a_waitKind, .inl ((k 2), 100, .inl v_waitKind)), (a_waitMany, .inl ((k 2), 100, .inl v_waitMany)), (a_waitBytes, .inl ((k 3), 100, .inr (.inl v_waitBytes)))] sz) (dk_Qi o.1 D [(h0, .inr (6, [.int o.2.1, .int v_sectors, .int v_power, .ref a_disk, .ref a_made, .int v_used, .int v_reserve, .int v_cutWrites, .int v_cutBytes, .int v_rows, .ref a_sectorOf, .ref a_placeOf, .ref a_manyOf, .ref a_there, .int o.2.2.1, .ref a_waitKind, .ref a_waitMany, .ref a_waitBytes, .int v_stateNumber, .long v_stateNow, .int v_second, .int v_repaired, .int v_up, .int v_sent])), (a_disk, .inl ((k 2), 32768, .inl v_disk)), (a_made, .inl ((k 2), 512, .inl v_made)), (a_sectorOf, .inl ((k 2), 5100, .inl v_sectorOf)), (a_placeOf, .inl ((k 2), 5100, .inl v_placeOf)), (a_manyOf, .inl ((k 2), 5100, .inl v_manyOf)), (a_there, .inl ((k 1), 5100, .inl v_there)), (a_waitKind, .inl ((k 2), 100, .inl o.2.2.2.1)), (a_waitMany, .inl ((k 2), 100, .inl o.2.2.2.2.1)), (a_waitBytes, .inl ((k 3), 100, .inr (.inl o.2.2.2.2.2)))] (va_A [(h0, .inr (6, [.int v_thrown, .int v_sectors, .int v_power, .ref a_disk, .ref a_made, .int v_used, .int v_reserve, .int v_cutWrites, .int v_cutBytes, .int v_rows, .ref a_sectorOf, .ref a_placeOf, .ref a_manyOf, .ref a_there, .int v_waits, .ref a_waitKind, .ref a_waitMany, .ref a_waitBytes, .int v_stateNumber, .long v_stateNow, .int v_second, .int v_repaired, .int v_up, .int v_sent])), (a_disk, .inl ((k 2), 32768, .inl v_disk)), (a_made, .inl ((k 2), 512, .inl v_made)), (a_sectorOf, .inl ((k 2), 5100, .inl v_sectorOf)), (a_placeOf, .inl ((k 2), 5100, .inl v_placeOf)), (a_manyOf, .inl ((k 2), 5100, .inl v_manyOf)), (a_there, .inl ((k 1), 5100, .inl v_there)), (a_waitKind, .inl ((k 2), 100, .inl v_waitKind)), (a_waitMany, .inl ((k 2), 100, .inl v_waitMany)), (a_waitBytes, .inl ((k 3), 100, .inr (.inl v_waitBytes)))] sz)) 0 0 (va_A [(h0, .inr (6, [.int v_thrown, .int v_sectors, .int v_power, .ref a_disk, .ref a_made, .int v_used, .int v_reserve, .int v_cutWrites, .int v_cutBytes, .int v_rows, .ref a_sectorOf, .ref a_placeOf, .ref a_manyOf, .ref a_there, .int v_waits, .ref a_waitKind, .ref a_waitMany, .ref a_waitBytes, .int v_stateNumber, .long v_stateNow, .int v_second, .int v_repaired, .int v_up, .int v_sent])), (a_disk, .inl ((k 2), 32768, .inl v_disk)), (a_made, .inl ((k 2), 512, .inl v_made)), (a_sectorOf, .inl ((k 2), 5100, .inl v_sectorOf)), (a_placeOf, .inl ((k 2), 5100, .inl v_placeOf)), (a_manyOf, .inl ((k 2), 5100, .inl v_manyOf)), (a_there, .inl ((k 1), 5100, .inl v_there)), (a_waitKind, .inl ((k 2), 100, .inl v_waitKind)), (a_waitMany, .inl ((k 2), 100, .inl v_waitMany)), (a_waitBytes, .inl ((k 3), 100, .inr (.inl v_waitBytes)))] sz) := by
  unfold fX6_row at h
  refine dk_ofW (Qc := fun A => dk_Qi o.1 D [(h0, .inr (6, [.int o.2.1, .int v_sectors, .int v_power, .ref a_disk, .ref a_made, .int v_used, .int v_reserve, .int v_cutWrites, .int v_cutBytes, .int v_rows, .ref a_sectorOf, .ref a_placeOf, .ref a_manyOf, .ref a_there, .int o.2.2.1, .ref a_waitKind, .ref a_waitMany, .ref a_waitBytes, .int v_stateNumber, .long v_stateNow, .int v_second, .int v_repaired, .int v_up, .int v_sent])), (a_disk, .inl ((k 2), 32768, .inl v_disk)), (a_made, .inl ((k 2), 512, .inl v_made)), (a_sectorOf, .inl ((k 2), 5100, .inl v_sectorOf)), (a_placeOf, .inl ((k 2), 5100, .inl v_placeOf)), (a_manyOf, .inl ((k 2), 5100, .inl v_manyOf)), (a_there, .inl ((k 1), 5100, .inl v_there)), (a_waitKind, .inl ((k 2), 100, .inl o.2.2.2.1)), (a_waitMany, .inl ((k 2), 100, .inl o.2.2.2.2.1)), (a_waitBytes, .inl ((k 3), 100, .inr (.inl o.2.2.2.2.2)))] A) (cc := cX6_row) (maxL := 8) (ret := (some .int)) (lv := [(0, .ref h0), (1, .int p1), (2, .long p2), (4, .int p3)]) (by decide) rfl (Nat.le_of_ble_eq_true rfl) rfl ?_
  intro p e s m below meth c C hK hN hP A hA hD hS ls hl
  obtain ⟨hx, hb, hr, hml, hown, hts, hlocks⟩ := id C
  refine lv_iload hx hb dX6_row_0 (lv_at hl 3 rfl) ?_
  refine lv_iconst (v := 1) hx hb dX6_row_2 (by decide) ?_
  refine lv_bipush (v := 8) hx hb dX6_row_3 (by decide) ?_
  replace h := dk_b h
  obtain ⟨o1, e1, h⟩ := h
  refine dk_cri (va_runS (As := [.int p3, .int 1, .int 8]) (rest := []) ⟨hx, hb, hml, hown, hts⟩ (mX6_in l D k p3 1 8 o1 e1) (va_cwS 3 hts (dk_gS w_818 w_819 w_46 w_820) rfl rfl rfl (by decide +kernel) ⟨Nat.le_of_ble_eq_true rfl, Nat.le_of_ble_eq_true rfl⟩) (dk_psr hK hN hP [] rfl) rfl rfl hl.1 rfl (lv_room (Nat.le_of_ble_eq_true rfl)) dX6_row_5 ⟨Nat.le_of_ble_eq_true rfl, Nat.le_of_ble_eq_true rfl⟩) ?_
  refine dk_jn (F0 m 16 ls [.int (if o1 = 0 then 1 else 0)]) (fun K => ?_) ?_
  · refine lv_if_ne (tgt := 15) hx hb dX6_row_8 (by decide) (fun q1 => ?_) (fun q1 => ?_)
    · refine lv_iconst (v := 0) hx hb dX6_row_15 (by decide) ?_
      have K := K
      rw [if_neg q1] at K
      exact K
    · refine lv_iconst (v := 1) hx hb dX6_row_11 (by decide) ?_
      refine lv_goto (tgt := 16) hx hb dX6_row_12 (by decide) ?_
      have K := K
      rw [if_pos q1] at K
      exact K
  refine lv_istore (lv' := [(5, .int (if o1 = 0 then 1 else 0)), (0, .ref h0), (1, .int p1), (2, .long p2), (4, .int p3)]) hx hb dX6_row_16 hl (by decide) rfl (fun ls hl => ?_)
  refine lv_iconst (v := 0) hx hb dX6_row_18 (by decide) ?_
  refine lv_istore (lv' := [(6, .int 0), (5, .int (if o1 = 0 then 1 else 0)), (0, .ref h0), (1, .int p1), (2, .long p2), (4, .int p3)]) hx hb dX6_row_19 hl (by decide) rfl (fun ls hl => ?_)
  refine lv_aload_n hx hb dX6_row_21 rfl (lv_at hl 2 rfl) ?_
  refine va_get (D := D) (ci := 6) (v := .int v_power) (C := "ServiceDiskModel") (T := TX6) (N := 24) hx hb hts inX6 hown hK hP 0 rfl rfl 2 (by decide) (hts _ w_739) (fun _ h9 => h9) rfl dX6_row_22 ?_
  refine lv_if_eq (tgt := 87) hx hb dX6_row_25 (by decide) (fun q => ?_) (fun q => ?_)
  · replace h := dk_t q h
    refine lv_aload_n hx hb dX6_row_87 rfl (lv_at hl 2 rfl) ?_
    refine lv_iload_n hx hb dX6_row_88 rfl (lv_at hl 3 rfl) ?_
    refine lv_iconst (v := 0) hx hb dX6_row_89 (by decide) ?_
    refine lv_bipush (v := 7) hx hb dX6_row_90 (by decide) ?_
    replace h := dk_b h
    obtain ⟨o2, e2, h⟩ := h
    refine dk_cri (va_runS (As := [.int p1, .int 0, .int 7]) (rest := [.ref h0]) ⟨hx, hb, hml, hown, hts⟩ (mX6_in l D k p1 0 7 o2 e2) (va_cwS 3 hts (dk_gS w_818 w_819 w_46 w_820) rfl rfl rfl (by decide +kernel) ⟨Nat.le_of_ble_eq_true rfl, Nat.le_of_ble_eq_true rfl⟩) (dk_psr hK hN hP [] rfl) rfl rfl hl.1 rfl (lv_room (Nat.le_of_ble_eq_true rfl)) dX6_row_92 ⟨Nat.le_of_ble_eq_true rfl, Nat.le_of_ble_eq_true rfl⟩) ?_
    refine dk_jn (F0 m 103 ls [.int (if o2 = 0 then 1 else 0), .ref h0]) (fun K => ?_) ?_
    · refine lv_if_ne (tgt := 102) hx hb dX6_row_95 (by decide) (fun q1 => ?_) (fun q1 => ?_)
      · refine lv_iconst (v := 0) hx hb dX6_row_102 (by decide) ?_
        have K := K
        rw [if_neg q1] at K
        exact K
      · refine lv_iconst (v := 1) hx hb dX6_row_98 (by decide) ?_
        refine lv_goto (tgt := 103) hx hb dX6_row_99 (by decide) ?_
        have K := K
        rw [if_pos q1] at K
        exact K
    refine lv_iload hx hb dX6_row_103 (lv_at hl 1 rfl) ?_
    refine lv_aload_n hx hb dX6_row_105 rfl (lv_at hl 2 rfl) ?_
    refine va_get (D := D) (ci := 6) (v := .int v_power) (C := "ServiceDiskModel") (T := TX6) (N := 24) hx hb hts inX6 hown hK hP 0 rfl rfl 2 (by decide) (hts _ w_739) (fun _ h9 => h9) rfl dX6_row_106 ?_
    refine dk_jn (F0 m 117 ls [.int (if v_power = 0 then 1 else 0), .int (if o1 = 0 then 1 else 0), .int (if o2 = 0 then 1 else 0), .ref h0]) (fun K => ?_) ?_
    · refine lv_if_ne (tgt := 116) hx hb dX6_row_109 (by decide) (fun q1 => ?_) (fun q1 => ?_)
      · refine lv_iconst (v := 0) hx hb dX6_row_116 (by decide) ?_
        have K := K
        rw [if_neg q1] at K
        exact K
      · refine lv_iconst (v := 1) hx hb dX6_row_112 (by decide) ?_
        refine lv_goto (tgt := 117) hx hb dX6_row_113 (by decide) ?_
        have K := K
        rw [if_pos q1] at K
        exact K
    refine lv_iload hx hb dX6_row_117 (lv_at hl 0 rfl) ?_
    replace h := dk_b h
    obtain ⟨o3, e3, h⟩ := h
    refine dk_cwi (wr := []) (va_runV (As := [.int (if o2 = 0 then 1 else 0), .int (if o1 = 0 then 1 else 0), .int (if v_power = 0 then 1 else 0), .int 0]) (rest := []) ⟨hx, hb, hml, hown, hts⟩ (mX6_throwing l D k h0 a_disk a_made a_sectorOf a_placeOf a_manyOf a_there a_waitKind a_waitMany a_waitBytes s.heap.size v_thrown v_sectors v_power v_used v_reserve v_cutWrites v_cutBytes v_rows v_waits v_stateNumber v_stateNow v_second v_repaired v_up v_sent v_disk v_made v_sectorOf v_placeOf v_manyOf v_there v_waitKind v_waitMany v_waitBytes (if o2 = 0 then 1 else 0) (if o1 = 0 then 1 else 0) (if v_power = 0 then 1 else 0) 0 o3 e3) (cwV 4 hts (dk_gV w_821 w_823 w_20 w_46 w_824) rfl rfl rfl (by decide +kernel) ⟨Nat.le_of_ble_eq_true rfl, Nat.le_of_ble_eq_true rfl⟩) (dk_pvw hK hN hP hD [0, 1, 2, 3, 4, 5, 6, 7, 8, 9] rfl rfl rfl rfl (hP.sub [0, 1, 2, 3, 4, 5, 6, 7, 8, 9] rfl)) rfl rfl hl.1 rfl (lv_room (Nat.le_of_ble_eq_true rfl)) dX6_row_119 ⟨Nat.le_of_ble_eq_true rfl, Nat.le_of_ble_eq_true rfl⟩) hP hD hS hA [0, 1, 2, 3, 4, 5, 6, 7, 8, 9] [] rfl rfl rfl (by decide) (fun H locs hP hD hS => ?_)
    have hP : va_P D vwCl [(h0, .inr (6, [.int o3.2, .int v_sectors, .int v_power, .ref a_disk, .ref a_made, .int v_used, .int v_reserve, .int v_cutWrites, .int v_cutBytes, .int v_rows, .ref a_sectorOf, .ref a_placeOf, .ref a_manyOf, .ref a_there, .int v_waits, .ref a_waitKind, .ref a_waitMany, .ref a_waitBytes, .int v_stateNumber, .long v_stateNow, .int v_second, .int v_repaired, .int v_up, .int v_sent])), (a_disk, .inl ((k 2), 32768, .inl v_disk)), (a_made, .inl ((k 2), 512, .inl v_made)), (a_sectorOf, .inl ((k 2), 5100, .inl v_sectorOf)), (a_placeOf, .inl ((k 2), 5100, .inl v_placeOf)), (a_manyOf, .inl ((k 2), 5100, .inl v_manyOf)), (a_there, .inl ((k 1), 5100, .inl v_there)), (a_waitKind, .inl ((k 2), 100, .inl v_waitKind)), (a_waitMany, .inl ((k 2), 100, .inl v_waitMany)), (a_waitBytes, .inl ((k 3), 100, .inr (.inl v_waitBytes)))] H := hP
    have hD : va_D A [(h0, .inr (6, [.int o3.2, .int v_sectors, .int v_power, .ref a_disk, .ref a_made, .int v_used, .int v_reserve, .int v_cutWrites, .int v_cutBytes, .int v_rows, .ref a_sectorOf, .ref a_placeOf, .ref a_manyOf, .ref a_there, .int v_waits, .ref a_waitKind, .ref a_waitMany, .ref a_waitBytes, .int v_stateNumber, .long v_stateNow, .int v_second, .int v_repaired, .int v_up, .int v_sent])), (a_disk, .inl ((k 2), 32768, .inl v_disk)), (a_made, .inl ((k 2), 512, .inl v_made)), (a_sectorOf, .inl ((k 2), 5100, .inl v_sectorOf)), (a_placeOf, .inl ((k 2), 5100, .inl v_placeOf)), (a_manyOf, .inl ((k 2), 5100, .inl v_manyOf)), (a_there, .inl ((k 1), 5100, .inl v_there)), (a_waitKind, .inl ((k 2), 100, .inl v_waitKind)), (a_waitMany, .inl ((k 2), 100, .inl v_waitMany)), (a_waitBytes, .inl ((k 3), 100, .inr (.inl v_waitBytes)))] := hD
    refine lv_if_eq (tgt := 127) hx hb dX6_row_122 (by decide) (fun q => ?_) (fun q => ?_)
    · replace h := dk_t q h
      refine lv_aload_n hx hb dX6_row_127 rfl (lv_at hl 2 rfl) ?_
      refine va_get (D := D) (ci := 6) (v := .ref a_waitKind) (C := "ServiceDiskModel") (T := TX6) (N := 24) hx hb hts inX6 hown hK hP 0 rfl rfl 15 (by decide) (hts _ w_752) (fun _ h9 => h9) rfl dX6_row_128 ?_
      refine lv_aload_n hx hb dX6_row_131 rfl (lv_at hl 2 rfl) ?_
      refine va_get (D := D) (ci := 6) (v := .int v_waits) (C := "ServiceDiskModel") (T := TX6) (N := 24) hx hb hts inX6 hown hK hP 0 rfl rfl 14 (by decide) (hts _ w_751) (fun _ h9 => h9) rfl dX6_row_132 ?_
      refine lv_iload_n hx hb dX6_row_135 rfl (lv_at hl 3 rfl) ?_
      obtain ⟨q, h⟩ := dk_g h
      refine va_iast hx hb hK hP hD hS 7 2 rfl rfl q dX6_row_136 (fun H locs hP hD hS => ?_)
      have hP : va_P D vwCl [(h0, .inr (6, [.int o3.2, .int v_sectors, .int v_power, .ref a_disk, .ref a_made, .int v_used, .int v_reserve, .int v_cutWrites, .int v_cutBytes, .int v_rows, .ref a_sectorOf, .ref a_placeOf, .ref a_manyOf, .ref a_there, .int v_waits, .ref a_waitKind, .ref a_waitMany, .ref a_waitBytes, .int v_stateNumber, .long v_stateNow, .int v_second, .int v_repaired, .int v_up, .int v_sent])), (a_disk, .inl ((k 2), 32768, .inl v_disk)), (a_made, .inl ((k 2), 512, .inl v_made)), (a_sectorOf, .inl ((k 2), 5100, .inl v_sectorOf)), (a_placeOf, .inl ((k 2), 5100, .inl v_placeOf)), (a_manyOf, .inl ((k 2), 5100, .inl v_manyOf)), (a_there, .inl ((k 1), 5100, .inl v_there)), (a_waitKind, .inl ((k 2), 100, .inl (upd v_waitKind v_waits.toNatClampNeg p1))), (a_waitMany, .inl ((k 2), 100, .inl v_waitMany)), (a_waitBytes, .inl ((k 3), 100, .inr (.inl v_waitBytes)))] H := hP
      have hD : va_D A [(h0, .inr (6, [.int o3.2, .int v_sectors, .int v_power, .ref a_disk, .ref a_made, .int v_used, .int v_reserve, .int v_cutWrites, .int v_cutBytes, .int v_rows, .ref a_sectorOf, .ref a_placeOf, .ref a_manyOf, .ref a_there, .int v_waits, .ref a_waitKind, .ref a_waitMany, .ref a_waitBytes, .int v_stateNumber, .long v_stateNow, .int v_second, .int v_repaired, .int v_up, .int v_sent])), (a_disk, .inl ((k 2), 32768, .inl v_disk)), (a_made, .inl ((k 2), 512, .inl v_made)), (a_sectorOf, .inl ((k 2), 5100, .inl v_sectorOf)), (a_placeOf, .inl ((k 2), 5100, .inl v_placeOf)), (a_manyOf, .inl ((k 2), 5100, .inl v_manyOf)), (a_there, .inl ((k 1), 5100, .inl v_there)), (a_waitKind, .inl ((k 2), 100, .inl (upd v_waitKind v_waits.toNatClampNeg p1))), (a_waitMany, .inl ((k 2), 100, .inl v_waitMany)), (a_waitBytes, .inl ((k 3), 100, .inr (.inl v_waitBytes)))] := hD
      refine lv_aload_n hx hb dX6_row_137 rfl (lv_at hl 2 rfl) ?_
      refine va_get (D := D) (ci := 6) (v := .ref a_waitMany) (C := "ServiceDiskModel") (T := TX6) (N := 24) hx hb hts inX6 hown hK hP 0 rfl rfl 16 (by decide) (hts _ w_753) (fun _ h9 => h9) rfl dX6_row_138 ?_
      refine lv_aload_n hx hb dX6_row_141 rfl (lv_at hl 2 rfl) ?_
      refine va_get (D := D) (ci := 6) (v := .int v_waits) (C := "ServiceDiskModel") (T := TX6) (N := 24) hx hb hts inX6 hown hK hP 0 rfl rfl 14 (by decide) (hts _ w_751) (fun _ h9 => h9) rfl dX6_row_142 ?_
      refine lv_iload hx hb dX6_row_145 (lv_at hl 5 rfl) ?_
      obtain ⟨q, h⟩ := dk_g h
      refine va_iast hx hb hK hP hD hS 8 2 rfl rfl q dX6_row_147 (fun H locs hP hD hS => ?_)
      have hP : va_P D vwCl [(h0, .inr (6, [.int o3.2, .int v_sectors, .int v_power, .ref a_disk, .ref a_made, .int v_used, .int v_reserve, .int v_cutWrites, .int v_cutBytes, .int v_rows, .ref a_sectorOf, .ref a_placeOf, .ref a_manyOf, .ref a_there, .int v_waits, .ref a_waitKind, .ref a_waitMany, .ref a_waitBytes, .int v_stateNumber, .long v_stateNow, .int v_second, .int v_repaired, .int v_up, .int v_sent])), (a_disk, .inl ((k 2), 32768, .inl v_disk)), (a_made, .inl ((k 2), 512, .inl v_made)), (a_sectorOf, .inl ((k 2), 5100, .inl v_sectorOf)), (a_placeOf, .inl ((k 2), 5100, .inl v_placeOf)), (a_manyOf, .inl ((k 2), 5100, .inl v_manyOf)), (a_there, .inl ((k 1), 5100, .inl v_there)), (a_waitKind, .inl ((k 2), 100, .inl (upd v_waitKind v_waits.toNatClampNeg p1))), (a_waitMany, .inl ((k 2), 100, .inl (upd v_waitMany v_waits.toNatClampNeg p3))), (a_waitBytes, .inl ((k 3), 100, .inr (.inl v_waitBytes)))] H := hP
      have hD : va_D A [(h0, .inr (6, [.int o3.2, .int v_sectors, .int v_power, .ref a_disk, .ref a_made, .int v_used, .int v_reserve, .int v_cutWrites, .int v_cutBytes, .int v_rows, .ref a_sectorOf, .ref a_placeOf, .ref a_manyOf, .ref a_there, .int v_waits, .ref a_waitKind, .ref a_waitMany, .ref a_waitBytes, .int v_stateNumber, .long v_stateNow, .int v_second, .int v_repaired, .int v_up, .int v_sent])), (a_disk, .inl ((k 2), 32768, .inl v_disk)), (a_made, .inl ((k 2), 512, .inl v_made)), (a_sectorOf, .inl ((k 2), 5100, .inl v_sectorOf)), (a_placeOf, .inl ((k 2), 5100, .inl v_placeOf)), (a_manyOf, .inl ((k 2), 5100, .inl v_manyOf)), (a_there, .inl ((k 1), 5100, .inl v_there)), (a_waitKind, .inl ((k 2), 100, .inl (upd v_waitKind v_waits.toNatClampNeg p1))), (a_waitMany, .inl ((k 2), 100, .inl (upd v_waitMany v_waits.toNatClampNeg p3))), (a_waitBytes, .inl ((k 3), 100, .inr (.inl v_waitBytes)))] := hD
      refine lv_aload_n hx hb dX6_row_148 rfl (lv_at hl 2 rfl) ?_
      refine va_get (D := D) (ci := 6) (v := .ref a_waitBytes) (C := "ServiceDiskModel") (T := TX6) (N := 24) hx hb hts inX6 hown hK hP 0 rfl rfl 17 (by decide) (hts _ w_754) (fun _ h9 => h9) rfl dX6_row_149 ?_
      refine lv_aload_n hx hb dX6_row_152 rfl (lv_at hl 2 rfl) ?_
      refine va_get (D := D) (ci := 6) (v := .int v_waits) (C := "ServiceDiskModel") (T := TX6) (N := 24) hx hb hts inX6 hown hK hP 0 rfl rfl 14 (by decide) (hts _ w_751) (fun _ h9 => h9) rfl dX6_row_153 ?_
      refine lv_lload_n hx hb dX6_row_156 rfl (lv_at hl 4 rfl) ?_
      obtain ⟨q, h⟩ := dk_g h
      refine va_last hx hb hK hP hD hS 9 3 rfl rfl q dX6_row_157 (fun H locs hP hD hS => ?_)
      have hP : va_P D vwCl [(h0, .inr (6, [.int o3.2, .int v_sectors, .int v_power, .ref a_disk, .ref a_made, .int v_used, .int v_reserve, .int v_cutWrites, .int v_cutBytes, .int v_rows, .ref a_sectorOf, .ref a_placeOf, .ref a_manyOf, .ref a_there, .int v_waits, .ref a_waitKind, .ref a_waitMany, .ref a_waitBytes, .int v_stateNumber, .long v_stateNow, .int v_second, .int v_repaired, .int v_up, .int v_sent])), (a_disk, .inl ((k 2), 32768, .inl v_disk)), (a_made, .inl ((k 2), 512, .inl v_made)), (a_sectorOf, .inl ((k 2), 5100, .inl v_sectorOf)), (a_placeOf, .inl ((k 2), 5100, .inl v_placeOf)), (a_manyOf, .inl ((k 2), 5100, .inl v_manyOf)), (a_there, .inl ((k 1), 5100, .inl v_there)), (a_waitKind, .inl ((k 2), 100, .inl (upd v_waitKind v_waits.toNatClampNeg p1))), (a_waitMany, .inl ((k 2), 100, .inl (upd v_waitMany v_waits.toNatClampNeg p3))), (a_waitBytes, .inl ((k 3), 100, .inr (.inl (vp_updL v_waitBytes v_waits.toNatClampNeg p2))))] H := hP
      have hD : va_D A [(h0, .inr (6, [.int o3.2, .int v_sectors, .int v_power, .ref a_disk, .ref a_made, .int v_used, .int v_reserve, .int v_cutWrites, .int v_cutBytes, .int v_rows, .ref a_sectorOf, .ref a_placeOf, .ref a_manyOf, .ref a_there, .int v_waits, .ref a_waitKind, .ref a_waitMany, .ref a_waitBytes, .int v_stateNumber, .long v_stateNow, .int v_second, .int v_repaired, .int v_up, .int v_sent])), (a_disk, .inl ((k 2), 32768, .inl v_disk)), (a_made, .inl ((k 2), 512, .inl v_made)), (a_sectorOf, .inl ((k 2), 5100, .inl v_sectorOf)), (a_placeOf, .inl ((k 2), 5100, .inl v_placeOf)), (a_manyOf, .inl ((k 2), 5100, .inl v_manyOf)), (a_there, .inl ((k 1), 5100, .inl v_there)), (a_waitKind, .inl ((k 2), 100, .inl (upd v_waitKind v_waits.toNatClampNeg p1))), (a_waitMany, .inl ((k 2), 100, .inl (upd v_waitMany v_waits.toNatClampNeg p3))), (a_waitBytes, .inl ((k 3), 100, .inr (.inl (vp_updL v_waitBytes v_waits.toNatClampNeg p2))))] := hD
      refine lv_aload_n hx hb dX6_row_158 rfl (lv_at hl 2 rfl) ?_
      refine lv_dup hx hb dX6_row_159 rfl ?_
      refine va_get (D := D) (ci := 6) (v := .int v_waits) (C := "ServiceDiskModel") (T := TX6) (N := 24) hx hb hts inX6 hown hK hP 0 rfl rfl 14 (by decide) (hts _ w_751) (fun _ h9 => h9) rfl dX6_row_160 ?_
      refine lv_iconst (v := 1) hx hb dX6_row_163 (by decide) ?_
      refine lv_iadd hx hb dX6_row_164 ?_
      refine va_put (D := D) (ci := 6) (v := .int (v_waits + 1)) (ty := .int) (C := "ServiceDiskModel") (T := TX6) (N := 24) hx hb hts inX6 tyX6 tyX6_ok nmX6 hown hK hP hD hS 0 rfl rfl 14 (by decide) (hts _ w_751) (fun _ h9 => h9) rfl (by decide +kernel) rfl rfl (Nat.le_of_ble_eq_true rfl) dX6_row_165 (fun H locs hP hD hS => ?_)
      have hP : va_P D vwCl [(h0, .inr (6, [.int o3.2, .int v_sectors, .int v_power, .ref a_disk, .ref a_made, .int v_used, .int v_reserve, .int v_cutWrites, .int v_cutBytes, .int v_rows, .ref a_sectorOf, .ref a_placeOf, .ref a_manyOf, .ref a_there, .int (v_waits + 1), .ref a_waitKind, .ref a_waitMany, .ref a_waitBytes, .int v_stateNumber, .long v_stateNow, .int v_second, .int v_repaired, .int v_up, .int v_sent])), (a_disk, .inl ((k 2), 32768, .inl v_disk)), (a_made, .inl ((k 2), 512, .inl v_made)), (a_sectorOf, .inl ((k 2), 5100, .inl v_sectorOf)), (a_placeOf, .inl ((k 2), 5100, .inl v_placeOf)), (a_manyOf, .inl ((k 2), 5100, .inl v_manyOf)), (a_there, .inl ((k 1), 5100, .inl v_there)), (a_waitKind, .inl ((k 2), 100, .inl (upd v_waitKind v_waits.toNatClampNeg p1))), (a_waitMany, .inl ((k 2), 100, .inl (upd v_waitMany v_waits.toNatClampNeg p3))), (a_waitBytes, .inl ((k 3), 100, .inr (.inl (vp_updL v_waitBytes v_waits.toNatClampNeg p2))))] H := hP
      have hD : va_D A [(h0, .inr (6, [.int o3.2, .int v_sectors, .int v_power, .ref a_disk, .ref a_made, .int v_used, .int v_reserve, .int v_cutWrites, .int v_cutBytes, .int v_rows, .ref a_sectorOf, .ref a_placeOf, .ref a_manyOf, .ref a_there, .int (v_waits + 1), .ref a_waitKind, .ref a_waitMany, .ref a_waitBytes, .int v_stateNumber, .long v_stateNow, .int v_second, .int v_repaired, .int v_up, .int v_sent])), (a_disk, .inl ((k 2), 32768, .inl v_disk)), (a_made, .inl ((k 2), 512, .inl v_made)), (a_sectorOf, .inl ((k 2), 5100, .inl v_sectorOf)), (a_placeOf, .inl ((k 2), 5100, .inl v_placeOf)), (a_manyOf, .inl ((k 2), 5100, .inl v_manyOf)), (a_there, .inl ((k 1), 5100, .inl v_there)), (a_waitKind, .inl ((k 2), 100, .inl (upd v_waitKind v_waits.toNatClampNeg p1))), (a_waitMany, .inl ((k 2), 100, .inl (upd v_waitMany v_waits.toNatClampNeg p3))), (a_waitBytes, .inl ((k 3), 100, .inr (.inl (vp_updL v_waitBytes v_waits.toNatClampNeg p2))))] := hD
      refine lv_aload_n hx hb dX6_row_168 rfl (lv_at hl 2 rfl) ?_
      refine va_get (D := D) (ci := 6) (v := .int v_rows) (C := "ServiceDiskModel") (T := TX6) (N := 24) hx hb hts inX6 hown hK hP 0 rfl rfl 9 (by decide) (hts _ w_746) (fun _ h9 => h9) rfl dX6_row_169 ?_
      refine lv_aload_n hx hb dX6_row_172 rfl (lv_at hl 2 rfl) ?_
      refine va_get (D := D) (ci := 6) (v := .int (v_waits + 1)) (C := "ServiceDiskModel") (T := TX6) (N := 24) hx hb hts inX6 hown hK hP 0 rfl rfl 14 (by decide) (hts _ w_751) (fun _ h9 => h9) rfl dX6_row_173 ?_
      refine lv_iadd hx hb dX6_row_176 ?_
      refine lv_iconst (v := 1) hx hb dX6_row_177 (by decide) ?_
      refine lv_isub hx hb dX6_row_178 ?_
      have h := dk_r h
      subst h
      exact dk_rwi hx hb hr hlocks (hP.sub [0, 1, 2, 3, 4, 5, 6, 7, 8, 9] rfl) (hD.sub [0, 1, 2, 3, 4, 5, 6, 7, 8, 9] (by decide) rfl) hS dX6_row_179 rfl
    · replace h := dk_f q h
      refine lv_iconst (v := 0) hx hb dX6_row_125 (by decide) ?_
      have h := dk_r h
      subst h
      exact dk_rwi hx hb hr hlocks (hP.sub [0, 1, 2, 3, 4, 5, 6, 7, 8, 9] rfl) (hD.sub [0, 1, 2, 3, 4, 5, 6, 7, 8, 9] (by decide) rfl) hS dX6_row_126 rfl
  · replace h := dk_f q h
    refine lv_iload hx hb dX6_row_28 (lv_at hl 1 rfl) ?_
    refine lv_if_ne (tgt := 87) hx hb dX6_row_30 (by decide) (fun q => ?_) (fun q => ?_)
    · replace h := dk_f q h
      refine lv_aload_n hx hb dX6_row_87 rfl (lv_at hl 2 rfl) ?_
      refine lv_iload_n hx hb dX6_row_88 rfl (lv_at hl 3 rfl) ?_
      refine lv_iconst (v := 0) hx hb dX6_row_89 (by decide) ?_
      refine lv_bipush (v := 7) hx hb dX6_row_90 (by decide) ?_
      replace h := dk_b h
      obtain ⟨o4, e4, h⟩ := h
      refine dk_cri (va_runS (As := [.int p1, .int 0, .int 7]) (rest := [.ref h0]) ⟨hx, hb, hml, hown, hts⟩ (mX6_in l D k p1 0 7 o4 e4) (va_cwS 3 hts (dk_gS w_818 w_819 w_46 w_820) rfl rfl rfl (by decide +kernel) ⟨Nat.le_of_ble_eq_true rfl, Nat.le_of_ble_eq_true rfl⟩) (dk_psr hK hN hP [] rfl) rfl rfl hl.1 rfl (lv_room (Nat.le_of_ble_eq_true rfl)) dX6_row_92 ⟨Nat.le_of_ble_eq_true rfl, Nat.le_of_ble_eq_true rfl⟩) ?_
      refine dk_jn (F0 m 103 ls [.int (if o4 = 0 then 1 else 0), .ref h0]) (fun K => ?_) ?_
      · refine lv_if_ne (tgt := 102) hx hb dX6_row_95 (by decide) (fun q1 => ?_) (fun q1 => ?_)
        · refine lv_iconst (v := 0) hx hb dX6_row_102 (by decide) ?_
          have K := K
          rw [if_neg q1] at K
          exact K
        · refine lv_iconst (v := 1) hx hb dX6_row_98 (by decide) ?_
          refine lv_goto (tgt := 103) hx hb dX6_row_99 (by decide) ?_
          have K := K
          rw [if_pos q1] at K
          exact K
      refine lv_iload hx hb dX6_row_103 (lv_at hl 1 rfl) ?_
      refine lv_aload_n hx hb dX6_row_105 rfl (lv_at hl 2 rfl) ?_
      refine va_get (D := D) (ci := 6) (v := .int v_power) (C := "ServiceDiskModel") (T := TX6) (N := 24) hx hb hts inX6 hown hK hP 0 rfl rfl 2 (by decide) (hts _ w_739) (fun _ h9 => h9) rfl dX6_row_106 ?_
      refine dk_jn (F0 m 117 ls [.int (if v_power = 0 then 1 else 0), .int (if o1 = 0 then 1 else 0), .int (if o4 = 0 then 1 else 0), .ref h0]) (fun K => ?_) ?_
      · refine lv_if_ne (tgt := 116) hx hb dX6_row_109 (by decide) (fun q1 => ?_) (fun q1 => ?_)
        · refine lv_iconst (v := 0) hx hb dX6_row_116 (by decide) ?_
          have K := K
          rw [if_neg q1] at K
          exact K
        · refine lv_iconst (v := 1) hx hb dX6_row_112 (by decide) ?_
          refine lv_goto (tgt := 117) hx hb dX6_row_113 (by decide) ?_
          have K := K
          rw [if_pos q1] at K
          exact K
      refine lv_iload hx hb dX6_row_117 (lv_at hl 0 rfl) ?_
      replace h := dk_b h
      obtain ⟨o5, e5, h⟩ := h
      refine dk_cwi (wr := []) (va_runV (As := [.int (if o4 = 0 then 1 else 0), .int (if o1 = 0 then 1 else 0), .int (if v_power = 0 then 1 else 0), .int 0]) (rest := []) ⟨hx, hb, hml, hown, hts⟩ (mX6_throwing l D k h0 a_disk a_made a_sectorOf a_placeOf a_manyOf a_there a_waitKind a_waitMany a_waitBytes s.heap.size v_thrown v_sectors v_power v_used v_reserve v_cutWrites v_cutBytes v_rows v_waits v_stateNumber v_stateNow v_second v_repaired v_up v_sent v_disk v_made v_sectorOf v_placeOf v_manyOf v_there v_waitKind v_waitMany v_waitBytes (if o4 = 0 then 1 else 0) (if o1 = 0 then 1 else 0) (if v_power = 0 then 1 else 0) 0 o5 e5) (cwV 4 hts (dk_gV w_821 w_823 w_20 w_46 w_824) rfl rfl rfl (by decide +kernel) ⟨Nat.le_of_ble_eq_true rfl, Nat.le_of_ble_eq_true rfl⟩) (dk_pvw hK hN hP hD [0, 1, 2, 3, 4, 5, 6, 7, 8, 9] rfl rfl rfl rfl (hP.sub [0, 1, 2, 3, 4, 5, 6, 7, 8, 9] rfl)) rfl rfl hl.1 rfl (lv_room (Nat.le_of_ble_eq_true rfl)) dX6_row_119 ⟨Nat.le_of_ble_eq_true rfl, Nat.le_of_ble_eq_true rfl⟩) hP hD hS hA [0, 1, 2, 3, 4, 5, 6, 7, 8, 9] [] rfl rfl rfl (by decide) (fun H locs hP hD hS => ?_)
      have hP : va_P D vwCl [(h0, .inr (6, [.int o5.2, .int v_sectors, .int v_power, .ref a_disk, .ref a_made, .int v_used, .int v_reserve, .int v_cutWrites, .int v_cutBytes, .int v_rows, .ref a_sectorOf, .ref a_placeOf, .ref a_manyOf, .ref a_there, .int v_waits, .ref a_waitKind, .ref a_waitMany, .ref a_waitBytes, .int v_stateNumber, .long v_stateNow, .int v_second, .int v_repaired, .int v_up, .int v_sent])), (a_disk, .inl ((k 2), 32768, .inl v_disk)), (a_made, .inl ((k 2), 512, .inl v_made)), (a_sectorOf, .inl ((k 2), 5100, .inl v_sectorOf)), (a_placeOf, .inl ((k 2), 5100, .inl v_placeOf)), (a_manyOf, .inl ((k 2), 5100, .inl v_manyOf)), (a_there, .inl ((k 1), 5100, .inl v_there)), (a_waitKind, .inl ((k 2), 100, .inl v_waitKind)), (a_waitMany, .inl ((k 2), 100, .inl v_waitMany)), (a_waitBytes, .inl ((k 3), 100, .inr (.inl v_waitBytes)))] H := hP
      have hD : va_D A [(h0, .inr (6, [.int o5.2, .int v_sectors, .int v_power, .ref a_disk, .ref a_made, .int v_used, .int v_reserve, .int v_cutWrites, .int v_cutBytes, .int v_rows, .ref a_sectorOf, .ref a_placeOf, .ref a_manyOf, .ref a_there, .int v_waits, .ref a_waitKind, .ref a_waitMany, .ref a_waitBytes, .int v_stateNumber, .long v_stateNow, .int v_second, .int v_repaired, .int v_up, .int v_sent])), (a_disk, .inl ((k 2), 32768, .inl v_disk)), (a_made, .inl ((k 2), 512, .inl v_made)), (a_sectorOf, .inl ((k 2), 5100, .inl v_sectorOf)), (a_placeOf, .inl ((k 2), 5100, .inl v_placeOf)), (a_manyOf, .inl ((k 2), 5100, .inl v_manyOf)), (a_there, .inl ((k 1), 5100, .inl v_there)), (a_waitKind, .inl ((k 2), 100, .inl v_waitKind)), (a_waitMany, .inl ((k 2), 100, .inl v_waitMany)), (a_waitBytes, .inl ((k 3), 100, .inr (.inl v_waitBytes)))] := hD
      refine lv_if_eq (tgt := 127) hx hb dX6_row_122 (by decide) (fun q => ?_) (fun q => ?_)
      · replace h := dk_t q h
        refine lv_aload_n hx hb dX6_row_127 rfl (lv_at hl 2 rfl) ?_
        refine va_get (D := D) (ci := 6) (v := .ref a_waitKind) (C := "ServiceDiskModel") (T := TX6) (N := 24) hx hb hts inX6 hown hK hP 0 rfl rfl 15 (by decide) (hts _ w_752) (fun _ h9 => h9) rfl dX6_row_128 ?_
        refine lv_aload_n hx hb dX6_row_131 rfl (lv_at hl 2 rfl) ?_
        refine va_get (D := D) (ci := 6) (v := .int v_waits) (C := "ServiceDiskModel") (T := TX6) (N := 24) hx hb hts inX6 hown hK hP 0 rfl rfl 14 (by decide) (hts _ w_751) (fun _ h9 => h9) rfl dX6_row_132 ?_
        refine lv_iload_n hx hb dX6_row_135 rfl (lv_at hl 3 rfl) ?_
        obtain ⟨q, h⟩ := dk_g h
        refine va_iast hx hb hK hP hD hS 7 2 rfl rfl q dX6_row_136 (fun H locs hP hD hS => ?_)
        have hP : va_P D vwCl [(h0, .inr (6, [.int o5.2, .int v_sectors, .int v_power, .ref a_disk, .ref a_made, .int v_used, .int v_reserve, .int v_cutWrites, .int v_cutBytes, .int v_rows, .ref a_sectorOf, .ref a_placeOf, .ref a_manyOf, .ref a_there, .int v_waits, .ref a_waitKind, .ref a_waitMany, .ref a_waitBytes, .int v_stateNumber, .long v_stateNow, .int v_second, .int v_repaired, .int v_up, .int v_sent])), (a_disk, .inl ((k 2), 32768, .inl v_disk)), (a_made, .inl ((k 2), 512, .inl v_made)), (a_sectorOf, .inl ((k 2), 5100, .inl v_sectorOf)), (a_placeOf, .inl ((k 2), 5100, .inl v_placeOf)), (a_manyOf, .inl ((k 2), 5100, .inl v_manyOf)), (a_there, .inl ((k 1), 5100, .inl v_there)), (a_waitKind, .inl ((k 2), 100, .inl (upd v_waitKind v_waits.toNatClampNeg p1))), (a_waitMany, .inl ((k 2), 100, .inl v_waitMany)), (a_waitBytes, .inl ((k 3), 100, .inr (.inl v_waitBytes)))] H := hP
        have hD : va_D A [(h0, .inr (6, [.int o5.2, .int v_sectors, .int v_power, .ref a_disk, .ref a_made, .int v_used, .int v_reserve, .int v_cutWrites, .int v_cutBytes, .int v_rows, .ref a_sectorOf, .ref a_placeOf, .ref a_manyOf, .ref a_there, .int v_waits, .ref a_waitKind, .ref a_waitMany, .ref a_waitBytes, .int v_stateNumber, .long v_stateNow, .int v_second, .int v_repaired, .int v_up, .int v_sent])), (a_disk, .inl ((k 2), 32768, .inl v_disk)), (a_made, .inl ((k 2), 512, .inl v_made)), (a_sectorOf, .inl ((k 2), 5100, .inl v_sectorOf)), (a_placeOf, .inl ((k 2), 5100, .inl v_placeOf)), (a_manyOf, .inl ((k 2), 5100, .inl v_manyOf)), (a_there, .inl ((k 1), 5100, .inl v_there)), (a_waitKind, .inl ((k 2), 100, .inl (upd v_waitKind v_waits.toNatClampNeg p1))), (a_waitMany, .inl ((k 2), 100, .inl v_waitMany)), (a_waitBytes, .inl ((k 3), 100, .inr (.inl v_waitBytes)))] := hD
        refine lv_aload_n hx hb dX6_row_137 rfl (lv_at hl 2 rfl) ?_
        refine va_get (D := D) (ci := 6) (v := .ref a_waitMany) (C := "ServiceDiskModel") (T := TX6) (N := 24) hx hb hts inX6 hown hK hP 0 rfl rfl 16 (by decide) (hts _ w_753) (fun _ h9 => h9) rfl dX6_row_138 ?_
        refine lv_aload_n hx hb dX6_row_141 rfl (lv_at hl 2 rfl) ?_
        refine va_get (D := D) (ci := 6) (v := .int v_waits) (C := "ServiceDiskModel") (T := TX6) (N := 24) hx hb hts inX6 hown hK hP 0 rfl rfl 14 (by decide) (hts _ w_751) (fun _ h9 => h9) rfl dX6_row_142 ?_
        refine lv_iload hx hb dX6_row_145 (lv_at hl 5 rfl) ?_
        obtain ⟨q, h⟩ := dk_g h
        refine va_iast hx hb hK hP hD hS 8 2 rfl rfl q dX6_row_147 (fun H locs hP hD hS => ?_)
        have hP : va_P D vwCl [(h0, .inr (6, [.int o5.2, .int v_sectors, .int v_power, .ref a_disk, .ref a_made, .int v_used, .int v_reserve, .int v_cutWrites, .int v_cutBytes, .int v_rows, .ref a_sectorOf, .ref a_placeOf, .ref a_manyOf, .ref a_there, .int v_waits, .ref a_waitKind, .ref a_waitMany, .ref a_waitBytes, .int v_stateNumber, .long v_stateNow, .int v_second, .int v_repaired, .int v_up, .int v_sent])), (a_disk, .inl ((k 2), 32768, .inl v_disk)), (a_made, .inl ((k 2), 512, .inl v_made)), (a_sectorOf, .inl ((k 2), 5100, .inl v_sectorOf)), (a_placeOf, .inl ((k 2), 5100, .inl v_placeOf)), (a_manyOf, .inl ((k 2), 5100, .inl v_manyOf)), (a_there, .inl ((k 1), 5100, .inl v_there)), (a_waitKind, .inl ((k 2), 100, .inl (upd v_waitKind v_waits.toNatClampNeg p1))), (a_waitMany, .inl ((k 2), 100, .inl (upd v_waitMany v_waits.toNatClampNeg p3))), (a_waitBytes, .inl ((k 3), 100, .inr (.inl v_waitBytes)))] H := hP
        have hD : va_D A [(h0, .inr (6, [.int o5.2, .int v_sectors, .int v_power, .ref a_disk, .ref a_made, .int v_used, .int v_reserve, .int v_cutWrites, .int v_cutBytes, .int v_rows, .ref a_sectorOf, .ref a_placeOf, .ref a_manyOf, .ref a_there, .int v_waits, .ref a_waitKind, .ref a_waitMany, .ref a_waitBytes, .int v_stateNumber, .long v_stateNow, .int v_second, .int v_repaired, .int v_up, .int v_sent])), (a_disk, .inl ((k 2), 32768, .inl v_disk)), (a_made, .inl ((k 2), 512, .inl v_made)), (a_sectorOf, .inl ((k 2), 5100, .inl v_sectorOf)), (a_placeOf, .inl ((k 2), 5100, .inl v_placeOf)), (a_manyOf, .inl ((k 2), 5100, .inl v_manyOf)), (a_there, .inl ((k 1), 5100, .inl v_there)), (a_waitKind, .inl ((k 2), 100, .inl (upd v_waitKind v_waits.toNatClampNeg p1))), (a_waitMany, .inl ((k 2), 100, .inl (upd v_waitMany v_waits.toNatClampNeg p3))), (a_waitBytes, .inl ((k 3), 100, .inr (.inl v_waitBytes)))] := hD
        refine lv_aload_n hx hb dX6_row_148 rfl (lv_at hl 2 rfl) ?_
        refine va_get (D := D) (ci := 6) (v := .ref a_waitBytes) (C := "ServiceDiskModel") (T := TX6) (N := 24) hx hb hts inX6 hown hK hP 0 rfl rfl 17 (by decide) (hts _ w_754) (fun _ h9 => h9) rfl dX6_row_149 ?_
        refine lv_aload_n hx hb dX6_row_152 rfl (lv_at hl 2 rfl) ?_
        refine va_get (D := D) (ci := 6) (v := .int v_waits) (C := "ServiceDiskModel") (T := TX6) (N := 24) hx hb hts inX6 hown hK hP 0 rfl rfl 14 (by decide) (hts _ w_751) (fun _ h9 => h9) rfl dX6_row_153 ?_
        refine lv_lload_n hx hb dX6_row_156 rfl (lv_at hl 4 rfl) ?_
        obtain ⟨q, h⟩ := dk_g h
        refine va_last hx hb hK hP hD hS 9 3 rfl rfl q dX6_row_157 (fun H locs hP hD hS => ?_)
        have hP : va_P D vwCl [(h0, .inr (6, [.int o5.2, .int v_sectors, .int v_power, .ref a_disk, .ref a_made, .int v_used, .int v_reserve, .int v_cutWrites, .int v_cutBytes, .int v_rows, .ref a_sectorOf, .ref a_placeOf, .ref a_manyOf, .ref a_there, .int v_waits, .ref a_waitKind, .ref a_waitMany, .ref a_waitBytes, .int v_stateNumber, .long v_stateNow, .int v_second, .int v_repaired, .int v_up, .int v_sent])), (a_disk, .inl ((k 2), 32768, .inl v_disk)), (a_made, .inl ((k 2), 512, .inl v_made)), (a_sectorOf, .inl ((k 2), 5100, .inl v_sectorOf)), (a_placeOf, .inl ((k 2), 5100, .inl v_placeOf)), (a_manyOf, .inl ((k 2), 5100, .inl v_manyOf)), (a_there, .inl ((k 1), 5100, .inl v_there)), (a_waitKind, .inl ((k 2), 100, .inl (upd v_waitKind v_waits.toNatClampNeg p1))), (a_waitMany, .inl ((k 2), 100, .inl (upd v_waitMany v_waits.toNatClampNeg p3))), (a_waitBytes, .inl ((k 3), 100, .inr (.inl (vp_updL v_waitBytes v_waits.toNatClampNeg p2))))] H := hP
        have hD : va_D A [(h0, .inr (6, [.int o5.2, .int v_sectors, .int v_power, .ref a_disk, .ref a_made, .int v_used, .int v_reserve, .int v_cutWrites, .int v_cutBytes, .int v_rows, .ref a_sectorOf, .ref a_placeOf, .ref a_manyOf, .ref a_there, .int v_waits, .ref a_waitKind, .ref a_waitMany, .ref a_waitBytes, .int v_stateNumber, .long v_stateNow, .int v_second, .int v_repaired, .int v_up, .int v_sent])), (a_disk, .inl ((k 2), 32768, .inl v_disk)), (a_made, .inl ((k 2), 512, .inl v_made)), (a_sectorOf, .inl ((k 2), 5100, .inl v_sectorOf)), (a_placeOf, .inl ((k 2), 5100, .inl v_placeOf)), (a_manyOf, .inl ((k 2), 5100, .inl v_manyOf)), (a_there, .inl ((k 1), 5100, .inl v_there)), (a_waitKind, .inl ((k 2), 100, .inl (upd v_waitKind v_waits.toNatClampNeg p1))), (a_waitMany, .inl ((k 2), 100, .inl (upd v_waitMany v_waits.toNatClampNeg p3))), (a_waitBytes, .inl ((k 3), 100, .inr (.inl (vp_updL v_waitBytes v_waits.toNatClampNeg p2))))] := hD
        refine lv_aload_n hx hb dX6_row_158 rfl (lv_at hl 2 rfl) ?_
        refine lv_dup hx hb dX6_row_159 rfl ?_
        refine va_get (D := D) (ci := 6) (v := .int v_waits) (C := "ServiceDiskModel") (T := TX6) (N := 24) hx hb hts inX6 hown hK hP 0 rfl rfl 14 (by decide) (hts _ w_751) (fun _ h9 => h9) rfl dX6_row_160 ?_
        refine lv_iconst (v := 1) hx hb dX6_row_163 (by decide) ?_
        refine lv_iadd hx hb dX6_row_164 ?_
        refine va_put (D := D) (ci := 6) (v := .int (v_waits + 1)) (ty := .int) (C := "ServiceDiskModel") (T := TX6) (N := 24) hx hb hts inX6 tyX6 tyX6_ok nmX6 hown hK hP hD hS 0 rfl rfl 14 (by decide) (hts _ w_751) (fun _ h9 => h9) rfl (by decide +kernel) rfl rfl (Nat.le_of_ble_eq_true rfl) dX6_row_165 (fun H locs hP hD hS => ?_)
        have hP : va_P D vwCl [(h0, .inr (6, [.int o5.2, .int v_sectors, .int v_power, .ref a_disk, .ref a_made, .int v_used, .int v_reserve, .int v_cutWrites, .int v_cutBytes, .int v_rows, .ref a_sectorOf, .ref a_placeOf, .ref a_manyOf, .ref a_there, .int (v_waits + 1), .ref a_waitKind, .ref a_waitMany, .ref a_waitBytes, .int v_stateNumber, .long v_stateNow, .int v_second, .int v_repaired, .int v_up, .int v_sent])), (a_disk, .inl ((k 2), 32768, .inl v_disk)), (a_made, .inl ((k 2), 512, .inl v_made)), (a_sectorOf, .inl ((k 2), 5100, .inl v_sectorOf)), (a_placeOf, .inl ((k 2), 5100, .inl v_placeOf)), (a_manyOf, .inl ((k 2), 5100, .inl v_manyOf)), (a_there, .inl ((k 1), 5100, .inl v_there)), (a_waitKind, .inl ((k 2), 100, .inl (upd v_waitKind v_waits.toNatClampNeg p1))), (a_waitMany, .inl ((k 2), 100, .inl (upd v_waitMany v_waits.toNatClampNeg p3))), (a_waitBytes, .inl ((k 3), 100, .inr (.inl (vp_updL v_waitBytes v_waits.toNatClampNeg p2))))] H := hP
        have hD : va_D A [(h0, .inr (6, [.int o5.2, .int v_sectors, .int v_power, .ref a_disk, .ref a_made, .int v_used, .int v_reserve, .int v_cutWrites, .int v_cutBytes, .int v_rows, .ref a_sectorOf, .ref a_placeOf, .ref a_manyOf, .ref a_there, .int (v_waits + 1), .ref a_waitKind, .ref a_waitMany, .ref a_waitBytes, .int v_stateNumber, .long v_stateNow, .int v_second, .int v_repaired, .int v_up, .int v_sent])), (a_disk, .inl ((k 2), 32768, .inl v_disk)), (a_made, .inl ((k 2), 512, .inl v_made)), (a_sectorOf, .inl ((k 2), 5100, .inl v_sectorOf)), (a_placeOf, .inl ((k 2), 5100, .inl v_placeOf)), (a_manyOf, .inl ((k 2), 5100, .inl v_manyOf)), (a_there, .inl ((k 1), 5100, .inl v_there)), (a_waitKind, .inl ((k 2), 100, .inl (upd v_waitKind v_waits.toNatClampNeg p1))), (a_waitMany, .inl ((k 2), 100, .inl (upd v_waitMany v_waits.toNatClampNeg p3))), (a_waitBytes, .inl ((k 3), 100, .inr (.inl (vp_updL v_waitBytes v_waits.toNatClampNeg p2))))] := hD
        refine lv_aload_n hx hb dX6_row_168 rfl (lv_at hl 2 rfl) ?_
        refine va_get (D := D) (ci := 6) (v := .int v_rows) (C := "ServiceDiskModel") (T := TX6) (N := 24) hx hb hts inX6 hown hK hP 0 rfl rfl 9 (by decide) (hts _ w_746) (fun _ h9 => h9) rfl dX6_row_169 ?_
        refine lv_aload_n hx hb dX6_row_172 rfl (lv_at hl 2 rfl) ?_
        refine va_get (D := D) (ci := 6) (v := .int (v_waits + 1)) (C := "ServiceDiskModel") (T := TX6) (N := 24) hx hb hts inX6 hown hK hP 0 rfl rfl 14 (by decide) (hts _ w_751) (fun _ h9 => h9) rfl dX6_row_173 ?_
        refine lv_iadd hx hb dX6_row_176 ?_
        refine lv_iconst (v := 1) hx hb dX6_row_177 (by decide) ?_
        refine lv_isub hx hb dX6_row_178 ?_
        have h := dk_r h
        subst h
        exact dk_rwi hx hb hr hlocks (hP.sub [0, 1, 2, 3, 4, 5, 6, 7, 8, 9] rfl) (hD.sub [0, 1, 2, 3, 4, 5, 6, 7, 8, 9] (by decide) rfl) hS dX6_row_179 rfl
      · replace h := dk_f q h
        refine lv_iconst (v := 0) hx hb dX6_row_125 (by decide) ?_
        have h := dk_r h
        subst h
        exact dk_rwi hx hb hr hlocks (hP.sub [0, 1, 2, 3, 4, 5, 6, 7, 8, 9] rfl) (hD.sub [0, 1, 2, 3, 4, 5, 6, 7, 8, 9] (by decide) rfl) hS dX6_row_126 rfl
    · replace h := dk_t q h
      refine lv_aload_n hx hb dX6_row_33 rfl (lv_at hl 2 rfl) ?_
      refine va_get (D := D) (ci := 6) (v := .int v_sectors) (C := "ServiceDiskModel") (T := TX6) (N := 24) hx hb hts inX6 hown hK hP 0 rfl rfl 1 (by decide) (hts _ w_738) (fun _ h9 => h9) rfl dX6_row_34 ?_
      refine lv_iconst (v := 2) hx hb dX6_row_37 (by decide) ?_
      refine lv_isub hx hb dX6_row_38 ?_
      refine lv_aload_n hx hb dX6_row_39 rfl (lv_at hl 2 rfl) ?_
      refine va_get (D := D) (ci := 6) (v := .int v_used) (C := "ServiceDiskModel") (T := TX6) (N := 24) hx hb hts inX6 hown hK hP 0 rfl rfl 5 (by decide) (hts _ w_742) (fun _ h9 => h9) rfl dX6_row_40 ?_
      refine lv_isub hx hb dX6_row_43 ?_
      refine lv_iload_n hx hb dX6_row_44 rfl (lv_at hl 3 rfl) ?_
      refine lv_iconst (v := 3) hx hb dX6_row_45 (by decide) ?_
      refine dk_jn (F0 m 57 ls [.int (if p1 ≤ (3 : Int32) then 0 else v_reserve), .int ((v_sectors - 2) - v_used)]) (fun K => ?_) ?_
      · refine lv_icmp_le (tgt := 56) hx hb dX6_row_46 (by decide) (fun q1 => ?_) (fun q1 => ?_)
        · refine lv_iconst (v := 0) hx hb dX6_row_56 (by decide) ?_
          have K := K
          rw [if_pos q1] at K
          exact K
        · refine lv_aload_n hx hb dX6_row_49 rfl (lv_at hl 2 rfl) ?_
          refine va_get (D := D) (ci := 6) (v := .int v_reserve) (C := "ServiceDiskModel") (T := TX6) (N := 24) hx hb hts inX6 hown hK hP 0 rfl rfl 6 (by decide) (hts _ w_743) (fun _ h9 => h9) rfl dX6_row_50 ?_
          refine lv_goto (tgt := 57) hx hb dX6_row_53 (by decide) ?_
          have K := K
          rw [if_neg q1] at K
          exact K
      refine lv_isub hx hb dX6_row_57 ?_
      refine lv_istore (lv' := [(7, .int (((v_sectors - 2) - v_used) - (if p1 ≤ (3 : Int32) then 0 else v_reserve))), (6, .int 0), (5, .int (if o1 = 0 then 1 else 0)), (0, .ref h0), (1, .int p1), (2, .long p2), (4, .int p3)]) hx hb dX6_row_58 hl (by decide) rfl (fun ls hl => ?_)
      refine lv_aload_n hx hb dX6_row_60 rfl (lv_at hl 3 rfl) ?_
      refine va_get (D := D) (ci := 6) (v := .int v_waits) (C := "ServiceDiskModel") (T := TX6) (N := 24) hx hb hts inX6 hown hK hP 0 rfl rfl 14 (by decide) (hts _ w_751) (fun _ h9 => h9) rfl dX6_row_61 ?_
      refine lv_bipush (v := 100) hx hb dX6_row_64 (by decide) ?_
      refine lv_icmp_eq (tgt := 80) hx hb dX6_row_66 (by decide) (fun q => ?_) (fun q => ?_)
      · replace h := dk_t q h
        refine lv_iconst (v := 1) hx hb dX6_row_80 (by decide) ?_
        refine lv_goto (tgt := 85) hx hb dX6_row_81 (by decide) ?_
        refine lv_istore (lv' := [(6, .int 1), (7, .int (((v_sectors - 2) - v_used) - (if p1 ≤ (3 : Int32) then 0 else v_reserve))), (5, .int (if o1 = 0 then 1 else 0)), (0, .ref h0), (1, .int p1), (2, .long p2), (4, .int p3)]) hx hb dX6_row_85 hl (by decide) rfl (fun ls hl => ?_)
        refine lv_aload_n hx hb dX6_row_87 rfl (lv_at hl 3 rfl) ?_
        refine lv_iload_n hx hb dX6_row_88 rfl (lv_at hl 4 rfl) ?_
        refine lv_iconst (v := 0) hx hb dX6_row_89 (by decide) ?_
        refine lv_bipush (v := 7) hx hb dX6_row_90 (by decide) ?_
        replace h := dk_b h
        obtain ⟨o6, e6, h⟩ := h
        refine dk_cri (va_runS (As := [.int p1, .int 0, .int 7]) (rest := [.ref h0]) ⟨hx, hb, hml, hown, hts⟩ (mX6_in l D k p1 0 7 o6 e6) (va_cwS 3 hts (dk_gS w_818 w_819 w_46 w_820) rfl rfl rfl (by decide +kernel) ⟨Nat.le_of_ble_eq_true rfl, Nat.le_of_ble_eq_true rfl⟩) (dk_psr hK hN hP [] rfl) rfl rfl hl.1 rfl (lv_room (Nat.le_of_ble_eq_true rfl)) dX6_row_92 ⟨Nat.le_of_ble_eq_true rfl, Nat.le_of_ble_eq_true rfl⟩) ?_
        refine dk_jn (F0 m 103 ls [.int (if o6 = 0 then 1 else 0), .ref h0]) (fun K => ?_) ?_
        · refine lv_if_ne (tgt := 102) hx hb dX6_row_95 (by decide) (fun q1 => ?_) (fun q1 => ?_)
          · refine lv_iconst (v := 0) hx hb dX6_row_102 (by decide) ?_
            have K := K
            rw [if_neg q1] at K
            exact K
          · refine lv_iconst (v := 1) hx hb dX6_row_98 (by decide) ?_
            refine lv_goto (tgt := 103) hx hb dX6_row_99 (by decide) ?_
            have K := K
            rw [if_pos q1] at K
            exact K
        refine lv_iload hx hb dX6_row_103 (lv_at hl 2 rfl) ?_
        refine lv_aload_n hx hb dX6_row_105 rfl (lv_at hl 3 rfl) ?_
        refine va_get (D := D) (ci := 6) (v := .int v_power) (C := "ServiceDiskModel") (T := TX6) (N := 24) hx hb hts inX6 hown hK hP 0 rfl rfl 2 (by decide) (hts _ w_739) (fun _ h9 => h9) rfl dX6_row_106 ?_
        refine dk_jn (F0 m 117 ls [.int (if v_power = 0 then 1 else 0), .int (if o1 = 0 then 1 else 0), .int (if o6 = 0 then 1 else 0), .ref h0]) (fun K => ?_) ?_
        · refine lv_if_ne (tgt := 116) hx hb dX6_row_109 (by decide) (fun q1 => ?_) (fun q1 => ?_)
          · refine lv_iconst (v := 0) hx hb dX6_row_116 (by decide) ?_
            have K := K
            rw [if_neg q1] at K
            exact K
          · refine lv_iconst (v := 1) hx hb dX6_row_112 (by decide) ?_
            refine lv_goto (tgt := 117) hx hb dX6_row_113 (by decide) ?_
            have K := K
            rw [if_pos q1] at K
            exact K
        refine lv_iload hx hb dX6_row_117 (lv_at hl 0 rfl) ?_
        replace h := dk_b h
        obtain ⟨o7, e7, h⟩ := h
        refine dk_cwi (wr := []) (va_runV (As := [.int (if o6 = 0 then 1 else 0), .int (if o1 = 0 then 1 else 0), .int (if v_power = 0 then 1 else 0), .int 1]) (rest := []) ⟨hx, hb, hml, hown, hts⟩ (mX6_throwing l D k h0 a_disk a_made a_sectorOf a_placeOf a_manyOf a_there a_waitKind a_waitMany a_waitBytes s.heap.size v_thrown v_sectors v_power v_used v_reserve v_cutWrites v_cutBytes v_rows v_waits v_stateNumber v_stateNow v_second v_repaired v_up v_sent v_disk v_made v_sectorOf v_placeOf v_manyOf v_there v_waitKind v_waitMany v_waitBytes (if o6 = 0 then 1 else 0) (if o1 = 0 then 1 else 0) (if v_power = 0 then 1 else 0) 1 o7 e7) (cwV 4 hts (dk_gV w_821 w_823 w_20 w_46 w_824) rfl rfl rfl (by decide +kernel) ⟨Nat.le_of_ble_eq_true rfl, Nat.le_of_ble_eq_true rfl⟩) (dk_pvw hK hN hP hD [0, 1, 2, 3, 4, 5, 6, 7, 8, 9] rfl rfl rfl rfl (hP.sub [0, 1, 2, 3, 4, 5, 6, 7, 8, 9] rfl)) rfl rfl hl.1 rfl (lv_room (Nat.le_of_ble_eq_true rfl)) dX6_row_119 ⟨Nat.le_of_ble_eq_true rfl, Nat.le_of_ble_eq_true rfl⟩) hP hD hS hA [0, 1, 2, 3, 4, 5, 6, 7, 8, 9] [] rfl rfl rfl (by decide) (fun H locs hP hD hS => ?_)
        have hP : va_P D vwCl [(h0, .inr (6, [.int o7.2, .int v_sectors, .int v_power, .ref a_disk, .ref a_made, .int v_used, .int v_reserve, .int v_cutWrites, .int v_cutBytes, .int v_rows, .ref a_sectorOf, .ref a_placeOf, .ref a_manyOf, .ref a_there, .int v_waits, .ref a_waitKind, .ref a_waitMany, .ref a_waitBytes, .int v_stateNumber, .long v_stateNow, .int v_second, .int v_repaired, .int v_up, .int v_sent])), (a_disk, .inl ((k 2), 32768, .inl v_disk)), (a_made, .inl ((k 2), 512, .inl v_made)), (a_sectorOf, .inl ((k 2), 5100, .inl v_sectorOf)), (a_placeOf, .inl ((k 2), 5100, .inl v_placeOf)), (a_manyOf, .inl ((k 2), 5100, .inl v_manyOf)), (a_there, .inl ((k 1), 5100, .inl v_there)), (a_waitKind, .inl ((k 2), 100, .inl v_waitKind)), (a_waitMany, .inl ((k 2), 100, .inl v_waitMany)), (a_waitBytes, .inl ((k 3), 100, .inr (.inl v_waitBytes)))] H := hP
        have hD : va_D A [(h0, .inr (6, [.int o7.2, .int v_sectors, .int v_power, .ref a_disk, .ref a_made, .int v_used, .int v_reserve, .int v_cutWrites, .int v_cutBytes, .int v_rows, .ref a_sectorOf, .ref a_placeOf, .ref a_manyOf, .ref a_there, .int v_waits, .ref a_waitKind, .ref a_waitMany, .ref a_waitBytes, .int v_stateNumber, .long v_stateNow, .int v_second, .int v_repaired, .int v_up, .int v_sent])), (a_disk, .inl ((k 2), 32768, .inl v_disk)), (a_made, .inl ((k 2), 512, .inl v_made)), (a_sectorOf, .inl ((k 2), 5100, .inl v_sectorOf)), (a_placeOf, .inl ((k 2), 5100, .inl v_placeOf)), (a_manyOf, .inl ((k 2), 5100, .inl v_manyOf)), (a_there, .inl ((k 1), 5100, .inl v_there)), (a_waitKind, .inl ((k 2), 100, .inl v_waitKind)), (a_waitMany, .inl ((k 2), 100, .inl v_waitMany)), (a_waitBytes, .inl ((k 3), 100, .inr (.inl v_waitBytes)))] := hD
        refine lv_if_eq (tgt := 127) hx hb dX6_row_122 (by decide) (fun q => ?_) (fun q => ?_)
        · replace h := dk_t q h
          refine lv_aload_n hx hb dX6_row_127 rfl (lv_at hl 3 rfl) ?_
          refine va_get (D := D) (ci := 6) (v := .ref a_waitKind) (C := "ServiceDiskModel") (T := TX6) (N := 24) hx hb hts inX6 hown hK hP 0 rfl rfl 15 (by decide) (hts _ w_752) (fun _ h9 => h9) rfl dX6_row_128 ?_
          refine lv_aload_n hx hb dX6_row_131 rfl (lv_at hl 3 rfl) ?_
          refine va_get (D := D) (ci := 6) (v := .int v_waits) (C := "ServiceDiskModel") (T := TX6) (N := 24) hx hb hts inX6 hown hK hP 0 rfl rfl 14 (by decide) (hts _ w_751) (fun _ h9 => h9) rfl dX6_row_132 ?_
          refine lv_iload_n hx hb dX6_row_135 rfl (lv_at hl 4 rfl) ?_
          obtain ⟨q, h⟩ := dk_g h
          refine va_iast hx hb hK hP hD hS 7 2 rfl rfl q dX6_row_136 (fun H locs hP hD hS => ?_)
          have hP : va_P D vwCl [(h0, .inr (6, [.int o7.2, .int v_sectors, .int v_power, .ref a_disk, .ref a_made, .int v_used, .int v_reserve, .int v_cutWrites, .int v_cutBytes, .int v_rows, .ref a_sectorOf, .ref a_placeOf, .ref a_manyOf, .ref a_there, .int v_waits, .ref a_waitKind, .ref a_waitMany, .ref a_waitBytes, .int v_stateNumber, .long v_stateNow, .int v_second, .int v_repaired, .int v_up, .int v_sent])), (a_disk, .inl ((k 2), 32768, .inl v_disk)), (a_made, .inl ((k 2), 512, .inl v_made)), (a_sectorOf, .inl ((k 2), 5100, .inl v_sectorOf)), (a_placeOf, .inl ((k 2), 5100, .inl v_placeOf)), (a_manyOf, .inl ((k 2), 5100, .inl v_manyOf)), (a_there, .inl ((k 1), 5100, .inl v_there)), (a_waitKind, .inl ((k 2), 100, .inl (upd v_waitKind v_waits.toNatClampNeg p1))), (a_waitMany, .inl ((k 2), 100, .inl v_waitMany)), (a_waitBytes, .inl ((k 3), 100, .inr (.inl v_waitBytes)))] H := hP
          have hD : va_D A [(h0, .inr (6, [.int o7.2, .int v_sectors, .int v_power, .ref a_disk, .ref a_made, .int v_used, .int v_reserve, .int v_cutWrites, .int v_cutBytes, .int v_rows, .ref a_sectorOf, .ref a_placeOf, .ref a_manyOf, .ref a_there, .int v_waits, .ref a_waitKind, .ref a_waitMany, .ref a_waitBytes, .int v_stateNumber, .long v_stateNow, .int v_second, .int v_repaired, .int v_up, .int v_sent])), (a_disk, .inl ((k 2), 32768, .inl v_disk)), (a_made, .inl ((k 2), 512, .inl v_made)), (a_sectorOf, .inl ((k 2), 5100, .inl v_sectorOf)), (a_placeOf, .inl ((k 2), 5100, .inl v_placeOf)), (a_manyOf, .inl ((k 2), 5100, .inl v_manyOf)), (a_there, .inl ((k 1), 5100, .inl v_there)), (a_waitKind, .inl ((k 2), 100, .inl (upd v_waitKind v_waits.toNatClampNeg p1))), (a_waitMany, .inl ((k 2), 100, .inl v_waitMany)), (a_waitBytes, .inl ((k 3), 100, .inr (.inl v_waitBytes)))] := hD
          refine lv_aload_n hx hb dX6_row_137 rfl (lv_at hl 3 rfl) ?_
          refine va_get (D := D) (ci := 6) (v := .ref a_waitMany) (C := "ServiceDiskModel") (T := TX6) (N := 24) hx hb hts inX6 hown hK hP 0 rfl rfl 16 (by decide) (hts _ w_753) (fun _ h9 => h9) rfl dX6_row_138 ?_
          refine lv_aload_n hx hb dX6_row_141 rfl (lv_at hl 3 rfl) ?_
          refine va_get (D := D) (ci := 6) (v := .int v_waits) (C := "ServiceDiskModel") (T := TX6) (N := 24) hx hb hts inX6 hown hK hP 0 rfl rfl 14 (by decide) (hts _ w_751) (fun _ h9 => h9) rfl dX6_row_142 ?_
          refine lv_iload hx hb dX6_row_145 (lv_at hl 6 rfl) ?_
          obtain ⟨q, h⟩ := dk_g h
          refine va_iast hx hb hK hP hD hS 8 2 rfl rfl q dX6_row_147 (fun H locs hP hD hS => ?_)
          have hP : va_P D vwCl [(h0, .inr (6, [.int o7.2, .int v_sectors, .int v_power, .ref a_disk, .ref a_made, .int v_used, .int v_reserve, .int v_cutWrites, .int v_cutBytes, .int v_rows, .ref a_sectorOf, .ref a_placeOf, .ref a_manyOf, .ref a_there, .int v_waits, .ref a_waitKind, .ref a_waitMany, .ref a_waitBytes, .int v_stateNumber, .long v_stateNow, .int v_second, .int v_repaired, .int v_up, .int v_sent])), (a_disk, .inl ((k 2), 32768, .inl v_disk)), (a_made, .inl ((k 2), 512, .inl v_made)), (a_sectorOf, .inl ((k 2), 5100, .inl v_sectorOf)), (a_placeOf, .inl ((k 2), 5100, .inl v_placeOf)), (a_manyOf, .inl ((k 2), 5100, .inl v_manyOf)), (a_there, .inl ((k 1), 5100, .inl v_there)), (a_waitKind, .inl ((k 2), 100, .inl (upd v_waitKind v_waits.toNatClampNeg p1))), (a_waitMany, .inl ((k 2), 100, .inl (upd v_waitMany v_waits.toNatClampNeg p3))), (a_waitBytes, .inl ((k 3), 100, .inr (.inl v_waitBytes)))] H := hP
          have hD : va_D A [(h0, .inr (6, [.int o7.2, .int v_sectors, .int v_power, .ref a_disk, .ref a_made, .int v_used, .int v_reserve, .int v_cutWrites, .int v_cutBytes, .int v_rows, .ref a_sectorOf, .ref a_placeOf, .ref a_manyOf, .ref a_there, .int v_waits, .ref a_waitKind, .ref a_waitMany, .ref a_waitBytes, .int v_stateNumber, .long v_stateNow, .int v_second, .int v_repaired, .int v_up, .int v_sent])), (a_disk, .inl ((k 2), 32768, .inl v_disk)), (a_made, .inl ((k 2), 512, .inl v_made)), (a_sectorOf, .inl ((k 2), 5100, .inl v_sectorOf)), (a_placeOf, .inl ((k 2), 5100, .inl v_placeOf)), (a_manyOf, .inl ((k 2), 5100, .inl v_manyOf)), (a_there, .inl ((k 1), 5100, .inl v_there)), (a_waitKind, .inl ((k 2), 100, .inl (upd v_waitKind v_waits.toNatClampNeg p1))), (a_waitMany, .inl ((k 2), 100, .inl (upd v_waitMany v_waits.toNatClampNeg p3))), (a_waitBytes, .inl ((k 3), 100, .inr (.inl v_waitBytes)))] := hD
          refine lv_aload_n hx hb dX6_row_148 rfl (lv_at hl 3 rfl) ?_
          refine va_get (D := D) (ci := 6) (v := .ref a_waitBytes) (C := "ServiceDiskModel") (T := TX6) (N := 24) hx hb hts inX6 hown hK hP 0 rfl rfl 17 (by decide) (hts _ w_754) (fun _ h9 => h9) rfl dX6_row_149 ?_
          refine lv_aload_n hx hb dX6_row_152 rfl (lv_at hl 3 rfl) ?_
          refine va_get (D := D) (ci := 6) (v := .int v_waits) (C := "ServiceDiskModel") (T := TX6) (N := 24) hx hb hts inX6 hown hK hP 0 rfl rfl 14 (by decide) (hts _ w_751) (fun _ h9 => h9) rfl dX6_row_153 ?_
          refine lv_lload_n hx hb dX6_row_156 rfl (lv_at hl 5 rfl) ?_
          obtain ⟨q, h⟩ := dk_g h
          refine va_last hx hb hK hP hD hS 9 3 rfl rfl q dX6_row_157 (fun H locs hP hD hS => ?_)
          have hP : va_P D vwCl [(h0, .inr (6, [.int o7.2, .int v_sectors, .int v_power, .ref a_disk, .ref a_made, .int v_used, .int v_reserve, .int v_cutWrites, .int v_cutBytes, .int v_rows, .ref a_sectorOf, .ref a_placeOf, .ref a_manyOf, .ref a_there, .int v_waits, .ref a_waitKind, .ref a_waitMany, .ref a_waitBytes, .int v_stateNumber, .long v_stateNow, .int v_second, .int v_repaired, .int v_up, .int v_sent])), (a_disk, .inl ((k 2), 32768, .inl v_disk)), (a_made, .inl ((k 2), 512, .inl v_made)), (a_sectorOf, .inl ((k 2), 5100, .inl v_sectorOf)), (a_placeOf, .inl ((k 2), 5100, .inl v_placeOf)), (a_manyOf, .inl ((k 2), 5100, .inl v_manyOf)), (a_there, .inl ((k 1), 5100, .inl v_there)), (a_waitKind, .inl ((k 2), 100, .inl (upd v_waitKind v_waits.toNatClampNeg p1))), (a_waitMany, .inl ((k 2), 100, .inl (upd v_waitMany v_waits.toNatClampNeg p3))), (a_waitBytes, .inl ((k 3), 100, .inr (.inl (vp_updL v_waitBytes v_waits.toNatClampNeg p2))))] H := hP
          have hD : va_D A [(h0, .inr (6, [.int o7.2, .int v_sectors, .int v_power, .ref a_disk, .ref a_made, .int v_used, .int v_reserve, .int v_cutWrites, .int v_cutBytes, .int v_rows, .ref a_sectorOf, .ref a_placeOf, .ref a_manyOf, .ref a_there, .int v_waits, .ref a_waitKind, .ref a_waitMany, .ref a_waitBytes, .int v_stateNumber, .long v_stateNow, .int v_second, .int v_repaired, .int v_up, .int v_sent])), (a_disk, .inl ((k 2), 32768, .inl v_disk)), (a_made, .inl ((k 2), 512, .inl v_made)), (a_sectorOf, .inl ((k 2), 5100, .inl v_sectorOf)), (a_placeOf, .inl ((k 2), 5100, .inl v_placeOf)), (a_manyOf, .inl ((k 2), 5100, .inl v_manyOf)), (a_there, .inl ((k 1), 5100, .inl v_there)), (a_waitKind, .inl ((k 2), 100, .inl (upd v_waitKind v_waits.toNatClampNeg p1))), (a_waitMany, .inl ((k 2), 100, .inl (upd v_waitMany v_waits.toNatClampNeg p3))), (a_waitBytes, .inl ((k 3), 100, .inr (.inl (vp_updL v_waitBytes v_waits.toNatClampNeg p2))))] := hD
          refine lv_aload_n hx hb dX6_row_158 rfl (lv_at hl 3 rfl) ?_
          refine lv_dup hx hb dX6_row_159 rfl ?_
          refine va_get (D := D) (ci := 6) (v := .int v_waits) (C := "ServiceDiskModel") (T := TX6) (N := 24) hx hb hts inX6 hown hK hP 0 rfl rfl 14 (by decide) (hts _ w_751) (fun _ h9 => h9) rfl dX6_row_160 ?_
          refine lv_iconst (v := 1) hx hb dX6_row_163 (by decide) ?_
          refine lv_iadd hx hb dX6_row_164 ?_
          refine va_put (D := D) (ci := 6) (v := .int (v_waits + 1)) (ty := .int) (C := "ServiceDiskModel") (T := TX6) (N := 24) hx hb hts inX6 tyX6 tyX6_ok nmX6 hown hK hP hD hS 0 rfl rfl 14 (by decide) (hts _ w_751) (fun _ h9 => h9) rfl (by decide +kernel) rfl rfl (Nat.le_of_ble_eq_true rfl) dX6_row_165 (fun H locs hP hD hS => ?_)
          have hP : va_P D vwCl [(h0, .inr (6, [.int o7.2, .int v_sectors, .int v_power, .ref a_disk, .ref a_made, .int v_used, .int v_reserve, .int v_cutWrites, .int v_cutBytes, .int v_rows, .ref a_sectorOf, .ref a_placeOf, .ref a_manyOf, .ref a_there, .int (v_waits + 1), .ref a_waitKind, .ref a_waitMany, .ref a_waitBytes, .int v_stateNumber, .long v_stateNow, .int v_second, .int v_repaired, .int v_up, .int v_sent])), (a_disk, .inl ((k 2), 32768, .inl v_disk)), (a_made, .inl ((k 2), 512, .inl v_made)), (a_sectorOf, .inl ((k 2), 5100, .inl v_sectorOf)), (a_placeOf, .inl ((k 2), 5100, .inl v_placeOf)), (a_manyOf, .inl ((k 2), 5100, .inl v_manyOf)), (a_there, .inl ((k 1), 5100, .inl v_there)), (a_waitKind, .inl ((k 2), 100, .inl (upd v_waitKind v_waits.toNatClampNeg p1))), (a_waitMany, .inl ((k 2), 100, .inl (upd v_waitMany v_waits.toNatClampNeg p3))), (a_waitBytes, .inl ((k 3), 100, .inr (.inl (vp_updL v_waitBytes v_waits.toNatClampNeg p2))))] H := hP
          have hD : va_D A [(h0, .inr (6, [.int o7.2, .int v_sectors, .int v_power, .ref a_disk, .ref a_made, .int v_used, .int v_reserve, .int v_cutWrites, .int v_cutBytes, .int v_rows, .ref a_sectorOf, .ref a_placeOf, .ref a_manyOf, .ref a_there, .int (v_waits + 1), .ref a_waitKind, .ref a_waitMany, .ref a_waitBytes, .int v_stateNumber, .long v_stateNow, .int v_second, .int v_repaired, .int v_up, .int v_sent])), (a_disk, .inl ((k 2), 32768, .inl v_disk)), (a_made, .inl ((k 2), 512, .inl v_made)), (a_sectorOf, .inl ((k 2), 5100, .inl v_sectorOf)), (a_placeOf, .inl ((k 2), 5100, .inl v_placeOf)), (a_manyOf, .inl ((k 2), 5100, .inl v_manyOf)), (a_there, .inl ((k 1), 5100, .inl v_there)), (a_waitKind, .inl ((k 2), 100, .inl (upd v_waitKind v_waits.toNatClampNeg p1))), (a_waitMany, .inl ((k 2), 100, .inl (upd v_waitMany v_waits.toNatClampNeg p3))), (a_waitBytes, .inl ((k 3), 100, .inr (.inl (vp_updL v_waitBytes v_waits.toNatClampNeg p2))))] := hD
          refine lv_aload_n hx hb dX6_row_168 rfl (lv_at hl 3 rfl) ?_
          refine va_get (D := D) (ci := 6) (v := .int v_rows) (C := "ServiceDiskModel") (T := TX6) (N := 24) hx hb hts inX6 hown hK hP 0 rfl rfl 9 (by decide) (hts _ w_746) (fun _ h9 => h9) rfl dX6_row_169 ?_
          refine lv_aload_n hx hb dX6_row_172 rfl (lv_at hl 3 rfl) ?_
          refine va_get (D := D) (ci := 6) (v := .int (v_waits + 1)) (C := "ServiceDiskModel") (T := TX6) (N := 24) hx hb hts inX6 hown hK hP 0 rfl rfl 14 (by decide) (hts _ w_751) (fun _ h9 => h9) rfl dX6_row_173 ?_
          refine lv_iadd hx hb dX6_row_176 ?_
          refine lv_iconst (v := 1) hx hb dX6_row_177 (by decide) ?_
          refine lv_isub hx hb dX6_row_178 ?_
          have h := dk_r h
          subst h
          exact dk_rwi hx hb hr hlocks (hP.sub [0, 1, 2, 3, 4, 5, 6, 7, 8, 9] rfl) (hD.sub [0, 1, 2, 3, 4, 5, 6, 7, 8, 9] (by decide) rfl) hS dX6_row_179 rfl
        · replace h := dk_f q h
          refine lv_iconst (v := 0) hx hb dX6_row_125 (by decide) ?_
          have h := dk_r h
          subst h
          exact dk_rwi hx hb hr hlocks (hP.sub [0, 1, 2, 3, 4, 5, 6, 7, 8, 9] rfl) (hD.sub [0, 1, 2, 3, 4, 5, 6, 7, 8, 9] (by decide) rfl) hS dX6_row_126 rfl
      · replace h := dk_f q h
        refine lv_aload_n hx hb dX6_row_69 rfl (lv_at hl 3 rfl) ?_
        refine lv_iload hx hb dX6_row_70 (lv_at hl 6 rfl) ?_
        replace h := dk_b h
        obtain ⟨o8, e8, h⟩ := h
        refine dk_cri (va_runV (As := [.int p3]) (rest := []) ⟨hx, hb, hml, hown, hts⟩ (mX6_needed l D k h0 a_disk a_made a_sectorOf a_placeOf a_manyOf a_there a_waitKind a_waitMany a_waitBytes v_thrown v_sectors v_power v_used v_reserve v_cutWrites v_cutBytes v_rows v_waits v_stateNumber v_stateNow v_second v_repaired v_up v_sent v_disk v_made v_sectorOf v_placeOf v_manyOf v_there v_waitKind v_waitMany v_waitBytes p3 o8 e8) (cwV 1 hts (dk_gV w_833 w_835 w_21 w_46 w_836) rfl rfl rfl (by decide +kernel) ⟨Nat.le_of_ble_eq_true rfl, Nat.le_of_ble_eq_true rfl⟩) (dk_pvr hK hN hP [0, 1, 2, 3, 4, 5, 6, 7, 8, 9] rfl rfl rfl) rfl rfl hl.1 rfl (lv_room (Nat.le_of_ble_eq_true rfl)) dX6_row_72 ⟨Nat.le_of_ble_eq_true rfl, Nat.le_of_ble_eq_true rfl⟩) ?_
        refine lv_iload hx hb dX6_row_75 (lv_at hl 0 rfl) ?_
        refine dk_jn (F0 m 85 ls [.int (if o8 ≤ (((v_sectors - 2) - v_used) - (if p1 ≤ (3 : Int32) then 0 else v_reserve)) then 0 else 1)]) (fun K => ?_) ?_
        · refine lv_icmp_le (tgt := 84) hx hb dX6_row_77 (by decide) (fun q1 => ?_) (fun q1 => ?_)
          · refine lv_iconst (v := 0) hx hb dX6_row_84 (by decide) ?_
            have K := K
            rw [if_pos q1] at K
            exact K
          · refine lv_iconst (v := 1) hx hb dX6_row_80 (by decide) ?_
            refine lv_goto (tgt := 85) hx hb dX6_row_81 (by decide) ?_
            have K := K
            rw [if_neg q1] at K
            exact K
        refine lv_istore (lv' := [(6, .int (if o8 ≤ (((v_sectors - 2) - v_used) - (if p1 ≤ (3 : Int32) then 0 else v_reserve)) then 0 else 1)), (7, .int (((v_sectors - 2) - v_used) - (if p1 ≤ (3 : Int32) then 0 else v_reserve))), (5, .int (if o1 = 0 then 1 else 0)), (0, .ref h0), (1, .int p1), (2, .long p2), (4, .int p3)]) hx hb dX6_row_85 hl (by decide) rfl (fun ls hl => ?_)
        refine lv_aload_n hx hb dX6_row_87 rfl (lv_at hl 3 rfl) ?_
        refine lv_iload_n hx hb dX6_row_88 rfl (lv_at hl 4 rfl) ?_
        refine lv_iconst (v := 0) hx hb dX6_row_89 (by decide) ?_
        refine lv_bipush (v := 7) hx hb dX6_row_90 (by decide) ?_
        replace h := dk_b h
        obtain ⟨o9, e9, h⟩ := h
        refine dk_cri (va_runS (As := [.int p1, .int 0, .int 7]) (rest := [.ref h0]) ⟨hx, hb, hml, hown, hts⟩ (mX6_in l D k p1 0 7 o9 e9) (va_cwS 3 hts (dk_gS w_818 w_819 w_46 w_820) rfl rfl rfl (by decide +kernel) ⟨Nat.le_of_ble_eq_true rfl, Nat.le_of_ble_eq_true rfl⟩) (dk_psr hK hN hP [] rfl) rfl rfl hl.1 rfl (lv_room (Nat.le_of_ble_eq_true rfl)) dX6_row_92 ⟨Nat.le_of_ble_eq_true rfl, Nat.le_of_ble_eq_true rfl⟩) ?_
        refine dk_jn (F0 m 103 ls [.int (if o9 = 0 then 1 else 0), .ref h0]) (fun K => ?_) ?_
        · refine lv_if_ne (tgt := 102) hx hb dX6_row_95 (by decide) (fun q1 => ?_) (fun q1 => ?_)
          · refine lv_iconst (v := 0) hx hb dX6_row_102 (by decide) ?_
            have K := K
            rw [if_neg q1] at K
            exact K
          · refine lv_iconst (v := 1) hx hb dX6_row_98 (by decide) ?_
            refine lv_goto (tgt := 103) hx hb dX6_row_99 (by decide) ?_
            have K := K
            rw [if_pos q1] at K
            exact K
        refine lv_iload hx hb dX6_row_103 (lv_at hl 2 rfl) ?_
        refine lv_aload_n hx hb dX6_row_105 rfl (lv_at hl 3 rfl) ?_
        refine va_get (D := D) (ci := 6) (v := .int v_power) (C := "ServiceDiskModel") (T := TX6) (N := 24) hx hb hts inX6 hown hK hP 0 rfl rfl 2 (by decide) (hts _ w_739) (fun _ h9 => h9) rfl dX6_row_106 ?_
        refine dk_jn (F0 m 117 ls [.int (if v_power = 0 then 1 else 0), .int (if o1 = 0 then 1 else 0), .int (if o9 = 0 then 1 else 0), .ref h0]) (fun K => ?_) ?_
        · refine lv_if_ne (tgt := 116) hx hb dX6_row_109 (by decide) (fun q1 => ?_) (fun q1 => ?_)
          · refine lv_iconst (v := 0) hx hb dX6_row_116 (by decide) ?_
            have K := K
            rw [if_neg q1] at K
            exact K
          · refine lv_iconst (v := 1) hx hb dX6_row_112 (by decide) ?_
            refine lv_goto (tgt := 117) hx hb dX6_row_113 (by decide) ?_
            have K := K
            rw [if_pos q1] at K
            exact K
        refine lv_iload hx hb dX6_row_117 (lv_at hl 0 rfl) ?_
        replace h := dk_b h
        obtain ⟨o10, e10, h⟩ := h
        refine dk_cwi (wr := []) (va_runV (As := [.int (if o9 = 0 then 1 else 0), .int (if o1 = 0 then 1 else 0), .int (if v_power = 0 then 1 else 0), .int (if o8 ≤ (((v_sectors - 2) - v_used) - (if p1 ≤ (3 : Int32) then 0 else v_reserve)) then 0 else 1)]) (rest := []) ⟨hx, hb, hml, hown, hts⟩ (mX6_throwing l D k h0 a_disk a_made a_sectorOf a_placeOf a_manyOf a_there a_waitKind a_waitMany a_waitBytes s.heap.size v_thrown v_sectors v_power v_used v_reserve v_cutWrites v_cutBytes v_rows v_waits v_stateNumber v_stateNow v_second v_repaired v_up v_sent v_disk v_made v_sectorOf v_placeOf v_manyOf v_there v_waitKind v_waitMany v_waitBytes (if o9 = 0 then 1 else 0) (if o1 = 0 then 1 else 0) (if v_power = 0 then 1 else 0) (if o8 ≤ (((v_sectors - 2) - v_used) - (if p1 ≤ (3 : Int32) then 0 else v_reserve)) then 0 else 1) o10 e10) (cwV 4 hts (dk_gV w_821 w_823 w_20 w_46 w_824) rfl rfl rfl (by decide +kernel) ⟨Nat.le_of_ble_eq_true rfl, Nat.le_of_ble_eq_true rfl⟩) (dk_pvw hK hN hP hD [0, 1, 2, 3, 4, 5, 6, 7, 8, 9] rfl rfl rfl rfl (hP.sub [0, 1, 2, 3, 4, 5, 6, 7, 8, 9] rfl)) rfl rfl hl.1 rfl (lv_room (Nat.le_of_ble_eq_true rfl)) dX6_row_119 ⟨Nat.le_of_ble_eq_true rfl, Nat.le_of_ble_eq_true rfl⟩) hP hD hS hA [0, 1, 2, 3, 4, 5, 6, 7, 8, 9] [] rfl rfl rfl (by decide) (fun H locs hP hD hS => ?_)
        have hP : va_P D vwCl [(h0, .inr (6, [.int o10.2, .int v_sectors, .int v_power, .ref a_disk, .ref a_made, .int v_used, .int v_reserve, .int v_cutWrites, .int v_cutBytes, .int v_rows, .ref a_sectorOf, .ref a_placeOf, .ref a_manyOf, .ref a_there, .int v_waits, .ref a_waitKind, .ref a_waitMany, .ref a_waitBytes, .int v_stateNumber, .long v_stateNow, .int v_second, .int v_repaired, .int v_up, .int v_sent])), (a_disk, .inl ((k 2), 32768, .inl v_disk)), (a_made, .inl ((k 2), 512, .inl v_made)), (a_sectorOf, .inl ((k 2), 5100, .inl v_sectorOf)), (a_placeOf, .inl ((k 2), 5100, .inl v_placeOf)), (a_manyOf, .inl ((k 2), 5100, .inl v_manyOf)), (a_there, .inl ((k 1), 5100, .inl v_there)), (a_waitKind, .inl ((k 2), 100, .inl v_waitKind)), (a_waitMany, .inl ((k 2), 100, .inl v_waitMany)), (a_waitBytes, .inl ((k 3), 100, .inr (.inl v_waitBytes)))] H := hP
        have hD : va_D A [(h0, .inr (6, [.int o10.2, .int v_sectors, .int v_power, .ref a_disk, .ref a_made, .int v_used, .int v_reserve, .int v_cutWrites, .int v_cutBytes, .int v_rows, .ref a_sectorOf, .ref a_placeOf, .ref a_manyOf, .ref a_there, .int v_waits, .ref a_waitKind, .ref a_waitMany, .ref a_waitBytes, .int v_stateNumber, .long v_stateNow, .int v_second, .int v_repaired, .int v_up, .int v_sent])), (a_disk, .inl ((k 2), 32768, .inl v_disk)), (a_made, .inl ((k 2), 512, .inl v_made)), (a_sectorOf, .inl ((k 2), 5100, .inl v_sectorOf)), (a_placeOf, .inl ((k 2), 5100, .inl v_placeOf)), (a_manyOf, .inl ((k 2), 5100, .inl v_manyOf)), (a_there, .inl ((k 1), 5100, .inl v_there)), (a_waitKind, .inl ((k 2), 100, .inl v_waitKind)), (a_waitMany, .inl ((k 2), 100, .inl v_waitMany)), (a_waitBytes, .inl ((k 3), 100, .inr (.inl v_waitBytes)))] := hD
        refine lv_if_eq (tgt := 127) hx hb dX6_row_122 (by decide) (fun q => ?_) (fun q => ?_)
        · replace h := dk_t q h
          refine lv_aload_n hx hb dX6_row_127 rfl (lv_at hl 3 rfl) ?_
          refine va_get (D := D) (ci := 6) (v := .ref a_waitKind) (C := "ServiceDiskModel") (T := TX6) (N := 24) hx hb hts inX6 hown hK hP 0 rfl rfl 15 (by decide) (hts _ w_752) (fun _ h9 => h9) rfl dX6_row_128 ?_
          refine lv_aload_n hx hb dX6_row_131 rfl (lv_at hl 3 rfl) ?_
          refine va_get (D := D) (ci := 6) (v := .int v_waits) (C := "ServiceDiskModel") (T := TX6) (N := 24) hx hb hts inX6 hown hK hP 0 rfl rfl 14 (by decide) (hts _ w_751) (fun _ h9 => h9) rfl dX6_row_132 ?_
          refine lv_iload_n hx hb dX6_row_135 rfl (lv_at hl 4 rfl) ?_
          obtain ⟨q, h⟩ := dk_g h
          refine va_iast hx hb hK hP hD hS 7 2 rfl rfl q dX6_row_136 (fun H locs hP hD hS => ?_)
          have hP : va_P D vwCl [(h0, .inr (6, [.int o10.2, .int v_sectors, .int v_power, .ref a_disk, .ref a_made, .int v_used, .int v_reserve, .int v_cutWrites, .int v_cutBytes, .int v_rows, .ref a_sectorOf, .ref a_placeOf, .ref a_manyOf, .ref a_there, .int v_waits, .ref a_waitKind, .ref a_waitMany, .ref a_waitBytes, .int v_stateNumber, .long v_stateNow, .int v_second, .int v_repaired, .int v_up, .int v_sent])), (a_disk, .inl ((k 2), 32768, .inl v_disk)), (a_made, .inl ((k 2), 512, .inl v_made)), (a_sectorOf, .inl ((k 2), 5100, .inl v_sectorOf)), (a_placeOf, .inl ((k 2), 5100, .inl v_placeOf)), (a_manyOf, .inl ((k 2), 5100, .inl v_manyOf)), (a_there, .inl ((k 1), 5100, .inl v_there)), (a_waitKind, .inl ((k 2), 100, .inl (upd v_waitKind v_waits.toNatClampNeg p1))), (a_waitMany, .inl ((k 2), 100, .inl v_waitMany)), (a_waitBytes, .inl ((k 3), 100, .inr (.inl v_waitBytes)))] H := hP
          have hD : va_D A [(h0, .inr (6, [.int o10.2, .int v_sectors, .int v_power, .ref a_disk, .ref a_made, .int v_used, .int v_reserve, .int v_cutWrites, .int v_cutBytes, .int v_rows, .ref a_sectorOf, .ref a_placeOf, .ref a_manyOf, .ref a_there, .int v_waits, .ref a_waitKind, .ref a_waitMany, .ref a_waitBytes, .int v_stateNumber, .long v_stateNow, .int v_second, .int v_repaired, .int v_up, .int v_sent])), (a_disk, .inl ((k 2), 32768, .inl v_disk)), (a_made, .inl ((k 2), 512, .inl v_made)), (a_sectorOf, .inl ((k 2), 5100, .inl v_sectorOf)), (a_placeOf, .inl ((k 2), 5100, .inl v_placeOf)), (a_manyOf, .inl ((k 2), 5100, .inl v_manyOf)), (a_there, .inl ((k 1), 5100, .inl v_there)), (a_waitKind, .inl ((k 2), 100, .inl (upd v_waitKind v_waits.toNatClampNeg p1))), (a_waitMany, .inl ((k 2), 100, .inl v_waitMany)), (a_waitBytes, .inl ((k 3), 100, .inr (.inl v_waitBytes)))] := hD
          refine lv_aload_n hx hb dX6_row_137 rfl (lv_at hl 3 rfl) ?_
          refine va_get (D := D) (ci := 6) (v := .ref a_waitMany) (C := "ServiceDiskModel") (T := TX6) (N := 24) hx hb hts inX6 hown hK hP 0 rfl rfl 16 (by decide) (hts _ w_753) (fun _ h9 => h9) rfl dX6_row_138 ?_
          refine lv_aload_n hx hb dX6_row_141 rfl (lv_at hl 3 rfl) ?_
          refine va_get (D := D) (ci := 6) (v := .int v_waits) (C := "ServiceDiskModel") (T := TX6) (N := 24) hx hb hts inX6 hown hK hP 0 rfl rfl 14 (by decide) (hts _ w_751) (fun _ h9 => h9) rfl dX6_row_142 ?_
          refine lv_iload hx hb dX6_row_145 (lv_at hl 6 rfl) ?_
          obtain ⟨q, h⟩ := dk_g h
          refine va_iast hx hb hK hP hD hS 8 2 rfl rfl q dX6_row_147 (fun H locs hP hD hS => ?_)
          have hP : va_P D vwCl [(h0, .inr (6, [.int o10.2, .int v_sectors, .int v_power, .ref a_disk, .ref a_made, .int v_used, .int v_reserve, .int v_cutWrites, .int v_cutBytes, .int v_rows, .ref a_sectorOf, .ref a_placeOf, .ref a_manyOf, .ref a_there, .int v_waits, .ref a_waitKind, .ref a_waitMany, .ref a_waitBytes, .int v_stateNumber, .long v_stateNow, .int v_second, .int v_repaired, .int v_up, .int v_sent])), (a_disk, .inl ((k 2), 32768, .inl v_disk)), (a_made, .inl ((k 2), 512, .inl v_made)), (a_sectorOf, .inl ((k 2), 5100, .inl v_sectorOf)), (a_placeOf, .inl ((k 2), 5100, .inl v_placeOf)), (a_manyOf, .inl ((k 2), 5100, .inl v_manyOf)), (a_there, .inl ((k 1), 5100, .inl v_there)), (a_waitKind, .inl ((k 2), 100, .inl (upd v_waitKind v_waits.toNatClampNeg p1))), (a_waitMany, .inl ((k 2), 100, .inl (upd v_waitMany v_waits.toNatClampNeg p3))), (a_waitBytes, .inl ((k 3), 100, .inr (.inl v_waitBytes)))] H := hP
          have hD : va_D A [(h0, .inr (6, [.int o10.2, .int v_sectors, .int v_power, .ref a_disk, .ref a_made, .int v_used, .int v_reserve, .int v_cutWrites, .int v_cutBytes, .int v_rows, .ref a_sectorOf, .ref a_placeOf, .ref a_manyOf, .ref a_there, .int v_waits, .ref a_waitKind, .ref a_waitMany, .ref a_waitBytes, .int v_stateNumber, .long v_stateNow, .int v_second, .int v_repaired, .int v_up, .int v_sent])), (a_disk, .inl ((k 2), 32768, .inl v_disk)), (a_made, .inl ((k 2), 512, .inl v_made)), (a_sectorOf, .inl ((k 2), 5100, .inl v_sectorOf)), (a_placeOf, .inl ((k 2), 5100, .inl v_placeOf)), (a_manyOf, .inl ((k 2), 5100, .inl v_manyOf)), (a_there, .inl ((k 1), 5100, .inl v_there)), (a_waitKind, .inl ((k 2), 100, .inl (upd v_waitKind v_waits.toNatClampNeg p1))), (a_waitMany, .inl ((k 2), 100, .inl (upd v_waitMany v_waits.toNatClampNeg p3))), (a_waitBytes, .inl ((k 3), 100, .inr (.inl v_waitBytes)))] := hD
          refine lv_aload_n hx hb dX6_row_148 rfl (lv_at hl 3 rfl) ?_
          refine va_get (D := D) (ci := 6) (v := .ref a_waitBytes) (C := "ServiceDiskModel") (T := TX6) (N := 24) hx hb hts inX6 hown hK hP 0 rfl rfl 17 (by decide) (hts _ w_754) (fun _ h9 => h9) rfl dX6_row_149 ?_
          refine lv_aload_n hx hb dX6_row_152 rfl (lv_at hl 3 rfl) ?_
          refine va_get (D := D) (ci := 6) (v := .int v_waits) (C := "ServiceDiskModel") (T := TX6) (N := 24) hx hb hts inX6 hown hK hP 0 rfl rfl 14 (by decide) (hts _ w_751) (fun _ h9 => h9) rfl dX6_row_153 ?_
          refine lv_lload_n hx hb dX6_row_156 rfl (lv_at hl 5 rfl) ?_
          obtain ⟨q, h⟩ := dk_g h
          refine va_last hx hb hK hP hD hS 9 3 rfl rfl q dX6_row_157 (fun H locs hP hD hS => ?_)
          have hP : va_P D vwCl [(h0, .inr (6, [.int o10.2, .int v_sectors, .int v_power, .ref a_disk, .ref a_made, .int v_used, .int v_reserve, .int v_cutWrites, .int v_cutBytes, .int v_rows, .ref a_sectorOf, .ref a_placeOf, .ref a_manyOf, .ref a_there, .int v_waits, .ref a_waitKind, .ref a_waitMany, .ref a_waitBytes, .int v_stateNumber, .long v_stateNow, .int v_second, .int v_repaired, .int v_up, .int v_sent])), (a_disk, .inl ((k 2), 32768, .inl v_disk)), (a_made, .inl ((k 2), 512, .inl v_made)), (a_sectorOf, .inl ((k 2), 5100, .inl v_sectorOf)), (a_placeOf, .inl ((k 2), 5100, .inl v_placeOf)), (a_manyOf, .inl ((k 2), 5100, .inl v_manyOf)), (a_there, .inl ((k 1), 5100, .inl v_there)), (a_waitKind, .inl ((k 2), 100, .inl (upd v_waitKind v_waits.toNatClampNeg p1))), (a_waitMany, .inl ((k 2), 100, .inl (upd v_waitMany v_waits.toNatClampNeg p3))), (a_waitBytes, .inl ((k 3), 100, .inr (.inl (vp_updL v_waitBytes v_waits.toNatClampNeg p2))))] H := hP
          have hD : va_D A [(h0, .inr (6, [.int o10.2, .int v_sectors, .int v_power, .ref a_disk, .ref a_made, .int v_used, .int v_reserve, .int v_cutWrites, .int v_cutBytes, .int v_rows, .ref a_sectorOf, .ref a_placeOf, .ref a_manyOf, .ref a_there, .int v_waits, .ref a_waitKind, .ref a_waitMany, .ref a_waitBytes, .int v_stateNumber, .long v_stateNow, .int v_second, .int v_repaired, .int v_up, .int v_sent])), (a_disk, .inl ((k 2), 32768, .inl v_disk)), (a_made, .inl ((k 2), 512, .inl v_made)), (a_sectorOf, .inl ((k 2), 5100, .inl v_sectorOf)), (a_placeOf, .inl ((k 2), 5100, .inl v_placeOf)), (a_manyOf, .inl ((k 2), 5100, .inl v_manyOf)), (a_there, .inl ((k 1), 5100, .inl v_there)), (a_waitKind, .inl ((k 2), 100, .inl (upd v_waitKind v_waits.toNatClampNeg p1))), (a_waitMany, .inl ((k 2), 100, .inl (upd v_waitMany v_waits.toNatClampNeg p3))), (a_waitBytes, .inl ((k 3), 100, .inr (.inl (vp_updL v_waitBytes v_waits.toNatClampNeg p2))))] := hD
          refine lv_aload_n hx hb dX6_row_158 rfl (lv_at hl 3 rfl) ?_
          refine lv_dup hx hb dX6_row_159 rfl ?_
          refine va_get (D := D) (ci := 6) (v := .int v_waits) (C := "ServiceDiskModel") (T := TX6) (N := 24) hx hb hts inX6 hown hK hP 0 rfl rfl 14 (by decide) (hts _ w_751) (fun _ h9 => h9) rfl dX6_row_160 ?_
          refine lv_iconst (v := 1) hx hb dX6_row_163 (by decide) ?_
          refine lv_iadd hx hb dX6_row_164 ?_
          refine va_put (D := D) (ci := 6) (v := .int (v_waits + 1)) (ty := .int) (C := "ServiceDiskModel") (T := TX6) (N := 24) hx hb hts inX6 tyX6 tyX6_ok nmX6 hown hK hP hD hS 0 rfl rfl 14 (by decide) (hts _ w_751) (fun _ h9 => h9) rfl (by decide +kernel) rfl rfl (Nat.le_of_ble_eq_true rfl) dX6_row_165 (fun H locs hP hD hS => ?_)
          have hP : va_P D vwCl [(h0, .inr (6, [.int o10.2, .int v_sectors, .int v_power, .ref a_disk, .ref a_made, .int v_used, .int v_reserve, .int v_cutWrites, .int v_cutBytes, .int v_rows, .ref a_sectorOf, .ref a_placeOf, .ref a_manyOf, .ref a_there, .int (v_waits + 1), .ref a_waitKind, .ref a_waitMany, .ref a_waitBytes, .int v_stateNumber, .long v_stateNow, .int v_second, .int v_repaired, .int v_up, .int v_sent])), (a_disk, .inl ((k 2), 32768, .inl v_disk)), (a_made, .inl ((k 2), 512, .inl v_made)), (a_sectorOf, .inl ((k 2), 5100, .inl v_sectorOf)), (a_placeOf, .inl ((k 2), 5100, .inl v_placeOf)), (a_manyOf, .inl ((k 2), 5100, .inl v_manyOf)), (a_there, .inl ((k 1), 5100, .inl v_there)), (a_waitKind, .inl ((k 2), 100, .inl (upd v_waitKind v_waits.toNatClampNeg p1))), (a_waitMany, .inl ((k 2), 100, .inl (upd v_waitMany v_waits.toNatClampNeg p3))), (a_waitBytes, .inl ((k 3), 100, .inr (.inl (vp_updL v_waitBytes v_waits.toNatClampNeg p2))))] H := hP
          have hD : va_D A [(h0, .inr (6, [.int o10.2, .int v_sectors, .int v_power, .ref a_disk, .ref a_made, .int v_used, .int v_reserve, .int v_cutWrites, .int v_cutBytes, .int v_rows, .ref a_sectorOf, .ref a_placeOf, .ref a_manyOf, .ref a_there, .int (v_waits + 1), .ref a_waitKind, .ref a_waitMany, .ref a_waitBytes, .int v_stateNumber, .long v_stateNow, .int v_second, .int v_repaired, .int v_up, .int v_sent])), (a_disk, .inl ((k 2), 32768, .inl v_disk)), (a_made, .inl ((k 2), 512, .inl v_made)), (a_sectorOf, .inl ((k 2), 5100, .inl v_sectorOf)), (a_placeOf, .inl ((k 2), 5100, .inl v_placeOf)), (a_manyOf, .inl ((k 2), 5100, .inl v_manyOf)), (a_there, .inl ((k 1), 5100, .inl v_there)), (a_waitKind, .inl ((k 2), 100, .inl (upd v_waitKind v_waits.toNatClampNeg p1))), (a_waitMany, .inl ((k 2), 100, .inl (upd v_waitMany v_waits.toNatClampNeg p3))), (a_waitBytes, .inl ((k 3), 100, .inr (.inl (vp_updL v_waitBytes v_waits.toNatClampNeg p2))))] := hD
          refine lv_aload_n hx hb dX6_row_168 rfl (lv_at hl 3 rfl) ?_
          refine va_get (D := D) (ci := 6) (v := .int v_rows) (C := "ServiceDiskModel") (T := TX6) (N := 24) hx hb hts inX6 hown hK hP 0 rfl rfl 9 (by decide) (hts _ w_746) (fun _ h9 => h9) rfl dX6_row_169 ?_
          refine lv_aload_n hx hb dX6_row_172 rfl (lv_at hl 3 rfl) ?_
          refine va_get (D := D) (ci := 6) (v := .int (v_waits + 1)) (C := "ServiceDiskModel") (T := TX6) (N := 24) hx hb hts inX6 hown hK hP 0 rfl rfl 14 (by decide) (hts _ w_751) (fun _ h9 => h9) rfl dX6_row_173 ?_
          refine lv_iadd hx hb dX6_row_176 ?_
          refine lv_iconst (v := 1) hx hb dX6_row_177 (by decide) ?_
          refine lv_isub hx hb dX6_row_178 ?_
          have h := dk_r h
          subst h
          exact dk_rwi hx hb hr hlocks (hP.sub [0, 1, 2, 3, 4, 5, 6, 7, 8, 9] rfl) (hD.sub [0, 1, 2, 3, 4, 5, 6, 7, 8, 9] (by decide) rfl) hS dX6_row_179 rfl
        · replace h := dk_f q h
          refine lv_iconst (v := 0) hx hb dX6_row_125 (by decide) ?_
          have h := dk_r h
          subst h
          exact dk_rwi hx hb hr hlocks (hP.sub [0, 1, 2, 3, 4, 5, 6, 7, 8, 9] rfl) (hD.sub [0, 1, 2, 3, 4, 5, 6, 7, 8, 9] (by decide) rfl) hS dX6_row_126 rfl
/-! ServiceDiskModel.sync()I: rw, frames 3, locals 69 -/
def fX6_sync_L26 (v_thrown : Int32) (v_cutBytes : Int32) (v_waitKind : Nat → Int32) (v_waitMany : Nat → Int32) (v_waitBytes : Nat → Int64)  : Nat → (Int32) → (Int32) → (Int32) → (Int32) → (Int32) → (Int32) → (Nat → Int32) → (Nat → Int32) → (Nat → Int32) → (Nat → Int32) → (Nat → Int32) → Option (Int32 × Int32 × Int32 × Int32 × Int32 × Int32 × Int32 × (Nat → Int32) × (Nat → Int32) × (Nat → Int32) × (Nat → Int32) × (Nat → Int32))
  | 0, _, _, _, _, _, _, _, _, _, _, _ => none
  | n + 1, x1, v_power, v_used, v_cutWrites, v_rows, v_waits, v_disk, v_made, v_sectorOf, v_placeOf, v_manyOf =>
    if v_waits ≤ x1 then
      some ((v_rows + v_waits), v_thrown, v_power, v_used, v_cutWrites, (v_rows + v_waits), 0, v_disk, v_made, v_sectorOf, v_placeOf, v_manyOf)
    else
      (fX6_clear v_made (v_used + 1)).bind fun o2 =>
      (fX6_fillFrom v_used v_rows v_waits o2 v_sectorOf v_placeOf v_manyOf v_waitKind v_waitMany v_waitBytes x1).bind fun o3 =>
      (fX6_write v_power v_cutWrites v_cutBytes v_disk o3.2.1 v_used).bind fun o4 =>
      if o4.1 = 0 then
        some ((-1), v_thrown, o4.2.1, v_used, o4.2.2.1, v_rows, v_waits, o4.2.2.2, o3.2.1, o3.2.2.1, o3.2.2.2.1, o3.2.2.2.2)
      else
        fX6_sync_L26 v_thrown v_cutBytes v_waitKind v_waitMany v_waitBytes n o3.1 o4.2.1 (v_used + 1) o4.2.2.1 v_rows v_waits o4.2.2.2 o3.2.1 o3.2.2.1 o3.2.2.2.1 o3.2.2.2.2
def fX6_sync (v_power : Int32) (v_used : Int32) (v_cutWrites : Int32) (v_cutBytes : Int32) (v_rows : Int32) (v_waits : Int32) (v_disk : Nat → Int32) (v_made : Nat → Int32) (v_sectorOf : Nat → Int32) (v_placeOf : Nat → Int32) (v_manyOf : Nat → Int32) (v_waitKind : Nat → Int32) (v_waitMany : Nat → Int32) (v_waitBytes : Nat → Int64) : Option (Int32 × Int32 × Int32 × Int32 × Int32 × Int32 × Int32 × (Nat → Int32) × (Nat → Int32) × (Nat → Int32) × (Nat → Int32) × (Nat → Int32)) :=
  (fX6_throwing (if v_power = 0 then 1 else 0) 0 0 0).bind fun o1 =>
  if o1.1 = 0 then
    fX6_sync_L26 o1.2 v_cutBytes v_waitKind v_waitMany v_waitBytes dkF 0 v_power v_used v_cutWrites v_rows v_waits v_disk v_made v_sectorOf v_placeOf v_manyOf
  else
    some (0, o1.2, v_power, v_used, v_cutWrites, v_rows, v_waits, v_disk, v_made, v_sectorOf, v_placeOf, v_manyOf)
set_option maxHeartbeats 4000000 in
set_option maxRecDepth 100000 in
theorem lX6_sync_26 {p : Program} {l : Launch} {e : Env} {s : State} {m : MethodId} {below : List Frame} {meth : Method} {c : Code} {args : Array Value} {D : va_G} {k : Nat → ClassId} {h0 : Nat} {a_disk : Nat} {a_made : Nat} {a_sectorOf : Nat} {a_placeOf : Nat} {a_manyOf : Nat} {a_there : Nat} {a_waitKind : Nat} {a_waitMany : Nat} {a_waitBytes : Nat} {v_thrown : Int32} {v_sectors : Int32} {v_reserve : Int32} {v_cutBytes : Int32} {v_stateNumber : Int32} {v_stateNow : Int64} {v_second : Int32} {v_repaired : Int32} {v_up : Int32} {v_sent : Int32} {v_there : Nat → Int32} {v_waitKind : Nat → Int32} {v_waitMany : Nat → Int32} {v_waitBytes : Nat → Int64} {o : Int32 × Int32 × Int32 × Int32 × Int32 × Int32 × Int32 × (Nat → Int32) × (Nat → Int32) × (Nat → Int32) × (Nat → Int32) × (Nat → Int32)} {A : Nat → Prop} (C : dk_Cx p s m meth c cX6_sync (some .int) 2 "ServiceDiskModel" dkB args) (hK : va_K D vwCl (dkT k) s) (hN : dk_N s) (hA : ∀ q : Nat, s.heap.size ≤ q → A q) :
    ∀ (n : Nat) (x1 : Int32) (v_power : Int32) (v_used : Int32) (v_cutWrites : Int32) (v_rows : Int32) (v_waits : Int32) (v_disk : Nat → Int32) (v_made : Nat → Int32) (v_sectorOf : Nat → Int32) (v_placeOf : Nat → Int32) (v_manyOf : Nat → Int32), fX6_sync_L26 v_thrown v_cutBytes v_waitKind v_waitMany v_waitBytes n x1 v_power v_used v_cutWrites v_rows v_waits v_disk v_made v_sectorOf v_placeOf v_manyOf = some o → ∀ (H : Heap) (locs : List Loc), va_P D vwCl [(h0, .inr (6, [.int v_thrown, .int v_sectors, .int v_power, .ref a_disk, .ref a_made, .int v_used, .int v_reserve, .int v_cutWrites, .int v_cutBytes, .int v_rows, .ref a_sectorOf, .ref a_placeOf, .ref a_manyOf, .ref a_there, .int v_waits, .ref a_waitKind, .ref a_waitMany, .ref a_waitBytes, .int v_stateNumber, .long v_stateNow, .int v_second, .int v_repaired, .int v_up, .int v_sent])), (a_disk, .inl ((k 2), 32768, .inl v_disk)), (a_made, .inl ((k 2), 512, .inl v_made)), (a_sectorOf, .inl ((k 2), 5100, .inl v_sectorOf)), (a_placeOf, .inl ((k 2), 5100, .inl v_placeOf)), (a_manyOf, .inl ((k 2), 5100, .inl v_manyOf)), (a_there, .inl ((k 1), 5100, .inl v_there)), (a_waitKind, .inl ((k 2), 100, .inl v_waitKind)), (a_waitMany, .inl ((k 2), 100, .inl v_waitMany)), (a_waitBytes, .inl ((k 3), 100, .inr (.inl v_waitBytes)))] H → va_D A [(h0, .inr (6, [.int v_thrown, .int v_sectors, .int v_power, .ref a_disk, .ref a_made, .int v_used, .int v_reserve, .int v_cutWrites, .int v_cutBytes, .int v_rows, .ref a_sectorOf, .ref a_placeOf, .ref a_manyOf, .ref a_there, .int v_waits, .ref a_waitKind, .ref a_waitMany, .ref a_waitBytes, .int v_stateNumber, .long v_stateNow, .int v_second, .int v_repaired, .int v_up, .int v_sent])), (a_disk, .inl ((k 2), 32768, .inl v_disk)), (a_made, .inl ((k 2), 512, .inl v_made)), (a_sectorOf, .inl ((k 2), 5100, .inl v_sectorOf)), (a_placeOf, .inl ((k 2), 5100, .inl v_placeOf)), (a_manyOf, .inl ((k 2), 5100, .inl v_manyOf)), (a_there, .inl ((k 1), 5100, .inl v_there)), (a_waitKind, .inl ((k 2), 100, .inl v_waitKind)), (a_waitMany, .inl ((k 2), 100, .inl v_waitMany)), (a_waitBytes, .inl ((k 3), 100, .inr (.inl v_waitBytes)))] → va_S A s.heap H locs → ∀ ls : Array Slot, lv_has ls 2 [(0, .ref h0), (1, .int x1)] → W p l e { frames := 3, cells := 0, slots := 0, locals := 69 } s m args below meth c H locs 0 0 (MQ below (dk_Qi o.1 D [(h0, .inr (6, [.int o.2.1, .int v_sectors, .int o.2.2.1, .ref a_disk, .ref a_made, .int o.2.2.2.1, .int v_reserve, .int o.2.2.2.2.1, .int v_cutBytes, .int o.2.2.2.2.2.1, .ref a_sectorOf, .ref a_placeOf, .ref a_manyOf, .ref a_there, .int o.2.2.2.2.2.2.1, .ref a_waitKind, .ref a_waitMany, .ref a_waitBytes, .int v_stateNumber, .long v_stateNow, .int v_second, .int v_repaired, .int v_up, .int v_sent])), (a_disk, .inl ((k 2), 32768, .inl o.2.2.2.2.2.2.2.1)), (a_made, .inl ((k 2), 512, .inl o.2.2.2.2.2.2.2.2.1)), (a_sectorOf, .inl ((k 2), 5100, .inl o.2.2.2.2.2.2.2.2.2.1)), (a_placeOf, .inl ((k 2), 5100, .inl o.2.2.2.2.2.2.2.2.2.2.1)), (a_manyOf, .inl ((k 2), 5100, .inl o.2.2.2.2.2.2.2.2.2.2.2)), (a_there, .inl ((k 1), 5100, .inl v_there)), (a_waitKind, .inl ((k 2), 100, .inl v_waitKind)), (a_waitMany, .inl ((k 2), 100, .inl v_waitMany)), (a_waitBytes, .inl ((k 3), 100, .inr (.inl v_waitBytes)))] A) args s 0 0 A) (F0 m 26 ls []) := by
  obtain ⟨hx, hb, hr, hml, hown, hts, hlocks⟩ := id C
  intro n
  induction n with
  | zero =>
    intro x1 v_power v_used v_cutWrites v_rows v_waits v_disk v_made v_sectorOf v_placeOf v_manyOf h
    exact dk_n (o := o) h
  | succ n ih =>
    intro x1 v_power v_used v_cutWrites v_rows v_waits v_disk v_made v_sectorOf v_placeOf v_manyOf h H locs hP hD hS ls hl
    rw [fX6_sync_L26.eq_2] at h
    refine lv_iload_n hx hb dX6_sync_26 rfl (lv_at hl 1 rfl) ?_
    refine lv_aload_n hx hb dX6_sync_27 rfl (lv_at hl 0 rfl) ?_
    refine va_get (D := D) (ci := 6) (v := .int v_waits) (C := "ServiceDiskModel") (T := TX6) (N := 24) hx hb hts inX6 hown hK hP 0 rfl rfl 14 (by decide) (hts _ w_751) (fun _ h9 => h9) rfl dX6_sync_28 ?_
    refine lv_icmp_ge (tgt := 76) hx hb dX6_sync_31 (by decide) (fun q => ?_) (fun q => ?_)
    · replace h := dk_t q h
      refine lv_aload_n hx hb dX6_sync_76 rfl (lv_at hl 0 rfl) ?_
      refine lv_dup hx hb dX6_sync_77 rfl ?_
      refine va_get (D := D) (ci := 6) (v := .int v_rows) (C := "ServiceDiskModel") (T := TX6) (N := 24) hx hb hts inX6 hown hK hP 0 rfl rfl 9 (by decide) (hts _ w_746) (fun _ h9 => h9) rfl dX6_sync_78 ?_
      refine lv_aload_n hx hb dX6_sync_81 rfl (lv_at hl 0 rfl) ?_
      refine va_get (D := D) (ci := 6) (v := .int v_waits) (C := "ServiceDiskModel") (T := TX6) (N := 24) hx hb hts inX6 hown hK hP 0 rfl rfl 14 (by decide) (hts _ w_751) (fun _ h9 => h9) rfl dX6_sync_82 ?_
      refine lv_iadd hx hb dX6_sync_85 ?_
      refine va_put (D := D) (ci := 6) (v := .int (v_rows + v_waits)) (ty := .int) (C := "ServiceDiskModel") (T := TX6) (N := 24) hx hb hts inX6 tyX6 tyX6_ok nmX6 hown hK hP hD hS 0 rfl rfl 9 (by decide) (hts _ w_746) (fun _ h9 => h9) rfl (by decide +kernel) rfl rfl (Nat.le_of_ble_eq_true rfl) dX6_sync_86 (fun H locs hP hD hS => ?_)
      have hP : va_P D vwCl [(h0, .inr (6, [.int v_thrown, .int v_sectors, .int v_power, .ref a_disk, .ref a_made, .int v_used, .int v_reserve, .int v_cutWrites, .int v_cutBytes, .int (v_rows + v_waits), .ref a_sectorOf, .ref a_placeOf, .ref a_manyOf, .ref a_there, .int v_waits, .ref a_waitKind, .ref a_waitMany, .ref a_waitBytes, .int v_stateNumber, .long v_stateNow, .int v_second, .int v_repaired, .int v_up, .int v_sent])), (a_disk, .inl ((k 2), 32768, .inl v_disk)), (a_made, .inl ((k 2), 512, .inl v_made)), (a_sectorOf, .inl ((k 2), 5100, .inl v_sectorOf)), (a_placeOf, .inl ((k 2), 5100, .inl v_placeOf)), (a_manyOf, .inl ((k 2), 5100, .inl v_manyOf)), (a_there, .inl ((k 1), 5100, .inl v_there)), (a_waitKind, .inl ((k 2), 100, .inl v_waitKind)), (a_waitMany, .inl ((k 2), 100, .inl v_waitMany)), (a_waitBytes, .inl ((k 3), 100, .inr (.inl v_waitBytes)))] H := hP
      have hD : va_D A [(h0, .inr (6, [.int v_thrown, .int v_sectors, .int v_power, .ref a_disk, .ref a_made, .int v_used, .int v_reserve, .int v_cutWrites, .int v_cutBytes, .int (v_rows + v_waits), .ref a_sectorOf, .ref a_placeOf, .ref a_manyOf, .ref a_there, .int v_waits, .ref a_waitKind, .ref a_waitMany, .ref a_waitBytes, .int v_stateNumber, .long v_stateNow, .int v_second, .int v_repaired, .int v_up, .int v_sent])), (a_disk, .inl ((k 2), 32768, .inl v_disk)), (a_made, .inl ((k 2), 512, .inl v_made)), (a_sectorOf, .inl ((k 2), 5100, .inl v_sectorOf)), (a_placeOf, .inl ((k 2), 5100, .inl v_placeOf)), (a_manyOf, .inl ((k 2), 5100, .inl v_manyOf)), (a_there, .inl ((k 1), 5100, .inl v_there)), (a_waitKind, .inl ((k 2), 100, .inl v_waitKind)), (a_waitMany, .inl ((k 2), 100, .inl v_waitMany)), (a_waitBytes, .inl ((k 3), 100, .inr (.inl v_waitBytes)))] := hD
      refine lv_aload_n hx hb dX6_sync_89 rfl (lv_at hl 0 rfl) ?_
      refine lv_iconst (v := 0) hx hb dX6_sync_90 (by decide) ?_
      refine va_put (D := D) (ci := 6) (v := .int 0) (ty := .int) (C := "ServiceDiskModel") (T := TX6) (N := 24) hx hb hts inX6 tyX6 tyX6_ok nmX6 hown hK hP hD hS 0 rfl rfl 14 (by decide) (hts _ w_751) (fun _ h9 => h9) rfl (by decide +kernel) rfl rfl (Nat.le_of_ble_eq_true rfl) dX6_sync_91 (fun H locs hP hD hS => ?_)
      have hP : va_P D vwCl [(h0, .inr (6, [.int v_thrown, .int v_sectors, .int v_power, .ref a_disk, .ref a_made, .int v_used, .int v_reserve, .int v_cutWrites, .int v_cutBytes, .int (v_rows + v_waits), .ref a_sectorOf, .ref a_placeOf, .ref a_manyOf, .ref a_there, .int 0, .ref a_waitKind, .ref a_waitMany, .ref a_waitBytes, .int v_stateNumber, .long v_stateNow, .int v_second, .int v_repaired, .int v_up, .int v_sent])), (a_disk, .inl ((k 2), 32768, .inl v_disk)), (a_made, .inl ((k 2), 512, .inl v_made)), (a_sectorOf, .inl ((k 2), 5100, .inl v_sectorOf)), (a_placeOf, .inl ((k 2), 5100, .inl v_placeOf)), (a_manyOf, .inl ((k 2), 5100, .inl v_manyOf)), (a_there, .inl ((k 1), 5100, .inl v_there)), (a_waitKind, .inl ((k 2), 100, .inl v_waitKind)), (a_waitMany, .inl ((k 2), 100, .inl v_waitMany)), (a_waitBytes, .inl ((k 3), 100, .inr (.inl v_waitBytes)))] H := hP
      have hD : va_D A [(h0, .inr (6, [.int v_thrown, .int v_sectors, .int v_power, .ref a_disk, .ref a_made, .int v_used, .int v_reserve, .int v_cutWrites, .int v_cutBytes, .int (v_rows + v_waits), .ref a_sectorOf, .ref a_placeOf, .ref a_manyOf, .ref a_there, .int 0, .ref a_waitKind, .ref a_waitMany, .ref a_waitBytes, .int v_stateNumber, .long v_stateNow, .int v_second, .int v_repaired, .int v_up, .int v_sent])), (a_disk, .inl ((k 2), 32768, .inl v_disk)), (a_made, .inl ((k 2), 512, .inl v_made)), (a_sectorOf, .inl ((k 2), 5100, .inl v_sectorOf)), (a_placeOf, .inl ((k 2), 5100, .inl v_placeOf)), (a_manyOf, .inl ((k 2), 5100, .inl v_manyOf)), (a_there, .inl ((k 1), 5100, .inl v_there)), (a_waitKind, .inl ((k 2), 100, .inl v_waitKind)), (a_waitMany, .inl ((k 2), 100, .inl v_waitMany)), (a_waitBytes, .inl ((k 3), 100, .inr (.inl v_waitBytes)))] := hD
      refine lv_aload_n hx hb dX6_sync_94 rfl (lv_at hl 0 rfl) ?_
      refine va_get (D := D) (ci := 6) (v := .int (v_rows + v_waits)) (C := "ServiceDiskModel") (T := TX6) (N := 24) hx hb hts inX6 hown hK hP 0 rfl rfl 9 (by decide) (hts _ w_746) (fun _ h9 => h9) rfl dX6_sync_95 ?_
      have h := dk_r h
      subst h
      exact dk_rwi hx hb hr hlocks (hP.sub [0, 1, 2, 3, 4, 5, 6, 7, 8, 9] rfl) (hD.sub [0, 1, 2, 3, 4, 5, 6, 7, 8, 9] (by decide) rfl) hS dX6_sync_98 rfl
    · replace h := dk_f q h
      refine lv_aload_n hx hb dX6_sync_34 rfl (lv_at hl 0 rfl) ?_
      refine lv_aload_n hx hb dX6_sync_35 rfl (lv_at hl 0 rfl) ?_
      refine va_get (D := D) (ci := 6) (v := .int v_used) (C := "ServiceDiskModel") (T := TX6) (N := 24) hx hb hts inX6 hown hK hP 0 rfl rfl 5 (by decide) (hts _ w_742) (fun _ h9 => h9) rfl dX6_sync_36 ?_
      refine lv_iconst (v := 1) hx hb dX6_sync_39 (by decide) ?_
      refine lv_iadd hx hb dX6_sync_40 ?_
      replace h := dk_b h
      obtain ⟨o2, e2, h⟩ := h
      refine dk_cwv (wr := []) (va_runV (As := [.int (v_used + 1)]) (rest := []) ⟨hx, hb, hml, hown, hts⟩ (mX6_clear l D k h0 a_disk a_made a_sectorOf a_placeOf a_manyOf a_there a_waitKind a_waitMany a_waitBytes H.size v_thrown v_sectors v_power v_used v_reserve v_cutWrites v_cutBytes v_rows v_waits v_stateNumber v_stateNow v_second v_repaired v_up v_sent v_disk v_made v_sectorOf v_placeOf v_manyOf v_there v_waitKind v_waitMany v_waitBytes (v_used + 1) o2 e2) (cwV 1 hts (dk_gV w_841 w_843 w_22 w_46 w_844) rfl rfl rfl (by decide +kernel) ⟨Nat.le_of_ble_eq_true rfl, Nat.le_of_ble_eq_true rfl⟩) (dk_pvw hK hN hP hD [0, 1, 2, 3, 4, 5, 6, 7, 8, 9] rfl rfl rfl rfl (hP.sub [0, 1, 2, 3, 4, 5, 6, 7, 8, 9] rfl)) rfl rfl hl.1 rfl (lv_room (Nat.le_of_ble_eq_true rfl)) dX6_sync_41 ⟨Nat.le_of_ble_eq_true rfl, Nat.le_of_ble_eq_true rfl⟩) hP hD hS hA [0, 1, 2, 3, 4, 5, 6, 7, 8, 9] [] rfl rfl rfl (by decide) (fun H locs hP hD hS => ?_)
      have hP : va_P D vwCl [(h0, .inr (6, [.int v_thrown, .int v_sectors, .int v_power, .ref a_disk, .ref a_made, .int v_used, .int v_reserve, .int v_cutWrites, .int v_cutBytes, .int v_rows, .ref a_sectorOf, .ref a_placeOf, .ref a_manyOf, .ref a_there, .int v_waits, .ref a_waitKind, .ref a_waitMany, .ref a_waitBytes, .int v_stateNumber, .long v_stateNow, .int v_second, .int v_repaired, .int v_up, .int v_sent])), (a_disk, .inl ((k 2), 32768, .inl v_disk)), (a_made, .inl ((k 2), 512, .inl o2)), (a_sectorOf, .inl ((k 2), 5100, .inl v_sectorOf)), (a_placeOf, .inl ((k 2), 5100, .inl v_placeOf)), (a_manyOf, .inl ((k 2), 5100, .inl v_manyOf)), (a_there, .inl ((k 1), 5100, .inl v_there)), (a_waitKind, .inl ((k 2), 100, .inl v_waitKind)), (a_waitMany, .inl ((k 2), 100, .inl v_waitMany)), (a_waitBytes, .inl ((k 3), 100, .inr (.inl v_waitBytes)))] H := hP
      have hD : va_D A [(h0, .inr (6, [.int v_thrown, .int v_sectors, .int v_power, .ref a_disk, .ref a_made, .int v_used, .int v_reserve, .int v_cutWrites, .int v_cutBytes, .int v_rows, .ref a_sectorOf, .ref a_placeOf, .ref a_manyOf, .ref a_there, .int v_waits, .ref a_waitKind, .ref a_waitMany, .ref a_waitBytes, .int v_stateNumber, .long v_stateNow, .int v_second, .int v_repaired, .int v_up, .int v_sent])), (a_disk, .inl ((k 2), 32768, .inl v_disk)), (a_made, .inl ((k 2), 512, .inl o2)), (a_sectorOf, .inl ((k 2), 5100, .inl v_sectorOf)), (a_placeOf, .inl ((k 2), 5100, .inl v_placeOf)), (a_manyOf, .inl ((k 2), 5100, .inl v_manyOf)), (a_there, .inl ((k 1), 5100, .inl v_there)), (a_waitKind, .inl ((k 2), 100, .inl v_waitKind)), (a_waitMany, .inl ((k 2), 100, .inl v_waitMany)), (a_waitBytes, .inl ((k 3), 100, .inr (.inl v_waitBytes)))] := hD
      refine lv_aload_n hx hb dX6_sync_44 rfl (lv_at hl 0 rfl) ?_
      refine lv_iload_n hx hb dX6_sync_45 rfl (lv_at hl 1 rfl) ?_
      replace h := dk_b h
      obtain ⟨o3, e3, h⟩ := h
      refine dk_cwi (wr := []) (va_runV (As := [.int x1]) (rest := []) ⟨hx, hb, hml, hown, hts⟩ (mX6_fillFrom l D k h0 a_disk a_made a_sectorOf a_placeOf a_manyOf a_there a_waitKind a_waitMany a_waitBytes H.size v_thrown v_sectors v_power v_used v_reserve v_cutWrites v_cutBytes v_rows v_waits v_stateNumber v_stateNow v_second v_repaired v_up v_sent v_disk o2 v_sectorOf v_placeOf v_manyOf v_there v_waitKind v_waitMany v_waitBytes x1 o3 e3) (cwV 1 hts (dk_gV w_849 w_851 w_24 w_46 w_852) rfl rfl rfl (by decide +kernel) ⟨Nat.le_of_ble_eq_true rfl, Nat.le_of_ble_eq_true rfl⟩) (dk_pvw hK hN hP hD [0, 1, 2, 3, 4, 5, 6, 7, 8, 9] rfl rfl rfl rfl (hP.sub [0, 1, 2, 3, 4, 5, 6, 7, 8, 9] rfl)) rfl rfl hl.1 rfl (lv_room (Nat.le_of_ble_eq_true rfl)) dX6_sync_46 ⟨Nat.le_of_ble_eq_true rfl, Nat.le_of_ble_eq_true rfl⟩) hP hD hS hA [0, 1, 2, 3, 4, 5, 6, 7, 8, 9] [] rfl rfl rfl (by decide) (fun H locs hP hD hS => ?_)
      have hP : va_P D vwCl [(h0, .inr (6, [.int v_thrown, .int v_sectors, .int v_power, .ref a_disk, .ref a_made, .int v_used, .int v_reserve, .int v_cutWrites, .int v_cutBytes, .int v_rows, .ref a_sectorOf, .ref a_placeOf, .ref a_manyOf, .ref a_there, .int v_waits, .ref a_waitKind, .ref a_waitMany, .ref a_waitBytes, .int v_stateNumber, .long v_stateNow, .int v_second, .int v_repaired, .int v_up, .int v_sent])), (a_disk, .inl ((k 2), 32768, .inl v_disk)), (a_made, .inl ((k 2), 512, .inl o3.2.1)), (a_sectorOf, .inl ((k 2), 5100, .inl o3.2.2.1)), (a_placeOf, .inl ((k 2), 5100, .inl o3.2.2.2.1)), (a_manyOf, .inl ((k 2), 5100, .inl o3.2.2.2.2)), (a_there, .inl ((k 1), 5100, .inl v_there)), (a_waitKind, .inl ((k 2), 100, .inl v_waitKind)), (a_waitMany, .inl ((k 2), 100, .inl v_waitMany)), (a_waitBytes, .inl ((k 3), 100, .inr (.inl v_waitBytes)))] H := hP
      have hD : va_D A [(h0, .inr (6, [.int v_thrown, .int v_sectors, .int v_power, .ref a_disk, .ref a_made, .int v_used, .int v_reserve, .int v_cutWrites, .int v_cutBytes, .int v_rows, .ref a_sectorOf, .ref a_placeOf, .ref a_manyOf, .ref a_there, .int v_waits, .ref a_waitKind, .ref a_waitMany, .ref a_waitBytes, .int v_stateNumber, .long v_stateNow, .int v_second, .int v_repaired, .int v_up, .int v_sent])), (a_disk, .inl ((k 2), 32768, .inl v_disk)), (a_made, .inl ((k 2), 512, .inl o3.2.1)), (a_sectorOf, .inl ((k 2), 5100, .inl o3.2.2.1)), (a_placeOf, .inl ((k 2), 5100, .inl o3.2.2.2.1)), (a_manyOf, .inl ((k 2), 5100, .inl o3.2.2.2.2)), (a_there, .inl ((k 1), 5100, .inl v_there)), (a_waitKind, .inl ((k 2), 100, .inl v_waitKind)), (a_waitMany, .inl ((k 2), 100, .inl v_waitMany)), (a_waitBytes, .inl ((k 3), 100, .inr (.inl v_waitBytes)))] := hD
      refine lv_istore_n (lv' := [(1, .int o3.1), (0, .ref h0)]) hx hb dX6_sync_49 rfl hl (by decide) rfl (fun ls hl => ?_)
      refine lv_aload_n hx hb dX6_sync_50 rfl (lv_at hl 1 rfl) ?_
      refine lv_aload_n hx hb dX6_sync_51 rfl (lv_at hl 1 rfl) ?_
      refine va_get (D := D) (ci := 6) (v := .int v_used) (C := "ServiceDiskModel") (T := TX6) (N := 24) hx hb hts inX6 hown hK hP 0 rfl rfl 5 (by decide) (hts _ w_742) (fun _ h9 => h9) rfl dX6_sync_52 ?_
      replace h := dk_b h
      obtain ⟨o4, e4, h⟩ := h
      refine dk_cwi (wr := []) (va_runV (As := [.int v_used]) (rest := []) ⟨hx, hb, hml, hown, hts⟩ (mX6_write l D k h0 a_disk a_made a_sectorOf a_placeOf a_manyOf a_there a_waitKind a_waitMany a_waitBytes H.size v_thrown v_sectors v_power v_used v_reserve v_cutWrites v_cutBytes v_rows v_waits v_stateNumber v_stateNow v_second v_repaired v_up v_sent v_disk o3.2.1 o3.2.2.1 o3.2.2.2.1 o3.2.2.2.2 v_there v_waitKind v_waitMany v_waitBytes v_used o4 e4) (cwV 1 hts (dk_gV w_861 w_863 w_26 w_46 w_864) rfl rfl rfl (by decide +kernel) ⟨Nat.le_of_ble_eq_true rfl, Nat.le_of_ble_eq_true rfl⟩) (dk_pvw hK hN hP hD [0, 1, 2, 3, 4, 5, 6, 7, 8, 9] rfl rfl rfl rfl (hP.sub [0, 1, 2, 3, 4, 5, 6, 7, 8, 9] rfl)) rfl rfl hl.1 rfl (lv_room (Nat.le_of_ble_eq_true rfl)) dX6_sync_55 ⟨Nat.le_of_ble_eq_true rfl, Nat.le_of_ble_eq_true rfl⟩) hP hD hS hA [0, 1, 2, 3, 4, 5, 6, 7, 8, 9] [] rfl rfl rfl (by decide) (fun H locs hP hD hS => ?_)
      have hP : va_P D vwCl [(h0, .inr (6, [.int v_thrown, .int v_sectors, .int o4.2.1, .ref a_disk, .ref a_made, .int v_used, .int v_reserve, .int o4.2.2.1, .int v_cutBytes, .int v_rows, .ref a_sectorOf, .ref a_placeOf, .ref a_manyOf, .ref a_there, .int v_waits, .ref a_waitKind, .ref a_waitMany, .ref a_waitBytes, .int v_stateNumber, .long v_stateNow, .int v_second, .int v_repaired, .int v_up, .int v_sent])), (a_disk, .inl ((k 2), 32768, .inl o4.2.2.2)), (a_made, .inl ((k 2), 512, .inl o3.2.1)), (a_sectorOf, .inl ((k 2), 5100, .inl o3.2.2.1)), (a_placeOf, .inl ((k 2), 5100, .inl o3.2.2.2.1)), (a_manyOf, .inl ((k 2), 5100, .inl o3.2.2.2.2)), (a_there, .inl ((k 1), 5100, .inl v_there)), (a_waitKind, .inl ((k 2), 100, .inl v_waitKind)), (a_waitMany, .inl ((k 2), 100, .inl v_waitMany)), (a_waitBytes, .inl ((k 3), 100, .inr (.inl v_waitBytes)))] H := hP
      have hD : va_D A [(h0, .inr (6, [.int v_thrown, .int v_sectors, .int o4.2.1, .ref a_disk, .ref a_made, .int v_used, .int v_reserve, .int o4.2.2.1, .int v_cutBytes, .int v_rows, .ref a_sectorOf, .ref a_placeOf, .ref a_manyOf, .ref a_there, .int v_waits, .ref a_waitKind, .ref a_waitMany, .ref a_waitBytes, .int v_stateNumber, .long v_stateNow, .int v_second, .int v_repaired, .int v_up, .int v_sent])), (a_disk, .inl ((k 2), 32768, .inl o4.2.2.2)), (a_made, .inl ((k 2), 512, .inl o3.2.1)), (a_sectorOf, .inl ((k 2), 5100, .inl o3.2.2.1)), (a_placeOf, .inl ((k 2), 5100, .inl o3.2.2.2.1)), (a_manyOf, .inl ((k 2), 5100, .inl o3.2.2.2.2)), (a_there, .inl ((k 1), 5100, .inl v_there)), (a_waitKind, .inl ((k 2), 100, .inl v_waitKind)), (a_waitMany, .inl ((k 2), 100, .inl v_waitMany)), (a_waitBytes, .inl ((k 3), 100, .inr (.inl v_waitBytes)))] := hD
      refine lv_if_ne (tgt := 63) hx hb dX6_sync_58 (by decide) (fun q => ?_) (fun q => ?_)
      · replace h := dk_f q h
        refine lv_aload_n hx hb dX6_sync_63 rfl (lv_at hl 1 rfl) ?_
        refine lv_dup hx hb dX6_sync_64 rfl ?_
        refine va_get (D := D) (ci := 6) (v := .int v_used) (C := "ServiceDiskModel") (T := TX6) (N := 24) hx hb hts inX6 hown hK hP 0 rfl rfl 5 (by decide) (hts _ w_742) (fun _ h9 => h9) rfl dX6_sync_65 ?_
        refine lv_iconst (v := 1) hx hb dX6_sync_68 (by decide) ?_
        refine lv_iadd hx hb dX6_sync_69 ?_
        refine va_put (D := D) (ci := 6) (v := .int (v_used + 1)) (ty := .int) (C := "ServiceDiskModel") (T := TX6) (N := 24) hx hb hts inX6 tyX6 tyX6_ok nmX6 hown hK hP hD hS 0 rfl rfl 5 (by decide) (hts _ w_742) (fun _ h9 => h9) rfl (by decide +kernel) rfl rfl (Nat.le_of_ble_eq_true rfl) dX6_sync_70 (fun H locs hP hD hS => ?_)
        have hP : va_P D vwCl [(h0, .inr (6, [.int v_thrown, .int v_sectors, .int o4.2.1, .ref a_disk, .ref a_made, .int (v_used + 1), .int v_reserve, .int o4.2.2.1, .int v_cutBytes, .int v_rows, .ref a_sectorOf, .ref a_placeOf, .ref a_manyOf, .ref a_there, .int v_waits, .ref a_waitKind, .ref a_waitMany, .ref a_waitBytes, .int v_stateNumber, .long v_stateNow, .int v_second, .int v_repaired, .int v_up, .int v_sent])), (a_disk, .inl ((k 2), 32768, .inl o4.2.2.2)), (a_made, .inl ((k 2), 512, .inl o3.2.1)), (a_sectorOf, .inl ((k 2), 5100, .inl o3.2.2.1)), (a_placeOf, .inl ((k 2), 5100, .inl o3.2.2.2.1)), (a_manyOf, .inl ((k 2), 5100, .inl o3.2.2.2.2)), (a_there, .inl ((k 1), 5100, .inl v_there)), (a_waitKind, .inl ((k 2), 100, .inl v_waitKind)), (a_waitMany, .inl ((k 2), 100, .inl v_waitMany)), (a_waitBytes, .inl ((k 3), 100, .inr (.inl v_waitBytes)))] H := hP
        have hD : va_D A [(h0, .inr (6, [.int v_thrown, .int v_sectors, .int o4.2.1, .ref a_disk, .ref a_made, .int (v_used + 1), .int v_reserve, .int o4.2.2.1, .int v_cutBytes, .int v_rows, .ref a_sectorOf, .ref a_placeOf, .ref a_manyOf, .ref a_there, .int v_waits, .ref a_waitKind, .ref a_waitMany, .ref a_waitBytes, .int v_stateNumber, .long v_stateNow, .int v_second, .int v_repaired, .int v_up, .int v_sent])), (a_disk, .inl ((k 2), 32768, .inl o4.2.2.2)), (a_made, .inl ((k 2), 512, .inl o3.2.1)), (a_sectorOf, .inl ((k 2), 5100, .inl o3.2.2.1)), (a_placeOf, .inl ((k 2), 5100, .inl o3.2.2.2.1)), (a_manyOf, .inl ((k 2), 5100, .inl o3.2.2.2.2)), (a_there, .inl ((k 1), 5100, .inl v_there)), (a_waitKind, .inl ((k 2), 100, .inl v_waitKind)), (a_waitMany, .inl ((k 2), 100, .inl v_waitMany)), (a_waitBytes, .inl ((k 3), 100, .inr (.inl v_waitBytes)))] := hD
        refine lv_goto (tgt := 26) hx hb dX6_sync_73 (by decide) ?_
        exact ih o3.1 o4.2.1 (v_used + 1) o4.2.2.1 v_rows v_waits o4.2.2.2 o3.2.1 o3.2.2.1 o3.2.2.2.1 o3.2.2.2.2 h _ _ (hP.sub [0, 1, 2, 3, 4, 5, 6, 7, 8, 9] rfl) (hD.sub [0, 1, 2, 3, 4, 5, 6, 7, 8, 9] (by decide) rfl) hS ls (lv_sub hl [1, 0] rfl)
      · replace h := dk_t q h
        refine lv_iconst (v := -1) hx hb dX6_sync_61 (by decide) ?_
        have h := dk_r h
        subst h
        exact dk_rwi hx hb hr hlocks (hP.sub [0, 1, 2, 3, 4, 5, 6, 7, 8, 9] rfl) (hD.sub [0, 1, 2, 3, 4, 5, 6, 7, 8, 9] (by decide) rfl) hS dX6_sync_62 rfl
set_option maxHeartbeats 4000000 in
set_option maxRecDepth 100000 in
theorem mX6_sync (l : Launch) (D : va_G) (k : Nat → ClassId) (h0 a_disk a_made a_sectorOf a_placeOf a_manyOf a_there a_waitKind a_waitMany a_waitBytes : Nat) (sz : Nat) (v_thrown : Int32) (v_sectors : Int32) (v_power : Int32) (v_used : Int32) (v_reserve : Int32) (v_cutWrites : Int32) (v_cutBytes : Int32) (v_rows : Int32) (v_waits : Int32) (v_stateNumber : Int32) (v_stateNow : Int64) (v_second : Int32) (v_repaired : Int32) (v_up : Int32) (v_sent : Int32) (v_disk : Nat → Int32) (v_made : Nat → Int32) (v_sectorOf : Nat → Int32) (v_placeOf : Nat → Int32) (v_manyOf : Nat → Int32) (v_there : Nat → Int32) (v_waitKind : Nat → Int32) (v_waitMany : Nat → Int32) (v_waitBytes : Nat → Int64) (o : Int32 × Int32 × Int32 × Int32 × Int32 × Int32 × Int32 × (Nat → Int32) × (Nat → Int32) × (Nat → Int32) × (Nat → Int32) × (Nat → Int32)) (h : fX6_sync v_power v_used v_cutWrites v_cutBytes v_rows v_waits v_disk v_made v_sectorOf v_placeOf v_manyOf v_waitKind v_waitMany v_waitBytes = some o) : Met l yX6_sync wsX6_sync { frames := 3, cells := 0, slots := 0, locals := 69 } (dk_Pw D k [.ref h0] [(h0, .inr (6, [.int v_thrown, .int v_sectors, .int v_power, .ref a_disk, .ref a_made, .int v_used, .int v_reserve, .int v_cutWrites, .int v_cutBytes, .int v_rows, .ref a_sectorOf, .ref a_placeOf, .ref a_manyOf, .ref a_there, .int v_waits, .ref a_waitKind, .ref a_waitMany, .ref a_waitBytes, .int v_stateNumber, .long v_stateNow, .int v_second, .int v_repaired, .int v_up, .int v_sent])), (a_disk, .inl ((k 2), 32768, .inl v_disk)), (a_made, .inl ((k 2), 512, .inl v_made)), (a_sectorOf, .inl ((k 2), 5100, .inl v_sectorOf)), (a_placeOf, .inl ((k 2), 5100, .inl v_placeOf)), (a_manyOf, .inl ((k 2), 5100, .inl v_manyOf)), (a_there, .inl ((k 1), 5100, .inl v_there)), (a_waitKind, .inl ((k 2), 100, .inl v_waitKind)), (a_waitMany, .inl ((k 2), 100, .inl v_waitMany)), (a_waitBytes, .inl ((k 3), 100, .inr (.inl v_waitBytes)))] sz) (dk_Qi o.1 D [(h0, .inr (6, [.int o.2.1, .int v_sectors, .int o.2.2.1, .ref a_disk, .ref a_made, .int o.2.2.2.1, .int v_reserve, .int o.2.2.2.2.1, .int v_cutBytes, .int o.2.2.2.2.2.1, .ref a_sectorOf, .ref a_placeOf, .ref a_manyOf, .ref a_there, .int o.2.2.2.2.2.2.1, .ref a_waitKind, .ref a_waitMany, .ref a_waitBytes, .int v_stateNumber, .long v_stateNow, .int v_second, .int v_repaired, .int v_up, .int v_sent])), (a_disk, .inl ((k 2), 32768, .inl o.2.2.2.2.2.2.2.1)), (a_made, .inl ((k 2), 512, .inl o.2.2.2.2.2.2.2.2.1)), (a_sectorOf, .inl ((k 2), 5100, .inl o.2.2.2.2.2.2.2.2.2.1)), (a_placeOf, .inl ((k 2), 5100, .inl o.2.2.2.2.2.2.2.2.2.2.1)), (a_manyOf, .inl ((k 2), 5100, .inl o.2.2.2.2.2.2.2.2.2.2.2)), (a_there, .inl ((k 1), 5100, .inl v_there)), (a_waitKind, .inl ((k 2), 100, .inl v_waitKind)), (a_waitMany, .inl ((k 2), 100, .inl v_waitMany)), (a_waitBytes, .inl ((k 3), 100, .inr (.inl v_waitBytes)))] (va_A [(h0, .inr (6, [.int v_thrown, .int v_sectors, .int v_power, .ref a_disk, .ref a_made, .int v_used, .int v_reserve, .int v_cutWrites, .int v_cutBytes, .int v_rows, .ref a_sectorOf, .ref a_placeOf, .ref a_manyOf, .ref a_there, .int v_waits, .ref a_waitKind, .ref a_waitMany, .ref a_waitBytes, .int v_stateNumber, .long v_stateNow, .int v_second, .int v_repaired, .int v_up, .int v_sent])), (a_disk, .inl ((k 2), 32768, .inl v_disk)), (a_made, .inl ((k 2), 512, .inl v_made)), (a_sectorOf, .inl ((k 2), 5100, .inl v_sectorOf)), (a_placeOf, .inl ((k 2), 5100, .inl v_placeOf)), (a_manyOf, .inl ((k 2), 5100, .inl v_manyOf)), (a_there, .inl ((k 1), 5100, .inl v_there)), (a_waitKind, .inl ((k 2), 100, .inl v_waitKind)), (a_waitMany, .inl ((k 2), 100, .inl v_waitMany)), (a_waitBytes, .inl ((k 3), 100, .inr (.inl v_waitBytes)))] sz)) 0 0 (va_A [(h0, .inr (6, [.int v_thrown, .int v_sectors, .int v_power, .ref a_disk, .ref a_made, .int v_used, .int v_reserve, .int v_cutWrites, .int v_cutBytes, .int v_rows, .ref a_sectorOf, .ref a_placeOf, .ref a_manyOf, .ref a_there, .int v_waits, .ref a_waitKind, .ref a_waitMany, .ref a_waitBytes, .int v_stateNumber, .long v_stateNow, .int v_second, .int v_repaired, .int v_up, .int v_sent])), (a_disk, .inl ((k 2), 32768, .inl v_disk)), (a_made, .inl ((k 2), 512, .inl v_made)), (a_sectorOf, .inl ((k 2), 5100, .inl v_sectorOf)), (a_placeOf, .inl ((k 2), 5100, .inl v_placeOf)), (a_manyOf, .inl ((k 2), 5100, .inl v_manyOf)), (a_there, .inl ((k 1), 5100, .inl v_there)), (a_waitKind, .inl ((k 2), 100, .inl v_waitKind)), (a_waitMany, .inl ((k 2), 100, .inl v_waitMany)), (a_waitBytes, .inl ((k 3), 100, .inr (.inl v_waitBytes)))] sz) := by
  unfold fX6_sync at h
  refine dk_ofW (Qc := fun A => dk_Qi o.1 D [(h0, .inr (6, [.int o.2.1, .int v_sectors, .int o.2.2.1, .ref a_disk, .ref a_made, .int o.2.2.2.1, .int v_reserve, .int o.2.2.2.2.1, .int v_cutBytes, .int o.2.2.2.2.2.1, .ref a_sectorOf, .ref a_placeOf, .ref a_manyOf, .ref a_there, .int o.2.2.2.2.2.2.1, .ref a_waitKind, .ref a_waitMany, .ref a_waitBytes, .int v_stateNumber, .long v_stateNow, .int v_second, .int v_repaired, .int v_up, .int v_sent])), (a_disk, .inl ((k 2), 32768, .inl o.2.2.2.2.2.2.2.1)), (a_made, .inl ((k 2), 512, .inl o.2.2.2.2.2.2.2.2.1)), (a_sectorOf, .inl ((k 2), 5100, .inl o.2.2.2.2.2.2.2.2.2.1)), (a_placeOf, .inl ((k 2), 5100, .inl o.2.2.2.2.2.2.2.2.2.2.1)), (a_manyOf, .inl ((k 2), 5100, .inl o.2.2.2.2.2.2.2.2.2.2.2)), (a_there, .inl ((k 1), 5100, .inl v_there)), (a_waitKind, .inl ((k 2), 100, .inl v_waitKind)), (a_waitMany, .inl ((k 2), 100, .inl v_waitMany)), (a_waitBytes, .inl ((k 3), 100, .inr (.inl v_waitBytes)))] A) (cc := cX6_sync) (maxL := 2) (ret := (some .int)) (lv := [(0, .ref h0)]) (by decide) rfl (Nat.le_of_ble_eq_true rfl) rfl ?_
  intro p e s m below meth c C hK hN hP A hA hD hS ls hl
  obtain ⟨hx, hb, hr, hml, hown, hts, hlocks⟩ := id C
  refine lv_aload_n hx hb dX6_sync_0 rfl (lv_at hl 0 rfl) ?_
  refine lv_aload_n hx hb dX6_sync_1 rfl (lv_at hl 0 rfl) ?_
  refine va_get (D := D) (ci := 6) (v := .int v_power) (C := "ServiceDiskModel") (T := TX6) (N := 24) hx hb hts inX6 hown hK hP 0 rfl rfl 2 (by decide) (hts _ w_739) (fun _ h9 => h9) rfl dX6_sync_2 ?_
  refine dk_jn (F0 m 13 ls [.int (if v_power = 0 then 1 else 0), .ref h0]) (fun K => ?_) ?_
  · refine lv_if_ne (tgt := 12) hx hb dX6_sync_5 (by decide) (fun q1 => ?_) (fun q1 => ?_)
    · refine lv_iconst (v := 0) hx hb dX6_sync_12 (by decide) ?_
      have K := K
      rw [if_neg q1] at K
      exact K
    · refine lv_iconst (v := 1) hx hb dX6_sync_8 (by decide) ?_
      refine lv_goto (tgt := 13) hx hb dX6_sync_9 (by decide) ?_
      have K := K
      rw [if_pos q1] at K
      exact K
  refine lv_iconst (v := 0) hx hb dX6_sync_13 (by decide) ?_
  refine lv_iconst (v := 0) hx hb dX6_sync_14 (by decide) ?_
  refine lv_iconst (v := 0) hx hb dX6_sync_15 (by decide) ?_
  replace h := dk_b h
  obtain ⟨o1, e1, h⟩ := h
  refine dk_cwi (wr := []) (va_runV (As := [.int (if v_power = 0 then 1 else 0), .int 0, .int 0, .int 0]) (rest := []) ⟨hx, hb, hml, hown, hts⟩ (mX6_throwing l D k h0 a_disk a_made a_sectorOf a_placeOf a_manyOf a_there a_waitKind a_waitMany a_waitBytes s.heap.size v_thrown v_sectors v_power v_used v_reserve v_cutWrites v_cutBytes v_rows v_waits v_stateNumber v_stateNow v_second v_repaired v_up v_sent v_disk v_made v_sectorOf v_placeOf v_manyOf v_there v_waitKind v_waitMany v_waitBytes (if v_power = 0 then 1 else 0) 0 0 0 o1 e1) (cwV 4 hts (dk_gV w_821 w_823 w_20 w_46 w_824) rfl rfl rfl (by decide +kernel) ⟨Nat.le_of_ble_eq_true rfl, Nat.le_of_ble_eq_true rfl⟩) (dk_pvw hK hN hP hD [0, 1, 2, 3, 4, 5, 6, 7, 8, 9] rfl rfl rfl rfl (hP.sub [0, 1, 2, 3, 4, 5, 6, 7, 8, 9] rfl)) rfl rfl hl.1 rfl (lv_room (Nat.le_of_ble_eq_true rfl)) dX6_sync_16 ⟨Nat.le_of_ble_eq_true rfl, Nat.le_of_ble_eq_true rfl⟩) hP hD hS hA [0, 1, 2, 3, 4, 5, 6, 7, 8, 9] [] rfl rfl rfl (by decide) (fun H locs hP hD hS => ?_)
  have hP : va_P D vwCl [(h0, .inr (6, [.int o1.2, .int v_sectors, .int v_power, .ref a_disk, .ref a_made, .int v_used, .int v_reserve, .int v_cutWrites, .int v_cutBytes, .int v_rows, .ref a_sectorOf, .ref a_placeOf, .ref a_manyOf, .ref a_there, .int v_waits, .ref a_waitKind, .ref a_waitMany, .ref a_waitBytes, .int v_stateNumber, .long v_stateNow, .int v_second, .int v_repaired, .int v_up, .int v_sent])), (a_disk, .inl ((k 2), 32768, .inl v_disk)), (a_made, .inl ((k 2), 512, .inl v_made)), (a_sectorOf, .inl ((k 2), 5100, .inl v_sectorOf)), (a_placeOf, .inl ((k 2), 5100, .inl v_placeOf)), (a_manyOf, .inl ((k 2), 5100, .inl v_manyOf)), (a_there, .inl ((k 1), 5100, .inl v_there)), (a_waitKind, .inl ((k 2), 100, .inl v_waitKind)), (a_waitMany, .inl ((k 2), 100, .inl v_waitMany)), (a_waitBytes, .inl ((k 3), 100, .inr (.inl v_waitBytes)))] H := hP
  have hD : va_D A [(h0, .inr (6, [.int o1.2, .int v_sectors, .int v_power, .ref a_disk, .ref a_made, .int v_used, .int v_reserve, .int v_cutWrites, .int v_cutBytes, .int v_rows, .ref a_sectorOf, .ref a_placeOf, .ref a_manyOf, .ref a_there, .int v_waits, .ref a_waitKind, .ref a_waitMany, .ref a_waitBytes, .int v_stateNumber, .long v_stateNow, .int v_second, .int v_repaired, .int v_up, .int v_sent])), (a_disk, .inl ((k 2), 32768, .inl v_disk)), (a_made, .inl ((k 2), 512, .inl v_made)), (a_sectorOf, .inl ((k 2), 5100, .inl v_sectorOf)), (a_placeOf, .inl ((k 2), 5100, .inl v_placeOf)), (a_manyOf, .inl ((k 2), 5100, .inl v_manyOf)), (a_there, .inl ((k 1), 5100, .inl v_there)), (a_waitKind, .inl ((k 2), 100, .inl v_waitKind)), (a_waitMany, .inl ((k 2), 100, .inl v_waitMany)), (a_waitBytes, .inl ((k 3), 100, .inr (.inl v_waitBytes)))] := hD
  refine lv_if_eq (tgt := 24) hx hb dX6_sync_19 (by decide) (fun q => ?_) (fun q => ?_)
  · replace h := dk_t q h
    refine lv_iconst (v := 0) hx hb dX6_sync_24 (by decide) ?_
    refine lv_istore_n (lv' := [(1, .int 0), (0, .ref h0)]) hx hb dX6_sync_25 rfl hl (by decide) rfl (fun ls hl => ?_)
    exact lX6_sync_26 C hK hN hA _ 0 v_power v_used v_cutWrites v_rows v_waits v_disk v_made v_sectorOf v_placeOf v_manyOf h _ _ (hP.sub [0, 1, 2, 3, 4, 5, 6, 7, 8, 9] rfl) (hD.sub [0, 1, 2, 3, 4, 5, 6, 7, 8, 9] (by decide) rfl) hS ls (lv_sub hl [1, 0] rfl)
  · replace h := dk_f q h
    refine lv_iconst (v := 0) hx hb dX6_sync_22 (by decide) ?_
    have h := dk_r h
    subst h
    exact dk_rwi hx hb hr hlocks (hP.sub [0, 1, 2, 3, 4, 5, 6, 7, 8, 9] rfl) (hD.sub [0, 1, 2, 3, 4, 5, 6, 7, 8, 9] (by decide) rfl) hS dX6_sync_23 rfl
/-! ServiceDiskModel.save(J)I: rw, frames 3, locals 66 -/
def fX6_save_L39 (x1 : Int64) (x3 : Int32) : Nat → (Int32) → (Nat → Int32) → Option (Int32 × (Nat → Int32))
  | 0, _, _ => none
  | n + 1, x4, v_made =>
    if (8 : Int32) ≤ x4 then
      some (x4, v_made)
    else
      (fX6_put v_made (6 + x4) ((dk_lshr x1 (56 - (8 * x4))).toInt32)).bind fun o6 =>
      fX6_save_L39 x1 x3 n (x4 + 1) o6
def fX6_save (v_sectors : Int32) (v_power : Int32) (v_cutWrites : Int32) (v_cutBytes : Int32) (v_stateNumber : Int32) (v_stateNow : Int64) (v_disk : Nat → Int32) (v_made : Nat → Int32) (p1 : Int64) : Option (Int32 × Int32 × Int32 × Int32 × Int32 × Int64 × (Nat → Int32) × (Nat → Int32)) :=
  (fX6_throwing (if v_power = 0 then 1 else 0) 0 0 0).bind fun o1 =>
  if o1.1 = 0 then
    (fX6_clear v_made (v_stateNumber + 1)).bind fun o2 =>
    (fX6_save_L39 p1 (v_stateNumber + 1) dkF 0 o2).bind fun o3 =>
    (fX6_finish o3.2 8).bind fun o4 =>
    (fX6_write v_power v_cutWrites v_cutBytes v_disk o4 (if ((v_stateNumber + 1) - (v_stateNumber + 1) / 2 * 2) = 0 then (v_sectors - 1) else (v_sectors - 2))).bind fun o5 =>
    if o5.1 = 0 then
      some ((-1), o1.2, o5.2.1, o5.2.2.1, v_stateNumber, v_stateNow, o5.2.2.2, o4)
    else
      some ((v_stateNumber + 1), o1.2, o5.2.1, o5.2.2.1, (v_stateNumber + 1), p1, o5.2.2.2, o4)
  else
    some (0, o1.2, v_power, v_cutWrites, v_stateNumber, v_stateNow, v_disk, v_made)
set_option maxHeartbeats 4000000 in
set_option maxRecDepth 100000 in
theorem lX6_save_39 {p : Program} {l : Launch} {e : Env} {s : State} {m : MethodId} {below : List Frame} {meth : Method} {c : Code} {args : Array Value} {D : va_G} {k : Nat → ClassId} {h0 : Nat} {a_disk : Nat} {a_made : Nat} {a_sectorOf : Nat} {a_placeOf : Nat} {a_manyOf : Nat} {a_there : Nat} {a_waitKind : Nat} {a_waitMany : Nat} {a_waitBytes : Nat} {v_thrown : Int32} {v_sectors : Int32} {v_power : Int32} {v_used : Int32} {v_reserve : Int32} {v_cutWrites : Int32} {v_cutBytes : Int32} {v_rows : Int32} {v_waits : Int32} {v_stateNumber : Int32} {v_stateNow : Int64} {v_second : Int32} {v_repaired : Int32} {v_up : Int32} {v_sent : Int32} {v_disk : Nat → Int32} {v_sectorOf : Nat → Int32} {v_placeOf : Nat → Int32} {v_manyOf : Nat → Int32} {v_there : Nat → Int32} {v_waitKind : Nat → Int32} {v_waitMany : Nat → Int32} {v_waitBytes : Nat → Int64} {x1 : Int64} {x3 : Int32} {Q : State → Prop} {o : Int32 × (Nat → Int32)} {A : Nat → Prop} (C : dk_Cx p s m meth c cX6_save (some .int) 5 "ServiceDiskModel" dkB args) (hK : va_K D vwCl (dkT k) s) (hN : dk_N s) (hA : ∀ q : Nat, s.heap.size ≤ q → A q) :
    ∀ (n : Nat) (x4 : Int32) (v_made : Nat → Int32), fX6_save_L39 x1 x3 n x4 v_made = some o → (∀ (H : Heap) (locs : List Loc), va_P D vwCl [(h0, .inr (6, [.int v_thrown, .int v_sectors, .int v_power, .ref a_disk, .ref a_made, .int v_used, .int v_reserve, .int v_cutWrites, .int v_cutBytes, .int v_rows, .ref a_sectorOf, .ref a_placeOf, .ref a_manyOf, .ref a_there, .int v_waits, .ref a_waitKind, .ref a_waitMany, .ref a_waitBytes, .int v_stateNumber, .long v_stateNow, .int v_second, .int v_repaired, .int v_up, .int v_sent])), (a_disk, .inl ((k 2), 32768, .inl v_disk)), (a_made, .inl ((k 2), 512, .inl o.2)), (a_sectorOf, .inl ((k 2), 5100, .inl v_sectorOf)), (a_placeOf, .inl ((k 2), 5100, .inl v_placeOf)), (a_manyOf, .inl ((k 2), 5100, .inl v_manyOf)), (a_there, .inl ((k 1), 5100, .inl v_there)), (a_waitKind, .inl ((k 2), 100, .inl v_waitKind)), (a_waitMany, .inl ((k 2), 100, .inl v_waitMany)), (a_waitBytes, .inl ((k 3), 100, .inr (.inl v_waitBytes)))] H → va_D A [(h0, .inr (6, [.int v_thrown, .int v_sectors, .int v_power, .ref a_disk, .ref a_made, .int v_used, .int v_reserve, .int v_cutWrites, .int v_cutBytes, .int v_rows, .ref a_sectorOf, .ref a_placeOf, .ref a_manyOf, .ref a_there, .int v_waits, .ref a_waitKind, .ref a_waitMany, .ref a_waitBytes, .int v_stateNumber, .long v_stateNow, .int v_second, .int v_repaired, .int v_up, .int v_sent])), (a_disk, .inl ((k 2), 32768, .inl v_disk)), (a_made, .inl ((k 2), 512, .inl o.2)), (a_sectorOf, .inl ((k 2), 5100, .inl v_sectorOf)), (a_placeOf, .inl ((k 2), 5100, .inl v_placeOf)), (a_manyOf, .inl ((k 2), 5100, .inl v_manyOf)), (a_there, .inl ((k 1), 5100, .inl v_there)), (a_waitKind, .inl ((k 2), 100, .inl v_waitKind)), (a_waitMany, .inl ((k 2), 100, .inl v_waitMany)), (a_waitBytes, .inl ((k 3), 100, .inr (.inl v_waitBytes)))] → va_S A s.heap H locs → ∀ ls : Array Slot, lv_has ls 5 [(0, .ref h0), (1, .long x1), (3, .int x3), (4, .int o.1)] → W p l e { frames := 3, cells := 0, slots := 0, locals := 66 } s m args below meth c H locs 0 0 Q (F0 m 72 ls [])) → ∀ (H : Heap) (locs : List Loc), va_P D vwCl [(h0, .inr (6, [.int v_thrown, .int v_sectors, .int v_power, .ref a_disk, .ref a_made, .int v_used, .int v_reserve, .int v_cutWrites, .int v_cutBytes, .int v_rows, .ref a_sectorOf, .ref a_placeOf, .ref a_manyOf, .ref a_there, .int v_waits, .ref a_waitKind, .ref a_waitMany, .ref a_waitBytes, .int v_stateNumber, .long v_stateNow, .int v_second, .int v_repaired, .int v_up, .int v_sent])), (a_disk, .inl ((k 2), 32768, .inl v_disk)), (a_made, .inl ((k 2), 512, .inl v_made)), (a_sectorOf, .inl ((k 2), 5100, .inl v_sectorOf)), (a_placeOf, .inl ((k 2), 5100, .inl v_placeOf)), (a_manyOf, .inl ((k 2), 5100, .inl v_manyOf)), (a_there, .inl ((k 1), 5100, .inl v_there)), (a_waitKind, .inl ((k 2), 100, .inl v_waitKind)), (a_waitMany, .inl ((k 2), 100, .inl v_waitMany)), (a_waitBytes, .inl ((k 3), 100, .inr (.inl v_waitBytes)))] H → va_D A [(h0, .inr (6, [.int v_thrown, .int v_sectors, .int v_power, .ref a_disk, .ref a_made, .int v_used, .int v_reserve, .int v_cutWrites, .int v_cutBytes, .int v_rows, .ref a_sectorOf, .ref a_placeOf, .ref a_manyOf, .ref a_there, .int v_waits, .ref a_waitKind, .ref a_waitMany, .ref a_waitBytes, .int v_stateNumber, .long v_stateNow, .int v_second, .int v_repaired, .int v_up, .int v_sent])), (a_disk, .inl ((k 2), 32768, .inl v_disk)), (a_made, .inl ((k 2), 512, .inl v_made)), (a_sectorOf, .inl ((k 2), 5100, .inl v_sectorOf)), (a_placeOf, .inl ((k 2), 5100, .inl v_placeOf)), (a_manyOf, .inl ((k 2), 5100, .inl v_manyOf)), (a_there, .inl ((k 1), 5100, .inl v_there)), (a_waitKind, .inl ((k 2), 100, .inl v_waitKind)), (a_waitMany, .inl ((k 2), 100, .inl v_waitMany)), (a_waitBytes, .inl ((k 3), 100, .inr (.inl v_waitBytes)))] → va_S A s.heap H locs → ∀ ls : Array Slot, lv_has ls 5 [(0, .ref h0), (1, .long x1), (3, .int x3), (4, .int x4)] → W p l e { frames := 3, cells := 0, slots := 0, locals := 66 } s m args below meth c H locs 0 0 Q (F0 m 39 ls []) := by
  obtain ⟨hx, hb, hr, hml, hown, hts, hlocks⟩ := id C
  intro n
  induction n with
  | zero =>
    intro x4 v_made h
    exact dk_n (o := o) h
  | succ n ih =>
    intro x4 v_made h K H locs hP hD hS ls hl
    rw [fX6_save_L39.eq_2] at h
    refine lv_iload hx hb dX6_save_39 (lv_at hl 3 rfl) ?_
    refine lv_bipush (v := 8) hx hb dX6_save_41 (by decide) ?_
    refine lv_icmp_ge (tgt := 72) hx hb dX6_save_43 (by decide) (fun q => ?_) (fun q => ?_)
    · replace h := dk_t q h
      have h := dk_r h
      subst h
      exact K _ _ (hP.sub [0, 1, 2, 3, 4, 5, 6, 7, 8, 9] rfl) (hD.sub [0, 1, 2, 3, 4, 5, 6, 7, 8, 9] (by decide) rfl) hS ls (lv_sub hl [0, 1, 2, 3] rfl)
    · replace h := dk_f q h
      refine lv_aload_n hx hb dX6_save_46 rfl (lv_at hl 0 rfl) ?_
      refine lv_bipush (v := 6) hx hb dX6_save_47 (by decide) ?_
      refine lv_iload hx hb dX6_save_49 (lv_at hl 3 rfl) ?_
      refine lv_iadd hx hb dX6_save_51 ?_
      refine lv_lload_n hx hb dX6_save_52 rfl (lv_at hl 1 rfl) ?_
      refine lv_bipush (v := 56) hx hb dX6_save_53 (by decide) ?_
      refine lv_bipush (v := 8) hx hb dX6_save_55 (by decide) ?_
      refine lv_iload hx hb dX6_save_57 (lv_at hl 3 rfl) ?_
      refine lv_imul hx hb dX6_save_59 ?_
      refine lv_isub hx hb dX6_save_60 ?_
      refine lv_lshr (v := (dk_lshr x1 (56 - (8 * x4)))) hx hb dX6_save_61 rfl ?_
      refine lv_l2i (v := (dk_lshr x1 (56 - (8 * x4))).toInt32) hx hb dX6_save_62 rfl ?_
      replace h := dk_b h
      obtain ⟨o6, e6, h⟩ := h
      refine dk_cwv (wr := []) (va_runV (As := [.int (6 + x4), .int ((dk_lshr x1 (56 - (8 * x4))).toInt32)]) (rest := []) ⟨hx, hb, hml, hown, hts⟩ (mX6_put l D k h0 a_disk a_made a_sectorOf a_placeOf a_manyOf a_there a_waitKind a_waitMany a_waitBytes H.size v_thrown v_sectors v_power v_used v_reserve v_cutWrites v_cutBytes v_rows v_waits v_stateNumber v_stateNow v_second v_repaired v_up v_sent v_disk v_made v_sectorOf v_placeOf v_manyOf v_there v_waitKind v_waitMany v_waitBytes (6 + x4) ((dk_lshr x1 (56 - (8 * x4))).toInt32) o6 e6) (cwV 2 hts (dk_gV w_845 w_847 w_23 w_46 w_848) rfl rfl rfl (by decide +kernel) ⟨Nat.le_of_ble_eq_true rfl, Nat.le_of_ble_eq_true rfl⟩) (dk_pvw hK hN hP hD [0, 1, 2, 3, 4, 5, 6, 7, 8, 9] rfl rfl rfl rfl (hP.sub [0, 1, 2, 3, 4, 5, 6, 7, 8, 9] rfl)) rfl rfl hl.1 rfl (lv_room (Nat.le_of_ble_eq_true rfl)) dX6_save_63 ⟨Nat.le_of_ble_eq_true rfl, Nat.le_of_ble_eq_true rfl⟩) hP hD hS hA [0, 1, 2, 3, 4, 5, 6, 7, 8, 9] [] rfl rfl rfl (by decide) (fun H locs hP hD hS => ?_)
      have hP : va_P D vwCl [(h0, .inr (6, [.int v_thrown, .int v_sectors, .int v_power, .ref a_disk, .ref a_made, .int v_used, .int v_reserve, .int v_cutWrites, .int v_cutBytes, .int v_rows, .ref a_sectorOf, .ref a_placeOf, .ref a_manyOf, .ref a_there, .int v_waits, .ref a_waitKind, .ref a_waitMany, .ref a_waitBytes, .int v_stateNumber, .long v_stateNow, .int v_second, .int v_repaired, .int v_up, .int v_sent])), (a_disk, .inl ((k 2), 32768, .inl v_disk)), (a_made, .inl ((k 2), 512, .inl o6)), (a_sectorOf, .inl ((k 2), 5100, .inl v_sectorOf)), (a_placeOf, .inl ((k 2), 5100, .inl v_placeOf)), (a_manyOf, .inl ((k 2), 5100, .inl v_manyOf)), (a_there, .inl ((k 1), 5100, .inl v_there)), (a_waitKind, .inl ((k 2), 100, .inl v_waitKind)), (a_waitMany, .inl ((k 2), 100, .inl v_waitMany)), (a_waitBytes, .inl ((k 3), 100, .inr (.inl v_waitBytes)))] H := hP
      have hD : va_D A [(h0, .inr (6, [.int v_thrown, .int v_sectors, .int v_power, .ref a_disk, .ref a_made, .int v_used, .int v_reserve, .int v_cutWrites, .int v_cutBytes, .int v_rows, .ref a_sectorOf, .ref a_placeOf, .ref a_manyOf, .ref a_there, .int v_waits, .ref a_waitKind, .ref a_waitMany, .ref a_waitBytes, .int v_stateNumber, .long v_stateNow, .int v_second, .int v_repaired, .int v_up, .int v_sent])), (a_disk, .inl ((k 2), 32768, .inl v_disk)), (a_made, .inl ((k 2), 512, .inl o6)), (a_sectorOf, .inl ((k 2), 5100, .inl v_sectorOf)), (a_placeOf, .inl ((k 2), 5100, .inl v_placeOf)), (a_manyOf, .inl ((k 2), 5100, .inl v_manyOf)), (a_there, .inl ((k 1), 5100, .inl v_there)), (a_waitKind, .inl ((k 2), 100, .inl v_waitKind)), (a_waitMany, .inl ((k 2), 100, .inl v_waitMany)), (a_waitBytes, .inl ((k 3), 100, .inr (.inl v_waitBytes)))] := hD
      refine lv_iinc (v := (x4 + 1)) (lv' := [(4, .int (x4 + 1)), (0, .ref h0), (1, .long x1), (3, .int x3)]) hx hb dX6_save_66 hl (k := 3) rfl rfl (by decide) rfl (fun ls hl => ?_)
      refine lv_goto (tgt := 39) hx hb dX6_save_69 (by decide) ?_
      exact ih (x4 + 1) o6 h K _ _ (hP.sub [0, 1, 2, 3, 4, 5, 6, 7, 8, 9] rfl) (hD.sub [0, 1, 2, 3, 4, 5, 6, 7, 8, 9] (by decide) rfl) hS ls (lv_sub hl [1, 2, 3, 0] rfl)
set_option maxHeartbeats 4000000 in
set_option maxRecDepth 100000 in
theorem mX6_save (l : Launch) (D : va_G) (k : Nat → ClassId) (h0 a_disk a_made a_sectorOf a_placeOf a_manyOf a_there a_waitKind a_waitMany a_waitBytes : Nat) (sz : Nat) (v_thrown : Int32) (v_sectors : Int32) (v_power : Int32) (v_used : Int32) (v_reserve : Int32) (v_cutWrites : Int32) (v_cutBytes : Int32) (v_rows : Int32) (v_waits : Int32) (v_stateNumber : Int32) (v_stateNow : Int64) (v_second : Int32) (v_repaired : Int32) (v_up : Int32) (v_sent : Int32) (v_disk : Nat → Int32) (v_made : Nat → Int32) (v_sectorOf : Nat → Int32) (v_placeOf : Nat → Int32) (v_manyOf : Nat → Int32) (v_there : Nat → Int32) (v_waitKind : Nat → Int32) (v_waitMany : Nat → Int32) (v_waitBytes : Nat → Int64) (p1 : Int64) (o : Int32 × Int32 × Int32 × Int32 × Int32 × Int64 × (Nat → Int32) × (Nat → Int32)) (h : fX6_save v_sectors v_power v_cutWrites v_cutBytes v_stateNumber v_stateNow v_disk v_made p1 = some o) : Met l yX6_save wsX6_save { frames := 3, cells := 0, slots := 0, locals := 66 } (dk_Pw D k [.ref h0, .long p1] [(h0, .inr (6, [.int v_thrown, .int v_sectors, .int v_power, .ref a_disk, .ref a_made, .int v_used, .int v_reserve, .int v_cutWrites, .int v_cutBytes, .int v_rows, .ref a_sectorOf, .ref a_placeOf, .ref a_manyOf, .ref a_there, .int v_waits, .ref a_waitKind, .ref a_waitMany, .ref a_waitBytes, .int v_stateNumber, .long v_stateNow, .int v_second, .int v_repaired, .int v_up, .int v_sent])), (a_disk, .inl ((k 2), 32768, .inl v_disk)), (a_made, .inl ((k 2), 512, .inl v_made)), (a_sectorOf, .inl ((k 2), 5100, .inl v_sectorOf)), (a_placeOf, .inl ((k 2), 5100, .inl v_placeOf)), (a_manyOf, .inl ((k 2), 5100, .inl v_manyOf)), (a_there, .inl ((k 1), 5100, .inl v_there)), (a_waitKind, .inl ((k 2), 100, .inl v_waitKind)), (a_waitMany, .inl ((k 2), 100, .inl v_waitMany)), (a_waitBytes, .inl ((k 3), 100, .inr (.inl v_waitBytes)))] sz) (dk_Qi o.1 D [(h0, .inr (6, [.int o.2.1, .int v_sectors, .int o.2.2.1, .ref a_disk, .ref a_made, .int v_used, .int v_reserve, .int o.2.2.2.1, .int v_cutBytes, .int v_rows, .ref a_sectorOf, .ref a_placeOf, .ref a_manyOf, .ref a_there, .int v_waits, .ref a_waitKind, .ref a_waitMany, .ref a_waitBytes, .int o.2.2.2.2.1, .long o.2.2.2.2.2.1, .int v_second, .int v_repaired, .int v_up, .int v_sent])), (a_disk, .inl ((k 2), 32768, .inl o.2.2.2.2.2.2.1)), (a_made, .inl ((k 2), 512, .inl o.2.2.2.2.2.2.2)), (a_sectorOf, .inl ((k 2), 5100, .inl v_sectorOf)), (a_placeOf, .inl ((k 2), 5100, .inl v_placeOf)), (a_manyOf, .inl ((k 2), 5100, .inl v_manyOf)), (a_there, .inl ((k 1), 5100, .inl v_there)), (a_waitKind, .inl ((k 2), 100, .inl v_waitKind)), (a_waitMany, .inl ((k 2), 100, .inl v_waitMany)), (a_waitBytes, .inl ((k 3), 100, .inr (.inl v_waitBytes)))] (va_A [(h0, .inr (6, [.int v_thrown, .int v_sectors, .int v_power, .ref a_disk, .ref a_made, .int v_used, .int v_reserve, .int v_cutWrites, .int v_cutBytes, .int v_rows, .ref a_sectorOf, .ref a_placeOf, .ref a_manyOf, .ref a_there, .int v_waits, .ref a_waitKind, .ref a_waitMany, .ref a_waitBytes, .int v_stateNumber, .long v_stateNow, .int v_second, .int v_repaired, .int v_up, .int v_sent])), (a_disk, .inl ((k 2), 32768, .inl v_disk)), (a_made, .inl ((k 2), 512, .inl v_made)), (a_sectorOf, .inl ((k 2), 5100, .inl v_sectorOf)), (a_placeOf, .inl ((k 2), 5100, .inl v_placeOf)), (a_manyOf, .inl ((k 2), 5100, .inl v_manyOf)), (a_there, .inl ((k 1), 5100, .inl v_there)), (a_waitKind, .inl ((k 2), 100, .inl v_waitKind)), (a_waitMany, .inl ((k 2), 100, .inl v_waitMany)), (a_waitBytes, .inl ((k 3), 100, .inr (.inl v_waitBytes)))] sz)) 0 0 (va_A [(h0, .inr (6, [.int v_thrown, .int v_sectors, .int v_power, .ref a_disk, .ref a_made, .int v_used, .int v_reserve, .int v_cutWrites, .int v_cutBytes, .int v_rows, .ref a_sectorOf, .ref a_placeOf, .ref a_manyOf, .ref a_there, .int v_waits, .ref a_waitKind, .ref a_waitMany, .ref a_waitBytes, .int v_stateNumber, .long v_stateNow, .int v_second, .int v_repaired, .int v_up, .int v_sent])), (a_disk, .inl ((k 2), 32768, .inl v_disk)), (a_made, .inl ((k 2), 512, .inl v_made)), (a_sectorOf, .inl ((k 2), 5100, .inl v_sectorOf)), (a_placeOf, .inl ((k 2), 5100, .inl v_placeOf)), (a_manyOf, .inl ((k 2), 5100, .inl v_manyOf)), (a_there, .inl ((k 1), 5100, .inl v_there)), (a_waitKind, .inl ((k 2), 100, .inl v_waitKind)), (a_waitMany, .inl ((k 2), 100, .inl v_waitMany)), (a_waitBytes, .inl ((k 3), 100, .inr (.inl v_waitBytes)))] sz) := by
  unfold fX6_save at h
  refine dk_ofW (Qc := fun A => dk_Qi o.1 D [(h0, .inr (6, [.int o.2.1, .int v_sectors, .int o.2.2.1, .ref a_disk, .ref a_made, .int v_used, .int v_reserve, .int o.2.2.2.1, .int v_cutBytes, .int v_rows, .ref a_sectorOf, .ref a_placeOf, .ref a_manyOf, .ref a_there, .int v_waits, .ref a_waitKind, .ref a_waitMany, .ref a_waitBytes, .int o.2.2.2.2.1, .long o.2.2.2.2.2.1, .int v_second, .int v_repaired, .int v_up, .int v_sent])), (a_disk, .inl ((k 2), 32768, .inl o.2.2.2.2.2.2.1)), (a_made, .inl ((k 2), 512, .inl o.2.2.2.2.2.2.2)), (a_sectorOf, .inl ((k 2), 5100, .inl v_sectorOf)), (a_placeOf, .inl ((k 2), 5100, .inl v_placeOf)), (a_manyOf, .inl ((k 2), 5100, .inl v_manyOf)), (a_there, .inl ((k 1), 5100, .inl v_there)), (a_waitKind, .inl ((k 2), 100, .inl v_waitKind)), (a_waitMany, .inl ((k 2), 100, .inl v_waitMany)), (a_waitBytes, .inl ((k 3), 100, .inr (.inl v_waitBytes)))] A) (cc := cX6_save) (maxL := 5) (ret := (some .int)) (lv := [(0, .ref h0), (1, .long p1)]) (by decide) rfl (Nat.le_of_ble_eq_true rfl) rfl ?_
  intro p e s m below meth c C hK hN hP A hA hD hS ls hl
  obtain ⟨hx, hb, hr, hml, hown, hts, hlocks⟩ := id C
  refine lv_aload_n hx hb dX6_save_0 rfl (lv_at hl 0 rfl) ?_
  refine lv_aload_n hx hb dX6_save_1 rfl (lv_at hl 0 rfl) ?_
  refine va_get (D := D) (ci := 6) (v := .int v_power) (C := "ServiceDiskModel") (T := TX6) (N := 24) hx hb hts inX6 hown hK hP 0 rfl rfl 2 (by decide) (hts _ w_739) (fun _ h9 => h9) rfl dX6_save_2 ?_
  refine dk_jn (F0 m 13 ls [.int (if v_power = 0 then 1 else 0), .ref h0]) (fun K => ?_) ?_
  · refine lv_if_ne (tgt := 12) hx hb dX6_save_5 (by decide) (fun q1 => ?_) (fun q1 => ?_)
    · refine lv_iconst (v := 0) hx hb dX6_save_12 (by decide) ?_
      have K := K
      rw [if_neg q1] at K
      exact K
    · refine lv_iconst (v := 1) hx hb dX6_save_8 (by decide) ?_
      refine lv_goto (tgt := 13) hx hb dX6_save_9 (by decide) ?_
      have K := K
      rw [if_pos q1] at K
      exact K
  refine lv_iconst (v := 0) hx hb dX6_save_13 (by decide) ?_
  refine lv_iconst (v := 0) hx hb dX6_save_14 (by decide) ?_
  refine lv_iconst (v := 0) hx hb dX6_save_15 (by decide) ?_
  replace h := dk_b h
  obtain ⟨o1, e1, h⟩ := h
  refine dk_cwi (wr := []) (va_runV (As := [.int (if v_power = 0 then 1 else 0), .int 0, .int 0, .int 0]) (rest := []) ⟨hx, hb, hml, hown, hts⟩ (mX6_throwing l D k h0 a_disk a_made a_sectorOf a_placeOf a_manyOf a_there a_waitKind a_waitMany a_waitBytes s.heap.size v_thrown v_sectors v_power v_used v_reserve v_cutWrites v_cutBytes v_rows v_waits v_stateNumber v_stateNow v_second v_repaired v_up v_sent v_disk v_made v_sectorOf v_placeOf v_manyOf v_there v_waitKind v_waitMany v_waitBytes (if v_power = 0 then 1 else 0) 0 0 0 o1 e1) (cwV 4 hts (dk_gV w_821 w_823 w_20 w_46 w_824) rfl rfl rfl (by decide +kernel) ⟨Nat.le_of_ble_eq_true rfl, Nat.le_of_ble_eq_true rfl⟩) (dk_pvw hK hN hP hD [0, 1, 2, 3, 4, 5, 6, 7, 8, 9] rfl rfl rfl rfl (hP.sub [0, 1, 2, 3, 4, 5, 6, 7, 8, 9] rfl)) rfl rfl hl.1 rfl (lv_room (Nat.le_of_ble_eq_true rfl)) dX6_save_16 ⟨Nat.le_of_ble_eq_true rfl, Nat.le_of_ble_eq_true rfl⟩) hP hD hS hA [0, 1, 2, 3, 4, 5, 6, 7, 8, 9] [] rfl rfl rfl (by decide) (fun H locs hP hD hS => ?_)
  have hP : va_P D vwCl [(h0, .inr (6, [.int o1.2, .int v_sectors, .int v_power, .ref a_disk, .ref a_made, .int v_used, .int v_reserve, .int v_cutWrites, .int v_cutBytes, .int v_rows, .ref a_sectorOf, .ref a_placeOf, .ref a_manyOf, .ref a_there, .int v_waits, .ref a_waitKind, .ref a_waitMany, .ref a_waitBytes, .int v_stateNumber, .long v_stateNow, .int v_second, .int v_repaired, .int v_up, .int v_sent])), (a_disk, .inl ((k 2), 32768, .inl v_disk)), (a_made, .inl ((k 2), 512, .inl v_made)), (a_sectorOf, .inl ((k 2), 5100, .inl v_sectorOf)), (a_placeOf, .inl ((k 2), 5100, .inl v_placeOf)), (a_manyOf, .inl ((k 2), 5100, .inl v_manyOf)), (a_there, .inl ((k 1), 5100, .inl v_there)), (a_waitKind, .inl ((k 2), 100, .inl v_waitKind)), (a_waitMany, .inl ((k 2), 100, .inl v_waitMany)), (a_waitBytes, .inl ((k 3), 100, .inr (.inl v_waitBytes)))] H := hP
  have hD : va_D A [(h0, .inr (6, [.int o1.2, .int v_sectors, .int v_power, .ref a_disk, .ref a_made, .int v_used, .int v_reserve, .int v_cutWrites, .int v_cutBytes, .int v_rows, .ref a_sectorOf, .ref a_placeOf, .ref a_manyOf, .ref a_there, .int v_waits, .ref a_waitKind, .ref a_waitMany, .ref a_waitBytes, .int v_stateNumber, .long v_stateNow, .int v_second, .int v_repaired, .int v_up, .int v_sent])), (a_disk, .inl ((k 2), 32768, .inl v_disk)), (a_made, .inl ((k 2), 512, .inl v_made)), (a_sectorOf, .inl ((k 2), 5100, .inl v_sectorOf)), (a_placeOf, .inl ((k 2), 5100, .inl v_placeOf)), (a_manyOf, .inl ((k 2), 5100, .inl v_manyOf)), (a_there, .inl ((k 1), 5100, .inl v_there)), (a_waitKind, .inl ((k 2), 100, .inl v_waitKind)), (a_waitMany, .inl ((k 2), 100, .inl v_waitMany)), (a_waitBytes, .inl ((k 3), 100, .inr (.inl v_waitBytes)))] := hD
  refine lv_if_eq (tgt := 24) hx hb dX6_save_19 (by decide) (fun q => ?_) (fun q => ?_)
  · replace h := dk_t q h
    refine lv_aload_n hx hb dX6_save_24 rfl (lv_at hl 0 rfl) ?_
    refine va_get (D := D) (ci := 6) (v := .int v_stateNumber) (C := "ServiceDiskModel") (T := TX6) (N := 24) hx hb hts inX6 hown hK hP 0 rfl rfl 18 (by decide) (hts _ w_755) (fun _ h9 => h9) rfl dX6_save_25 ?_
    refine lv_iconst (v := 1) hx hb dX6_save_28 (by decide) ?_
    refine lv_iadd hx hb dX6_save_29 ?_
    refine lv_istore_n (lv' := [(3, .int (v_stateNumber + 1)), (0, .ref h0), (1, .long p1)]) hx hb dX6_save_30 rfl hl (by decide) rfl (fun ls hl => ?_)
    refine lv_aload_n hx hb dX6_save_31 rfl (lv_at hl 1 rfl) ?_
    refine lv_iload_n hx hb dX6_save_32 rfl (lv_at hl 0 rfl) ?_
    replace h := dk_b h
    obtain ⟨o2, e2, h⟩ := h
    refine dk_cwv (wr := []) (va_runV (As := [.int (v_stateNumber + 1)]) (rest := []) ⟨hx, hb, hml, hown, hts⟩ (mX6_clear l D k h0 a_disk a_made a_sectorOf a_placeOf a_manyOf a_there a_waitKind a_waitMany a_waitBytes H.size o1.2 v_sectors v_power v_used v_reserve v_cutWrites v_cutBytes v_rows v_waits v_stateNumber v_stateNow v_second v_repaired v_up v_sent v_disk v_made v_sectorOf v_placeOf v_manyOf v_there v_waitKind v_waitMany v_waitBytes (v_stateNumber + 1) o2 e2) (cwV 1 hts (dk_gV w_841 w_843 w_22 w_46 w_844) rfl rfl rfl (by decide +kernel) ⟨Nat.le_of_ble_eq_true rfl, Nat.le_of_ble_eq_true rfl⟩) (dk_pvw hK hN hP hD [0, 1, 2, 3, 4, 5, 6, 7, 8, 9] rfl rfl rfl rfl (hP.sub [0, 1, 2, 3, 4, 5, 6, 7, 8, 9] rfl)) rfl rfl hl.1 rfl (lv_room (Nat.le_of_ble_eq_true rfl)) dX6_save_33 ⟨Nat.le_of_ble_eq_true rfl, Nat.le_of_ble_eq_true rfl⟩) hP hD hS hA [0, 1, 2, 3, 4, 5, 6, 7, 8, 9] [] rfl rfl rfl (by decide) (fun H locs hP hD hS => ?_)
    have hP : va_P D vwCl [(h0, .inr (6, [.int o1.2, .int v_sectors, .int v_power, .ref a_disk, .ref a_made, .int v_used, .int v_reserve, .int v_cutWrites, .int v_cutBytes, .int v_rows, .ref a_sectorOf, .ref a_placeOf, .ref a_manyOf, .ref a_there, .int v_waits, .ref a_waitKind, .ref a_waitMany, .ref a_waitBytes, .int v_stateNumber, .long v_stateNow, .int v_second, .int v_repaired, .int v_up, .int v_sent])), (a_disk, .inl ((k 2), 32768, .inl v_disk)), (a_made, .inl ((k 2), 512, .inl o2)), (a_sectorOf, .inl ((k 2), 5100, .inl v_sectorOf)), (a_placeOf, .inl ((k 2), 5100, .inl v_placeOf)), (a_manyOf, .inl ((k 2), 5100, .inl v_manyOf)), (a_there, .inl ((k 1), 5100, .inl v_there)), (a_waitKind, .inl ((k 2), 100, .inl v_waitKind)), (a_waitMany, .inl ((k 2), 100, .inl v_waitMany)), (a_waitBytes, .inl ((k 3), 100, .inr (.inl v_waitBytes)))] H := hP
    have hD : va_D A [(h0, .inr (6, [.int o1.2, .int v_sectors, .int v_power, .ref a_disk, .ref a_made, .int v_used, .int v_reserve, .int v_cutWrites, .int v_cutBytes, .int v_rows, .ref a_sectorOf, .ref a_placeOf, .ref a_manyOf, .ref a_there, .int v_waits, .ref a_waitKind, .ref a_waitMany, .ref a_waitBytes, .int v_stateNumber, .long v_stateNow, .int v_second, .int v_repaired, .int v_up, .int v_sent])), (a_disk, .inl ((k 2), 32768, .inl v_disk)), (a_made, .inl ((k 2), 512, .inl o2)), (a_sectorOf, .inl ((k 2), 5100, .inl v_sectorOf)), (a_placeOf, .inl ((k 2), 5100, .inl v_placeOf)), (a_manyOf, .inl ((k 2), 5100, .inl v_manyOf)), (a_there, .inl ((k 1), 5100, .inl v_there)), (a_waitKind, .inl ((k 2), 100, .inl v_waitKind)), (a_waitMany, .inl ((k 2), 100, .inl v_waitMany)), (a_waitBytes, .inl ((k 3), 100, .inr (.inl v_waitBytes)))] := hD
    refine lv_iconst (v := 0) hx hb dX6_save_36 (by decide) ?_
    refine lv_istore (lv' := [(4, .int 0), (3, .int (v_stateNumber + 1)), (0, .ref h0), (1, .long p1)]) hx hb dX6_save_37 hl (by decide) rfl (fun ls hl => ?_)
    replace h := dk_b h
    obtain ⟨o3, e3, h⟩ := h
    refine lX6_save_39 C hK hN hA _ 0 o2  e3 (fun H locs hP hD hS ls hl => ?_) _ _ (hP.sub [0, 1, 2, 3, 4, 5, 6, 7, 8, 9] rfl) (hD.sub [0, 1, 2, 3, 4, 5, 6, 7, 8, 9] (by decide) rfl) hS ls (lv_sub hl [2, 3, 1, 0] rfl)
    have hP : va_P D vwCl [(h0, .inr (6, [.int o1.2, .int v_sectors, .int v_power, .ref a_disk, .ref a_made, .int v_used, .int v_reserve, .int v_cutWrites, .int v_cutBytes, .int v_rows, .ref a_sectorOf, .ref a_placeOf, .ref a_manyOf, .ref a_there, .int v_waits, .ref a_waitKind, .ref a_waitMany, .ref a_waitBytes, .int v_stateNumber, .long v_stateNow, .int v_second, .int v_repaired, .int v_up, .int v_sent])), (a_disk, .inl ((k 2), 32768, .inl v_disk)), (a_made, .inl ((k 2), 512, .inl o3.2)), (a_sectorOf, .inl ((k 2), 5100, .inl v_sectorOf)), (a_placeOf, .inl ((k 2), 5100, .inl v_placeOf)), (a_manyOf, .inl ((k 2), 5100, .inl v_manyOf)), (a_there, .inl ((k 1), 5100, .inl v_there)), (a_waitKind, .inl ((k 2), 100, .inl v_waitKind)), (a_waitMany, .inl ((k 2), 100, .inl v_waitMany)), (a_waitBytes, .inl ((k 3), 100, .inr (.inl v_waitBytes)))] H := hP
    have hD : va_D A [(h0, .inr (6, [.int o1.2, .int v_sectors, .int v_power, .ref a_disk, .ref a_made, .int v_used, .int v_reserve, .int v_cutWrites, .int v_cutBytes, .int v_rows, .ref a_sectorOf, .ref a_placeOf, .ref a_manyOf, .ref a_there, .int v_waits, .ref a_waitKind, .ref a_waitMany, .ref a_waitBytes, .int v_stateNumber, .long v_stateNow, .int v_second, .int v_repaired, .int v_up, .int v_sent])), (a_disk, .inl ((k 2), 32768, .inl v_disk)), (a_made, .inl ((k 2), 512, .inl o3.2)), (a_sectorOf, .inl ((k 2), 5100, .inl v_sectorOf)), (a_placeOf, .inl ((k 2), 5100, .inl v_placeOf)), (a_manyOf, .inl ((k 2), 5100, .inl v_manyOf)), (a_there, .inl ((k 1), 5100, .inl v_there)), (a_waitKind, .inl ((k 2), 100, .inl v_waitKind)), (a_waitMany, .inl ((k 2), 100, .inl v_waitMany)), (a_waitBytes, .inl ((k 3), 100, .inr (.inl v_waitBytes)))] := hD
    have hl : lv_has ls 5 [(0, .ref h0), (1, .long p1), (3, .int (v_stateNumber + 1)), (4, .int o3.1)] := hl
    refine lv_aload_n hx hb dX6_save_72 rfl (lv_at hl 0 rfl) ?_
    refine lv_bipush (v := 8) hx hb dX6_save_73 (by decide) ?_
    replace h := dk_b h
    obtain ⟨o4, e4, h⟩ := h
    refine dk_cwv (wr := []) (va_runV (As := [.int 8]) (rest := []) ⟨hx, hb, hml, hown, hts⟩ (mX6_finish l D k h0 a_disk a_made a_sectorOf a_placeOf a_manyOf a_there a_waitKind a_waitMany a_waitBytes H.size o1.2 v_sectors v_power v_used v_reserve v_cutWrites v_cutBytes v_rows v_waits v_stateNumber v_stateNow v_second v_repaired v_up v_sent v_disk o3.2 v_sectorOf v_placeOf v_manyOf v_there v_waitKind v_waitMany v_waitBytes 8 o4 e4) (cwV 1 hts (dk_gV w_853 w_855 w_25 w_46 w_856) rfl rfl rfl (by decide +kernel) ⟨Nat.le_of_ble_eq_true rfl, Nat.le_of_ble_eq_true rfl⟩) (dk_pvw hK hN hP hD [0, 1, 2, 3, 4, 5, 6, 7, 8, 9] rfl rfl rfl rfl (hP.sub [0, 1, 2, 3, 4, 5, 6, 7, 8, 9] rfl)) rfl rfl hl.1 rfl (lv_room (Nat.le_of_ble_eq_true rfl)) dX6_save_75 ⟨Nat.le_of_ble_eq_true rfl, Nat.le_of_ble_eq_true rfl⟩) hP hD hS hA [0, 1, 2, 3, 4, 5, 6, 7, 8, 9] [] rfl rfl rfl (by decide) (fun H locs hP hD hS => ?_)
    have hP : va_P D vwCl [(h0, .inr (6, [.int o1.2, .int v_sectors, .int v_power, .ref a_disk, .ref a_made, .int v_used, .int v_reserve, .int v_cutWrites, .int v_cutBytes, .int v_rows, .ref a_sectorOf, .ref a_placeOf, .ref a_manyOf, .ref a_there, .int v_waits, .ref a_waitKind, .ref a_waitMany, .ref a_waitBytes, .int v_stateNumber, .long v_stateNow, .int v_second, .int v_repaired, .int v_up, .int v_sent])), (a_disk, .inl ((k 2), 32768, .inl v_disk)), (a_made, .inl ((k 2), 512, .inl o4)), (a_sectorOf, .inl ((k 2), 5100, .inl v_sectorOf)), (a_placeOf, .inl ((k 2), 5100, .inl v_placeOf)), (a_manyOf, .inl ((k 2), 5100, .inl v_manyOf)), (a_there, .inl ((k 1), 5100, .inl v_there)), (a_waitKind, .inl ((k 2), 100, .inl v_waitKind)), (a_waitMany, .inl ((k 2), 100, .inl v_waitMany)), (a_waitBytes, .inl ((k 3), 100, .inr (.inl v_waitBytes)))] H := hP
    have hD : va_D A [(h0, .inr (6, [.int o1.2, .int v_sectors, .int v_power, .ref a_disk, .ref a_made, .int v_used, .int v_reserve, .int v_cutWrites, .int v_cutBytes, .int v_rows, .ref a_sectorOf, .ref a_placeOf, .ref a_manyOf, .ref a_there, .int v_waits, .ref a_waitKind, .ref a_waitMany, .ref a_waitBytes, .int v_stateNumber, .long v_stateNow, .int v_second, .int v_repaired, .int v_up, .int v_sent])), (a_disk, .inl ((k 2), 32768, .inl v_disk)), (a_made, .inl ((k 2), 512, .inl o4)), (a_sectorOf, .inl ((k 2), 5100, .inl v_sectorOf)), (a_placeOf, .inl ((k 2), 5100, .inl v_placeOf)), (a_manyOf, .inl ((k 2), 5100, .inl v_manyOf)), (a_there, .inl ((k 1), 5100, .inl v_there)), (a_waitKind, .inl ((k 2), 100, .inl v_waitKind)), (a_waitMany, .inl ((k 2), 100, .inl v_waitMany)), (a_waitBytes, .inl ((k 3), 100, .inr (.inl v_waitBytes)))] := hD
    refine lv_aload_n hx hb dX6_save_78 rfl (lv_at hl 0 rfl) ?_
    refine lv_iload_n hx hb dX6_save_79 rfl (lv_at hl 2 rfl) ?_
    refine lv_iconst (v := 2) hx hb dX6_save_80 (by decide) ?_
    refine lv_irem hx hb dX6_save_81 (by decide) ?_
    refine dk_jn (F0 m 100 ls [.int (if ((v_stateNumber + 1) - (v_stateNumber + 1) / 2 * 2) = 0 then (v_sectors - 1) else (v_sectors - 2)), .ref h0]) (fun K => ?_) ?_
    · refine lv_if_eq (tgt := 94) hx hb dX6_save_82 (by decide) (fun q1 => ?_) (fun q1 => ?_)
      · refine lv_aload_n hx hb dX6_save_94 rfl (lv_at hl 0 rfl) ?_
        refine va_get (D := D) (ci := 6) (v := .int v_sectors) (C := "ServiceDiskModel") (T := TX6) (N := 24) hx hb hts inX6 hown hK hP 0 rfl rfl 1 (by decide) (hts _ w_738) (fun _ h9 => h9) rfl dX6_save_95 ?_
        refine lv_iconst (v := 1) hx hb dX6_save_98 (by decide) ?_
        refine lv_isub hx hb dX6_save_99 ?_
        have K := K
        rw [if_pos q1] at K
        exact K
      · refine lv_aload_n hx hb dX6_save_85 rfl (lv_at hl 0 rfl) ?_
        refine va_get (D := D) (ci := 6) (v := .int v_sectors) (C := "ServiceDiskModel") (T := TX6) (N := 24) hx hb hts inX6 hown hK hP 0 rfl rfl 1 (by decide) (hts _ w_738) (fun _ h9 => h9) rfl dX6_save_86 ?_
        refine lv_iconst (v := 2) hx hb dX6_save_89 (by decide) ?_
        refine lv_isub hx hb dX6_save_90 ?_
        refine lv_goto (tgt := 100) hx hb dX6_save_91 (by decide) ?_
        have K := K
        rw [if_neg q1] at K
        exact K
    replace h := dk_b h
    obtain ⟨o5, e5, h⟩ := h
    refine dk_cwi (wr := []) (va_runV (As := [.int (if ((v_stateNumber + 1) - (v_stateNumber + 1) / 2 * 2) = 0 then (v_sectors - 1) else (v_sectors - 2))]) (rest := []) ⟨hx, hb, hml, hown, hts⟩ (mX6_write l D k h0 a_disk a_made a_sectorOf a_placeOf a_manyOf a_there a_waitKind a_waitMany a_waitBytes H.size o1.2 v_sectors v_power v_used v_reserve v_cutWrites v_cutBytes v_rows v_waits v_stateNumber v_stateNow v_second v_repaired v_up v_sent v_disk o4 v_sectorOf v_placeOf v_manyOf v_there v_waitKind v_waitMany v_waitBytes (if ((v_stateNumber + 1) - (v_stateNumber + 1) / 2 * 2) = 0 then (v_sectors - 1) else (v_sectors - 2)) o5 e5) (cwV 1 hts (dk_gV w_861 w_863 w_26 w_46 w_864) rfl rfl rfl (by decide +kernel) ⟨Nat.le_of_ble_eq_true rfl, Nat.le_of_ble_eq_true rfl⟩) (dk_pvw hK hN hP hD [0, 1, 2, 3, 4, 5, 6, 7, 8, 9] rfl rfl rfl rfl (hP.sub [0, 1, 2, 3, 4, 5, 6, 7, 8, 9] rfl)) rfl rfl hl.1 rfl (lv_room (Nat.le_of_ble_eq_true rfl)) dX6_save_100 ⟨Nat.le_of_ble_eq_true rfl, Nat.le_of_ble_eq_true rfl⟩) hP hD hS hA [0, 1, 2, 3, 4, 5, 6, 7, 8, 9] [] rfl rfl rfl (by decide) (fun H locs hP hD hS => ?_)
    have hP : va_P D vwCl [(h0, .inr (6, [.int o1.2, .int v_sectors, .int o5.2.1, .ref a_disk, .ref a_made, .int v_used, .int v_reserve, .int o5.2.2.1, .int v_cutBytes, .int v_rows, .ref a_sectorOf, .ref a_placeOf, .ref a_manyOf, .ref a_there, .int v_waits, .ref a_waitKind, .ref a_waitMany, .ref a_waitBytes, .int v_stateNumber, .long v_stateNow, .int v_second, .int v_repaired, .int v_up, .int v_sent])), (a_disk, .inl ((k 2), 32768, .inl o5.2.2.2)), (a_made, .inl ((k 2), 512, .inl o4)), (a_sectorOf, .inl ((k 2), 5100, .inl v_sectorOf)), (a_placeOf, .inl ((k 2), 5100, .inl v_placeOf)), (a_manyOf, .inl ((k 2), 5100, .inl v_manyOf)), (a_there, .inl ((k 1), 5100, .inl v_there)), (a_waitKind, .inl ((k 2), 100, .inl v_waitKind)), (a_waitMany, .inl ((k 2), 100, .inl v_waitMany)), (a_waitBytes, .inl ((k 3), 100, .inr (.inl v_waitBytes)))] H := hP
    have hD : va_D A [(h0, .inr (6, [.int o1.2, .int v_sectors, .int o5.2.1, .ref a_disk, .ref a_made, .int v_used, .int v_reserve, .int o5.2.2.1, .int v_cutBytes, .int v_rows, .ref a_sectorOf, .ref a_placeOf, .ref a_manyOf, .ref a_there, .int v_waits, .ref a_waitKind, .ref a_waitMany, .ref a_waitBytes, .int v_stateNumber, .long v_stateNow, .int v_second, .int v_repaired, .int v_up, .int v_sent])), (a_disk, .inl ((k 2), 32768, .inl o5.2.2.2)), (a_made, .inl ((k 2), 512, .inl o4)), (a_sectorOf, .inl ((k 2), 5100, .inl v_sectorOf)), (a_placeOf, .inl ((k 2), 5100, .inl v_placeOf)), (a_manyOf, .inl ((k 2), 5100, .inl v_manyOf)), (a_there, .inl ((k 1), 5100, .inl v_there)), (a_waitKind, .inl ((k 2), 100, .inl v_waitKind)), (a_waitMany, .inl ((k 2), 100, .inl v_waitMany)), (a_waitBytes, .inl ((k 3), 100, .inr (.inl v_waitBytes)))] := hD
    refine lv_if_ne (tgt := 108) hx hb dX6_save_103 (by decide) (fun q => ?_) (fun q => ?_)
    · replace h := dk_f q h
      refine lv_aload_n hx hb dX6_save_108 rfl (lv_at hl 0 rfl) ?_
      refine lv_iload_n hx hb dX6_save_109 rfl (lv_at hl 2 rfl) ?_
      refine va_put (D := D) (ci := 6) (v := .int (v_stateNumber + 1)) (ty := .int) (C := "ServiceDiskModel") (T := TX6) (N := 24) hx hb hts inX6 tyX6 tyX6_ok nmX6 hown hK hP hD hS 0 rfl rfl 18 (by decide) (hts _ w_755) (fun _ h9 => h9) rfl (by decide +kernel) rfl rfl (Nat.le_of_ble_eq_true rfl) dX6_save_110 (fun H locs hP hD hS => ?_)
      have hP : va_P D vwCl [(h0, .inr (6, [.int o1.2, .int v_sectors, .int o5.2.1, .ref a_disk, .ref a_made, .int v_used, .int v_reserve, .int o5.2.2.1, .int v_cutBytes, .int v_rows, .ref a_sectorOf, .ref a_placeOf, .ref a_manyOf, .ref a_there, .int v_waits, .ref a_waitKind, .ref a_waitMany, .ref a_waitBytes, .int (v_stateNumber + 1), .long v_stateNow, .int v_second, .int v_repaired, .int v_up, .int v_sent])), (a_disk, .inl ((k 2), 32768, .inl o5.2.2.2)), (a_made, .inl ((k 2), 512, .inl o4)), (a_sectorOf, .inl ((k 2), 5100, .inl v_sectorOf)), (a_placeOf, .inl ((k 2), 5100, .inl v_placeOf)), (a_manyOf, .inl ((k 2), 5100, .inl v_manyOf)), (a_there, .inl ((k 1), 5100, .inl v_there)), (a_waitKind, .inl ((k 2), 100, .inl v_waitKind)), (a_waitMany, .inl ((k 2), 100, .inl v_waitMany)), (a_waitBytes, .inl ((k 3), 100, .inr (.inl v_waitBytes)))] H := hP
      have hD : va_D A [(h0, .inr (6, [.int o1.2, .int v_sectors, .int o5.2.1, .ref a_disk, .ref a_made, .int v_used, .int v_reserve, .int o5.2.2.1, .int v_cutBytes, .int v_rows, .ref a_sectorOf, .ref a_placeOf, .ref a_manyOf, .ref a_there, .int v_waits, .ref a_waitKind, .ref a_waitMany, .ref a_waitBytes, .int (v_stateNumber + 1), .long v_stateNow, .int v_second, .int v_repaired, .int v_up, .int v_sent])), (a_disk, .inl ((k 2), 32768, .inl o5.2.2.2)), (a_made, .inl ((k 2), 512, .inl o4)), (a_sectorOf, .inl ((k 2), 5100, .inl v_sectorOf)), (a_placeOf, .inl ((k 2), 5100, .inl v_placeOf)), (a_manyOf, .inl ((k 2), 5100, .inl v_manyOf)), (a_there, .inl ((k 1), 5100, .inl v_there)), (a_waitKind, .inl ((k 2), 100, .inl v_waitKind)), (a_waitMany, .inl ((k 2), 100, .inl v_waitMany)), (a_waitBytes, .inl ((k 3), 100, .inr (.inl v_waitBytes)))] := hD
      refine lv_aload_n hx hb dX6_save_113 rfl (lv_at hl 0 rfl) ?_
      refine lv_lload_n hx hb dX6_save_114 rfl (lv_at hl 1 rfl) ?_
      refine va_put (D := D) (ci := 6) (v := .long p1) (ty := .long) (C := "ServiceDiskModel") (T := TX6) (N := 24) hx hb hts inX6 tyX6 tyX6_ok nmX6 hown hK hP hD hS 0 rfl rfl 19 (by decide) (hts _ w_756) (fun _ h9 => h9) rfl (by decide +kernel) rfl rfl (Nat.le_of_ble_eq_true rfl) dX6_save_115 (fun H locs hP hD hS => ?_)
      have hP : va_P D vwCl [(h0, .inr (6, [.int o1.2, .int v_sectors, .int o5.2.1, .ref a_disk, .ref a_made, .int v_used, .int v_reserve, .int o5.2.2.1, .int v_cutBytes, .int v_rows, .ref a_sectorOf, .ref a_placeOf, .ref a_manyOf, .ref a_there, .int v_waits, .ref a_waitKind, .ref a_waitMany, .ref a_waitBytes, .int (v_stateNumber + 1), .long p1, .int v_second, .int v_repaired, .int v_up, .int v_sent])), (a_disk, .inl ((k 2), 32768, .inl o5.2.2.2)), (a_made, .inl ((k 2), 512, .inl o4)), (a_sectorOf, .inl ((k 2), 5100, .inl v_sectorOf)), (a_placeOf, .inl ((k 2), 5100, .inl v_placeOf)), (a_manyOf, .inl ((k 2), 5100, .inl v_manyOf)), (a_there, .inl ((k 1), 5100, .inl v_there)), (a_waitKind, .inl ((k 2), 100, .inl v_waitKind)), (a_waitMany, .inl ((k 2), 100, .inl v_waitMany)), (a_waitBytes, .inl ((k 3), 100, .inr (.inl v_waitBytes)))] H := hP
      have hD : va_D A [(h0, .inr (6, [.int o1.2, .int v_sectors, .int o5.2.1, .ref a_disk, .ref a_made, .int v_used, .int v_reserve, .int o5.2.2.1, .int v_cutBytes, .int v_rows, .ref a_sectorOf, .ref a_placeOf, .ref a_manyOf, .ref a_there, .int v_waits, .ref a_waitKind, .ref a_waitMany, .ref a_waitBytes, .int (v_stateNumber + 1), .long p1, .int v_second, .int v_repaired, .int v_up, .int v_sent])), (a_disk, .inl ((k 2), 32768, .inl o5.2.2.2)), (a_made, .inl ((k 2), 512, .inl o4)), (a_sectorOf, .inl ((k 2), 5100, .inl v_sectorOf)), (a_placeOf, .inl ((k 2), 5100, .inl v_placeOf)), (a_manyOf, .inl ((k 2), 5100, .inl v_manyOf)), (a_there, .inl ((k 1), 5100, .inl v_there)), (a_waitKind, .inl ((k 2), 100, .inl v_waitKind)), (a_waitMany, .inl ((k 2), 100, .inl v_waitMany)), (a_waitBytes, .inl ((k 3), 100, .inr (.inl v_waitBytes)))] := hD
      refine lv_iload_n hx hb dX6_save_118 rfl (lv_at hl 2 rfl) ?_
      have h := dk_r h
      subst h
      exact dk_rwi hx hb hr hlocks (hP.sub [0, 1, 2, 3, 4, 5, 6, 7, 8, 9] rfl) (hD.sub [0, 1, 2, 3, 4, 5, 6, 7, 8, 9] (by decide) rfl) hS dX6_save_119 rfl
    · replace h := dk_t q h
      refine lv_iconst (v := -1) hx hb dX6_save_106 (by decide) ?_
      have h := dk_r h
      subst h
      exact dk_rwi hx hb hr hlocks (hP.sub [0, 1, 2, 3, 4, 5, 6, 7, 8, 9] rfl) (hD.sub [0, 1, 2, 3, 4, 5, 6, 7, 8, 9] (by decide) rfl) hS dX6_save_107 rfl
  · replace h := dk_f q h
    refine lv_iconst (v := 0) hx hb dX6_save_22 (by decide) ?_
    have h := dk_r h
    subst h
    exact dk_rwi hx hb hr hlocks (hP.sub [0, 1, 2, 3, 4, 5, 6, 7, 8, 9] rfl) (hD.sub [0, 1, 2, 3, 4, 5, 6, 7, 8, 9] (by decide) rfl) hS dX6_save_23 rfl
/-! ServiceDiskModel.state()J: rw, frames 1, locals 24 -/
def fX6_state (v_power : Int32) (v_stateNow : Int64) : Option (Int64 × Int32) :=
  (fX6_throwing (if v_power = 0 then 1 else 0) 0 0 0).bind fun o1 =>
  if o1.1 = 0 then
    some (v_stateNow, o1.2)
  else
    some (0, o1.2)
set_option maxHeartbeats 4000000 in
set_option maxRecDepth 100000 in
theorem mX6_state (l : Launch) (D : va_G) (k : Nat → ClassId) (h0 a_disk a_made a_sectorOf a_placeOf a_manyOf a_there a_waitKind a_waitMany a_waitBytes : Nat) (sz : Nat) (v_thrown : Int32) (v_sectors : Int32) (v_power : Int32) (v_used : Int32) (v_reserve : Int32) (v_cutWrites : Int32) (v_cutBytes : Int32) (v_rows : Int32) (v_waits : Int32) (v_stateNumber : Int32) (v_stateNow : Int64) (v_second : Int32) (v_repaired : Int32) (v_up : Int32) (v_sent : Int32) (v_disk : Nat → Int32) (v_made : Nat → Int32) (v_sectorOf : Nat → Int32) (v_placeOf : Nat → Int32) (v_manyOf : Nat → Int32) (v_there : Nat → Int32) (v_waitKind : Nat → Int32) (v_waitMany : Nat → Int32) (v_waitBytes : Nat → Int64) (o : Int64 × Int32) (h : fX6_state v_power v_stateNow = some o) : Met l yX6_state wsX6_state { frames := 1, cells := 0, slots := 0, locals := 24 } (dk_Pw D k [.ref h0] [(h0, .inr (6, [.int v_thrown, .int v_sectors, .int v_power, .ref a_disk, .ref a_made, .int v_used, .int v_reserve, .int v_cutWrites, .int v_cutBytes, .int v_rows, .ref a_sectorOf, .ref a_placeOf, .ref a_manyOf, .ref a_there, .int v_waits, .ref a_waitKind, .ref a_waitMany, .ref a_waitBytes, .int v_stateNumber, .long v_stateNow, .int v_second, .int v_repaired, .int v_up, .int v_sent])), (a_disk, .inl ((k 2), 32768, .inl v_disk)), (a_made, .inl ((k 2), 512, .inl v_made)), (a_sectorOf, .inl ((k 2), 5100, .inl v_sectorOf)), (a_placeOf, .inl ((k 2), 5100, .inl v_placeOf)), (a_manyOf, .inl ((k 2), 5100, .inl v_manyOf)), (a_there, .inl ((k 1), 5100, .inl v_there)), (a_waitKind, .inl ((k 2), 100, .inl v_waitKind)), (a_waitMany, .inl ((k 2), 100, .inl v_waitMany)), (a_waitBytes, .inl ((k 3), 100, .inr (.inl v_waitBytes)))] sz) (dk_Ql o.1 D [(h0, .inr (6, [.int o.2, .int v_sectors, .int v_power, .ref a_disk, .ref a_made, .int v_used, .int v_reserve, .int v_cutWrites, .int v_cutBytes, .int v_rows, .ref a_sectorOf, .ref a_placeOf, .ref a_manyOf, .ref a_there, .int v_waits, .ref a_waitKind, .ref a_waitMany, .ref a_waitBytes, .int v_stateNumber, .long v_stateNow, .int v_second, .int v_repaired, .int v_up, .int v_sent])), (a_disk, .inl ((k 2), 32768, .inl v_disk)), (a_made, .inl ((k 2), 512, .inl v_made)), (a_sectorOf, .inl ((k 2), 5100, .inl v_sectorOf)), (a_placeOf, .inl ((k 2), 5100, .inl v_placeOf)), (a_manyOf, .inl ((k 2), 5100, .inl v_manyOf)), (a_there, .inl ((k 1), 5100, .inl v_there)), (a_waitKind, .inl ((k 2), 100, .inl v_waitKind)), (a_waitMany, .inl ((k 2), 100, .inl v_waitMany)), (a_waitBytes, .inl ((k 3), 100, .inr (.inl v_waitBytes)))] (va_A [(h0, .inr (6, [.int v_thrown, .int v_sectors, .int v_power, .ref a_disk, .ref a_made, .int v_used, .int v_reserve, .int v_cutWrites, .int v_cutBytes, .int v_rows, .ref a_sectorOf, .ref a_placeOf, .ref a_manyOf, .ref a_there, .int v_waits, .ref a_waitKind, .ref a_waitMany, .ref a_waitBytes, .int v_stateNumber, .long v_stateNow, .int v_second, .int v_repaired, .int v_up, .int v_sent])), (a_disk, .inl ((k 2), 32768, .inl v_disk)), (a_made, .inl ((k 2), 512, .inl v_made)), (a_sectorOf, .inl ((k 2), 5100, .inl v_sectorOf)), (a_placeOf, .inl ((k 2), 5100, .inl v_placeOf)), (a_manyOf, .inl ((k 2), 5100, .inl v_manyOf)), (a_there, .inl ((k 1), 5100, .inl v_there)), (a_waitKind, .inl ((k 2), 100, .inl v_waitKind)), (a_waitMany, .inl ((k 2), 100, .inl v_waitMany)), (a_waitBytes, .inl ((k 3), 100, .inr (.inl v_waitBytes)))] sz)) 0 0 (va_A [(h0, .inr (6, [.int v_thrown, .int v_sectors, .int v_power, .ref a_disk, .ref a_made, .int v_used, .int v_reserve, .int v_cutWrites, .int v_cutBytes, .int v_rows, .ref a_sectorOf, .ref a_placeOf, .ref a_manyOf, .ref a_there, .int v_waits, .ref a_waitKind, .ref a_waitMany, .ref a_waitBytes, .int v_stateNumber, .long v_stateNow, .int v_second, .int v_repaired, .int v_up, .int v_sent])), (a_disk, .inl ((k 2), 32768, .inl v_disk)), (a_made, .inl ((k 2), 512, .inl v_made)), (a_sectorOf, .inl ((k 2), 5100, .inl v_sectorOf)), (a_placeOf, .inl ((k 2), 5100, .inl v_placeOf)), (a_manyOf, .inl ((k 2), 5100, .inl v_manyOf)), (a_there, .inl ((k 1), 5100, .inl v_there)), (a_waitKind, .inl ((k 2), 100, .inl v_waitKind)), (a_waitMany, .inl ((k 2), 100, .inl v_waitMany)), (a_waitBytes, .inl ((k 3), 100, .inr (.inl v_waitBytes)))] sz) := by
  unfold fX6_state at h
  refine dk_ofW (Qc := fun A => dk_Ql o.1 D [(h0, .inr (6, [.int o.2, .int v_sectors, .int v_power, .ref a_disk, .ref a_made, .int v_used, .int v_reserve, .int v_cutWrites, .int v_cutBytes, .int v_rows, .ref a_sectorOf, .ref a_placeOf, .ref a_manyOf, .ref a_there, .int v_waits, .ref a_waitKind, .ref a_waitMany, .ref a_waitBytes, .int v_stateNumber, .long v_stateNow, .int v_second, .int v_repaired, .int v_up, .int v_sent])), (a_disk, .inl ((k 2), 32768, .inl v_disk)), (a_made, .inl ((k 2), 512, .inl v_made)), (a_sectorOf, .inl ((k 2), 5100, .inl v_sectorOf)), (a_placeOf, .inl ((k 2), 5100, .inl v_placeOf)), (a_manyOf, .inl ((k 2), 5100, .inl v_manyOf)), (a_there, .inl ((k 1), 5100, .inl v_there)), (a_waitKind, .inl ((k 2), 100, .inl v_waitKind)), (a_waitMany, .inl ((k 2), 100, .inl v_waitMany)), (a_waitBytes, .inl ((k 3), 100, .inr (.inl v_waitBytes)))] A) (cc := cX6_state) (maxL := 1) (ret := (some .long)) (lv := [(0, .ref h0)]) (by decide) rfl (Nat.le_of_ble_eq_true rfl) rfl ?_
  intro p e s m below meth c C hK hN hP A hA hD hS ls hl
  obtain ⟨hx, hb, hr, hml, hown, hts, hlocks⟩ := id C
  refine lv_aload_n hx hb dX6_state_0 rfl (lv_at hl 0 rfl) ?_
  refine lv_aload_n hx hb dX6_state_1 rfl (lv_at hl 0 rfl) ?_
  refine va_get (D := D) (ci := 6) (v := .int v_power) (C := "ServiceDiskModel") (T := TX6) (N := 24) hx hb hts inX6 hown hK hP 0 rfl rfl 2 (by decide) (hts _ w_739) (fun _ h9 => h9) rfl dX6_state_2 ?_
  refine dk_jn (F0 m 13 ls [.int (if v_power = 0 then 1 else 0), .ref h0]) (fun K => ?_) ?_
  · refine lv_if_ne (tgt := 12) hx hb dX6_state_5 (by decide) (fun q1 => ?_) (fun q1 => ?_)
    · refine lv_iconst (v := 0) hx hb dX6_state_12 (by decide) ?_
      have K := K
      rw [if_neg q1] at K
      exact K
    · refine lv_iconst (v := 1) hx hb dX6_state_8 (by decide) ?_
      refine lv_goto (tgt := 13) hx hb dX6_state_9 (by decide) ?_
      have K := K
      rw [if_pos q1] at K
      exact K
  refine lv_iconst (v := 0) hx hb dX6_state_13 (by decide) ?_
  refine lv_iconst (v := 0) hx hb dX6_state_14 (by decide) ?_
  refine lv_iconst (v := 0) hx hb dX6_state_15 (by decide) ?_
  replace h := dk_b h
  obtain ⟨o1, e1, h⟩ := h
  refine dk_cwi (wr := []) (va_runV (As := [.int (if v_power = 0 then 1 else 0), .int 0, .int 0, .int 0]) (rest := []) ⟨hx, hb, hml, hown, hts⟩ (mX6_throwing l D k h0 a_disk a_made a_sectorOf a_placeOf a_manyOf a_there a_waitKind a_waitMany a_waitBytes s.heap.size v_thrown v_sectors v_power v_used v_reserve v_cutWrites v_cutBytes v_rows v_waits v_stateNumber v_stateNow v_second v_repaired v_up v_sent v_disk v_made v_sectorOf v_placeOf v_manyOf v_there v_waitKind v_waitMany v_waitBytes (if v_power = 0 then 1 else 0) 0 0 0 o1 e1) (cwV 4 hts (dk_gV w_821 w_823 w_20 w_46 w_824) rfl rfl rfl (by decide +kernel) ⟨Nat.le_of_ble_eq_true rfl, Nat.le_of_ble_eq_true rfl⟩) (dk_pvw hK hN hP hD [0, 1, 2, 3, 4, 5, 6, 7, 8, 9] rfl rfl rfl rfl (hP.sub [0, 1, 2, 3, 4, 5, 6, 7, 8, 9] rfl)) rfl rfl hl.1 rfl (lv_room (Nat.le_of_ble_eq_true rfl)) dX6_state_16 ⟨Nat.le_of_ble_eq_true rfl, Nat.le_of_ble_eq_true rfl⟩) hP hD hS hA [0, 1, 2, 3, 4, 5, 6, 7, 8, 9] [] rfl rfl rfl (by decide) (fun H locs hP hD hS => ?_)
  have hP : va_P D vwCl [(h0, .inr (6, [.int o1.2, .int v_sectors, .int v_power, .ref a_disk, .ref a_made, .int v_used, .int v_reserve, .int v_cutWrites, .int v_cutBytes, .int v_rows, .ref a_sectorOf, .ref a_placeOf, .ref a_manyOf, .ref a_there, .int v_waits, .ref a_waitKind, .ref a_waitMany, .ref a_waitBytes, .int v_stateNumber, .long v_stateNow, .int v_second, .int v_repaired, .int v_up, .int v_sent])), (a_disk, .inl ((k 2), 32768, .inl v_disk)), (a_made, .inl ((k 2), 512, .inl v_made)), (a_sectorOf, .inl ((k 2), 5100, .inl v_sectorOf)), (a_placeOf, .inl ((k 2), 5100, .inl v_placeOf)), (a_manyOf, .inl ((k 2), 5100, .inl v_manyOf)), (a_there, .inl ((k 1), 5100, .inl v_there)), (a_waitKind, .inl ((k 2), 100, .inl v_waitKind)), (a_waitMany, .inl ((k 2), 100, .inl v_waitMany)), (a_waitBytes, .inl ((k 3), 100, .inr (.inl v_waitBytes)))] H := hP
  have hD : va_D A [(h0, .inr (6, [.int o1.2, .int v_sectors, .int v_power, .ref a_disk, .ref a_made, .int v_used, .int v_reserve, .int v_cutWrites, .int v_cutBytes, .int v_rows, .ref a_sectorOf, .ref a_placeOf, .ref a_manyOf, .ref a_there, .int v_waits, .ref a_waitKind, .ref a_waitMany, .ref a_waitBytes, .int v_stateNumber, .long v_stateNow, .int v_second, .int v_repaired, .int v_up, .int v_sent])), (a_disk, .inl ((k 2), 32768, .inl v_disk)), (a_made, .inl ((k 2), 512, .inl v_made)), (a_sectorOf, .inl ((k 2), 5100, .inl v_sectorOf)), (a_placeOf, .inl ((k 2), 5100, .inl v_placeOf)), (a_manyOf, .inl ((k 2), 5100, .inl v_manyOf)), (a_there, .inl ((k 1), 5100, .inl v_there)), (a_waitKind, .inl ((k 2), 100, .inl v_waitKind)), (a_waitMany, .inl ((k 2), 100, .inl v_waitMany)), (a_waitBytes, .inl ((k 3), 100, .inr (.inl v_waitBytes)))] := hD
  refine lv_if_eq (tgt := 24) hx hb dX6_state_19 (by decide) (fun q => ?_) (fun q => ?_)
  · replace h := dk_t q h
    refine lv_aload_n hx hb dX6_state_24 rfl (lv_at hl 0 rfl) ?_
    refine va_get (D := D) (ci := 6) (v := .long v_stateNow) (C := "ServiceDiskModel") (T := TX6) (N := 24) hx hb hts inX6 hown hK hP 0 rfl rfl 19 (by decide) (hts _ w_756) (fun _ h9 => h9) rfl dX6_state_25 ?_
    have h := dk_r h
    subst h
    exact dk_rwl hx hb hr hlocks (hP.sub [0, 1, 2, 3, 4, 5, 6, 7, 8, 9] rfl) (hD.sub [0, 1, 2, 3, 4, 5, 6, 7, 8, 9] (by decide) rfl) hS dX6_state_28 rfl
  · replace h := dk_f q h
    refine lv_lconst (v := 0) hx hb dX6_state_22 (by decide) ?_
    have h := dk_r h
    subst h
    exact dk_rwl hx hb hr hlocks (hP.sub [0, 1, 2, 3, 4, 5, 6, 7, 8, 9] rfl) (hD.sub [0, 1, 2, 3, 4, 5, 6, 7, 8, 9] (by decide) rfl) hS dX6_state_23 rfl
/-! ServiceDiskModel.cut(II)V: rw, frames 1, locals 24 -/
def fX6_cut (v_power : Int32) (v_cutWrites : Int32) (v_cutBytes : Int32) (p1 : Int32) (p2 : Int32) : Option (Int32 × Int32 × Int32) :=
  (fX6_in p1 0 20).bind fun o1 =>
  if o1 = 0 then
    (fX6_throwing 1 (if v_power = 0 then 1 else 0) 0 0).bind fun o2 =>
    if o2.1 = 0 then
      some (o2.2, p1, p2)
    else
      some (o2.2, v_cutWrites, v_cutBytes)
  else
    (fX6_in p2 0 511).bind fun o3 =>
    (fX6_throwing (if o3 = 0 then 1 else 0) (if v_power = 0 then 1 else 0) 0 0).bind fun o4 =>
    if o4.1 = 0 then
      some (o4.2, p1, p2)
    else
      some (o4.2, v_cutWrites, v_cutBytes)
set_option maxHeartbeats 4000000 in
set_option maxRecDepth 100000 in
theorem mX6_cut (l : Launch) (D : va_G) (k : Nat → ClassId) (h0 a_disk a_made a_sectorOf a_placeOf a_manyOf a_there a_waitKind a_waitMany a_waitBytes : Nat) (sz : Nat) (v_thrown : Int32) (v_sectors : Int32) (v_power : Int32) (v_used : Int32) (v_reserve : Int32) (v_cutWrites : Int32) (v_cutBytes : Int32) (v_rows : Int32) (v_waits : Int32) (v_stateNumber : Int32) (v_stateNow : Int64) (v_second : Int32) (v_repaired : Int32) (v_up : Int32) (v_sent : Int32) (v_disk : Nat → Int32) (v_made : Nat → Int32) (v_sectorOf : Nat → Int32) (v_placeOf : Nat → Int32) (v_manyOf : Nat → Int32) (v_there : Nat → Int32) (v_waitKind : Nat → Int32) (v_waitMany : Nat → Int32) (v_waitBytes : Nat → Int64) (p1 : Int32) (p2 : Int32) (o : Int32 × Int32 × Int32) (h : fX6_cut v_power v_cutWrites v_cutBytes p1 p2 = some o) : Met l yX6_cut wsX6_cut { frames := 1, cells := 0, slots := 0, locals := 24 } (dk_Pw D k [.ref h0, .int p1, .int p2] [(h0, .inr (6, [.int v_thrown, .int v_sectors, .int v_power, .ref a_disk, .ref a_made, .int v_used, .int v_reserve, .int v_cutWrites, .int v_cutBytes, .int v_rows, .ref a_sectorOf, .ref a_placeOf, .ref a_manyOf, .ref a_there, .int v_waits, .ref a_waitKind, .ref a_waitMany, .ref a_waitBytes, .int v_stateNumber, .long v_stateNow, .int v_second, .int v_repaired, .int v_up, .int v_sent])), (a_disk, .inl ((k 2), 32768, .inl v_disk)), (a_made, .inl ((k 2), 512, .inl v_made)), (a_sectorOf, .inl ((k 2), 5100, .inl v_sectorOf)), (a_placeOf, .inl ((k 2), 5100, .inl v_placeOf)), (a_manyOf, .inl ((k 2), 5100, .inl v_manyOf)), (a_there, .inl ((k 1), 5100, .inl v_there)), (a_waitKind, .inl ((k 2), 100, .inl v_waitKind)), (a_waitMany, .inl ((k 2), 100, .inl v_waitMany)), (a_waitBytes, .inl ((k 3), 100, .inr (.inl v_waitBytes)))] sz) (dk_Qv D [(h0, .inr (6, [.int o.1, .int v_sectors, .int v_power, .ref a_disk, .ref a_made, .int v_used, .int v_reserve, .int o.2.1, .int o.2.2, .int v_rows, .ref a_sectorOf, .ref a_placeOf, .ref a_manyOf, .ref a_there, .int v_waits, .ref a_waitKind, .ref a_waitMany, .ref a_waitBytes, .int v_stateNumber, .long v_stateNow, .int v_second, .int v_repaired, .int v_up, .int v_sent])), (a_disk, .inl ((k 2), 32768, .inl v_disk)), (a_made, .inl ((k 2), 512, .inl v_made)), (a_sectorOf, .inl ((k 2), 5100, .inl v_sectorOf)), (a_placeOf, .inl ((k 2), 5100, .inl v_placeOf)), (a_manyOf, .inl ((k 2), 5100, .inl v_manyOf)), (a_there, .inl ((k 1), 5100, .inl v_there)), (a_waitKind, .inl ((k 2), 100, .inl v_waitKind)), (a_waitMany, .inl ((k 2), 100, .inl v_waitMany)), (a_waitBytes, .inl ((k 3), 100, .inr (.inl v_waitBytes)))] (va_A [(h0, .inr (6, [.int v_thrown, .int v_sectors, .int v_power, .ref a_disk, .ref a_made, .int v_used, .int v_reserve, .int v_cutWrites, .int v_cutBytes, .int v_rows, .ref a_sectorOf, .ref a_placeOf, .ref a_manyOf, .ref a_there, .int v_waits, .ref a_waitKind, .ref a_waitMany, .ref a_waitBytes, .int v_stateNumber, .long v_stateNow, .int v_second, .int v_repaired, .int v_up, .int v_sent])), (a_disk, .inl ((k 2), 32768, .inl v_disk)), (a_made, .inl ((k 2), 512, .inl v_made)), (a_sectorOf, .inl ((k 2), 5100, .inl v_sectorOf)), (a_placeOf, .inl ((k 2), 5100, .inl v_placeOf)), (a_manyOf, .inl ((k 2), 5100, .inl v_manyOf)), (a_there, .inl ((k 1), 5100, .inl v_there)), (a_waitKind, .inl ((k 2), 100, .inl v_waitKind)), (a_waitMany, .inl ((k 2), 100, .inl v_waitMany)), (a_waitBytes, .inl ((k 3), 100, .inr (.inl v_waitBytes)))] sz)) 0 0 (va_A [(h0, .inr (6, [.int v_thrown, .int v_sectors, .int v_power, .ref a_disk, .ref a_made, .int v_used, .int v_reserve, .int v_cutWrites, .int v_cutBytes, .int v_rows, .ref a_sectorOf, .ref a_placeOf, .ref a_manyOf, .ref a_there, .int v_waits, .ref a_waitKind, .ref a_waitMany, .ref a_waitBytes, .int v_stateNumber, .long v_stateNow, .int v_second, .int v_repaired, .int v_up, .int v_sent])), (a_disk, .inl ((k 2), 32768, .inl v_disk)), (a_made, .inl ((k 2), 512, .inl v_made)), (a_sectorOf, .inl ((k 2), 5100, .inl v_sectorOf)), (a_placeOf, .inl ((k 2), 5100, .inl v_placeOf)), (a_manyOf, .inl ((k 2), 5100, .inl v_manyOf)), (a_there, .inl ((k 1), 5100, .inl v_there)), (a_waitKind, .inl ((k 2), 100, .inl v_waitKind)), (a_waitMany, .inl ((k 2), 100, .inl v_waitMany)), (a_waitBytes, .inl ((k 3), 100, .inr (.inl v_waitBytes)))] sz) := by
  unfold fX6_cut at h
  refine dk_ofW (Qc := fun A => dk_Qv D [(h0, .inr (6, [.int o.1, .int v_sectors, .int v_power, .ref a_disk, .ref a_made, .int v_used, .int v_reserve, .int o.2.1, .int o.2.2, .int v_rows, .ref a_sectorOf, .ref a_placeOf, .ref a_manyOf, .ref a_there, .int v_waits, .ref a_waitKind, .ref a_waitMany, .ref a_waitBytes, .int v_stateNumber, .long v_stateNow, .int v_second, .int v_repaired, .int v_up, .int v_sent])), (a_disk, .inl ((k 2), 32768, .inl v_disk)), (a_made, .inl ((k 2), 512, .inl v_made)), (a_sectorOf, .inl ((k 2), 5100, .inl v_sectorOf)), (a_placeOf, .inl ((k 2), 5100, .inl v_placeOf)), (a_manyOf, .inl ((k 2), 5100, .inl v_manyOf)), (a_there, .inl ((k 1), 5100, .inl v_there)), (a_waitKind, .inl ((k 2), 100, .inl v_waitKind)), (a_waitMany, .inl ((k 2), 100, .inl v_waitMany)), (a_waitBytes, .inl ((k 3), 100, .inr (.inl v_waitBytes)))] A) (cc := cX6_cut) (maxL := 3) (ret := none) (lv := [(0, .ref h0), (1, .int p1), (2, .int p2)]) (by decide) rfl (Nat.le_of_ble_eq_true rfl) rfl ?_
  intro p e s m below meth c C hK hN hP A hA hD hS ls hl
  obtain ⟨hx, hb, hr, hml, hown, hts, hlocks⟩ := id C
  refine lv_aload_n hx hb dX6_cut_0 rfl (lv_at hl 0 rfl) ?_
  refine lv_iload_n hx hb dX6_cut_1 rfl (lv_at hl 1 rfl) ?_
  refine lv_iconst (v := 0) hx hb dX6_cut_2 (by decide) ?_
  refine lv_bipush (v := 20) hx hb dX6_cut_3 (by decide) ?_
  replace h := dk_b h
  obtain ⟨o1, e1, h⟩ := h
  refine dk_cri (va_runS (As := [.int p1, .int 0, .int 20]) (rest := [.ref h0]) ⟨hx, hb, hml, hown, hts⟩ (mX6_in l D k p1 0 20 o1 e1) (va_cwS 3 hts (dk_gS w_818 w_819 w_46 w_820) rfl rfl rfl (by decide +kernel) ⟨Nat.le_of_ble_eq_true rfl, Nat.le_of_ble_eq_true rfl⟩) (dk_psr hK hN hP [] rfl) rfl rfl hl.1 rfl (lv_room (Nat.le_of_ble_eq_true rfl)) dX6_cut_5 ⟨Nat.le_of_ble_eq_true rfl, Nat.le_of_ble_eq_true rfl⟩) ?_
  refine lv_if_eq (tgt := 22) hx hb dX6_cut_8 (by decide) (fun q => ?_) (fun q => ?_)
  · replace h := dk_t q h
    refine lv_iconst (v := 1) hx hb dX6_cut_22 (by decide) ?_
    refine lv_goto (tgt := 27) hx hb dX6_cut_23 (by decide) ?_
    refine lv_aload_n hx hb dX6_cut_27 rfl (lv_at hl 0 rfl) ?_
    refine va_get (D := D) (ci := 6) (v := .int v_power) (C := "ServiceDiskModel") (T := TX6) (N := 24) hx hb hts inX6 hown hK hP 0 rfl rfl 2 (by decide) (hts _ w_739) (fun _ h9 => h9) rfl dX6_cut_28 ?_
    refine dk_jn (F0 m 39 ls [.int (if v_power = 0 then 1 else 0), .int 1, .ref h0]) (fun K => ?_) ?_
    · refine lv_if_ne (tgt := 38) hx hb dX6_cut_31 (by decide) (fun q1 => ?_) (fun q1 => ?_)
      · refine lv_iconst (v := 0) hx hb dX6_cut_38 (by decide) ?_
        have K := K
        rw [if_neg q1] at K
        exact K
      · refine lv_iconst (v := 1) hx hb dX6_cut_34 (by decide) ?_
        refine lv_goto (tgt := 39) hx hb dX6_cut_35 (by decide) ?_
        have K := K
        rw [if_pos q1] at K
        exact K
    refine lv_iconst (v := 0) hx hb dX6_cut_39 (by decide) ?_
    refine lv_iconst (v := 0) hx hb dX6_cut_40 (by decide) ?_
    replace h := dk_b h
    obtain ⟨o2, e2, h⟩ := h
    refine dk_cwi (wr := []) (va_runV (As := [.int 1, .int (if v_power = 0 then 1 else 0), .int 0, .int 0]) (rest := []) ⟨hx, hb, hml, hown, hts⟩ (mX6_throwing l D k h0 a_disk a_made a_sectorOf a_placeOf a_manyOf a_there a_waitKind a_waitMany a_waitBytes s.heap.size v_thrown v_sectors v_power v_used v_reserve v_cutWrites v_cutBytes v_rows v_waits v_stateNumber v_stateNow v_second v_repaired v_up v_sent v_disk v_made v_sectorOf v_placeOf v_manyOf v_there v_waitKind v_waitMany v_waitBytes 1 (if v_power = 0 then 1 else 0) 0 0 o2 e2) (cwV 4 hts (dk_gV w_821 w_823 w_20 w_46 w_824) rfl rfl rfl (by decide +kernel) ⟨Nat.le_of_ble_eq_true rfl, Nat.le_of_ble_eq_true rfl⟩) (dk_pvw hK hN hP hD [0, 1, 2, 3, 4, 5, 6, 7, 8, 9] rfl rfl rfl rfl (hP.sub [0, 1, 2, 3, 4, 5, 6, 7, 8, 9] rfl)) rfl rfl hl.1 rfl (lv_room (Nat.le_of_ble_eq_true rfl)) dX6_cut_41 ⟨Nat.le_of_ble_eq_true rfl, Nat.le_of_ble_eq_true rfl⟩) hP hD hS hA [0, 1, 2, 3, 4, 5, 6, 7, 8, 9] [] rfl rfl rfl (by decide) (fun H locs hP hD hS => ?_)
    have hP : va_P D vwCl [(h0, .inr (6, [.int o2.2, .int v_sectors, .int v_power, .ref a_disk, .ref a_made, .int v_used, .int v_reserve, .int v_cutWrites, .int v_cutBytes, .int v_rows, .ref a_sectorOf, .ref a_placeOf, .ref a_manyOf, .ref a_there, .int v_waits, .ref a_waitKind, .ref a_waitMany, .ref a_waitBytes, .int v_stateNumber, .long v_stateNow, .int v_second, .int v_repaired, .int v_up, .int v_sent])), (a_disk, .inl ((k 2), 32768, .inl v_disk)), (a_made, .inl ((k 2), 512, .inl v_made)), (a_sectorOf, .inl ((k 2), 5100, .inl v_sectorOf)), (a_placeOf, .inl ((k 2), 5100, .inl v_placeOf)), (a_manyOf, .inl ((k 2), 5100, .inl v_manyOf)), (a_there, .inl ((k 1), 5100, .inl v_there)), (a_waitKind, .inl ((k 2), 100, .inl v_waitKind)), (a_waitMany, .inl ((k 2), 100, .inl v_waitMany)), (a_waitBytes, .inl ((k 3), 100, .inr (.inl v_waitBytes)))] H := hP
    have hD : va_D A [(h0, .inr (6, [.int o2.2, .int v_sectors, .int v_power, .ref a_disk, .ref a_made, .int v_used, .int v_reserve, .int v_cutWrites, .int v_cutBytes, .int v_rows, .ref a_sectorOf, .ref a_placeOf, .ref a_manyOf, .ref a_there, .int v_waits, .ref a_waitKind, .ref a_waitMany, .ref a_waitBytes, .int v_stateNumber, .long v_stateNow, .int v_second, .int v_repaired, .int v_up, .int v_sent])), (a_disk, .inl ((k 2), 32768, .inl v_disk)), (a_made, .inl ((k 2), 512, .inl v_made)), (a_sectorOf, .inl ((k 2), 5100, .inl v_sectorOf)), (a_placeOf, .inl ((k 2), 5100, .inl v_placeOf)), (a_manyOf, .inl ((k 2), 5100, .inl v_manyOf)), (a_there, .inl ((k 1), 5100, .inl v_there)), (a_waitKind, .inl ((k 2), 100, .inl v_waitKind)), (a_waitMany, .inl ((k 2), 100, .inl v_waitMany)), (a_waitBytes, .inl ((k 3), 100, .inr (.inl v_waitBytes)))] := hD
    refine lv_if_eq (tgt := 48) hx hb dX6_cut_44 (by decide) (fun q => ?_) (fun q => ?_)
    · replace h := dk_t q h
      refine lv_aload_n hx hb dX6_cut_48 rfl (lv_at hl 0 rfl) ?_
      refine lv_iload_n hx hb dX6_cut_49 rfl (lv_at hl 1 rfl) ?_
      refine va_put (D := D) (ci := 6) (v := .int p1) (ty := .int) (C := "ServiceDiskModel") (T := TX6) (N := 24) hx hb hts inX6 tyX6 tyX6_ok nmX6 hown hK hP hD hS 0 rfl rfl 7 (by decide) (hts _ w_744) (fun _ h9 => h9) rfl (by decide +kernel) rfl rfl (Nat.le_of_ble_eq_true rfl) dX6_cut_50 (fun H locs hP hD hS => ?_)
      have hP : va_P D vwCl [(h0, .inr (6, [.int o2.2, .int v_sectors, .int v_power, .ref a_disk, .ref a_made, .int v_used, .int v_reserve, .int p1, .int v_cutBytes, .int v_rows, .ref a_sectorOf, .ref a_placeOf, .ref a_manyOf, .ref a_there, .int v_waits, .ref a_waitKind, .ref a_waitMany, .ref a_waitBytes, .int v_stateNumber, .long v_stateNow, .int v_second, .int v_repaired, .int v_up, .int v_sent])), (a_disk, .inl ((k 2), 32768, .inl v_disk)), (a_made, .inl ((k 2), 512, .inl v_made)), (a_sectorOf, .inl ((k 2), 5100, .inl v_sectorOf)), (a_placeOf, .inl ((k 2), 5100, .inl v_placeOf)), (a_manyOf, .inl ((k 2), 5100, .inl v_manyOf)), (a_there, .inl ((k 1), 5100, .inl v_there)), (a_waitKind, .inl ((k 2), 100, .inl v_waitKind)), (a_waitMany, .inl ((k 2), 100, .inl v_waitMany)), (a_waitBytes, .inl ((k 3), 100, .inr (.inl v_waitBytes)))] H := hP
      have hD : va_D A [(h0, .inr (6, [.int o2.2, .int v_sectors, .int v_power, .ref a_disk, .ref a_made, .int v_used, .int v_reserve, .int p1, .int v_cutBytes, .int v_rows, .ref a_sectorOf, .ref a_placeOf, .ref a_manyOf, .ref a_there, .int v_waits, .ref a_waitKind, .ref a_waitMany, .ref a_waitBytes, .int v_stateNumber, .long v_stateNow, .int v_second, .int v_repaired, .int v_up, .int v_sent])), (a_disk, .inl ((k 2), 32768, .inl v_disk)), (a_made, .inl ((k 2), 512, .inl v_made)), (a_sectorOf, .inl ((k 2), 5100, .inl v_sectorOf)), (a_placeOf, .inl ((k 2), 5100, .inl v_placeOf)), (a_manyOf, .inl ((k 2), 5100, .inl v_manyOf)), (a_there, .inl ((k 1), 5100, .inl v_there)), (a_waitKind, .inl ((k 2), 100, .inl v_waitKind)), (a_waitMany, .inl ((k 2), 100, .inl v_waitMany)), (a_waitBytes, .inl ((k 3), 100, .inr (.inl v_waitBytes)))] := hD
      refine lv_aload_n hx hb dX6_cut_53 rfl (lv_at hl 0 rfl) ?_
      refine lv_iload_n hx hb dX6_cut_54 rfl (lv_at hl 2 rfl) ?_
      refine va_put (D := D) (ci := 6) (v := .int p2) (ty := .int) (C := "ServiceDiskModel") (T := TX6) (N := 24) hx hb hts inX6 tyX6 tyX6_ok nmX6 hown hK hP hD hS 0 rfl rfl 8 (by decide) (hts _ w_745) (fun _ h9 => h9) rfl (by decide +kernel) rfl rfl (Nat.le_of_ble_eq_true rfl) dX6_cut_55 (fun H locs hP hD hS => ?_)
      have hP : va_P D vwCl [(h0, .inr (6, [.int o2.2, .int v_sectors, .int v_power, .ref a_disk, .ref a_made, .int v_used, .int v_reserve, .int p1, .int p2, .int v_rows, .ref a_sectorOf, .ref a_placeOf, .ref a_manyOf, .ref a_there, .int v_waits, .ref a_waitKind, .ref a_waitMany, .ref a_waitBytes, .int v_stateNumber, .long v_stateNow, .int v_second, .int v_repaired, .int v_up, .int v_sent])), (a_disk, .inl ((k 2), 32768, .inl v_disk)), (a_made, .inl ((k 2), 512, .inl v_made)), (a_sectorOf, .inl ((k 2), 5100, .inl v_sectorOf)), (a_placeOf, .inl ((k 2), 5100, .inl v_placeOf)), (a_manyOf, .inl ((k 2), 5100, .inl v_manyOf)), (a_there, .inl ((k 1), 5100, .inl v_there)), (a_waitKind, .inl ((k 2), 100, .inl v_waitKind)), (a_waitMany, .inl ((k 2), 100, .inl v_waitMany)), (a_waitBytes, .inl ((k 3), 100, .inr (.inl v_waitBytes)))] H := hP
      have hD : va_D A [(h0, .inr (6, [.int o2.2, .int v_sectors, .int v_power, .ref a_disk, .ref a_made, .int v_used, .int v_reserve, .int p1, .int p2, .int v_rows, .ref a_sectorOf, .ref a_placeOf, .ref a_manyOf, .ref a_there, .int v_waits, .ref a_waitKind, .ref a_waitMany, .ref a_waitBytes, .int v_stateNumber, .long v_stateNow, .int v_second, .int v_repaired, .int v_up, .int v_sent])), (a_disk, .inl ((k 2), 32768, .inl v_disk)), (a_made, .inl ((k 2), 512, .inl v_made)), (a_sectorOf, .inl ((k 2), 5100, .inl v_sectorOf)), (a_placeOf, .inl ((k 2), 5100, .inl v_placeOf)), (a_manyOf, .inl ((k 2), 5100, .inl v_manyOf)), (a_there, .inl ((k 1), 5100, .inl v_there)), (a_waitKind, .inl ((k 2), 100, .inl v_waitKind)), (a_waitMany, .inl ((k 2), 100, .inl v_waitMany)), (a_waitBytes, .inl ((k 3), 100, .inr (.inl v_waitBytes)))] := hD
      have h := dk_r h
      subst h
      exact dk_rwv hx hb hr hlocks (hP.sub [0, 1, 2, 3, 4, 5, 6, 7, 8, 9] rfl) (hD.sub [0, 1, 2, 3, 4, 5, 6, 7, 8, 9] (by decide) rfl) hS dX6_cut_58
    · replace h := dk_f q h
      have h := dk_r h
      subst h
      exact dk_rwv hx hb hr hlocks (hP.sub [0, 1, 2, 3, 4, 5, 6, 7, 8, 9] rfl) (hD.sub [0, 1, 2, 3, 4, 5, 6, 7, 8, 9] (by decide) rfl) hS dX6_cut_47
  · replace h := dk_f q h
    refine lv_iload_n hx hb dX6_cut_11 rfl (lv_at hl 2 rfl) ?_
    refine lv_iconst (v := 0) hx hb dX6_cut_12 (by decide) ?_
    refine lv_sipush (v := 511) hx hb dX6_cut_13 (by decide) ?_
    replace h := dk_b h
    obtain ⟨o3, e3, h⟩ := h
    refine dk_cri (va_runS (As := [.int p2, .int 0, .int 511]) (rest := [.ref h0]) ⟨hx, hb, hml, hown, hts⟩ (mX6_in l D k p2 0 511 o3 e3) (va_cwS 3 hts (dk_gS w_818 w_819 w_46 w_820) rfl rfl rfl (by decide +kernel) ⟨Nat.le_of_ble_eq_true rfl, Nat.le_of_ble_eq_true rfl⟩) (dk_psr hK hN hP [] rfl) rfl rfl hl.1 rfl (lv_room (Nat.le_of_ble_eq_true rfl)) dX6_cut_16 ⟨Nat.le_of_ble_eq_true rfl, Nat.le_of_ble_eq_true rfl⟩) ?_
    refine dk_jn (F0 m 27 ls [.int (if o3 = 0 then 1 else 0), .ref h0]) (fun K => ?_) ?_
    · refine lv_if_ne (tgt := 26) hx hb dX6_cut_19 (by decide) (fun q1 => ?_) (fun q1 => ?_)
      · refine lv_iconst (v := 0) hx hb dX6_cut_26 (by decide) ?_
        have K := K
        rw [if_neg q1] at K
        exact K
      · refine lv_iconst (v := 1) hx hb dX6_cut_22 (by decide) ?_
        refine lv_goto (tgt := 27) hx hb dX6_cut_23 (by decide) ?_
        have K := K
        rw [if_pos q1] at K
        exact K
    refine lv_aload_n hx hb dX6_cut_27 rfl (lv_at hl 0 rfl) ?_
    refine va_get (D := D) (ci := 6) (v := .int v_power) (C := "ServiceDiskModel") (T := TX6) (N := 24) hx hb hts inX6 hown hK hP 0 rfl rfl 2 (by decide) (hts _ w_739) (fun _ h9 => h9) rfl dX6_cut_28 ?_
    refine dk_jn (F0 m 39 ls [.int (if v_power = 0 then 1 else 0), .int (if o3 = 0 then 1 else 0), .ref h0]) (fun K => ?_) ?_
    · refine lv_if_ne (tgt := 38) hx hb dX6_cut_31 (by decide) (fun q1 => ?_) (fun q1 => ?_)
      · refine lv_iconst (v := 0) hx hb dX6_cut_38 (by decide) ?_
        have K := K
        rw [if_neg q1] at K
        exact K
      · refine lv_iconst (v := 1) hx hb dX6_cut_34 (by decide) ?_
        refine lv_goto (tgt := 39) hx hb dX6_cut_35 (by decide) ?_
        have K := K
        rw [if_pos q1] at K
        exact K
    refine lv_iconst (v := 0) hx hb dX6_cut_39 (by decide) ?_
    refine lv_iconst (v := 0) hx hb dX6_cut_40 (by decide) ?_
    replace h := dk_b h
    obtain ⟨o4, e4, h⟩ := h
    refine dk_cwi (wr := []) (va_runV (As := [.int (if o3 = 0 then 1 else 0), .int (if v_power = 0 then 1 else 0), .int 0, .int 0]) (rest := []) ⟨hx, hb, hml, hown, hts⟩ (mX6_throwing l D k h0 a_disk a_made a_sectorOf a_placeOf a_manyOf a_there a_waitKind a_waitMany a_waitBytes s.heap.size v_thrown v_sectors v_power v_used v_reserve v_cutWrites v_cutBytes v_rows v_waits v_stateNumber v_stateNow v_second v_repaired v_up v_sent v_disk v_made v_sectorOf v_placeOf v_manyOf v_there v_waitKind v_waitMany v_waitBytes (if o3 = 0 then 1 else 0) (if v_power = 0 then 1 else 0) 0 0 o4 e4) (cwV 4 hts (dk_gV w_821 w_823 w_20 w_46 w_824) rfl rfl rfl (by decide +kernel) ⟨Nat.le_of_ble_eq_true rfl, Nat.le_of_ble_eq_true rfl⟩) (dk_pvw hK hN hP hD [0, 1, 2, 3, 4, 5, 6, 7, 8, 9] rfl rfl rfl rfl (hP.sub [0, 1, 2, 3, 4, 5, 6, 7, 8, 9] rfl)) rfl rfl hl.1 rfl (lv_room (Nat.le_of_ble_eq_true rfl)) dX6_cut_41 ⟨Nat.le_of_ble_eq_true rfl, Nat.le_of_ble_eq_true rfl⟩) hP hD hS hA [0, 1, 2, 3, 4, 5, 6, 7, 8, 9] [] rfl rfl rfl (by decide) (fun H locs hP hD hS => ?_)
    have hP : va_P D vwCl [(h0, .inr (6, [.int o4.2, .int v_sectors, .int v_power, .ref a_disk, .ref a_made, .int v_used, .int v_reserve, .int v_cutWrites, .int v_cutBytes, .int v_rows, .ref a_sectorOf, .ref a_placeOf, .ref a_manyOf, .ref a_there, .int v_waits, .ref a_waitKind, .ref a_waitMany, .ref a_waitBytes, .int v_stateNumber, .long v_stateNow, .int v_second, .int v_repaired, .int v_up, .int v_sent])), (a_disk, .inl ((k 2), 32768, .inl v_disk)), (a_made, .inl ((k 2), 512, .inl v_made)), (a_sectorOf, .inl ((k 2), 5100, .inl v_sectorOf)), (a_placeOf, .inl ((k 2), 5100, .inl v_placeOf)), (a_manyOf, .inl ((k 2), 5100, .inl v_manyOf)), (a_there, .inl ((k 1), 5100, .inl v_there)), (a_waitKind, .inl ((k 2), 100, .inl v_waitKind)), (a_waitMany, .inl ((k 2), 100, .inl v_waitMany)), (a_waitBytes, .inl ((k 3), 100, .inr (.inl v_waitBytes)))] H := hP
    have hD : va_D A [(h0, .inr (6, [.int o4.2, .int v_sectors, .int v_power, .ref a_disk, .ref a_made, .int v_used, .int v_reserve, .int v_cutWrites, .int v_cutBytes, .int v_rows, .ref a_sectorOf, .ref a_placeOf, .ref a_manyOf, .ref a_there, .int v_waits, .ref a_waitKind, .ref a_waitMany, .ref a_waitBytes, .int v_stateNumber, .long v_stateNow, .int v_second, .int v_repaired, .int v_up, .int v_sent])), (a_disk, .inl ((k 2), 32768, .inl v_disk)), (a_made, .inl ((k 2), 512, .inl v_made)), (a_sectorOf, .inl ((k 2), 5100, .inl v_sectorOf)), (a_placeOf, .inl ((k 2), 5100, .inl v_placeOf)), (a_manyOf, .inl ((k 2), 5100, .inl v_manyOf)), (a_there, .inl ((k 1), 5100, .inl v_there)), (a_waitKind, .inl ((k 2), 100, .inl v_waitKind)), (a_waitMany, .inl ((k 2), 100, .inl v_waitMany)), (a_waitBytes, .inl ((k 3), 100, .inr (.inl v_waitBytes)))] := hD
    refine lv_if_eq (tgt := 48) hx hb dX6_cut_44 (by decide) (fun q => ?_) (fun q => ?_)
    · replace h := dk_t q h
      refine lv_aload_n hx hb dX6_cut_48 rfl (lv_at hl 0 rfl) ?_
      refine lv_iload_n hx hb dX6_cut_49 rfl (lv_at hl 1 rfl) ?_
      refine va_put (D := D) (ci := 6) (v := .int p1) (ty := .int) (C := "ServiceDiskModel") (T := TX6) (N := 24) hx hb hts inX6 tyX6 tyX6_ok nmX6 hown hK hP hD hS 0 rfl rfl 7 (by decide) (hts _ w_744) (fun _ h9 => h9) rfl (by decide +kernel) rfl rfl (Nat.le_of_ble_eq_true rfl) dX6_cut_50 (fun H locs hP hD hS => ?_)
      have hP : va_P D vwCl [(h0, .inr (6, [.int o4.2, .int v_sectors, .int v_power, .ref a_disk, .ref a_made, .int v_used, .int v_reserve, .int p1, .int v_cutBytes, .int v_rows, .ref a_sectorOf, .ref a_placeOf, .ref a_manyOf, .ref a_there, .int v_waits, .ref a_waitKind, .ref a_waitMany, .ref a_waitBytes, .int v_stateNumber, .long v_stateNow, .int v_second, .int v_repaired, .int v_up, .int v_sent])), (a_disk, .inl ((k 2), 32768, .inl v_disk)), (a_made, .inl ((k 2), 512, .inl v_made)), (a_sectorOf, .inl ((k 2), 5100, .inl v_sectorOf)), (a_placeOf, .inl ((k 2), 5100, .inl v_placeOf)), (a_manyOf, .inl ((k 2), 5100, .inl v_manyOf)), (a_there, .inl ((k 1), 5100, .inl v_there)), (a_waitKind, .inl ((k 2), 100, .inl v_waitKind)), (a_waitMany, .inl ((k 2), 100, .inl v_waitMany)), (a_waitBytes, .inl ((k 3), 100, .inr (.inl v_waitBytes)))] H := hP
      have hD : va_D A [(h0, .inr (6, [.int o4.2, .int v_sectors, .int v_power, .ref a_disk, .ref a_made, .int v_used, .int v_reserve, .int p1, .int v_cutBytes, .int v_rows, .ref a_sectorOf, .ref a_placeOf, .ref a_manyOf, .ref a_there, .int v_waits, .ref a_waitKind, .ref a_waitMany, .ref a_waitBytes, .int v_stateNumber, .long v_stateNow, .int v_second, .int v_repaired, .int v_up, .int v_sent])), (a_disk, .inl ((k 2), 32768, .inl v_disk)), (a_made, .inl ((k 2), 512, .inl v_made)), (a_sectorOf, .inl ((k 2), 5100, .inl v_sectorOf)), (a_placeOf, .inl ((k 2), 5100, .inl v_placeOf)), (a_manyOf, .inl ((k 2), 5100, .inl v_manyOf)), (a_there, .inl ((k 1), 5100, .inl v_there)), (a_waitKind, .inl ((k 2), 100, .inl v_waitKind)), (a_waitMany, .inl ((k 2), 100, .inl v_waitMany)), (a_waitBytes, .inl ((k 3), 100, .inr (.inl v_waitBytes)))] := hD
      refine lv_aload_n hx hb dX6_cut_53 rfl (lv_at hl 0 rfl) ?_
      refine lv_iload_n hx hb dX6_cut_54 rfl (lv_at hl 2 rfl) ?_
      refine va_put (D := D) (ci := 6) (v := .int p2) (ty := .int) (C := "ServiceDiskModel") (T := TX6) (N := 24) hx hb hts inX6 tyX6 tyX6_ok nmX6 hown hK hP hD hS 0 rfl rfl 8 (by decide) (hts _ w_745) (fun _ h9 => h9) rfl (by decide +kernel) rfl rfl (Nat.le_of_ble_eq_true rfl) dX6_cut_55 (fun H locs hP hD hS => ?_)
      have hP : va_P D vwCl [(h0, .inr (6, [.int o4.2, .int v_sectors, .int v_power, .ref a_disk, .ref a_made, .int v_used, .int v_reserve, .int p1, .int p2, .int v_rows, .ref a_sectorOf, .ref a_placeOf, .ref a_manyOf, .ref a_there, .int v_waits, .ref a_waitKind, .ref a_waitMany, .ref a_waitBytes, .int v_stateNumber, .long v_stateNow, .int v_second, .int v_repaired, .int v_up, .int v_sent])), (a_disk, .inl ((k 2), 32768, .inl v_disk)), (a_made, .inl ((k 2), 512, .inl v_made)), (a_sectorOf, .inl ((k 2), 5100, .inl v_sectorOf)), (a_placeOf, .inl ((k 2), 5100, .inl v_placeOf)), (a_manyOf, .inl ((k 2), 5100, .inl v_manyOf)), (a_there, .inl ((k 1), 5100, .inl v_there)), (a_waitKind, .inl ((k 2), 100, .inl v_waitKind)), (a_waitMany, .inl ((k 2), 100, .inl v_waitMany)), (a_waitBytes, .inl ((k 3), 100, .inr (.inl v_waitBytes)))] H := hP
      have hD : va_D A [(h0, .inr (6, [.int o4.2, .int v_sectors, .int v_power, .ref a_disk, .ref a_made, .int v_used, .int v_reserve, .int p1, .int p2, .int v_rows, .ref a_sectorOf, .ref a_placeOf, .ref a_manyOf, .ref a_there, .int v_waits, .ref a_waitKind, .ref a_waitMany, .ref a_waitBytes, .int v_stateNumber, .long v_stateNow, .int v_second, .int v_repaired, .int v_up, .int v_sent])), (a_disk, .inl ((k 2), 32768, .inl v_disk)), (a_made, .inl ((k 2), 512, .inl v_made)), (a_sectorOf, .inl ((k 2), 5100, .inl v_sectorOf)), (a_placeOf, .inl ((k 2), 5100, .inl v_placeOf)), (a_manyOf, .inl ((k 2), 5100, .inl v_manyOf)), (a_there, .inl ((k 1), 5100, .inl v_there)), (a_waitKind, .inl ((k 2), 100, .inl v_waitKind)), (a_waitMany, .inl ((k 2), 100, .inl v_waitMany)), (a_waitBytes, .inl ((k 3), 100, .inr (.inl v_waitBytes)))] := hD
      have h := dk_r h
      subst h
      exact dk_rwv hx hb hr hlocks (hP.sub [0, 1, 2, 3, 4, 5, 6, 7, 8, 9] rfl) (hD.sub [0, 1, 2, 3, 4, 5, 6, 7, 8, 9] (by decide) rfl) hS dX6_cut_58
    · replace h := dk_f q h
      have h := dk_r h
      subst h
      exact dk_rwv hx hb hr hlocks (hP.sub [0, 1, 2, 3, 4, 5, 6, 7, 8, 9] rfl) (hD.sub [0, 1, 2, 3, 4, 5, 6, 7, 8, 9] (by decide) rfl) hS dX6_cut_47
/-! ServiceDiskModel.start()I: rw, frames 6, locals 138 -/
def fX6_start_L247  : Nat → (Int32) → (Nat → Int32) → Option (Int32 × (Nat → Int32))
  | 0, _, _ => none
  | n + 1, x1, v_there =>
    if (5100 : Int32) ≤ x1 then
      some (x1, v_there)
    else
      if dk_in x1 5100 then
      fX6_start_L247 n (x1 + 1) (upd v_there x1.toNatClampNeg (vp_nar .boolean 0))
      else none
def fX6_start_L94 (v_used : Int32) (v_disk : Nat → Int32) (x1 : Int32) (x2 : Int32) : Nat → (Int32) → (Int32) → (Int32) → (Nat → Int32) → (Nat → Int32) → (Nat → Int32) → Option (Int32 × Int32 × Int32 × (Nat → Int32) × (Nat → Int32) × (Nat → Int32))
  | 0, _, _, _, _, _, _ => none
  | n + 1, x3, x4, v_rows, v_sectorOf, v_placeOf, v_manyOf =>
    if x2 ≤ x4 then
      some (x3, x4, v_rows, v_sectorOf, v_placeOf, v_manyOf)
    else
      if dk_in v_rows 5100 then
      if dk_in v_rows 5100 then
      if dk_in ((x1 + x3) + 1) 32768 then
      if dk_in v_rows 5100 then
      if dk_in ((x1 + x3) + 1) 32768 then
      fX6_start_L94 v_used v_disk x1 x2 n (x3 + (2 + (v_disk ((x1 + x3) + 1).toNatClampNeg))) (x4 + 1) (v_rows + 1) (upd v_sectorOf v_rows.toNatClampNeg v_used) (upd v_placeOf v_rows.toNatClampNeg x3) (upd v_manyOf v_rows.toNatClampNeg (v_disk ((x1 + x3) + 1).toNatClampNeg))
      else none
      else none
      else none
      else none
      else none
def fX6_start_L49 (v_sectors : Int32)  : Nat → (Int32) → (Int32) → (Int32) → (Nat → Int32) → (Nat → Int32) → (Nat → Int32) → (Nat → Int32) → Option (Int32 × Int32 × Int32 × (Nat → Int32) × (Nat → Int32) × (Nat → Int32) × (Nat → Int32))
  | 0, _, _, _, _, _, _, _ => none
  | n + 1, v_used, v_rows, v_repaired, v_disk, v_sectorOf, v_placeOf, v_manyOf =>
    if (v_sectors - 2) ≤ v_used then
      some (v_used, v_rows, v_repaired, v_disk, v_sectorOf, v_placeOf, v_manyOf)
    else
      (fX6_repair v_sectors v_repaired v_disk v_used).bind fun o6 =>
      if o6.1 = 0 then
        some (v_used, v_rows, o6.2.1, o6.2.2, v_sectorOf, v_placeOf, v_manyOf)
      else
        (fX6_at 0 v_used).bind fun o7 =>
        (fX6_rowsOn o6.2.2 o7).bind fun o8 =>
        (fX6_start_L94 v_used o6.2.2 o7 o8 dkF 6 0 v_rows v_sectorOf v_placeOf v_manyOf).bind fun o9 =>
        fX6_start_L49 v_sectors n (v_used + 1) o9.2.2.1 o6.2.1 o6.2.2 o9.2.2.2.1 o9.2.2.2.2.1 o9.2.2.2.2.2
def fX6_start (v_sectors : Int32) (v_power : Int32) (v_used : Int32) (v_cutWrites : Int32) (v_rows : Int32) (v_waits : Int32) (v_stateNumber : Int32) (v_stateNow : Int64) (v_repaired : Int32) (v_sent : Int32) (v_disk : Nat → Int32) (v_sectorOf : Nat → Int32) (v_placeOf : Nat → Int32) (v_manyOf : Nat → Int32) (v_there : Nat → Int32) : Option (Int32 × Int32 × Int32 × Int32 × Int32 × Int32 × Int32 × Int32 × Int64 × Int32 × Int32 × (Nat → Int32) × (Nat → Int32) × (Nat → Int32) × (Nat → Int32) × (Nat → Int32)) :=
  (fX6_throwing (if v_sectors = 0 then 1 else 0) 0 0 0).bind fun o1 =>
  if o1.1 = 0 then
    (fX6_start_L49 v_sectors dkF 0 0 v_repaired v_disk v_sectorOf v_placeOf v_manyOf).bind fun o2 =>
    (fX6_takeState v_sectors 0 0 o2.2.2.1 o2.2.2.2.1 (v_sectors - 2)).bind fun o3 =>
    (fX6_takeState v_sectors o3.1 o3.2.1 o3.2.2.1 o3.2.2.2 (v_sectors - 1)).bind fun o4 =>
    (fX6_start_L247 dkF o2.2.1 v_there).bind fun o5 =>
    some (o2.2.1, o1.2, 1, o2.1, (-1), o2.2.1, 0, o4.1, o4.2.1, o4.2.2.1, (if o2.2.1 ≤ v_sent then o2.2.1 else v_sent), o4.2.2.2, o2.2.2.2.2.1, o2.2.2.2.2.2.1, o2.2.2.2.2.2.2, o5.2)
  else
    some (0, o1.2, v_power, v_used, v_cutWrites, v_rows, v_waits, v_stateNumber, v_stateNow, v_repaired, v_sent, v_disk, v_sectorOf, v_placeOf, v_manyOf, v_there)
set_option maxHeartbeats 4000000 in
set_option maxRecDepth 100000 in
theorem lX6_start_247 {p : Program} {l : Launch} {e : Env} {s : State} {m : MethodId} {below : List Frame} {meth : Method} {c : Code} {args : Array Value} {D : va_G} {k : Nat → ClassId} {h0 : Nat} {a_disk : Nat} {a_made : Nat} {a_sectorOf : Nat} {a_placeOf : Nat} {a_manyOf : Nat} {a_there : Nat} {a_waitKind : Nat} {a_waitMany : Nat} {a_waitBytes : Nat} {v_thrown : Int32} {v_sectors : Int32} {v_power : Int32} {v_used : Int32} {v_reserve : Int32} {v_cutWrites : Int32} {v_cutBytes : Int32} {v_rows : Int32} {v_waits : Int32} {v_stateNumber : Int32} {v_stateNow : Int64} {v_second : Int32} {v_repaired : Int32} {v_up : Int32} {v_sent : Int32} {v_disk : Nat → Int32} {v_made : Nat → Int32} {v_sectorOf : Nat → Int32} {v_placeOf : Nat → Int32} {v_manyOf : Nat → Int32} {v_waitKind : Nat → Int32} {v_waitMany : Nat → Int32} {v_waitBytes : Nat → Int64} {Q : State → Prop} {o : Int32 × (Nat → Int32)} {A : Nat → Prop} (C : dk_Cx p s m meth c cX6_start (some .int) 5 "ServiceDiskModel" dkB args) (hK : va_K D vwCl (dkT k) s) (hN : dk_N s) (hA : ∀ q : Nat, s.heap.size ≤ q → A q) :
    ∀ (n : Nat) (x1 : Int32) (v_there : Nat → Int32), fX6_start_L247 n x1 v_there = some o → (∀ (H : Heap) (locs : List Loc), va_P D vwCl [(h0, .inr (6, [.int v_thrown, .int v_sectors, .int v_power, .ref a_disk, .ref a_made, .int v_used, .int v_reserve, .int v_cutWrites, .int v_cutBytes, .int v_rows, .ref a_sectorOf, .ref a_placeOf, .ref a_manyOf, .ref a_there, .int v_waits, .ref a_waitKind, .ref a_waitMany, .ref a_waitBytes, .int v_stateNumber, .long v_stateNow, .int v_second, .int v_repaired, .int v_up, .int v_sent])), (a_disk, .inl ((k 2), 32768, .inl v_disk)), (a_made, .inl ((k 2), 512, .inl v_made)), (a_sectorOf, .inl ((k 2), 5100, .inl v_sectorOf)), (a_placeOf, .inl ((k 2), 5100, .inl v_placeOf)), (a_manyOf, .inl ((k 2), 5100, .inl v_manyOf)), (a_there, .inl ((k 1), 5100, .inl o.2)), (a_waitKind, .inl ((k 2), 100, .inl v_waitKind)), (a_waitMany, .inl ((k 2), 100, .inl v_waitMany)), (a_waitBytes, .inl ((k 3), 100, .inr (.inl v_waitBytes)))] H → va_D A [(h0, .inr (6, [.int v_thrown, .int v_sectors, .int v_power, .ref a_disk, .ref a_made, .int v_used, .int v_reserve, .int v_cutWrites, .int v_cutBytes, .int v_rows, .ref a_sectorOf, .ref a_placeOf, .ref a_manyOf, .ref a_there, .int v_waits, .ref a_waitKind, .ref a_waitMany, .ref a_waitBytes, .int v_stateNumber, .long v_stateNow, .int v_second, .int v_repaired, .int v_up, .int v_sent])), (a_disk, .inl ((k 2), 32768, .inl v_disk)), (a_made, .inl ((k 2), 512, .inl v_made)), (a_sectorOf, .inl ((k 2), 5100, .inl v_sectorOf)), (a_placeOf, .inl ((k 2), 5100, .inl v_placeOf)), (a_manyOf, .inl ((k 2), 5100, .inl v_manyOf)), (a_there, .inl ((k 1), 5100, .inl o.2)), (a_waitKind, .inl ((k 2), 100, .inl v_waitKind)), (a_waitMany, .inl ((k 2), 100, .inl v_waitMany)), (a_waitBytes, .inl ((k 3), 100, .inr (.inl v_waitBytes)))] → va_S A s.heap H locs → ∀ ls : Array Slot, lv_has ls 5 [(0, .ref h0), (1, .int o.1)] → W p l e { frames := 6, cells := 0, slots := 0, locals := 138 } s m args below meth c H locs 0 0 Q (F0 m 267 ls [])) → ∀ (H : Heap) (locs : List Loc), va_P D vwCl [(h0, .inr (6, [.int v_thrown, .int v_sectors, .int v_power, .ref a_disk, .ref a_made, .int v_used, .int v_reserve, .int v_cutWrites, .int v_cutBytes, .int v_rows, .ref a_sectorOf, .ref a_placeOf, .ref a_manyOf, .ref a_there, .int v_waits, .ref a_waitKind, .ref a_waitMany, .ref a_waitBytes, .int v_stateNumber, .long v_stateNow, .int v_second, .int v_repaired, .int v_up, .int v_sent])), (a_disk, .inl ((k 2), 32768, .inl v_disk)), (a_made, .inl ((k 2), 512, .inl v_made)), (a_sectorOf, .inl ((k 2), 5100, .inl v_sectorOf)), (a_placeOf, .inl ((k 2), 5100, .inl v_placeOf)), (a_manyOf, .inl ((k 2), 5100, .inl v_manyOf)), (a_there, .inl ((k 1), 5100, .inl v_there)), (a_waitKind, .inl ((k 2), 100, .inl v_waitKind)), (a_waitMany, .inl ((k 2), 100, .inl v_waitMany)), (a_waitBytes, .inl ((k 3), 100, .inr (.inl v_waitBytes)))] H → va_D A [(h0, .inr (6, [.int v_thrown, .int v_sectors, .int v_power, .ref a_disk, .ref a_made, .int v_used, .int v_reserve, .int v_cutWrites, .int v_cutBytes, .int v_rows, .ref a_sectorOf, .ref a_placeOf, .ref a_manyOf, .ref a_there, .int v_waits, .ref a_waitKind, .ref a_waitMany, .ref a_waitBytes, .int v_stateNumber, .long v_stateNow, .int v_second, .int v_repaired, .int v_up, .int v_sent])), (a_disk, .inl ((k 2), 32768, .inl v_disk)), (a_made, .inl ((k 2), 512, .inl v_made)), (a_sectorOf, .inl ((k 2), 5100, .inl v_sectorOf)), (a_placeOf, .inl ((k 2), 5100, .inl v_placeOf)), (a_manyOf, .inl ((k 2), 5100, .inl v_manyOf)), (a_there, .inl ((k 1), 5100, .inl v_there)), (a_waitKind, .inl ((k 2), 100, .inl v_waitKind)), (a_waitMany, .inl ((k 2), 100, .inl v_waitMany)), (a_waitBytes, .inl ((k 3), 100, .inr (.inl v_waitBytes)))] → va_S A s.heap H locs → ∀ ls : Array Slot, lv_has ls 5 [(0, .ref h0), (1, .int x1)] → W p l e { frames := 6, cells := 0, slots := 0, locals := 138 } s m args below meth c H locs 0 0 Q (F0 m 247 ls []) := by
  obtain ⟨hx, hb, hr, hml, hown, hts, hlocks⟩ := id C
  intro n
  induction n with
  | zero =>
    intro x1 v_there h
    exact dk_n (o := o) h
  | succ n ih =>
    intro x1 v_there h K H locs hP hD hS ls hl
    rw [fX6_start_L247.eq_2] at h
    refine lv_iload_n hx hb dX6_start_247 rfl (lv_at hl 1 rfl) ?_
    refine lv_sipush (v := 5100) hx hb dX6_start_248 (by decide) ?_
    refine lv_icmp_ge (tgt := 267) hx hb dX6_start_251 (by decide) (fun q => ?_) (fun q => ?_)
    · replace h := dk_t q h
      have h := dk_r h
      subst h
      exact K _ _ (hP.sub [0, 1, 2, 3, 4, 5, 6, 7, 8, 9] rfl) (hD.sub [0, 1, 2, 3, 4, 5, 6, 7, 8, 9] (by decide) rfl) hS ls (lv_sub hl [0, 1] rfl)
    · replace h := dk_f q h
      refine lv_aload_n hx hb dX6_start_254 rfl (lv_at hl 0 rfl) ?_
      refine va_get (D := D) (ci := 6) (v := .ref a_there) (C := "ServiceDiskModel") (T := TX6) (N := 24) hx hb hts inX6 hown hK hP 0 rfl rfl 13 (by decide) (hts _ w_750) (fun _ h9 => h9) rfl dX6_start_255 ?_
      refine lv_iload_n hx hb dX6_start_258 rfl (lv_at hl 1 rfl) ?_
      refine lv_iconst (v := 0) hx hb dX6_start_259 (by decide) ?_
      obtain ⟨q, h⟩ := dk_g h
      refine va_zast hx hb hK hP hD hS 6 1 rfl rfl q dX6_start_260 (fun H locs hP hD hS => ?_)
      have hP : va_P D vwCl [(h0, .inr (6, [.int v_thrown, .int v_sectors, .int v_power, .ref a_disk, .ref a_made, .int v_used, .int v_reserve, .int v_cutWrites, .int v_cutBytes, .int v_rows, .ref a_sectorOf, .ref a_placeOf, .ref a_manyOf, .ref a_there, .int v_waits, .ref a_waitKind, .ref a_waitMany, .ref a_waitBytes, .int v_stateNumber, .long v_stateNow, .int v_second, .int v_repaired, .int v_up, .int v_sent])), (a_disk, .inl ((k 2), 32768, .inl v_disk)), (a_made, .inl ((k 2), 512, .inl v_made)), (a_sectorOf, .inl ((k 2), 5100, .inl v_sectorOf)), (a_placeOf, .inl ((k 2), 5100, .inl v_placeOf)), (a_manyOf, .inl ((k 2), 5100, .inl v_manyOf)), (a_there, .inl ((k 1), 5100, .inl (upd v_there x1.toNatClampNeg (vp_nar .boolean 0)))), (a_waitKind, .inl ((k 2), 100, .inl v_waitKind)), (a_waitMany, .inl ((k 2), 100, .inl v_waitMany)), (a_waitBytes, .inl ((k 3), 100, .inr (.inl v_waitBytes)))] H := hP
      have hD : va_D A [(h0, .inr (6, [.int v_thrown, .int v_sectors, .int v_power, .ref a_disk, .ref a_made, .int v_used, .int v_reserve, .int v_cutWrites, .int v_cutBytes, .int v_rows, .ref a_sectorOf, .ref a_placeOf, .ref a_manyOf, .ref a_there, .int v_waits, .ref a_waitKind, .ref a_waitMany, .ref a_waitBytes, .int v_stateNumber, .long v_stateNow, .int v_second, .int v_repaired, .int v_up, .int v_sent])), (a_disk, .inl ((k 2), 32768, .inl v_disk)), (a_made, .inl ((k 2), 512, .inl v_made)), (a_sectorOf, .inl ((k 2), 5100, .inl v_sectorOf)), (a_placeOf, .inl ((k 2), 5100, .inl v_placeOf)), (a_manyOf, .inl ((k 2), 5100, .inl v_manyOf)), (a_there, .inl ((k 1), 5100, .inl (upd v_there x1.toNatClampNeg (vp_nar .boolean 0)))), (a_waitKind, .inl ((k 2), 100, .inl v_waitKind)), (a_waitMany, .inl ((k 2), 100, .inl v_waitMany)), (a_waitBytes, .inl ((k 3), 100, .inr (.inl v_waitBytes)))] := hD
      refine lv_iinc (v := (x1 + 1)) (lv' := [(1, .int (x1 + 1)), (0, .ref h0)]) hx hb dX6_start_261 hl (k := 1) rfl rfl (by decide) rfl (fun ls hl => ?_)
      refine lv_goto (tgt := 247) hx hb dX6_start_264 (by decide) ?_
      exact ih (x1 + 1) (upd v_there x1.toNatClampNeg (vp_nar .boolean 0)) h K _ _ (hP.sub [0, 1, 2, 3, 4, 5, 6, 7, 8, 9] rfl) (hD.sub [0, 1, 2, 3, 4, 5, 6, 7, 8, 9] (by decide) rfl) hS ls (lv_sub hl [1, 0] rfl)
set_option maxHeartbeats 4000000 in
set_option maxRecDepth 100000 in
theorem lX6_start_94 {p : Program} {l : Launch} {e : Env} {s : State} {m : MethodId} {below : List Frame} {meth : Method} {c : Code} {args : Array Value} {D : va_G} {k : Nat → ClassId} {h0 : Nat} {a_disk : Nat} {a_made : Nat} {a_sectorOf : Nat} {a_placeOf : Nat} {a_manyOf : Nat} {a_there : Nat} {a_waitKind : Nat} {a_waitMany : Nat} {a_waitBytes : Nat} {v_thrown : Int32} {v_sectors : Int32} {v_power : Int32} {v_used : Int32} {v_reserve : Int32} {v_cutWrites : Int32} {v_cutBytes : Int32} {v_waits : Int32} {v_stateNumber : Int32} {v_stateNow : Int64} {v_second : Int32} {v_repaired : Int32} {v_up : Int32} {v_sent : Int32} {v_disk : Nat → Int32} {v_made : Nat → Int32} {v_there : Nat → Int32} {v_waitKind : Nat → Int32} {v_waitMany : Nat → Int32} {v_waitBytes : Nat → Int64} {x1 : Int32} {x2 : Int32} {Q : State → Prop} {o : Int32 × Int32 × Int32 × (Nat → Int32) × (Nat → Int32) × (Nat → Int32)} {A : Nat → Prop} (C : dk_Cx p s m meth c cX6_start (some .int) 5 "ServiceDiskModel" dkB args) (hK : va_K D vwCl (dkT k) s) (hN : dk_N s) (hA : ∀ q : Nat, s.heap.size ≤ q → A q) :
    ∀ (n : Nat) (x3 : Int32) (x4 : Int32) (v_rows : Int32) (v_sectorOf : Nat → Int32) (v_placeOf : Nat → Int32) (v_manyOf : Nat → Int32), fX6_start_L94 v_used v_disk x1 x2 n x3 x4 v_rows v_sectorOf v_placeOf v_manyOf = some o → (∀ (H : Heap) (locs : List Loc), va_P D vwCl [(h0, .inr (6, [.int v_thrown, .int v_sectors, .int v_power, .ref a_disk, .ref a_made, .int v_used, .int v_reserve, .int v_cutWrites, .int v_cutBytes, .int o.2.2.1, .ref a_sectorOf, .ref a_placeOf, .ref a_manyOf, .ref a_there, .int v_waits, .ref a_waitKind, .ref a_waitMany, .ref a_waitBytes, .int v_stateNumber, .long v_stateNow, .int v_second, .int v_repaired, .int v_up, .int v_sent])), (a_disk, .inl ((k 2), 32768, .inl v_disk)), (a_made, .inl ((k 2), 512, .inl v_made)), (a_sectorOf, .inl ((k 2), 5100, .inl o.2.2.2.1)), (a_placeOf, .inl ((k 2), 5100, .inl o.2.2.2.2.1)), (a_manyOf, .inl ((k 2), 5100, .inl o.2.2.2.2.2)), (a_there, .inl ((k 1), 5100, .inl v_there)), (a_waitKind, .inl ((k 2), 100, .inl v_waitKind)), (a_waitMany, .inl ((k 2), 100, .inl v_waitMany)), (a_waitBytes, .inl ((k 3), 100, .inr (.inl v_waitBytes)))] H → va_D A [(h0, .inr (6, [.int v_thrown, .int v_sectors, .int v_power, .ref a_disk, .ref a_made, .int v_used, .int v_reserve, .int v_cutWrites, .int v_cutBytes, .int o.2.2.1, .ref a_sectorOf, .ref a_placeOf, .ref a_manyOf, .ref a_there, .int v_waits, .ref a_waitKind, .ref a_waitMany, .ref a_waitBytes, .int v_stateNumber, .long v_stateNow, .int v_second, .int v_repaired, .int v_up, .int v_sent])), (a_disk, .inl ((k 2), 32768, .inl v_disk)), (a_made, .inl ((k 2), 512, .inl v_made)), (a_sectorOf, .inl ((k 2), 5100, .inl o.2.2.2.1)), (a_placeOf, .inl ((k 2), 5100, .inl o.2.2.2.2.1)), (a_manyOf, .inl ((k 2), 5100, .inl o.2.2.2.2.2)), (a_there, .inl ((k 1), 5100, .inl v_there)), (a_waitKind, .inl ((k 2), 100, .inl v_waitKind)), (a_waitMany, .inl ((k 2), 100, .inl v_waitMany)), (a_waitBytes, .inl ((k 3), 100, .inr (.inl v_waitBytes)))] → va_S A s.heap H locs → ∀ ls : Array Slot, lv_has ls 5 [(0, .ref h0), (1, .int x1), (2, .int x2), (3, .int o.1), (4, .int o.2.1)] → W p l e { frames := 6, cells := 0, slots := 0, locals := 138 } s m args below meth c H locs 0 0 Q (F0 m 173 ls [])) → ∀ (H : Heap) (locs : List Loc), va_P D vwCl [(h0, .inr (6, [.int v_thrown, .int v_sectors, .int v_power, .ref a_disk, .ref a_made, .int v_used, .int v_reserve, .int v_cutWrites, .int v_cutBytes, .int v_rows, .ref a_sectorOf, .ref a_placeOf, .ref a_manyOf, .ref a_there, .int v_waits, .ref a_waitKind, .ref a_waitMany, .ref a_waitBytes, .int v_stateNumber, .long v_stateNow, .int v_second, .int v_repaired, .int v_up, .int v_sent])), (a_disk, .inl ((k 2), 32768, .inl v_disk)), (a_made, .inl ((k 2), 512, .inl v_made)), (a_sectorOf, .inl ((k 2), 5100, .inl v_sectorOf)), (a_placeOf, .inl ((k 2), 5100, .inl v_placeOf)), (a_manyOf, .inl ((k 2), 5100, .inl v_manyOf)), (a_there, .inl ((k 1), 5100, .inl v_there)), (a_waitKind, .inl ((k 2), 100, .inl v_waitKind)), (a_waitMany, .inl ((k 2), 100, .inl v_waitMany)), (a_waitBytes, .inl ((k 3), 100, .inr (.inl v_waitBytes)))] H → va_D A [(h0, .inr (6, [.int v_thrown, .int v_sectors, .int v_power, .ref a_disk, .ref a_made, .int v_used, .int v_reserve, .int v_cutWrites, .int v_cutBytes, .int v_rows, .ref a_sectorOf, .ref a_placeOf, .ref a_manyOf, .ref a_there, .int v_waits, .ref a_waitKind, .ref a_waitMany, .ref a_waitBytes, .int v_stateNumber, .long v_stateNow, .int v_second, .int v_repaired, .int v_up, .int v_sent])), (a_disk, .inl ((k 2), 32768, .inl v_disk)), (a_made, .inl ((k 2), 512, .inl v_made)), (a_sectorOf, .inl ((k 2), 5100, .inl v_sectorOf)), (a_placeOf, .inl ((k 2), 5100, .inl v_placeOf)), (a_manyOf, .inl ((k 2), 5100, .inl v_manyOf)), (a_there, .inl ((k 1), 5100, .inl v_there)), (a_waitKind, .inl ((k 2), 100, .inl v_waitKind)), (a_waitMany, .inl ((k 2), 100, .inl v_waitMany)), (a_waitBytes, .inl ((k 3), 100, .inr (.inl v_waitBytes)))] → va_S A s.heap H locs → ∀ ls : Array Slot, lv_has ls 5 [(0, .ref h0), (1, .int x1), (2, .int x2), (3, .int x3), (4, .int x4)] → W p l e { frames := 6, cells := 0, slots := 0, locals := 138 } s m args below meth c H locs 0 0 Q (F0 m 94 ls []) := by
  obtain ⟨hx, hb, hr, hml, hown, hts, hlocks⟩ := id C
  intro n
  induction n with
  | zero =>
    intro x3 x4 v_rows v_sectorOf v_placeOf v_manyOf h
    exact dk_n (o := o) h
  | succ n ih =>
    intro x3 x4 v_rows v_sectorOf v_placeOf v_manyOf h K H locs hP hD hS ls hl
    rw [fX6_start_L94.eq_2] at h
    refine lv_iload hx hb dX6_start_94 (lv_at hl 4 rfl) ?_
    refine lv_iload_n hx hb dX6_start_96 rfl (lv_at hl 2 rfl) ?_
    refine lv_icmp_ge (tgt := 173) hx hb dX6_start_97 (by decide) (fun q => ?_) (fun q => ?_)
    · replace h := dk_t q h
      have h := dk_r h
      subst h
      exact K _ _ (hP.sub [0, 1, 2, 3, 4, 5, 6, 7, 8, 9] rfl) (hD.sub [0, 1, 2, 3, 4, 5, 6, 7, 8, 9] (by decide) rfl) hS ls (lv_sub hl [0, 1, 2, 3, 4] rfl)
    · replace h := dk_f q h
      refine lv_aload_n hx hb dX6_start_100 rfl (lv_at hl 0 rfl) ?_
      refine va_get (D := D) (ci := 6) (v := .ref a_sectorOf) (C := "ServiceDiskModel") (T := TX6) (N := 24) hx hb hts inX6 hown hK hP 0 rfl rfl 10 (by decide) (hts _ w_747) (fun _ h9 => h9) rfl dX6_start_101 ?_
      refine lv_aload_n hx hb dX6_start_104 rfl (lv_at hl 0 rfl) ?_
      refine va_get (D := D) (ci := 6) (v := .int v_rows) (C := "ServiceDiskModel") (T := TX6) (N := 24) hx hb hts inX6 hown hK hP 0 rfl rfl 9 (by decide) (hts _ w_746) (fun _ h9 => h9) rfl dX6_start_105 ?_
      refine lv_aload_n hx hb dX6_start_108 rfl (lv_at hl 0 rfl) ?_
      refine va_get (D := D) (ci := 6) (v := .int v_used) (C := "ServiceDiskModel") (T := TX6) (N := 24) hx hb hts inX6 hown hK hP 0 rfl rfl 5 (by decide) (hts _ w_742) (fun _ h9 => h9) rfl dX6_start_109 ?_
      obtain ⟨q, h⟩ := dk_g h
      refine va_iast hx hb hK hP hD hS 3 2 rfl rfl q dX6_start_112 (fun H locs hP hD hS => ?_)
      have hP : va_P D vwCl [(h0, .inr (6, [.int v_thrown, .int v_sectors, .int v_power, .ref a_disk, .ref a_made, .int v_used, .int v_reserve, .int v_cutWrites, .int v_cutBytes, .int v_rows, .ref a_sectorOf, .ref a_placeOf, .ref a_manyOf, .ref a_there, .int v_waits, .ref a_waitKind, .ref a_waitMany, .ref a_waitBytes, .int v_stateNumber, .long v_stateNow, .int v_second, .int v_repaired, .int v_up, .int v_sent])), (a_disk, .inl ((k 2), 32768, .inl v_disk)), (a_made, .inl ((k 2), 512, .inl v_made)), (a_sectorOf, .inl ((k 2), 5100, .inl (upd v_sectorOf v_rows.toNatClampNeg v_used))), (a_placeOf, .inl ((k 2), 5100, .inl v_placeOf)), (a_manyOf, .inl ((k 2), 5100, .inl v_manyOf)), (a_there, .inl ((k 1), 5100, .inl v_there)), (a_waitKind, .inl ((k 2), 100, .inl v_waitKind)), (a_waitMany, .inl ((k 2), 100, .inl v_waitMany)), (a_waitBytes, .inl ((k 3), 100, .inr (.inl v_waitBytes)))] H := hP
      have hD : va_D A [(h0, .inr (6, [.int v_thrown, .int v_sectors, .int v_power, .ref a_disk, .ref a_made, .int v_used, .int v_reserve, .int v_cutWrites, .int v_cutBytes, .int v_rows, .ref a_sectorOf, .ref a_placeOf, .ref a_manyOf, .ref a_there, .int v_waits, .ref a_waitKind, .ref a_waitMany, .ref a_waitBytes, .int v_stateNumber, .long v_stateNow, .int v_second, .int v_repaired, .int v_up, .int v_sent])), (a_disk, .inl ((k 2), 32768, .inl v_disk)), (a_made, .inl ((k 2), 512, .inl v_made)), (a_sectorOf, .inl ((k 2), 5100, .inl (upd v_sectorOf v_rows.toNatClampNeg v_used))), (a_placeOf, .inl ((k 2), 5100, .inl v_placeOf)), (a_manyOf, .inl ((k 2), 5100, .inl v_manyOf)), (a_there, .inl ((k 1), 5100, .inl v_there)), (a_waitKind, .inl ((k 2), 100, .inl v_waitKind)), (a_waitMany, .inl ((k 2), 100, .inl v_waitMany)), (a_waitBytes, .inl ((k 3), 100, .inr (.inl v_waitBytes)))] := hD
      refine lv_aload_n hx hb dX6_start_113 rfl (lv_at hl 0 rfl) ?_
      refine va_get (D := D) (ci := 6) (v := .ref a_placeOf) (C := "ServiceDiskModel") (T := TX6) (N := 24) hx hb hts inX6 hown hK hP 0 rfl rfl 11 (by decide) (hts _ w_748) (fun _ h9 => h9) rfl dX6_start_114 ?_
      refine lv_aload_n hx hb dX6_start_117 rfl (lv_at hl 0 rfl) ?_
      refine va_get (D := D) (ci := 6) (v := .int v_rows) (C := "ServiceDiskModel") (T := TX6) (N := 24) hx hb hts inX6 hown hK hP 0 rfl rfl 9 (by decide) (hts _ w_746) (fun _ h9 => h9) rfl dX6_start_118 ?_
      refine lv_iload_n hx hb dX6_start_121 rfl (lv_at hl 3 rfl) ?_
      obtain ⟨q, h⟩ := dk_g h
      refine va_iast hx hb hK hP hD hS 4 2 rfl rfl q dX6_start_122 (fun H locs hP hD hS => ?_)
      have hP : va_P D vwCl [(h0, .inr (6, [.int v_thrown, .int v_sectors, .int v_power, .ref a_disk, .ref a_made, .int v_used, .int v_reserve, .int v_cutWrites, .int v_cutBytes, .int v_rows, .ref a_sectorOf, .ref a_placeOf, .ref a_manyOf, .ref a_there, .int v_waits, .ref a_waitKind, .ref a_waitMany, .ref a_waitBytes, .int v_stateNumber, .long v_stateNow, .int v_second, .int v_repaired, .int v_up, .int v_sent])), (a_disk, .inl ((k 2), 32768, .inl v_disk)), (a_made, .inl ((k 2), 512, .inl v_made)), (a_sectorOf, .inl ((k 2), 5100, .inl (upd v_sectorOf v_rows.toNatClampNeg v_used))), (a_placeOf, .inl ((k 2), 5100, .inl (upd v_placeOf v_rows.toNatClampNeg x3))), (a_manyOf, .inl ((k 2), 5100, .inl v_manyOf)), (a_there, .inl ((k 1), 5100, .inl v_there)), (a_waitKind, .inl ((k 2), 100, .inl v_waitKind)), (a_waitMany, .inl ((k 2), 100, .inl v_waitMany)), (a_waitBytes, .inl ((k 3), 100, .inr (.inl v_waitBytes)))] H := hP
      have hD : va_D A [(h0, .inr (6, [.int v_thrown, .int v_sectors, .int v_power, .ref a_disk, .ref a_made, .int v_used, .int v_reserve, .int v_cutWrites, .int v_cutBytes, .int v_rows, .ref a_sectorOf, .ref a_placeOf, .ref a_manyOf, .ref a_there, .int v_waits, .ref a_waitKind, .ref a_waitMany, .ref a_waitBytes, .int v_stateNumber, .long v_stateNow, .int v_second, .int v_repaired, .int v_up, .int v_sent])), (a_disk, .inl ((k 2), 32768, .inl v_disk)), (a_made, .inl ((k 2), 512, .inl v_made)), (a_sectorOf, .inl ((k 2), 5100, .inl (upd v_sectorOf v_rows.toNatClampNeg v_used))), (a_placeOf, .inl ((k 2), 5100, .inl (upd v_placeOf v_rows.toNatClampNeg x3))), (a_manyOf, .inl ((k 2), 5100, .inl v_manyOf)), (a_there, .inl ((k 1), 5100, .inl v_there)), (a_waitKind, .inl ((k 2), 100, .inl v_waitKind)), (a_waitMany, .inl ((k 2), 100, .inl v_waitMany)), (a_waitBytes, .inl ((k 3), 100, .inr (.inl v_waitBytes)))] := hD
      refine lv_aload_n hx hb dX6_start_123 rfl (lv_at hl 0 rfl) ?_
      refine va_get (D := D) (ci := 6) (v := .ref a_manyOf) (C := "ServiceDiskModel") (T := TX6) (N := 24) hx hb hts inX6 hown hK hP 0 rfl rfl 12 (by decide) (hts _ w_749) (fun _ h9 => h9) rfl dX6_start_124 ?_
      refine lv_aload_n hx hb dX6_start_127 rfl (lv_at hl 0 rfl) ?_
      refine va_get (D := D) (ci := 6) (v := .int v_rows) (C := "ServiceDiskModel") (T := TX6) (N := 24) hx hb hts inX6 hown hK hP 0 rfl rfl 9 (by decide) (hts _ w_746) (fun _ h9 => h9) rfl dX6_start_128 ?_
      refine lv_aload_n hx hb dX6_start_131 rfl (lv_at hl 0 rfl) ?_
      refine va_get (D := D) (ci := 6) (v := .ref a_disk) (C := "ServiceDiskModel") (T := TX6) (N := 24) hx hb hts inX6 hown hK hP 0 rfl rfl 3 (by decide) (hts _ w_740) (fun _ h9 => h9) rfl dX6_start_132 ?_
      refine lv_iload_n hx hb dX6_start_135 rfl (lv_at hl 1 rfl) ?_
      refine lv_iload_n hx hb dX6_start_136 rfl (lv_at hl 3 rfl) ?_
      refine lv_iadd hx hb dX6_start_137 ?_
      refine lv_iconst (v := 1) hx hb dX6_start_138 (by decide) ?_
      refine lv_iadd hx hb dX6_start_139 ?_
      obtain ⟨q, h⟩ := dk_g h
      refine va_iald hx hb hK hP 1 2 rfl rfl q dX6_start_140 ?_
      obtain ⟨q, h⟩ := dk_g h
      refine va_iast hx hb hK hP hD hS 5 2 rfl rfl q dX6_start_141 (fun H locs hP hD hS => ?_)
      have hP : va_P D vwCl [(h0, .inr (6, [.int v_thrown, .int v_sectors, .int v_power, .ref a_disk, .ref a_made, .int v_used, .int v_reserve, .int v_cutWrites, .int v_cutBytes, .int v_rows, .ref a_sectorOf, .ref a_placeOf, .ref a_manyOf, .ref a_there, .int v_waits, .ref a_waitKind, .ref a_waitMany, .ref a_waitBytes, .int v_stateNumber, .long v_stateNow, .int v_second, .int v_repaired, .int v_up, .int v_sent])), (a_disk, .inl ((k 2), 32768, .inl v_disk)), (a_made, .inl ((k 2), 512, .inl v_made)), (a_sectorOf, .inl ((k 2), 5100, .inl (upd v_sectorOf v_rows.toNatClampNeg v_used))), (a_placeOf, .inl ((k 2), 5100, .inl (upd v_placeOf v_rows.toNatClampNeg x3))), (a_manyOf, .inl ((k 2), 5100, .inl (upd v_manyOf v_rows.toNatClampNeg (v_disk ((x1 + x3) + 1).toNatClampNeg)))), (a_there, .inl ((k 1), 5100, .inl v_there)), (a_waitKind, .inl ((k 2), 100, .inl v_waitKind)), (a_waitMany, .inl ((k 2), 100, .inl v_waitMany)), (a_waitBytes, .inl ((k 3), 100, .inr (.inl v_waitBytes)))] H := hP
      have hD : va_D A [(h0, .inr (6, [.int v_thrown, .int v_sectors, .int v_power, .ref a_disk, .ref a_made, .int v_used, .int v_reserve, .int v_cutWrites, .int v_cutBytes, .int v_rows, .ref a_sectorOf, .ref a_placeOf, .ref a_manyOf, .ref a_there, .int v_waits, .ref a_waitKind, .ref a_waitMany, .ref a_waitBytes, .int v_stateNumber, .long v_stateNow, .int v_second, .int v_repaired, .int v_up, .int v_sent])), (a_disk, .inl ((k 2), 32768, .inl v_disk)), (a_made, .inl ((k 2), 512, .inl v_made)), (a_sectorOf, .inl ((k 2), 5100, .inl (upd v_sectorOf v_rows.toNatClampNeg v_used))), (a_placeOf, .inl ((k 2), 5100, .inl (upd v_placeOf v_rows.toNatClampNeg x3))), (a_manyOf, .inl ((k 2), 5100, .inl (upd v_manyOf v_rows.toNatClampNeg (v_disk ((x1 + x3) + 1).toNatClampNeg)))), (a_there, .inl ((k 1), 5100, .inl v_there)), (a_waitKind, .inl ((k 2), 100, .inl v_waitKind)), (a_waitMany, .inl ((k 2), 100, .inl v_waitMany)), (a_waitBytes, .inl ((k 3), 100, .inr (.inl v_waitBytes)))] := hD
      refine lv_iload_n hx hb dX6_start_142 rfl (lv_at hl 3 rfl) ?_
      refine lv_iconst (v := 2) hx hb dX6_start_143 (by decide) ?_
      refine lv_aload_n hx hb dX6_start_144 rfl (lv_at hl 0 rfl) ?_
      refine va_get (D := D) (ci := 6) (v := .ref a_disk) (C := "ServiceDiskModel") (T := TX6) (N := 24) hx hb hts inX6 hown hK hP 0 rfl rfl 3 (by decide) (hts _ w_740) (fun _ h9 => h9) rfl dX6_start_145 ?_
      refine lv_iload_n hx hb dX6_start_148 rfl (lv_at hl 1 rfl) ?_
      refine lv_iload_n hx hb dX6_start_149 rfl (lv_at hl 3 rfl) ?_
      refine lv_iadd hx hb dX6_start_150 ?_
      refine lv_iconst (v := 1) hx hb dX6_start_151 (by decide) ?_
      refine lv_iadd hx hb dX6_start_152 ?_
      obtain ⟨q, h⟩ := dk_g h
      refine va_iald hx hb hK hP 1 2 rfl rfl q dX6_start_153 ?_
      refine lv_iadd hx hb dX6_start_154 ?_
      refine lv_iadd hx hb dX6_start_155 ?_
      refine lv_istore_n (lv' := [(3, .int (x3 + (2 + (v_disk ((x1 + x3) + 1).toNatClampNeg)))), (0, .ref h0), (1, .int x1), (2, .int x2), (4, .int x4)]) hx hb dX6_start_156 rfl hl (by decide) rfl (fun ls hl => ?_)
      refine lv_aload_n hx hb dX6_start_157 rfl (lv_at hl 1 rfl) ?_
      refine lv_dup hx hb dX6_start_158 rfl ?_
      refine va_get (D := D) (ci := 6) (v := .int v_rows) (C := "ServiceDiskModel") (T := TX6) (N := 24) hx hb hts inX6 hown hK hP 0 rfl rfl 9 (by decide) (hts _ w_746) (fun _ h9 => h9) rfl dX6_start_159 ?_
      refine lv_iconst (v := 1) hx hb dX6_start_162 (by decide) ?_
      refine lv_iadd hx hb dX6_start_163 ?_
      refine va_put (D := D) (ci := 6) (v := .int (v_rows + 1)) (ty := .int) (C := "ServiceDiskModel") (T := TX6) (N := 24) hx hb hts inX6 tyX6 tyX6_ok nmX6 hown hK hP hD hS 0 rfl rfl 9 (by decide) (hts _ w_746) (fun _ h9 => h9) rfl (by decide +kernel) rfl rfl (Nat.le_of_ble_eq_true rfl) dX6_start_164 (fun H locs hP hD hS => ?_)
      have hP : va_P D vwCl [(h0, .inr (6, [.int v_thrown, .int v_sectors, .int v_power, .ref a_disk, .ref a_made, .int v_used, .int v_reserve, .int v_cutWrites, .int v_cutBytes, .int (v_rows + 1), .ref a_sectorOf, .ref a_placeOf, .ref a_manyOf, .ref a_there, .int v_waits, .ref a_waitKind, .ref a_waitMany, .ref a_waitBytes, .int v_stateNumber, .long v_stateNow, .int v_second, .int v_repaired, .int v_up, .int v_sent])), (a_disk, .inl ((k 2), 32768, .inl v_disk)), (a_made, .inl ((k 2), 512, .inl v_made)), (a_sectorOf, .inl ((k 2), 5100, .inl (upd v_sectorOf v_rows.toNatClampNeg v_used))), (a_placeOf, .inl ((k 2), 5100, .inl (upd v_placeOf v_rows.toNatClampNeg x3))), (a_manyOf, .inl ((k 2), 5100, .inl (upd v_manyOf v_rows.toNatClampNeg (v_disk ((x1 + x3) + 1).toNatClampNeg)))), (a_there, .inl ((k 1), 5100, .inl v_there)), (a_waitKind, .inl ((k 2), 100, .inl v_waitKind)), (a_waitMany, .inl ((k 2), 100, .inl v_waitMany)), (a_waitBytes, .inl ((k 3), 100, .inr (.inl v_waitBytes)))] H := hP
      have hD : va_D A [(h0, .inr (6, [.int v_thrown, .int v_sectors, .int v_power, .ref a_disk, .ref a_made, .int v_used, .int v_reserve, .int v_cutWrites, .int v_cutBytes, .int (v_rows + 1), .ref a_sectorOf, .ref a_placeOf, .ref a_manyOf, .ref a_there, .int v_waits, .ref a_waitKind, .ref a_waitMany, .ref a_waitBytes, .int v_stateNumber, .long v_stateNow, .int v_second, .int v_repaired, .int v_up, .int v_sent])), (a_disk, .inl ((k 2), 32768, .inl v_disk)), (a_made, .inl ((k 2), 512, .inl v_made)), (a_sectorOf, .inl ((k 2), 5100, .inl (upd v_sectorOf v_rows.toNatClampNeg v_used))), (a_placeOf, .inl ((k 2), 5100, .inl (upd v_placeOf v_rows.toNatClampNeg x3))), (a_manyOf, .inl ((k 2), 5100, .inl (upd v_manyOf v_rows.toNatClampNeg (v_disk ((x1 + x3) + 1).toNatClampNeg)))), (a_there, .inl ((k 1), 5100, .inl v_there)), (a_waitKind, .inl ((k 2), 100, .inl v_waitKind)), (a_waitMany, .inl ((k 2), 100, .inl v_waitMany)), (a_waitBytes, .inl ((k 3), 100, .inr (.inl v_waitBytes)))] := hD
      refine lv_iinc (v := (x4 + 1)) (lv' := [(4, .int (x4 + 1)), (3, .int (x3 + (2 + (v_disk ((x1 + x3) + 1).toNatClampNeg)))), (0, .ref h0), (1, .int x1), (2, .int x2)]) hx hb dX6_start_167 hl (k := 4) rfl rfl (by decide) rfl (fun ls hl => ?_)
      refine lv_goto (tgt := 94) hx hb dX6_start_170 (by decide) ?_
      exact ih (x3 + (2 + (v_disk ((x1 + x3) + 1).toNatClampNeg))) (x4 + 1) (v_rows + 1) (upd v_sectorOf v_rows.toNatClampNeg v_used) (upd v_placeOf v_rows.toNatClampNeg x3) (upd v_manyOf v_rows.toNatClampNeg (v_disk ((x1 + x3) + 1).toNatClampNeg)) h K _ _ (hP.sub [0, 1, 2, 3, 4, 5, 6, 7, 8, 9] rfl) (hD.sub [0, 1, 2, 3, 4, 5, 6, 7, 8, 9] (by decide) rfl) hS ls (lv_sub hl [2, 3, 4, 1, 0] rfl)
set_option maxHeartbeats 4000000 in
set_option maxRecDepth 100000 in
theorem lX6_start_49 {p : Program} {l : Launch} {e : Env} {s : State} {m : MethodId} {below : List Frame} {meth : Method} {c : Code} {args : Array Value} {D : va_G} {k : Nat → ClassId} {h0 : Nat} {a_disk : Nat} {a_made : Nat} {a_sectorOf : Nat} {a_placeOf : Nat} {a_manyOf : Nat} {a_there : Nat} {a_waitKind : Nat} {a_waitMany : Nat} {a_waitBytes : Nat} {v_thrown : Int32} {v_sectors : Int32} {v_power : Int32} {v_reserve : Int32} {v_cutWrites : Int32} {v_cutBytes : Int32} {v_waits : Int32} {v_stateNumber : Int32} {v_stateNow : Int64} {v_second : Int32} {v_up : Int32} {v_sent : Int32} {v_made : Nat → Int32} {v_there : Nat → Int32} {v_waitKind : Nat → Int32} {v_waitMany : Nat → Int32} {v_waitBytes : Nat → Int64} {Q : State → Prop} {o : Int32 × Int32 × Int32 × (Nat → Int32) × (Nat → Int32) × (Nat → Int32) × (Nat → Int32)} {A : Nat → Prop} (C : dk_Cx p s m meth c cX6_start (some .int) 5 "ServiceDiskModel" dkB args) (hK : va_K D vwCl (dkT k) s) (hN : dk_N s) (hA : ∀ q : Nat, s.heap.size ≤ q → A q) :
    ∀ (n : Nat) (v_used : Int32) (v_rows : Int32) (v_repaired : Int32) (v_disk : Nat → Int32) (v_sectorOf : Nat → Int32) (v_placeOf : Nat → Int32) (v_manyOf : Nat → Int32), fX6_start_L49 v_sectors n v_used v_rows v_repaired v_disk v_sectorOf v_placeOf v_manyOf = some o → (∀ (H : Heap) (locs : List Loc), va_P D vwCl [(h0, .inr (6, [.int v_thrown, .int v_sectors, .int v_power, .ref a_disk, .ref a_made, .int o.1, .int v_reserve, .int v_cutWrites, .int v_cutBytes, .int o.2.1, .ref a_sectorOf, .ref a_placeOf, .ref a_manyOf, .ref a_there, .int v_waits, .ref a_waitKind, .ref a_waitMany, .ref a_waitBytes, .int v_stateNumber, .long v_stateNow, .int v_second, .int o.2.2.1, .int v_up, .int v_sent])), (a_disk, .inl ((k 2), 32768, .inl o.2.2.2.1)), (a_made, .inl ((k 2), 512, .inl v_made)), (a_sectorOf, .inl ((k 2), 5100, .inl o.2.2.2.2.1)), (a_placeOf, .inl ((k 2), 5100, .inl o.2.2.2.2.2.1)), (a_manyOf, .inl ((k 2), 5100, .inl o.2.2.2.2.2.2)), (a_there, .inl ((k 1), 5100, .inl v_there)), (a_waitKind, .inl ((k 2), 100, .inl v_waitKind)), (a_waitMany, .inl ((k 2), 100, .inl v_waitMany)), (a_waitBytes, .inl ((k 3), 100, .inr (.inl v_waitBytes)))] H → va_D A [(h0, .inr (6, [.int v_thrown, .int v_sectors, .int v_power, .ref a_disk, .ref a_made, .int o.1, .int v_reserve, .int v_cutWrites, .int v_cutBytes, .int o.2.1, .ref a_sectorOf, .ref a_placeOf, .ref a_manyOf, .ref a_there, .int v_waits, .ref a_waitKind, .ref a_waitMany, .ref a_waitBytes, .int v_stateNumber, .long v_stateNow, .int v_second, .int o.2.2.1, .int v_up, .int v_sent])), (a_disk, .inl ((k 2), 32768, .inl o.2.2.2.1)), (a_made, .inl ((k 2), 512, .inl v_made)), (a_sectorOf, .inl ((k 2), 5100, .inl o.2.2.2.2.1)), (a_placeOf, .inl ((k 2), 5100, .inl o.2.2.2.2.2.1)), (a_manyOf, .inl ((k 2), 5100, .inl o.2.2.2.2.2.2)), (a_there, .inl ((k 1), 5100, .inl v_there)), (a_waitKind, .inl ((k 2), 100, .inl v_waitKind)), (a_waitMany, .inl ((k 2), 100, .inl v_waitMany)), (a_waitBytes, .inl ((k 3), 100, .inr (.inl v_waitBytes)))] → va_S A s.heap H locs → ∀ ls : Array Slot, lv_has ls 5 [(0, .ref h0)] → W p l e { frames := 6, cells := 0, slots := 0, locals := 138 } s m args below meth c H locs 0 0 Q (F0 m 186 ls [])) → ∀ (H : Heap) (locs : List Loc), va_P D vwCl [(h0, .inr (6, [.int v_thrown, .int v_sectors, .int v_power, .ref a_disk, .ref a_made, .int v_used, .int v_reserve, .int v_cutWrites, .int v_cutBytes, .int v_rows, .ref a_sectorOf, .ref a_placeOf, .ref a_manyOf, .ref a_there, .int v_waits, .ref a_waitKind, .ref a_waitMany, .ref a_waitBytes, .int v_stateNumber, .long v_stateNow, .int v_second, .int v_repaired, .int v_up, .int v_sent])), (a_disk, .inl ((k 2), 32768, .inl v_disk)), (a_made, .inl ((k 2), 512, .inl v_made)), (a_sectorOf, .inl ((k 2), 5100, .inl v_sectorOf)), (a_placeOf, .inl ((k 2), 5100, .inl v_placeOf)), (a_manyOf, .inl ((k 2), 5100, .inl v_manyOf)), (a_there, .inl ((k 1), 5100, .inl v_there)), (a_waitKind, .inl ((k 2), 100, .inl v_waitKind)), (a_waitMany, .inl ((k 2), 100, .inl v_waitMany)), (a_waitBytes, .inl ((k 3), 100, .inr (.inl v_waitBytes)))] H → va_D A [(h0, .inr (6, [.int v_thrown, .int v_sectors, .int v_power, .ref a_disk, .ref a_made, .int v_used, .int v_reserve, .int v_cutWrites, .int v_cutBytes, .int v_rows, .ref a_sectorOf, .ref a_placeOf, .ref a_manyOf, .ref a_there, .int v_waits, .ref a_waitKind, .ref a_waitMany, .ref a_waitBytes, .int v_stateNumber, .long v_stateNow, .int v_second, .int v_repaired, .int v_up, .int v_sent])), (a_disk, .inl ((k 2), 32768, .inl v_disk)), (a_made, .inl ((k 2), 512, .inl v_made)), (a_sectorOf, .inl ((k 2), 5100, .inl v_sectorOf)), (a_placeOf, .inl ((k 2), 5100, .inl v_placeOf)), (a_manyOf, .inl ((k 2), 5100, .inl v_manyOf)), (a_there, .inl ((k 1), 5100, .inl v_there)), (a_waitKind, .inl ((k 2), 100, .inl v_waitKind)), (a_waitMany, .inl ((k 2), 100, .inl v_waitMany)), (a_waitBytes, .inl ((k 3), 100, .inr (.inl v_waitBytes)))] → va_S A s.heap H locs → ∀ ls : Array Slot, lv_has ls 5 [(0, .ref h0)] → W p l e { frames := 6, cells := 0, slots := 0, locals := 138 } s m args below meth c H locs 0 0 Q (F0 m 49 ls []) := by
  obtain ⟨hx, hb, hr, hml, hown, hts, hlocks⟩ := id C
  intro n
  induction n with
  | zero =>
    intro v_used v_rows v_repaired v_disk v_sectorOf v_placeOf v_manyOf h
    exact dk_n (o := o) h
  | succ n ih =>
    intro v_used v_rows v_repaired v_disk v_sectorOf v_placeOf v_manyOf h K H locs hP hD hS ls hl
    rw [fX6_start_L49.eq_2] at h
    refine lv_aload_n hx hb dX6_start_49 rfl (lv_at hl 0 rfl) ?_
    refine va_get (D := D) (ci := 6) (v := .int v_used) (C := "ServiceDiskModel") (T := TX6) (N := 24) hx hb hts inX6 hown hK hP 0 rfl rfl 5 (by decide) (hts _ w_742) (fun _ h9 => h9) rfl dX6_start_50 ?_
    refine lv_aload_n hx hb dX6_start_53 rfl (lv_at hl 0 rfl) ?_
    refine va_get (D := D) (ci := 6) (v := .int v_sectors) (C := "ServiceDiskModel") (T := TX6) (N := 24) hx hb hts inX6 hown hK hP 0 rfl rfl 1 (by decide) (hts _ w_738) (fun _ h9 => h9) rfl dX6_start_54 ?_
    refine lv_iconst (v := 2) hx hb dX6_start_57 (by decide) ?_
    refine lv_isub hx hb dX6_start_58 ?_
    refine lv_icmp_ge (tgt := 186) hx hb dX6_start_59 (by decide) (fun q => ?_) (fun q => ?_)
    · replace h := dk_t q h
      have h := dk_r h
      subst h
      exact K _ _ (hP.sub [0, 1, 2, 3, 4, 5, 6, 7, 8, 9] rfl) (hD.sub [0, 1, 2, 3, 4, 5, 6, 7, 8, 9] (by decide) rfl) hS ls (lv_sub hl [0] rfl)
    · replace h := dk_f q h
      refine lv_aload_n hx hb dX6_start_62 rfl (lv_at hl 0 rfl) ?_
      refine lv_aload_n hx hb dX6_start_63 rfl (lv_at hl 0 rfl) ?_
      refine va_get (D := D) (ci := 6) (v := .int v_used) (C := "ServiceDiskModel") (T := TX6) (N := 24) hx hb hts inX6 hown hK hP 0 rfl rfl 5 (by decide) (hts _ w_742) (fun _ h9 => h9) rfl dX6_start_64 ?_
      replace h := dk_b h
      obtain ⟨o6, e6, h⟩ := h
      refine dk_cwi (wr := []) (va_runV (As := [.int v_used]) (rest := []) ⟨hx, hb, hml, hown, hts⟩ (mX6_repair l D k h0 a_disk a_made a_sectorOf a_placeOf a_manyOf a_there a_waitKind a_waitMany a_waitBytes H.size v_thrown v_sectors v_power v_used v_reserve v_cutWrites v_cutBytes v_rows v_waits v_stateNumber v_stateNow v_second v_repaired v_up v_sent v_disk v_made v_sectorOf v_placeOf v_manyOf v_there v_waitKind v_waitMany v_waitBytes v_used o6 e6) (cwV 1 hts (dk_gV w_888 w_890 w_28 w_46 w_891) rfl rfl rfl (by decide +kernel) ⟨Nat.le_of_ble_eq_true rfl, Nat.le_of_ble_eq_true rfl⟩) (dk_pvw hK hN hP hD [0, 1, 2, 3, 4, 5, 6, 7, 8, 9] rfl rfl rfl rfl (hP.sub [0, 1, 2, 3, 4, 5, 6, 7, 8, 9] rfl)) rfl rfl hl.1 rfl (lv_room (Nat.le_of_ble_eq_true rfl)) dX6_start_67 ⟨Nat.le_of_ble_eq_true rfl, Nat.le_of_ble_eq_true rfl⟩) hP hD hS hA [0, 1, 2, 3, 4, 5, 6, 7, 8, 9] [] rfl rfl rfl (by decide) (fun H locs hP hD hS => ?_)
      have hP : va_P D vwCl [(h0, .inr (6, [.int v_thrown, .int v_sectors, .int v_power, .ref a_disk, .ref a_made, .int v_used, .int v_reserve, .int v_cutWrites, .int v_cutBytes, .int v_rows, .ref a_sectorOf, .ref a_placeOf, .ref a_manyOf, .ref a_there, .int v_waits, .ref a_waitKind, .ref a_waitMany, .ref a_waitBytes, .int v_stateNumber, .long v_stateNow, .int v_second, .int o6.2.1, .int v_up, .int v_sent])), (a_disk, .inl ((k 2), 32768, .inl o6.2.2)), (a_made, .inl ((k 2), 512, .inl v_made)), (a_sectorOf, .inl ((k 2), 5100, .inl v_sectorOf)), (a_placeOf, .inl ((k 2), 5100, .inl v_placeOf)), (a_manyOf, .inl ((k 2), 5100, .inl v_manyOf)), (a_there, .inl ((k 1), 5100, .inl v_there)), (a_waitKind, .inl ((k 2), 100, .inl v_waitKind)), (a_waitMany, .inl ((k 2), 100, .inl v_waitMany)), (a_waitBytes, .inl ((k 3), 100, .inr (.inl v_waitBytes)))] H := hP
      have hD : va_D A [(h0, .inr (6, [.int v_thrown, .int v_sectors, .int v_power, .ref a_disk, .ref a_made, .int v_used, .int v_reserve, .int v_cutWrites, .int v_cutBytes, .int v_rows, .ref a_sectorOf, .ref a_placeOf, .ref a_manyOf, .ref a_there, .int v_waits, .ref a_waitKind, .ref a_waitMany, .ref a_waitBytes, .int v_stateNumber, .long v_stateNow, .int v_second, .int o6.2.1, .int v_up, .int v_sent])), (a_disk, .inl ((k 2), 32768, .inl o6.2.2)), (a_made, .inl ((k 2), 512, .inl v_made)), (a_sectorOf, .inl ((k 2), 5100, .inl v_sectorOf)), (a_placeOf, .inl ((k 2), 5100, .inl v_placeOf)), (a_manyOf, .inl ((k 2), 5100, .inl v_manyOf)), (a_there, .inl ((k 1), 5100, .inl v_there)), (a_waitKind, .inl ((k 2), 100, .inl v_waitKind)), (a_waitMany, .inl ((k 2), 100, .inl v_waitMany)), (a_waitBytes, .inl ((k 3), 100, .inr (.inl v_waitBytes)))] := hD
      refine lv_if_eq (tgt := 186) hx hb dX6_start_70 (by decide) (fun q => ?_) (fun q => ?_)
      · replace h := dk_t q h
        have h := dk_r h
        subst h
        exact K _ _ (hP.sub [0, 1, 2, 3, 4, 5, 6, 7, 8, 9] rfl) (hD.sub [0, 1, 2, 3, 4, 5, 6, 7, 8, 9] (by decide) rfl) hS ls (lv_sub hl [0] rfl)
      · replace h := dk_f q h
        refine lv_iconst (v := 0) hx hb dX6_start_73 (by decide) ?_
        refine lv_aload_n hx hb dX6_start_74 rfl (lv_at hl 0 rfl) ?_
        refine va_get (D := D) (ci := 6) (v := .int v_used) (C := "ServiceDiskModel") (T := TX6) (N := 24) hx hb hts inX6 hown hK hP 0 rfl rfl 5 (by decide) (hts _ w_742) (fun _ h9 => h9) rfl dX6_start_75 ?_
        replace h := dk_b h
        obtain ⟨o7, e7, h⟩ := h
        refine dk_cri (va_runS (As := [.int 0, .int v_used]) (rest := []) ⟨hx, hb, hml, hown, hts⟩ (mX6_at l D k 0 v_used o7 e7) (va_cwS 2 hts (dk_gS w_869 w_870 w_46 w_871) rfl rfl rfl (by decide +kernel) ⟨Nat.le_of_ble_eq_true rfl, Nat.le_of_ble_eq_true rfl⟩) (dk_psr hK hN hP [] rfl) rfl rfl hl.1 rfl (lv_room (Nat.le_of_ble_eq_true rfl)) dX6_start_78 ⟨Nat.le_of_ble_eq_true rfl, Nat.le_of_ble_eq_true rfl⟩) ?_
        refine lv_istore_n (lv' := [(1, .int o7), (0, .ref h0)]) hx hb dX6_start_81 rfl hl (by decide) rfl (fun ls hl => ?_)
        refine lv_aload_n hx hb dX6_start_82 rfl (lv_at hl 1 rfl) ?_
        refine lv_iload_n hx hb dX6_start_83 rfl (lv_at hl 0 rfl) ?_
        replace h := dk_b h
        obtain ⟨o8, e8, h⟩ := h
        refine dk_cri (va_runV (As := [.int o7]) (rest := []) ⟨hx, hb, hml, hown, hts⟩ (mX6_rowsOn l D k h0 a_disk a_made a_sectorOf a_placeOf a_manyOf a_there a_waitKind a_waitMany a_waitBytes v_thrown v_sectors v_power v_used v_reserve v_cutWrites v_cutBytes v_rows v_waits v_stateNumber v_stateNow v_second o6.2.1 v_up v_sent o6.2.2 v_made v_sectorOf v_placeOf v_manyOf v_there v_waitKind v_waitMany v_waitBytes o7 o8 e8) (cwV 1 hts (dk_gV w_912 w_914 w_34 w_46 w_915) rfl rfl rfl (by decide +kernel) ⟨Nat.le_of_ble_eq_true rfl, Nat.le_of_ble_eq_true rfl⟩) (dk_pvr hK hN hP [0, 1, 2, 3, 4, 5, 6, 7, 8, 9] rfl rfl rfl) rfl rfl hl.1 rfl (lv_room (Nat.le_of_ble_eq_true rfl)) dX6_start_84 ⟨Nat.le_of_ble_eq_true rfl, Nat.le_of_ble_eq_true rfl⟩) ?_
        refine lv_istore_n (lv' := [(2, .int o8), (1, .int o7), (0, .ref h0)]) hx hb dX6_start_87 rfl hl (by decide) rfl (fun ls hl => ?_)
        refine lv_bipush (v := 6) hx hb dX6_start_88 (by decide) ?_
        refine lv_istore_n (lv' := [(3, .int 6), (2, .int o8), (1, .int o7), (0, .ref h0)]) hx hb dX6_start_90 rfl hl (by decide) rfl (fun ls hl => ?_)
        refine lv_iconst (v := 0) hx hb dX6_start_91 (by decide) ?_
        refine lv_istore (lv' := [(4, .int 0), (3, .int 6), (2, .int o8), (1, .int o7), (0, .ref h0)]) hx hb dX6_start_92 hl (by decide) rfl (fun ls hl => ?_)
        replace h := dk_b h
        obtain ⟨o9, e9, h⟩ := h
        refine lX6_start_94 C hK hN hA _ 6 0 v_rows v_sectorOf v_placeOf v_manyOf  e9 (fun H locs hP hD hS ls hl => ?_) _ _ (hP.sub [0, 1, 2, 3, 4, 5, 6, 7, 8, 9] rfl) (hD.sub [0, 1, 2, 3, 4, 5, 6, 7, 8, 9] (by decide) rfl) hS ls (lv_sub hl [4, 3, 2, 1, 0] rfl)
        have hP : va_P D vwCl [(h0, .inr (6, [.int v_thrown, .int v_sectors, .int v_power, .ref a_disk, .ref a_made, .int v_used, .int v_reserve, .int v_cutWrites, .int v_cutBytes, .int o9.2.2.1, .ref a_sectorOf, .ref a_placeOf, .ref a_manyOf, .ref a_there, .int v_waits, .ref a_waitKind, .ref a_waitMany, .ref a_waitBytes, .int v_stateNumber, .long v_stateNow, .int v_second, .int o6.2.1, .int v_up, .int v_sent])), (a_disk, .inl ((k 2), 32768, .inl o6.2.2)), (a_made, .inl ((k 2), 512, .inl v_made)), (a_sectorOf, .inl ((k 2), 5100, .inl o9.2.2.2.1)), (a_placeOf, .inl ((k 2), 5100, .inl o9.2.2.2.2.1)), (a_manyOf, .inl ((k 2), 5100, .inl o9.2.2.2.2.2)), (a_there, .inl ((k 1), 5100, .inl v_there)), (a_waitKind, .inl ((k 2), 100, .inl v_waitKind)), (a_waitMany, .inl ((k 2), 100, .inl v_waitMany)), (a_waitBytes, .inl ((k 3), 100, .inr (.inl v_waitBytes)))] H := hP
        have hD : va_D A [(h0, .inr (6, [.int v_thrown, .int v_sectors, .int v_power, .ref a_disk, .ref a_made, .int v_used, .int v_reserve, .int v_cutWrites, .int v_cutBytes, .int o9.2.2.1, .ref a_sectorOf, .ref a_placeOf, .ref a_manyOf, .ref a_there, .int v_waits, .ref a_waitKind, .ref a_waitMany, .ref a_waitBytes, .int v_stateNumber, .long v_stateNow, .int v_second, .int o6.2.1, .int v_up, .int v_sent])), (a_disk, .inl ((k 2), 32768, .inl o6.2.2)), (a_made, .inl ((k 2), 512, .inl v_made)), (a_sectorOf, .inl ((k 2), 5100, .inl o9.2.2.2.1)), (a_placeOf, .inl ((k 2), 5100, .inl o9.2.2.2.2.1)), (a_manyOf, .inl ((k 2), 5100, .inl o9.2.2.2.2.2)), (a_there, .inl ((k 1), 5100, .inl v_there)), (a_waitKind, .inl ((k 2), 100, .inl v_waitKind)), (a_waitMany, .inl ((k 2), 100, .inl v_waitMany)), (a_waitBytes, .inl ((k 3), 100, .inr (.inl v_waitBytes)))] := hD
        have hl : lv_has ls 5 [(0, .ref h0), (1, .int o7), (2, .int o8), (3, .int o9.1), (4, .int o9.2.1)] := hl
        refine lv_aload_n hx hb dX6_start_173 rfl (lv_at hl 0 rfl) ?_
        refine lv_dup hx hb dX6_start_174 rfl ?_
        refine va_get (D := D) (ci := 6) (v := .int v_used) (C := "ServiceDiskModel") (T := TX6) (N := 24) hx hb hts inX6 hown hK hP 0 rfl rfl 5 (by decide) (hts _ w_742) (fun _ h9 => h9) rfl dX6_start_175 ?_
        refine lv_iconst (v := 1) hx hb dX6_start_178 (by decide) ?_
        refine lv_iadd hx hb dX6_start_179 ?_
        refine va_put (D := D) (ci := 6) (v := .int (v_used + 1)) (ty := .int) (C := "ServiceDiskModel") (T := TX6) (N := 24) hx hb hts inX6 tyX6 tyX6_ok nmX6 hown hK hP hD hS 0 rfl rfl 5 (by decide) (hts _ w_742) (fun _ h9 => h9) rfl (by decide +kernel) rfl rfl (Nat.le_of_ble_eq_true rfl) dX6_start_180 (fun H locs hP hD hS => ?_)
        have hP : va_P D vwCl [(h0, .inr (6, [.int v_thrown, .int v_sectors, .int v_power, .ref a_disk, .ref a_made, .int (v_used + 1), .int v_reserve, .int v_cutWrites, .int v_cutBytes, .int o9.2.2.1, .ref a_sectorOf, .ref a_placeOf, .ref a_manyOf, .ref a_there, .int v_waits, .ref a_waitKind, .ref a_waitMany, .ref a_waitBytes, .int v_stateNumber, .long v_stateNow, .int v_second, .int o6.2.1, .int v_up, .int v_sent])), (a_disk, .inl ((k 2), 32768, .inl o6.2.2)), (a_made, .inl ((k 2), 512, .inl v_made)), (a_sectorOf, .inl ((k 2), 5100, .inl o9.2.2.2.1)), (a_placeOf, .inl ((k 2), 5100, .inl o9.2.2.2.2.1)), (a_manyOf, .inl ((k 2), 5100, .inl o9.2.2.2.2.2)), (a_there, .inl ((k 1), 5100, .inl v_there)), (a_waitKind, .inl ((k 2), 100, .inl v_waitKind)), (a_waitMany, .inl ((k 2), 100, .inl v_waitMany)), (a_waitBytes, .inl ((k 3), 100, .inr (.inl v_waitBytes)))] H := hP
        have hD : va_D A [(h0, .inr (6, [.int v_thrown, .int v_sectors, .int v_power, .ref a_disk, .ref a_made, .int (v_used + 1), .int v_reserve, .int v_cutWrites, .int v_cutBytes, .int o9.2.2.1, .ref a_sectorOf, .ref a_placeOf, .ref a_manyOf, .ref a_there, .int v_waits, .ref a_waitKind, .ref a_waitMany, .ref a_waitBytes, .int v_stateNumber, .long v_stateNow, .int v_second, .int o6.2.1, .int v_up, .int v_sent])), (a_disk, .inl ((k 2), 32768, .inl o6.2.2)), (a_made, .inl ((k 2), 512, .inl v_made)), (a_sectorOf, .inl ((k 2), 5100, .inl o9.2.2.2.1)), (a_placeOf, .inl ((k 2), 5100, .inl o9.2.2.2.2.1)), (a_manyOf, .inl ((k 2), 5100, .inl o9.2.2.2.2.2)), (a_there, .inl ((k 1), 5100, .inl v_there)), (a_waitKind, .inl ((k 2), 100, .inl v_waitKind)), (a_waitMany, .inl ((k 2), 100, .inl v_waitMany)), (a_waitBytes, .inl ((k 3), 100, .inr (.inl v_waitBytes)))] := hD
        refine lv_goto (tgt := 49) hx hb dX6_start_183 (by decide) ?_
        exact ih (v_used + 1) o9.2.2.1 o6.2.1 o6.2.2 o9.2.2.2.1 o9.2.2.2.2.1 o9.2.2.2.2.2 h K _ _ (hP.sub [0, 1, 2, 3, 4, 5, 6, 7, 8, 9] rfl) (hD.sub [0, 1, 2, 3, 4, 5, 6, 7, 8, 9] (by decide) rfl) hS ls (lv_sub hl [0] rfl)
set_option maxHeartbeats 4000000 in
set_option maxRecDepth 100000 in
theorem mX6_start (l : Launch) (D : va_G) (k : Nat → ClassId) (h0 a_disk a_made a_sectorOf a_placeOf a_manyOf a_there a_waitKind a_waitMany a_waitBytes : Nat) (sz : Nat) (v_thrown : Int32) (v_sectors : Int32) (v_power : Int32) (v_used : Int32) (v_reserve : Int32) (v_cutWrites : Int32) (v_cutBytes : Int32) (v_rows : Int32) (v_waits : Int32) (v_stateNumber : Int32) (v_stateNow : Int64) (v_second : Int32) (v_repaired : Int32) (v_up : Int32) (v_sent : Int32) (v_disk : Nat → Int32) (v_made : Nat → Int32) (v_sectorOf : Nat → Int32) (v_placeOf : Nat → Int32) (v_manyOf : Nat → Int32) (v_there : Nat → Int32) (v_waitKind : Nat → Int32) (v_waitMany : Nat → Int32) (v_waitBytes : Nat → Int64) (o : Int32 × Int32 × Int32 × Int32 × Int32 × Int32 × Int32 × Int32 × Int64 × Int32 × Int32 × (Nat → Int32) × (Nat → Int32) × (Nat → Int32) × (Nat → Int32) × (Nat → Int32)) (h : fX6_start v_sectors v_power v_used v_cutWrites v_rows v_waits v_stateNumber v_stateNow v_repaired v_sent v_disk v_sectorOf v_placeOf v_manyOf v_there = some o) : Met l yX6_start wsX6_start { frames := 6, cells := 0, slots := 0, locals := 138 } (dk_Pw D k [.ref h0] [(h0, .inr (6, [.int v_thrown, .int v_sectors, .int v_power, .ref a_disk, .ref a_made, .int v_used, .int v_reserve, .int v_cutWrites, .int v_cutBytes, .int v_rows, .ref a_sectorOf, .ref a_placeOf, .ref a_manyOf, .ref a_there, .int v_waits, .ref a_waitKind, .ref a_waitMany, .ref a_waitBytes, .int v_stateNumber, .long v_stateNow, .int v_second, .int v_repaired, .int v_up, .int v_sent])), (a_disk, .inl ((k 2), 32768, .inl v_disk)), (a_made, .inl ((k 2), 512, .inl v_made)), (a_sectorOf, .inl ((k 2), 5100, .inl v_sectorOf)), (a_placeOf, .inl ((k 2), 5100, .inl v_placeOf)), (a_manyOf, .inl ((k 2), 5100, .inl v_manyOf)), (a_there, .inl ((k 1), 5100, .inl v_there)), (a_waitKind, .inl ((k 2), 100, .inl v_waitKind)), (a_waitMany, .inl ((k 2), 100, .inl v_waitMany)), (a_waitBytes, .inl ((k 3), 100, .inr (.inl v_waitBytes)))] sz) (dk_Qi o.1 D [(h0, .inr (6, [.int o.2.1, .int v_sectors, .int o.2.2.1, .ref a_disk, .ref a_made, .int o.2.2.2.1, .int v_reserve, .int o.2.2.2.2.1, .int v_cutBytes, .int o.2.2.2.2.2.1, .ref a_sectorOf, .ref a_placeOf, .ref a_manyOf, .ref a_there, .int o.2.2.2.2.2.2.1, .ref a_waitKind, .ref a_waitMany, .ref a_waitBytes, .int o.2.2.2.2.2.2.2.1, .long o.2.2.2.2.2.2.2.2.1, .int v_second, .int o.2.2.2.2.2.2.2.2.2.1, .int v_up, .int o.2.2.2.2.2.2.2.2.2.2.1])), (a_disk, .inl ((k 2), 32768, .inl o.2.2.2.2.2.2.2.2.2.2.2.1)), (a_made, .inl ((k 2), 512, .inl v_made)), (a_sectorOf, .inl ((k 2), 5100, .inl o.2.2.2.2.2.2.2.2.2.2.2.2.1)), (a_placeOf, .inl ((k 2), 5100, .inl o.2.2.2.2.2.2.2.2.2.2.2.2.2.1)), (a_manyOf, .inl ((k 2), 5100, .inl o.2.2.2.2.2.2.2.2.2.2.2.2.2.2.1)), (a_there, .inl ((k 1), 5100, .inl o.2.2.2.2.2.2.2.2.2.2.2.2.2.2.2)), (a_waitKind, .inl ((k 2), 100, .inl v_waitKind)), (a_waitMany, .inl ((k 2), 100, .inl v_waitMany)), (a_waitBytes, .inl ((k 3), 100, .inr (.inl v_waitBytes)))] (va_A [(h0, .inr (6, [.int v_thrown, .int v_sectors, .int v_power, .ref a_disk, .ref a_made, .int v_used, .int v_reserve, .int v_cutWrites, .int v_cutBytes, .int v_rows, .ref a_sectorOf, .ref a_placeOf, .ref a_manyOf, .ref a_there, .int v_waits, .ref a_waitKind, .ref a_waitMany, .ref a_waitBytes, .int v_stateNumber, .long v_stateNow, .int v_second, .int v_repaired, .int v_up, .int v_sent])), (a_disk, .inl ((k 2), 32768, .inl v_disk)), (a_made, .inl ((k 2), 512, .inl v_made)), (a_sectorOf, .inl ((k 2), 5100, .inl v_sectorOf)), (a_placeOf, .inl ((k 2), 5100, .inl v_placeOf)), (a_manyOf, .inl ((k 2), 5100, .inl v_manyOf)), (a_there, .inl ((k 1), 5100, .inl v_there)), (a_waitKind, .inl ((k 2), 100, .inl v_waitKind)), (a_waitMany, .inl ((k 2), 100, .inl v_waitMany)), (a_waitBytes, .inl ((k 3), 100, .inr (.inl v_waitBytes)))] sz)) 0 0 (va_A [(h0, .inr (6, [.int v_thrown, .int v_sectors, .int v_power, .ref a_disk, .ref a_made, .int v_used, .int v_reserve, .int v_cutWrites, .int v_cutBytes, .int v_rows, .ref a_sectorOf, .ref a_placeOf, .ref a_manyOf, .ref a_there, .int v_waits, .ref a_waitKind, .ref a_waitMany, .ref a_waitBytes, .int v_stateNumber, .long v_stateNow, .int v_second, .int v_repaired, .int v_up, .int v_sent])), (a_disk, .inl ((k 2), 32768, .inl v_disk)), (a_made, .inl ((k 2), 512, .inl v_made)), (a_sectorOf, .inl ((k 2), 5100, .inl v_sectorOf)), (a_placeOf, .inl ((k 2), 5100, .inl v_placeOf)), (a_manyOf, .inl ((k 2), 5100, .inl v_manyOf)), (a_there, .inl ((k 1), 5100, .inl v_there)), (a_waitKind, .inl ((k 2), 100, .inl v_waitKind)), (a_waitMany, .inl ((k 2), 100, .inl v_waitMany)), (a_waitBytes, .inl ((k 3), 100, .inr (.inl v_waitBytes)))] sz) := by
  unfold fX6_start at h
  refine dk_ofW (Qc := fun A => dk_Qi o.1 D [(h0, .inr (6, [.int o.2.1, .int v_sectors, .int o.2.2.1, .ref a_disk, .ref a_made, .int o.2.2.2.1, .int v_reserve, .int o.2.2.2.2.1, .int v_cutBytes, .int o.2.2.2.2.2.1, .ref a_sectorOf, .ref a_placeOf, .ref a_manyOf, .ref a_there, .int o.2.2.2.2.2.2.1, .ref a_waitKind, .ref a_waitMany, .ref a_waitBytes, .int o.2.2.2.2.2.2.2.1, .long o.2.2.2.2.2.2.2.2.1, .int v_second, .int o.2.2.2.2.2.2.2.2.2.1, .int v_up, .int o.2.2.2.2.2.2.2.2.2.2.1])), (a_disk, .inl ((k 2), 32768, .inl o.2.2.2.2.2.2.2.2.2.2.2.1)), (a_made, .inl ((k 2), 512, .inl v_made)), (a_sectorOf, .inl ((k 2), 5100, .inl o.2.2.2.2.2.2.2.2.2.2.2.2.1)), (a_placeOf, .inl ((k 2), 5100, .inl o.2.2.2.2.2.2.2.2.2.2.2.2.2.1)), (a_manyOf, .inl ((k 2), 5100, .inl o.2.2.2.2.2.2.2.2.2.2.2.2.2.2.1)), (a_there, .inl ((k 1), 5100, .inl o.2.2.2.2.2.2.2.2.2.2.2.2.2.2.2)), (a_waitKind, .inl ((k 2), 100, .inl v_waitKind)), (a_waitMany, .inl ((k 2), 100, .inl v_waitMany)), (a_waitBytes, .inl ((k 3), 100, .inr (.inl v_waitBytes)))] A) (cc := cX6_start) (maxL := 5) (ret := (some .int)) (lv := [(0, .ref h0)]) (by decide) rfl (Nat.le_of_ble_eq_true rfl) rfl ?_
  intro p e s m below meth c C hK hN hP A hA hD hS ls hl
  obtain ⟨hx, hb, hr, hml, hown, hts, hlocks⟩ := id C
  refine lv_aload_n hx hb dX6_start_0 rfl (lv_at hl 0 rfl) ?_
  refine lv_aload_n hx hb dX6_start_1 rfl (lv_at hl 0 rfl) ?_
  refine va_get (D := D) (ci := 6) (v := .int v_sectors) (C := "ServiceDiskModel") (T := TX6) (N := 24) hx hb hts inX6 hown hK hP 0 rfl rfl 1 (by decide) (hts _ w_738) (fun _ h9 => h9) rfl dX6_start_2 ?_
  refine dk_jn (F0 m 13 ls [.int (if v_sectors = 0 then 1 else 0), .ref h0]) (fun K => ?_) ?_
  · refine lv_if_ne (tgt := 12) hx hb dX6_start_5 (by decide) (fun q1 => ?_) (fun q1 => ?_)
    · refine lv_iconst (v := 0) hx hb dX6_start_12 (by decide) ?_
      have K := K
      rw [if_neg q1] at K
      exact K
    · refine lv_iconst (v := 1) hx hb dX6_start_8 (by decide) ?_
      refine lv_goto (tgt := 13) hx hb dX6_start_9 (by decide) ?_
      have K := K
      rw [if_pos q1] at K
      exact K
  refine lv_iconst (v := 0) hx hb dX6_start_13 (by decide) ?_
  refine lv_iconst (v := 0) hx hb dX6_start_14 (by decide) ?_
  refine lv_iconst (v := 0) hx hb dX6_start_15 (by decide) ?_
  replace h := dk_b h
  obtain ⟨o1, e1, h⟩ := h
  refine dk_cwi (wr := []) (va_runV (As := [.int (if v_sectors = 0 then 1 else 0), .int 0, .int 0, .int 0]) (rest := []) ⟨hx, hb, hml, hown, hts⟩ (mX6_throwing l D k h0 a_disk a_made a_sectorOf a_placeOf a_manyOf a_there a_waitKind a_waitMany a_waitBytes s.heap.size v_thrown v_sectors v_power v_used v_reserve v_cutWrites v_cutBytes v_rows v_waits v_stateNumber v_stateNow v_second v_repaired v_up v_sent v_disk v_made v_sectorOf v_placeOf v_manyOf v_there v_waitKind v_waitMany v_waitBytes (if v_sectors = 0 then 1 else 0) 0 0 0 o1 e1) (cwV 4 hts (dk_gV w_821 w_823 w_20 w_46 w_824) rfl rfl rfl (by decide +kernel) ⟨Nat.le_of_ble_eq_true rfl, Nat.le_of_ble_eq_true rfl⟩) (dk_pvw hK hN hP hD [0, 1, 2, 3, 4, 5, 6, 7, 8, 9] rfl rfl rfl rfl (hP.sub [0, 1, 2, 3, 4, 5, 6, 7, 8, 9] rfl)) rfl rfl hl.1 rfl (lv_room (Nat.le_of_ble_eq_true rfl)) dX6_start_16 ⟨Nat.le_of_ble_eq_true rfl, Nat.le_of_ble_eq_true rfl⟩) hP hD hS hA [0, 1, 2, 3, 4, 5, 6, 7, 8, 9] [] rfl rfl rfl (by decide) (fun H locs hP hD hS => ?_)
  have hP : va_P D vwCl [(h0, .inr (6, [.int o1.2, .int v_sectors, .int v_power, .ref a_disk, .ref a_made, .int v_used, .int v_reserve, .int v_cutWrites, .int v_cutBytes, .int v_rows, .ref a_sectorOf, .ref a_placeOf, .ref a_manyOf, .ref a_there, .int v_waits, .ref a_waitKind, .ref a_waitMany, .ref a_waitBytes, .int v_stateNumber, .long v_stateNow, .int v_second, .int v_repaired, .int v_up, .int v_sent])), (a_disk, .inl ((k 2), 32768, .inl v_disk)), (a_made, .inl ((k 2), 512, .inl v_made)), (a_sectorOf, .inl ((k 2), 5100, .inl v_sectorOf)), (a_placeOf, .inl ((k 2), 5100, .inl v_placeOf)), (a_manyOf, .inl ((k 2), 5100, .inl v_manyOf)), (a_there, .inl ((k 1), 5100, .inl v_there)), (a_waitKind, .inl ((k 2), 100, .inl v_waitKind)), (a_waitMany, .inl ((k 2), 100, .inl v_waitMany)), (a_waitBytes, .inl ((k 3), 100, .inr (.inl v_waitBytes)))] H := hP
  have hD : va_D A [(h0, .inr (6, [.int o1.2, .int v_sectors, .int v_power, .ref a_disk, .ref a_made, .int v_used, .int v_reserve, .int v_cutWrites, .int v_cutBytes, .int v_rows, .ref a_sectorOf, .ref a_placeOf, .ref a_manyOf, .ref a_there, .int v_waits, .ref a_waitKind, .ref a_waitMany, .ref a_waitBytes, .int v_stateNumber, .long v_stateNow, .int v_second, .int v_repaired, .int v_up, .int v_sent])), (a_disk, .inl ((k 2), 32768, .inl v_disk)), (a_made, .inl ((k 2), 512, .inl v_made)), (a_sectorOf, .inl ((k 2), 5100, .inl v_sectorOf)), (a_placeOf, .inl ((k 2), 5100, .inl v_placeOf)), (a_manyOf, .inl ((k 2), 5100, .inl v_manyOf)), (a_there, .inl ((k 1), 5100, .inl v_there)), (a_waitKind, .inl ((k 2), 100, .inl v_waitKind)), (a_waitMany, .inl ((k 2), 100, .inl v_waitMany)), (a_waitBytes, .inl ((k 3), 100, .inr (.inl v_waitBytes)))] := hD
  refine lv_if_eq (tgt := 24) hx hb dX6_start_19 (by decide) (fun q => ?_) (fun q => ?_)
  · replace h := dk_t q h
    refine lv_aload_n hx hb dX6_start_24 rfl (lv_at hl 0 rfl) ?_
    refine lv_iconst (v := 1) hx hb dX6_start_25 (by decide) ?_
    refine va_put (D := D) (ci := 6) (v := .int 1) (ty := .boolean) (C := "ServiceDiskModel") (T := TX6) (N := 24) hx hb hts inX6 tyX6 tyX6_ok nmX6 hown hK hP hD hS 0 rfl rfl 2 (by decide) (hts _ w_739) (fun _ h9 => h9) rfl (by decide +kernel) rfl rfl (Nat.le_of_ble_eq_true rfl) dX6_start_26 (fun H locs hP hD hS => ?_)
    have hP : va_P D vwCl [(h0, .inr (6, [.int o1.2, .int v_sectors, .int 1, .ref a_disk, .ref a_made, .int v_used, .int v_reserve, .int v_cutWrites, .int v_cutBytes, .int v_rows, .ref a_sectorOf, .ref a_placeOf, .ref a_manyOf, .ref a_there, .int v_waits, .ref a_waitKind, .ref a_waitMany, .ref a_waitBytes, .int v_stateNumber, .long v_stateNow, .int v_second, .int v_repaired, .int v_up, .int v_sent])), (a_disk, .inl ((k 2), 32768, .inl v_disk)), (a_made, .inl ((k 2), 512, .inl v_made)), (a_sectorOf, .inl ((k 2), 5100, .inl v_sectorOf)), (a_placeOf, .inl ((k 2), 5100, .inl v_placeOf)), (a_manyOf, .inl ((k 2), 5100, .inl v_manyOf)), (a_there, .inl ((k 1), 5100, .inl v_there)), (a_waitKind, .inl ((k 2), 100, .inl v_waitKind)), (a_waitMany, .inl ((k 2), 100, .inl v_waitMany)), (a_waitBytes, .inl ((k 3), 100, .inr (.inl v_waitBytes)))] H := hP
    have hD : va_D A [(h0, .inr (6, [.int o1.2, .int v_sectors, .int 1, .ref a_disk, .ref a_made, .int v_used, .int v_reserve, .int v_cutWrites, .int v_cutBytes, .int v_rows, .ref a_sectorOf, .ref a_placeOf, .ref a_manyOf, .ref a_there, .int v_waits, .ref a_waitKind, .ref a_waitMany, .ref a_waitBytes, .int v_stateNumber, .long v_stateNow, .int v_second, .int v_repaired, .int v_up, .int v_sent])), (a_disk, .inl ((k 2), 32768, .inl v_disk)), (a_made, .inl ((k 2), 512, .inl v_made)), (a_sectorOf, .inl ((k 2), 5100, .inl v_sectorOf)), (a_placeOf, .inl ((k 2), 5100, .inl v_placeOf)), (a_manyOf, .inl ((k 2), 5100, .inl v_manyOf)), (a_there, .inl ((k 1), 5100, .inl v_there)), (a_waitKind, .inl ((k 2), 100, .inl v_waitKind)), (a_waitMany, .inl ((k 2), 100, .inl v_waitMany)), (a_waitBytes, .inl ((k 3), 100, .inr (.inl v_waitBytes)))] := hD
    refine lv_aload_n hx hb dX6_start_29 rfl (lv_at hl 0 rfl) ?_
    refine lv_iconst (v := -1) hx hb dX6_start_30 (by decide) ?_
    refine va_put (D := D) (ci := 6) (v := .int (-1)) (ty := .int) (C := "ServiceDiskModel") (T := TX6) (N := 24) hx hb hts inX6 tyX6 tyX6_ok nmX6 hown hK hP hD hS 0 rfl rfl 7 (by decide) (hts _ w_744) (fun _ h9 => h9) rfl (by decide +kernel) rfl rfl (Nat.le_of_ble_eq_true rfl) dX6_start_31 (fun H locs hP hD hS => ?_)
    have hP : va_P D vwCl [(h0, .inr (6, [.int o1.2, .int v_sectors, .int 1, .ref a_disk, .ref a_made, .int v_used, .int v_reserve, .int (-1), .int v_cutBytes, .int v_rows, .ref a_sectorOf, .ref a_placeOf, .ref a_manyOf, .ref a_there, .int v_waits, .ref a_waitKind, .ref a_waitMany, .ref a_waitBytes, .int v_stateNumber, .long v_stateNow, .int v_second, .int v_repaired, .int v_up, .int v_sent])), (a_disk, .inl ((k 2), 32768, .inl v_disk)), (a_made, .inl ((k 2), 512, .inl v_made)), (a_sectorOf, .inl ((k 2), 5100, .inl v_sectorOf)), (a_placeOf, .inl ((k 2), 5100, .inl v_placeOf)), (a_manyOf, .inl ((k 2), 5100, .inl v_manyOf)), (a_there, .inl ((k 1), 5100, .inl v_there)), (a_waitKind, .inl ((k 2), 100, .inl v_waitKind)), (a_waitMany, .inl ((k 2), 100, .inl v_waitMany)), (a_waitBytes, .inl ((k 3), 100, .inr (.inl v_waitBytes)))] H := hP
    have hD : va_D A [(h0, .inr (6, [.int o1.2, .int v_sectors, .int 1, .ref a_disk, .ref a_made, .int v_used, .int v_reserve, .int (-1), .int v_cutBytes, .int v_rows, .ref a_sectorOf, .ref a_placeOf, .ref a_manyOf, .ref a_there, .int v_waits, .ref a_waitKind, .ref a_waitMany, .ref a_waitBytes, .int v_stateNumber, .long v_stateNow, .int v_second, .int v_repaired, .int v_up, .int v_sent])), (a_disk, .inl ((k 2), 32768, .inl v_disk)), (a_made, .inl ((k 2), 512, .inl v_made)), (a_sectorOf, .inl ((k 2), 5100, .inl v_sectorOf)), (a_placeOf, .inl ((k 2), 5100, .inl v_placeOf)), (a_manyOf, .inl ((k 2), 5100, .inl v_manyOf)), (a_there, .inl ((k 1), 5100, .inl v_there)), (a_waitKind, .inl ((k 2), 100, .inl v_waitKind)), (a_waitMany, .inl ((k 2), 100, .inl v_waitMany)), (a_waitBytes, .inl ((k 3), 100, .inr (.inl v_waitBytes)))] := hD
    refine lv_aload_n hx hb dX6_start_34 rfl (lv_at hl 0 rfl) ?_
    refine lv_iconst (v := 0) hx hb dX6_start_35 (by decide) ?_
    refine va_put (D := D) (ci := 6) (v := .int 0) (ty := .int) (C := "ServiceDiskModel") (T := TX6) (N := 24) hx hb hts inX6 tyX6 tyX6_ok nmX6 hown hK hP hD hS 0 rfl rfl 14 (by decide) (hts _ w_751) (fun _ h9 => h9) rfl (by decide +kernel) rfl rfl (Nat.le_of_ble_eq_true rfl) dX6_start_36 (fun H locs hP hD hS => ?_)
    have hP : va_P D vwCl [(h0, .inr (6, [.int o1.2, .int v_sectors, .int 1, .ref a_disk, .ref a_made, .int v_used, .int v_reserve, .int (-1), .int v_cutBytes, .int v_rows, .ref a_sectorOf, .ref a_placeOf, .ref a_manyOf, .ref a_there, .int 0, .ref a_waitKind, .ref a_waitMany, .ref a_waitBytes, .int v_stateNumber, .long v_stateNow, .int v_second, .int v_repaired, .int v_up, .int v_sent])), (a_disk, .inl ((k 2), 32768, .inl v_disk)), (a_made, .inl ((k 2), 512, .inl v_made)), (a_sectorOf, .inl ((k 2), 5100, .inl v_sectorOf)), (a_placeOf, .inl ((k 2), 5100, .inl v_placeOf)), (a_manyOf, .inl ((k 2), 5100, .inl v_manyOf)), (a_there, .inl ((k 1), 5100, .inl v_there)), (a_waitKind, .inl ((k 2), 100, .inl v_waitKind)), (a_waitMany, .inl ((k 2), 100, .inl v_waitMany)), (a_waitBytes, .inl ((k 3), 100, .inr (.inl v_waitBytes)))] H := hP
    have hD : va_D A [(h0, .inr (6, [.int o1.2, .int v_sectors, .int 1, .ref a_disk, .ref a_made, .int v_used, .int v_reserve, .int (-1), .int v_cutBytes, .int v_rows, .ref a_sectorOf, .ref a_placeOf, .ref a_manyOf, .ref a_there, .int 0, .ref a_waitKind, .ref a_waitMany, .ref a_waitBytes, .int v_stateNumber, .long v_stateNow, .int v_second, .int v_repaired, .int v_up, .int v_sent])), (a_disk, .inl ((k 2), 32768, .inl v_disk)), (a_made, .inl ((k 2), 512, .inl v_made)), (a_sectorOf, .inl ((k 2), 5100, .inl v_sectorOf)), (a_placeOf, .inl ((k 2), 5100, .inl v_placeOf)), (a_manyOf, .inl ((k 2), 5100, .inl v_manyOf)), (a_there, .inl ((k 1), 5100, .inl v_there)), (a_waitKind, .inl ((k 2), 100, .inl v_waitKind)), (a_waitMany, .inl ((k 2), 100, .inl v_waitMany)), (a_waitBytes, .inl ((k 3), 100, .inr (.inl v_waitBytes)))] := hD
    refine lv_aload_n hx hb dX6_start_39 rfl (lv_at hl 0 rfl) ?_
    refine lv_iconst (v := 0) hx hb dX6_start_40 (by decide) ?_
    refine va_put (D := D) (ci := 6) (v := .int 0) (ty := .int) (C := "ServiceDiskModel") (T := TX6) (N := 24) hx hb hts inX6 tyX6 tyX6_ok nmX6 hown hK hP hD hS 0 rfl rfl 9 (by decide) (hts _ w_746) (fun _ h9 => h9) rfl (by decide +kernel) rfl rfl (Nat.le_of_ble_eq_true rfl) dX6_start_41 (fun H locs hP hD hS => ?_)
    have hP : va_P D vwCl [(h0, .inr (6, [.int o1.2, .int v_sectors, .int 1, .ref a_disk, .ref a_made, .int v_used, .int v_reserve, .int (-1), .int v_cutBytes, .int 0, .ref a_sectorOf, .ref a_placeOf, .ref a_manyOf, .ref a_there, .int 0, .ref a_waitKind, .ref a_waitMany, .ref a_waitBytes, .int v_stateNumber, .long v_stateNow, .int v_second, .int v_repaired, .int v_up, .int v_sent])), (a_disk, .inl ((k 2), 32768, .inl v_disk)), (a_made, .inl ((k 2), 512, .inl v_made)), (a_sectorOf, .inl ((k 2), 5100, .inl v_sectorOf)), (a_placeOf, .inl ((k 2), 5100, .inl v_placeOf)), (a_manyOf, .inl ((k 2), 5100, .inl v_manyOf)), (a_there, .inl ((k 1), 5100, .inl v_there)), (a_waitKind, .inl ((k 2), 100, .inl v_waitKind)), (a_waitMany, .inl ((k 2), 100, .inl v_waitMany)), (a_waitBytes, .inl ((k 3), 100, .inr (.inl v_waitBytes)))] H := hP
    have hD : va_D A [(h0, .inr (6, [.int o1.2, .int v_sectors, .int 1, .ref a_disk, .ref a_made, .int v_used, .int v_reserve, .int (-1), .int v_cutBytes, .int 0, .ref a_sectorOf, .ref a_placeOf, .ref a_manyOf, .ref a_there, .int 0, .ref a_waitKind, .ref a_waitMany, .ref a_waitBytes, .int v_stateNumber, .long v_stateNow, .int v_second, .int v_repaired, .int v_up, .int v_sent])), (a_disk, .inl ((k 2), 32768, .inl v_disk)), (a_made, .inl ((k 2), 512, .inl v_made)), (a_sectorOf, .inl ((k 2), 5100, .inl v_sectorOf)), (a_placeOf, .inl ((k 2), 5100, .inl v_placeOf)), (a_manyOf, .inl ((k 2), 5100, .inl v_manyOf)), (a_there, .inl ((k 1), 5100, .inl v_there)), (a_waitKind, .inl ((k 2), 100, .inl v_waitKind)), (a_waitMany, .inl ((k 2), 100, .inl v_waitMany)), (a_waitBytes, .inl ((k 3), 100, .inr (.inl v_waitBytes)))] := hD
    refine lv_aload_n hx hb dX6_start_44 rfl (lv_at hl 0 rfl) ?_
    refine lv_iconst (v := 0) hx hb dX6_start_45 (by decide) ?_
    refine va_put (D := D) (ci := 6) (v := .int 0) (ty := .int) (C := "ServiceDiskModel") (T := TX6) (N := 24) hx hb hts inX6 tyX6 tyX6_ok nmX6 hown hK hP hD hS 0 rfl rfl 5 (by decide) (hts _ w_742) (fun _ h9 => h9) rfl (by decide +kernel) rfl rfl (Nat.le_of_ble_eq_true rfl) dX6_start_46 (fun H locs hP hD hS => ?_)
    have hP : va_P D vwCl [(h0, .inr (6, [.int o1.2, .int v_sectors, .int 1, .ref a_disk, .ref a_made, .int 0, .int v_reserve, .int (-1), .int v_cutBytes, .int 0, .ref a_sectorOf, .ref a_placeOf, .ref a_manyOf, .ref a_there, .int 0, .ref a_waitKind, .ref a_waitMany, .ref a_waitBytes, .int v_stateNumber, .long v_stateNow, .int v_second, .int v_repaired, .int v_up, .int v_sent])), (a_disk, .inl ((k 2), 32768, .inl v_disk)), (a_made, .inl ((k 2), 512, .inl v_made)), (a_sectorOf, .inl ((k 2), 5100, .inl v_sectorOf)), (a_placeOf, .inl ((k 2), 5100, .inl v_placeOf)), (a_manyOf, .inl ((k 2), 5100, .inl v_manyOf)), (a_there, .inl ((k 1), 5100, .inl v_there)), (a_waitKind, .inl ((k 2), 100, .inl v_waitKind)), (a_waitMany, .inl ((k 2), 100, .inl v_waitMany)), (a_waitBytes, .inl ((k 3), 100, .inr (.inl v_waitBytes)))] H := hP
    have hD : va_D A [(h0, .inr (6, [.int o1.2, .int v_sectors, .int 1, .ref a_disk, .ref a_made, .int 0, .int v_reserve, .int (-1), .int v_cutBytes, .int 0, .ref a_sectorOf, .ref a_placeOf, .ref a_manyOf, .ref a_there, .int 0, .ref a_waitKind, .ref a_waitMany, .ref a_waitBytes, .int v_stateNumber, .long v_stateNow, .int v_second, .int v_repaired, .int v_up, .int v_sent])), (a_disk, .inl ((k 2), 32768, .inl v_disk)), (a_made, .inl ((k 2), 512, .inl v_made)), (a_sectorOf, .inl ((k 2), 5100, .inl v_sectorOf)), (a_placeOf, .inl ((k 2), 5100, .inl v_placeOf)), (a_manyOf, .inl ((k 2), 5100, .inl v_manyOf)), (a_there, .inl ((k 1), 5100, .inl v_there)), (a_waitKind, .inl ((k 2), 100, .inl v_waitKind)), (a_waitMany, .inl ((k 2), 100, .inl v_waitMany)), (a_waitBytes, .inl ((k 3), 100, .inr (.inl v_waitBytes)))] := hD
    replace h := dk_b h
    obtain ⟨o2, e2, h⟩ := h
    refine lX6_start_49 C hK hN hA _ 0 0 v_repaired v_disk v_sectorOf v_placeOf v_manyOf  e2 (fun H locs hP hD hS ls hl => ?_) _ _ (hP.sub [0, 1, 2, 3, 4, 5, 6, 7, 8, 9] rfl) (hD.sub [0, 1, 2, 3, 4, 5, 6, 7, 8, 9] (by decide) rfl) hS ls (lv_sub hl [0] rfl)
    have hP : va_P D vwCl [(h0, .inr (6, [.int o1.2, .int v_sectors, .int 1, .ref a_disk, .ref a_made, .int o2.1, .int v_reserve, .int (-1), .int v_cutBytes, .int o2.2.1, .ref a_sectorOf, .ref a_placeOf, .ref a_manyOf, .ref a_there, .int 0, .ref a_waitKind, .ref a_waitMany, .ref a_waitBytes, .int v_stateNumber, .long v_stateNow, .int v_second, .int o2.2.2.1, .int v_up, .int v_sent])), (a_disk, .inl ((k 2), 32768, .inl o2.2.2.2.1)), (a_made, .inl ((k 2), 512, .inl v_made)), (a_sectorOf, .inl ((k 2), 5100, .inl o2.2.2.2.2.1)), (a_placeOf, .inl ((k 2), 5100, .inl o2.2.2.2.2.2.1)), (a_manyOf, .inl ((k 2), 5100, .inl o2.2.2.2.2.2.2)), (a_there, .inl ((k 1), 5100, .inl v_there)), (a_waitKind, .inl ((k 2), 100, .inl v_waitKind)), (a_waitMany, .inl ((k 2), 100, .inl v_waitMany)), (a_waitBytes, .inl ((k 3), 100, .inr (.inl v_waitBytes)))] H := hP
    have hD : va_D A [(h0, .inr (6, [.int o1.2, .int v_sectors, .int 1, .ref a_disk, .ref a_made, .int o2.1, .int v_reserve, .int (-1), .int v_cutBytes, .int o2.2.1, .ref a_sectorOf, .ref a_placeOf, .ref a_manyOf, .ref a_there, .int 0, .ref a_waitKind, .ref a_waitMany, .ref a_waitBytes, .int v_stateNumber, .long v_stateNow, .int v_second, .int o2.2.2.1, .int v_up, .int v_sent])), (a_disk, .inl ((k 2), 32768, .inl o2.2.2.2.1)), (a_made, .inl ((k 2), 512, .inl v_made)), (a_sectorOf, .inl ((k 2), 5100, .inl o2.2.2.2.2.1)), (a_placeOf, .inl ((k 2), 5100, .inl o2.2.2.2.2.2.1)), (a_manyOf, .inl ((k 2), 5100, .inl o2.2.2.2.2.2.2)), (a_there, .inl ((k 1), 5100, .inl v_there)), (a_waitKind, .inl ((k 2), 100, .inl v_waitKind)), (a_waitMany, .inl ((k 2), 100, .inl v_waitMany)), (a_waitBytes, .inl ((k 3), 100, .inr (.inl v_waitBytes)))] := hD
    have hl : lv_has ls 5 [(0, .ref h0)] := hl
    refine lv_aload_n hx hb dX6_start_186 rfl (lv_at hl 0 rfl) ?_
    refine lv_iconst (v := 0) hx hb dX6_start_187 (by decide) ?_
    refine va_put (D := D) (ci := 6) (v := .int 0) (ty := .int) (C := "ServiceDiskModel") (T := TX6) (N := 24) hx hb hts inX6 tyX6 tyX6_ok nmX6 hown hK hP hD hS 0 rfl rfl 18 (by decide) (hts _ w_755) (fun _ h9 => h9) rfl (by decide +kernel) rfl rfl (Nat.le_of_ble_eq_true rfl) dX6_start_188 (fun H locs hP hD hS => ?_)
    have hP : va_P D vwCl [(h0, .inr (6, [.int o1.2, .int v_sectors, .int 1, .ref a_disk, .ref a_made, .int o2.1, .int v_reserve, .int (-1), .int v_cutBytes, .int o2.2.1, .ref a_sectorOf, .ref a_placeOf, .ref a_manyOf, .ref a_there, .int 0, .ref a_waitKind, .ref a_waitMany, .ref a_waitBytes, .int 0, .long v_stateNow, .int v_second, .int o2.2.2.1, .int v_up, .int v_sent])), (a_disk, .inl ((k 2), 32768, .inl o2.2.2.2.1)), (a_made, .inl ((k 2), 512, .inl v_made)), (a_sectorOf, .inl ((k 2), 5100, .inl o2.2.2.2.2.1)), (a_placeOf, .inl ((k 2), 5100, .inl o2.2.2.2.2.2.1)), (a_manyOf, .inl ((k 2), 5100, .inl o2.2.2.2.2.2.2)), (a_there, .inl ((k 1), 5100, .inl v_there)), (a_waitKind, .inl ((k 2), 100, .inl v_waitKind)), (a_waitMany, .inl ((k 2), 100, .inl v_waitMany)), (a_waitBytes, .inl ((k 3), 100, .inr (.inl v_waitBytes)))] H := hP
    have hD : va_D A [(h0, .inr (6, [.int o1.2, .int v_sectors, .int 1, .ref a_disk, .ref a_made, .int o2.1, .int v_reserve, .int (-1), .int v_cutBytes, .int o2.2.1, .ref a_sectorOf, .ref a_placeOf, .ref a_manyOf, .ref a_there, .int 0, .ref a_waitKind, .ref a_waitMany, .ref a_waitBytes, .int 0, .long v_stateNow, .int v_second, .int o2.2.2.1, .int v_up, .int v_sent])), (a_disk, .inl ((k 2), 32768, .inl o2.2.2.2.1)), (a_made, .inl ((k 2), 512, .inl v_made)), (a_sectorOf, .inl ((k 2), 5100, .inl o2.2.2.2.2.1)), (a_placeOf, .inl ((k 2), 5100, .inl o2.2.2.2.2.2.1)), (a_manyOf, .inl ((k 2), 5100, .inl o2.2.2.2.2.2.2)), (a_there, .inl ((k 1), 5100, .inl v_there)), (a_waitKind, .inl ((k 2), 100, .inl v_waitKind)), (a_waitMany, .inl ((k 2), 100, .inl v_waitMany)), (a_waitBytes, .inl ((k 3), 100, .inr (.inl v_waitBytes)))] := hD
    refine lv_aload_n hx hb dX6_start_191 rfl (lv_at hl 0 rfl) ?_
    refine lv_lconst (v := 0) hx hb dX6_start_192 (by decide) ?_
    refine va_put (D := D) (ci := 6) (v := .long 0) (ty := .long) (C := "ServiceDiskModel") (T := TX6) (N := 24) hx hb hts inX6 tyX6 tyX6_ok nmX6 hown hK hP hD hS 0 rfl rfl 19 (by decide) (hts _ w_756) (fun _ h9 => h9) rfl (by decide +kernel) rfl rfl (Nat.le_of_ble_eq_true rfl) dX6_start_193 (fun H locs hP hD hS => ?_)
    have hP : va_P D vwCl [(h0, .inr (6, [.int o1.2, .int v_sectors, .int 1, .ref a_disk, .ref a_made, .int o2.1, .int v_reserve, .int (-1), .int v_cutBytes, .int o2.2.1, .ref a_sectorOf, .ref a_placeOf, .ref a_manyOf, .ref a_there, .int 0, .ref a_waitKind, .ref a_waitMany, .ref a_waitBytes, .int 0, .long 0, .int v_second, .int o2.2.2.1, .int v_up, .int v_sent])), (a_disk, .inl ((k 2), 32768, .inl o2.2.2.2.1)), (a_made, .inl ((k 2), 512, .inl v_made)), (a_sectorOf, .inl ((k 2), 5100, .inl o2.2.2.2.2.1)), (a_placeOf, .inl ((k 2), 5100, .inl o2.2.2.2.2.2.1)), (a_manyOf, .inl ((k 2), 5100, .inl o2.2.2.2.2.2.2)), (a_there, .inl ((k 1), 5100, .inl v_there)), (a_waitKind, .inl ((k 2), 100, .inl v_waitKind)), (a_waitMany, .inl ((k 2), 100, .inl v_waitMany)), (a_waitBytes, .inl ((k 3), 100, .inr (.inl v_waitBytes)))] H := hP
    have hD : va_D A [(h0, .inr (6, [.int o1.2, .int v_sectors, .int 1, .ref a_disk, .ref a_made, .int o2.1, .int v_reserve, .int (-1), .int v_cutBytes, .int o2.2.1, .ref a_sectorOf, .ref a_placeOf, .ref a_manyOf, .ref a_there, .int 0, .ref a_waitKind, .ref a_waitMany, .ref a_waitBytes, .int 0, .long 0, .int v_second, .int o2.2.2.1, .int v_up, .int v_sent])), (a_disk, .inl ((k 2), 32768, .inl o2.2.2.2.1)), (a_made, .inl ((k 2), 512, .inl v_made)), (a_sectorOf, .inl ((k 2), 5100, .inl o2.2.2.2.2.1)), (a_placeOf, .inl ((k 2), 5100, .inl o2.2.2.2.2.2.1)), (a_manyOf, .inl ((k 2), 5100, .inl o2.2.2.2.2.2.2)), (a_there, .inl ((k 1), 5100, .inl v_there)), (a_waitKind, .inl ((k 2), 100, .inl v_waitKind)), (a_waitMany, .inl ((k 2), 100, .inl v_waitMany)), (a_waitBytes, .inl ((k 3), 100, .inr (.inl v_waitBytes)))] := hD
    refine lv_aload_n hx hb dX6_start_196 rfl (lv_at hl 0 rfl) ?_
    refine lv_aload_n hx hb dX6_start_197 rfl (lv_at hl 0 rfl) ?_
    refine va_get (D := D) (ci := 6) (v := .int v_sectors) (C := "ServiceDiskModel") (T := TX6) (N := 24) hx hb hts inX6 hown hK hP 0 rfl rfl 1 (by decide) (hts _ w_738) (fun _ h9 => h9) rfl dX6_start_198 ?_
    refine lv_iconst (v := 2) hx hb dX6_start_201 (by decide) ?_
    refine lv_isub hx hb dX6_start_202 ?_
    replace h := dk_b h
    obtain ⟨o3, e3, h⟩ := h
    refine dk_cwv (wr := []) (va_runV (As := [.int (v_sectors - 2)]) (rest := []) ⟨hx, hb, hml, hown, hts⟩ (mX6_takeState l D k h0 a_disk a_made a_sectorOf a_placeOf a_manyOf a_there a_waitKind a_waitMany a_waitBytes H.size o1.2 v_sectors 1 o2.1 v_reserve (-1) v_cutBytes o2.2.1 0 0 0 v_second o2.2.2.1 v_up v_sent o2.2.2.2.1 v_made o2.2.2.2.2.1 o2.2.2.2.2.2.1 o2.2.2.2.2.2.2 v_there v_waitKind v_waitMany v_waitBytes (v_sectors - 2) o3 e3) (cwV 1 hts (dk_gV w_916 w_918 w_35 w_46 w_919) rfl rfl rfl (by decide +kernel) ⟨Nat.le_of_ble_eq_true rfl, Nat.le_of_ble_eq_true rfl⟩) (dk_pvw hK hN hP hD [0, 1, 2, 3, 4, 5, 6, 7, 8, 9] rfl rfl rfl rfl (hP.sub [0, 1, 2, 3, 4, 5, 6, 7, 8, 9] rfl)) rfl rfl hl.1 rfl (lv_room (Nat.le_of_ble_eq_true rfl)) dX6_start_203 ⟨Nat.le_of_ble_eq_true rfl, Nat.le_of_ble_eq_true rfl⟩) hP hD hS hA [0, 1, 2, 3, 4, 5, 6, 7, 8, 9] [] rfl rfl rfl (by decide) (fun H locs hP hD hS => ?_)
    have hP : va_P D vwCl [(h0, .inr (6, [.int o1.2, .int v_sectors, .int 1, .ref a_disk, .ref a_made, .int o2.1, .int v_reserve, .int (-1), .int v_cutBytes, .int o2.2.1, .ref a_sectorOf, .ref a_placeOf, .ref a_manyOf, .ref a_there, .int 0, .ref a_waitKind, .ref a_waitMany, .ref a_waitBytes, .int o3.1, .long o3.2.1, .int v_second, .int o3.2.2.1, .int v_up, .int v_sent])), (a_disk, .inl ((k 2), 32768, .inl o3.2.2.2)), (a_made, .inl ((k 2), 512, .inl v_made)), (a_sectorOf, .inl ((k 2), 5100, .inl o2.2.2.2.2.1)), (a_placeOf, .inl ((k 2), 5100, .inl o2.2.2.2.2.2.1)), (a_manyOf, .inl ((k 2), 5100, .inl o2.2.2.2.2.2.2)), (a_there, .inl ((k 1), 5100, .inl v_there)), (a_waitKind, .inl ((k 2), 100, .inl v_waitKind)), (a_waitMany, .inl ((k 2), 100, .inl v_waitMany)), (a_waitBytes, .inl ((k 3), 100, .inr (.inl v_waitBytes)))] H := hP
    have hD : va_D A [(h0, .inr (6, [.int o1.2, .int v_sectors, .int 1, .ref a_disk, .ref a_made, .int o2.1, .int v_reserve, .int (-1), .int v_cutBytes, .int o2.2.1, .ref a_sectorOf, .ref a_placeOf, .ref a_manyOf, .ref a_there, .int 0, .ref a_waitKind, .ref a_waitMany, .ref a_waitBytes, .int o3.1, .long o3.2.1, .int v_second, .int o3.2.2.1, .int v_up, .int v_sent])), (a_disk, .inl ((k 2), 32768, .inl o3.2.2.2)), (a_made, .inl ((k 2), 512, .inl v_made)), (a_sectorOf, .inl ((k 2), 5100, .inl o2.2.2.2.2.1)), (a_placeOf, .inl ((k 2), 5100, .inl o2.2.2.2.2.2.1)), (a_manyOf, .inl ((k 2), 5100, .inl o2.2.2.2.2.2.2)), (a_there, .inl ((k 1), 5100, .inl v_there)), (a_waitKind, .inl ((k 2), 100, .inl v_waitKind)), (a_waitMany, .inl ((k 2), 100, .inl v_waitMany)), (a_waitBytes, .inl ((k 3), 100, .inr (.inl v_waitBytes)))] := hD
    refine lv_aload_n hx hb dX6_start_206 rfl (lv_at hl 0 rfl) ?_
    refine lv_aload_n hx hb dX6_start_207 rfl (lv_at hl 0 rfl) ?_
    refine va_get (D := D) (ci := 6) (v := .int v_sectors) (C := "ServiceDiskModel") (T := TX6) (N := 24) hx hb hts inX6 hown hK hP 0 rfl rfl 1 (by decide) (hts _ w_738) (fun _ h9 => h9) rfl dX6_start_208 ?_
    refine lv_iconst (v := 1) hx hb dX6_start_211 (by decide) ?_
    refine lv_isub hx hb dX6_start_212 ?_
    replace h := dk_b h
    obtain ⟨o4, e4, h⟩ := h
    refine dk_cwv (wr := []) (va_runV (As := [.int (v_sectors - 1)]) (rest := []) ⟨hx, hb, hml, hown, hts⟩ (mX6_takeState l D k h0 a_disk a_made a_sectorOf a_placeOf a_manyOf a_there a_waitKind a_waitMany a_waitBytes H.size o1.2 v_sectors 1 o2.1 v_reserve (-1) v_cutBytes o2.2.1 0 o3.1 o3.2.1 v_second o3.2.2.1 v_up v_sent o3.2.2.2 v_made o2.2.2.2.2.1 o2.2.2.2.2.2.1 o2.2.2.2.2.2.2 v_there v_waitKind v_waitMany v_waitBytes (v_sectors - 1) o4 e4) (cwV 1 hts (dk_gV w_916 w_918 w_35 w_46 w_919) rfl rfl rfl (by decide +kernel) ⟨Nat.le_of_ble_eq_true rfl, Nat.le_of_ble_eq_true rfl⟩) (dk_pvw hK hN hP hD [0, 1, 2, 3, 4, 5, 6, 7, 8, 9] rfl rfl rfl rfl (hP.sub [0, 1, 2, 3, 4, 5, 6, 7, 8, 9] rfl)) rfl rfl hl.1 rfl (lv_room (Nat.le_of_ble_eq_true rfl)) dX6_start_213 ⟨Nat.le_of_ble_eq_true rfl, Nat.le_of_ble_eq_true rfl⟩) hP hD hS hA [0, 1, 2, 3, 4, 5, 6, 7, 8, 9] [] rfl rfl rfl (by decide) (fun H locs hP hD hS => ?_)
    have hP : va_P D vwCl [(h0, .inr (6, [.int o1.2, .int v_sectors, .int 1, .ref a_disk, .ref a_made, .int o2.1, .int v_reserve, .int (-1), .int v_cutBytes, .int o2.2.1, .ref a_sectorOf, .ref a_placeOf, .ref a_manyOf, .ref a_there, .int 0, .ref a_waitKind, .ref a_waitMany, .ref a_waitBytes, .int o4.1, .long o4.2.1, .int v_second, .int o4.2.2.1, .int v_up, .int v_sent])), (a_disk, .inl ((k 2), 32768, .inl o4.2.2.2)), (a_made, .inl ((k 2), 512, .inl v_made)), (a_sectorOf, .inl ((k 2), 5100, .inl o2.2.2.2.2.1)), (a_placeOf, .inl ((k 2), 5100, .inl o2.2.2.2.2.2.1)), (a_manyOf, .inl ((k 2), 5100, .inl o2.2.2.2.2.2.2)), (a_there, .inl ((k 1), 5100, .inl v_there)), (a_waitKind, .inl ((k 2), 100, .inl v_waitKind)), (a_waitMany, .inl ((k 2), 100, .inl v_waitMany)), (a_waitBytes, .inl ((k 3), 100, .inr (.inl v_waitBytes)))] H := hP
    have hD : va_D A [(h0, .inr (6, [.int o1.2, .int v_sectors, .int 1, .ref a_disk, .ref a_made, .int o2.1, .int v_reserve, .int (-1), .int v_cutBytes, .int o2.2.1, .ref a_sectorOf, .ref a_placeOf, .ref a_manyOf, .ref a_there, .int 0, .ref a_waitKind, .ref a_waitMany, .ref a_waitBytes, .int o4.1, .long o4.2.1, .int v_second, .int o4.2.2.1, .int v_up, .int v_sent])), (a_disk, .inl ((k 2), 32768, .inl o4.2.2.2)), (a_made, .inl ((k 2), 512, .inl v_made)), (a_sectorOf, .inl ((k 2), 5100, .inl o2.2.2.2.2.1)), (a_placeOf, .inl ((k 2), 5100, .inl o2.2.2.2.2.2.1)), (a_manyOf, .inl ((k 2), 5100, .inl o2.2.2.2.2.2.2)), (a_there, .inl ((k 1), 5100, .inl v_there)), (a_waitKind, .inl ((k 2), 100, .inl v_waitKind)), (a_waitMany, .inl ((k 2), 100, .inl v_waitMany)), (a_waitBytes, .inl ((k 3), 100, .inr (.inl v_waitBytes)))] := hD
    refine lv_aload_n hx hb dX6_start_216 rfl (lv_at hl 0 rfl) ?_
    refine lv_aload_n hx hb dX6_start_217 rfl (lv_at hl 0 rfl) ?_
    refine va_get (D := D) (ci := 6) (v := .int v_sent) (C := "ServiceDiskModel") (T := TX6) (N := 24) hx hb hts inX6 hown hK hP 0 rfl rfl 23 (by decide) (hts _ w_760) (fun _ h9 => h9) rfl dX6_start_218 ?_
    refine lv_aload_n hx hb dX6_start_221 rfl (lv_at hl 0 rfl) ?_
    refine va_get (D := D) (ci := 6) (v := .int o2.2.1) (C := "ServiceDiskModel") (T := TX6) (N := 24) hx hb hts inX6 hown hK hP 0 rfl rfl 9 (by decide) (hts _ w_746) (fun _ h9 => h9) rfl dX6_start_222 ?_
    refine dk_jn (F0 m 239 ls [.int (if o2.2.1 ≤ v_sent then o2.2.1 else v_sent), .ref h0]) (fun K => ?_) ?_
    · refine lv_icmp_ge (tgt := 235) hx hb dX6_start_225 (by decide) (fun q1 => ?_) (fun q1 => ?_)
      · refine lv_aload_n hx hb dX6_start_235 rfl (lv_at hl 0 rfl) ?_
        refine va_get (D := D) (ci := 6) (v := .int o2.2.1) (C := "ServiceDiskModel") (T := TX6) (N := 24) hx hb hts inX6 hown hK hP 0 rfl rfl 9 (by decide) (hts _ w_746) (fun _ h9 => h9) rfl dX6_start_236 ?_
        have K := K
        rw [if_pos q1] at K
        exact K
      · refine lv_aload_n hx hb dX6_start_228 rfl (lv_at hl 0 rfl) ?_
        refine va_get (D := D) (ci := 6) (v := .int v_sent) (C := "ServiceDiskModel") (T := TX6) (N := 24) hx hb hts inX6 hown hK hP 0 rfl rfl 23 (by decide) (hts _ w_760) (fun _ h9 => h9) rfl dX6_start_229 ?_
        refine lv_goto (tgt := 239) hx hb dX6_start_232 (by decide) ?_
        have K := K
        rw [if_neg q1] at K
        exact K
    refine va_put (D := D) (ci := 6) (v := .int (if o2.2.1 ≤ v_sent then o2.2.1 else v_sent)) (ty := .int) (C := "ServiceDiskModel") (T := TX6) (N := 24) hx hb hts inX6 tyX6 tyX6_ok nmX6 hown hK hP hD hS 0 rfl rfl 23 (by decide) (hts _ w_760) (fun _ h9 => h9) rfl (by decide +kernel) rfl rfl (Nat.le_of_ble_eq_true rfl) dX6_start_239 (fun H locs hP hD hS => ?_)
    have hP : va_P D vwCl [(h0, .inr (6, [.int o1.2, .int v_sectors, .int 1, .ref a_disk, .ref a_made, .int o2.1, .int v_reserve, .int (-1), .int v_cutBytes, .int o2.2.1, .ref a_sectorOf, .ref a_placeOf, .ref a_manyOf, .ref a_there, .int 0, .ref a_waitKind, .ref a_waitMany, .ref a_waitBytes, .int o4.1, .long o4.2.1, .int v_second, .int o4.2.2.1, .int v_up, .int (if o2.2.1 ≤ v_sent then o2.2.1 else v_sent)])), (a_disk, .inl ((k 2), 32768, .inl o4.2.2.2)), (a_made, .inl ((k 2), 512, .inl v_made)), (a_sectorOf, .inl ((k 2), 5100, .inl o2.2.2.2.2.1)), (a_placeOf, .inl ((k 2), 5100, .inl o2.2.2.2.2.2.1)), (a_manyOf, .inl ((k 2), 5100, .inl o2.2.2.2.2.2.2)), (a_there, .inl ((k 1), 5100, .inl v_there)), (a_waitKind, .inl ((k 2), 100, .inl v_waitKind)), (a_waitMany, .inl ((k 2), 100, .inl v_waitMany)), (a_waitBytes, .inl ((k 3), 100, .inr (.inl v_waitBytes)))] H := hP
    have hD : va_D A [(h0, .inr (6, [.int o1.2, .int v_sectors, .int 1, .ref a_disk, .ref a_made, .int o2.1, .int v_reserve, .int (-1), .int v_cutBytes, .int o2.2.1, .ref a_sectorOf, .ref a_placeOf, .ref a_manyOf, .ref a_there, .int 0, .ref a_waitKind, .ref a_waitMany, .ref a_waitBytes, .int o4.1, .long o4.2.1, .int v_second, .int o4.2.2.1, .int v_up, .int (if o2.2.1 ≤ v_sent then o2.2.1 else v_sent)])), (a_disk, .inl ((k 2), 32768, .inl o4.2.2.2)), (a_made, .inl ((k 2), 512, .inl v_made)), (a_sectorOf, .inl ((k 2), 5100, .inl o2.2.2.2.2.1)), (a_placeOf, .inl ((k 2), 5100, .inl o2.2.2.2.2.2.1)), (a_manyOf, .inl ((k 2), 5100, .inl o2.2.2.2.2.2.2)), (a_there, .inl ((k 1), 5100, .inl v_there)), (a_waitKind, .inl ((k 2), 100, .inl v_waitKind)), (a_waitMany, .inl ((k 2), 100, .inl v_waitMany)), (a_waitBytes, .inl ((k 3), 100, .inr (.inl v_waitBytes)))] := hD
    refine lv_aload_n hx hb dX6_start_242 rfl (lv_at hl 0 rfl) ?_
    refine va_get (D := D) (ci := 6) (v := .int o2.2.1) (C := "ServiceDiskModel") (T := TX6) (N := 24) hx hb hts inX6 hown hK hP 0 rfl rfl 9 (by decide) (hts _ w_746) (fun _ h9 => h9) rfl dX6_start_243 ?_
    refine lv_istore_n (lv' := [(1, .int o2.2.1), (0, .ref h0)]) hx hb dX6_start_246 rfl hl (by decide) rfl (fun ls hl => ?_)
    replace h := dk_b h
    obtain ⟨o5, e5, h⟩ := h
    refine lX6_start_247 C hK hN hA _ o2.2.1 v_there  e5 (fun H locs hP hD hS ls hl => ?_) _ _ (hP.sub [0, 1, 2, 3, 4, 5, 6, 7, 8, 9] rfl) (hD.sub [0, 1, 2, 3, 4, 5, 6, 7, 8, 9] (by decide) rfl) hS ls (lv_sub hl [1, 0] rfl)
    have hP : va_P D vwCl [(h0, .inr (6, [.int o1.2, .int v_sectors, .int 1, .ref a_disk, .ref a_made, .int o2.1, .int v_reserve, .int (-1), .int v_cutBytes, .int o2.2.1, .ref a_sectorOf, .ref a_placeOf, .ref a_manyOf, .ref a_there, .int 0, .ref a_waitKind, .ref a_waitMany, .ref a_waitBytes, .int o4.1, .long o4.2.1, .int v_second, .int o4.2.2.1, .int v_up, .int (if o2.2.1 ≤ v_sent then o2.2.1 else v_sent)])), (a_disk, .inl ((k 2), 32768, .inl o4.2.2.2)), (a_made, .inl ((k 2), 512, .inl v_made)), (a_sectorOf, .inl ((k 2), 5100, .inl o2.2.2.2.2.1)), (a_placeOf, .inl ((k 2), 5100, .inl o2.2.2.2.2.2.1)), (a_manyOf, .inl ((k 2), 5100, .inl o2.2.2.2.2.2.2)), (a_there, .inl ((k 1), 5100, .inl o5.2)), (a_waitKind, .inl ((k 2), 100, .inl v_waitKind)), (a_waitMany, .inl ((k 2), 100, .inl v_waitMany)), (a_waitBytes, .inl ((k 3), 100, .inr (.inl v_waitBytes)))] H := hP
    have hD : va_D A [(h0, .inr (6, [.int o1.2, .int v_sectors, .int 1, .ref a_disk, .ref a_made, .int o2.1, .int v_reserve, .int (-1), .int v_cutBytes, .int o2.2.1, .ref a_sectorOf, .ref a_placeOf, .ref a_manyOf, .ref a_there, .int 0, .ref a_waitKind, .ref a_waitMany, .ref a_waitBytes, .int o4.1, .long o4.2.1, .int v_second, .int o4.2.2.1, .int v_up, .int (if o2.2.1 ≤ v_sent then o2.2.1 else v_sent)])), (a_disk, .inl ((k 2), 32768, .inl o4.2.2.2)), (a_made, .inl ((k 2), 512, .inl v_made)), (a_sectorOf, .inl ((k 2), 5100, .inl o2.2.2.2.2.1)), (a_placeOf, .inl ((k 2), 5100, .inl o2.2.2.2.2.2.1)), (a_manyOf, .inl ((k 2), 5100, .inl o2.2.2.2.2.2.2)), (a_there, .inl ((k 1), 5100, .inl o5.2)), (a_waitKind, .inl ((k 2), 100, .inl v_waitKind)), (a_waitMany, .inl ((k 2), 100, .inl v_waitMany)), (a_waitBytes, .inl ((k 3), 100, .inr (.inl v_waitBytes)))] := hD
    have hl : lv_has ls 5 [(0, .ref h0), (1, .int o5.1)] := hl
    refine lv_aload_n hx hb dX6_start_267 rfl (lv_at hl 0 rfl) ?_
    refine va_get (D := D) (ci := 6) (v := .int o2.2.1) (C := "ServiceDiskModel") (T := TX6) (N := 24) hx hb hts inX6 hown hK hP 0 rfl rfl 9 (by decide) (hts _ w_746) (fun _ h9 => h9) rfl dX6_start_268 ?_
    have h := dk_r h
    subst h
    exact dk_rwi hx hb hr hlocks (hP.sub [0, 1, 2, 3, 4, 5, 6, 7, 8, 9] rfl) (hD.sub [0, 1, 2, 3, 4, 5, 6, 7, 8, 9] (by decide) rfl) hS dX6_start_271 rfl
  · replace h := dk_f q h
    refine lv_iconst (v := 0) hx hb dX6_start_22 (by decide) ?_
    have h := dk_r h
    subst h
    exact dk_rwi hx hb hr hlocks (hP.sub [0, 1, 2, 3, 4, 5, 6, 7, 8, 9] rfl) (hD.sub [0, 1, 2, 3, 4, 5, 6, 7, 8, 9] (by decide) rfl) hS dX6_start_23 rfl
/-! ServiceDiskModel.alter(IIII)V: rw, frames 1, locals 24 -/
def fX6_alter (v_sectors : Int32) (v_disk : Nat → Int32) (p1 : Int32) (p2 : Int32) (p3 : Int32) (p4 : Int32) : Option (Int32 × (Nat → Int32)) :=
  (fX6_in p1 0 1).bind fun o1 =>
  if o1 = 0 then
    (fX6_in p4 1 255).bind fun o2 =>
    (fX6_throwing 1 (if o2 = 0 then 1 else 0) (if v_sectors = 0 then 1 else 0) 0).bind fun o3 =>
    if o3.1 = 0 then
      (fX6_at p1 p2).bind fun o4 =>
      if dk_in (o4 + p3) 32768 then
      if dk_in (o4 + p3) 32768 then
      some (o3.2, (upd v_disk (o4 + p3).toNatClampNeg ((v_disk (o4 + p3).toNatClampNeg) ^^^ p4)))
      else none
      else none
    else
      some (o3.2, v_disk)
  else
    (fX6_in p2 0 (v_sectors - 1)).bind fun o5 =>
    if o5 = 0 then
      (fX6_in p4 1 255).bind fun o6 =>
      (fX6_throwing 1 (if o6 = 0 then 1 else 0) (if v_sectors = 0 then 1 else 0) 0).bind fun o7 =>
      if o7.1 = 0 then
        (fX6_at p1 p2).bind fun o8 =>
        if dk_in (o8 + p3) 32768 then
        if dk_in (o8 + p3) 32768 then
        some (o7.2, (upd v_disk (o8 + p3).toNatClampNeg ((v_disk (o8 + p3).toNatClampNeg) ^^^ p4)))
        else none
        else none
      else
        some (o7.2, v_disk)
    else
      (fX6_in p3 0 511).bind fun o9 =>
      (fX6_in p4 1 255).bind fun o10 =>
      (fX6_throwing (if o9 = 0 then 1 else 0) (if o10 = 0 then 1 else 0) (if v_sectors = 0 then 1 else 0) 0).bind fun o11 =>
      if o11.1 = 0 then
        (fX6_at p1 p2).bind fun o12 =>
        if dk_in (o12 + p3) 32768 then
        if dk_in (o12 + p3) 32768 then
        some (o11.2, (upd v_disk (o12 + p3).toNatClampNeg ((v_disk (o12 + p3).toNatClampNeg) ^^^ p4)))
        else none
        else none
      else
        some (o11.2, v_disk)
set_option maxHeartbeats 4000000 in
set_option maxRecDepth 100000 in
theorem mX6_alter (l : Launch) (D : va_G) (k : Nat → ClassId) (h0 a_disk a_made a_sectorOf a_placeOf a_manyOf a_there a_waitKind a_waitMany a_waitBytes : Nat) (sz : Nat) (v_thrown : Int32) (v_sectors : Int32) (v_power : Int32) (v_used : Int32) (v_reserve : Int32) (v_cutWrites : Int32) (v_cutBytes : Int32) (v_rows : Int32) (v_waits : Int32) (v_stateNumber : Int32) (v_stateNow : Int64) (v_second : Int32) (v_repaired : Int32) (v_up : Int32) (v_sent : Int32) (v_disk : Nat → Int32) (v_made : Nat → Int32) (v_sectorOf : Nat → Int32) (v_placeOf : Nat → Int32) (v_manyOf : Nat → Int32) (v_there : Nat → Int32) (v_waitKind : Nat → Int32) (v_waitMany : Nat → Int32) (v_waitBytes : Nat → Int64) (p1 : Int32) (p2 : Int32) (p3 : Int32) (p4 : Int32) (o : Int32 × (Nat → Int32)) (h : fX6_alter v_sectors v_disk p1 p2 p3 p4 = some o) : Met l yX6_alter wsX6_alter { frames := 1, cells := 0, slots := 0, locals := 24 } (dk_Pw D k [.ref h0, .int p1, .int p2, .int p3, .int p4] [(h0, .inr (6, [.int v_thrown, .int v_sectors, .int v_power, .ref a_disk, .ref a_made, .int v_used, .int v_reserve, .int v_cutWrites, .int v_cutBytes, .int v_rows, .ref a_sectorOf, .ref a_placeOf, .ref a_manyOf, .ref a_there, .int v_waits, .ref a_waitKind, .ref a_waitMany, .ref a_waitBytes, .int v_stateNumber, .long v_stateNow, .int v_second, .int v_repaired, .int v_up, .int v_sent])), (a_disk, .inl ((k 2), 32768, .inl v_disk)), (a_made, .inl ((k 2), 512, .inl v_made)), (a_sectorOf, .inl ((k 2), 5100, .inl v_sectorOf)), (a_placeOf, .inl ((k 2), 5100, .inl v_placeOf)), (a_manyOf, .inl ((k 2), 5100, .inl v_manyOf)), (a_there, .inl ((k 1), 5100, .inl v_there)), (a_waitKind, .inl ((k 2), 100, .inl v_waitKind)), (a_waitMany, .inl ((k 2), 100, .inl v_waitMany)), (a_waitBytes, .inl ((k 3), 100, .inr (.inl v_waitBytes)))] sz) (dk_Qv D [(h0, .inr (6, [.int o.1, .int v_sectors, .int v_power, .ref a_disk, .ref a_made, .int v_used, .int v_reserve, .int v_cutWrites, .int v_cutBytes, .int v_rows, .ref a_sectorOf, .ref a_placeOf, .ref a_manyOf, .ref a_there, .int v_waits, .ref a_waitKind, .ref a_waitMany, .ref a_waitBytes, .int v_stateNumber, .long v_stateNow, .int v_second, .int v_repaired, .int v_up, .int v_sent])), (a_disk, .inl ((k 2), 32768, .inl o.2)), (a_made, .inl ((k 2), 512, .inl v_made)), (a_sectorOf, .inl ((k 2), 5100, .inl v_sectorOf)), (a_placeOf, .inl ((k 2), 5100, .inl v_placeOf)), (a_manyOf, .inl ((k 2), 5100, .inl v_manyOf)), (a_there, .inl ((k 1), 5100, .inl v_there)), (a_waitKind, .inl ((k 2), 100, .inl v_waitKind)), (a_waitMany, .inl ((k 2), 100, .inl v_waitMany)), (a_waitBytes, .inl ((k 3), 100, .inr (.inl v_waitBytes)))] (va_A [(h0, .inr (6, [.int v_thrown, .int v_sectors, .int v_power, .ref a_disk, .ref a_made, .int v_used, .int v_reserve, .int v_cutWrites, .int v_cutBytes, .int v_rows, .ref a_sectorOf, .ref a_placeOf, .ref a_manyOf, .ref a_there, .int v_waits, .ref a_waitKind, .ref a_waitMany, .ref a_waitBytes, .int v_stateNumber, .long v_stateNow, .int v_second, .int v_repaired, .int v_up, .int v_sent])), (a_disk, .inl ((k 2), 32768, .inl v_disk)), (a_made, .inl ((k 2), 512, .inl v_made)), (a_sectorOf, .inl ((k 2), 5100, .inl v_sectorOf)), (a_placeOf, .inl ((k 2), 5100, .inl v_placeOf)), (a_manyOf, .inl ((k 2), 5100, .inl v_manyOf)), (a_there, .inl ((k 1), 5100, .inl v_there)), (a_waitKind, .inl ((k 2), 100, .inl v_waitKind)), (a_waitMany, .inl ((k 2), 100, .inl v_waitMany)), (a_waitBytes, .inl ((k 3), 100, .inr (.inl v_waitBytes)))] sz)) 0 0 (va_A [(h0, .inr (6, [.int v_thrown, .int v_sectors, .int v_power, .ref a_disk, .ref a_made, .int v_used, .int v_reserve, .int v_cutWrites, .int v_cutBytes, .int v_rows, .ref a_sectorOf, .ref a_placeOf, .ref a_manyOf, .ref a_there, .int v_waits, .ref a_waitKind, .ref a_waitMany, .ref a_waitBytes, .int v_stateNumber, .long v_stateNow, .int v_second, .int v_repaired, .int v_up, .int v_sent])), (a_disk, .inl ((k 2), 32768, .inl v_disk)), (a_made, .inl ((k 2), 512, .inl v_made)), (a_sectorOf, .inl ((k 2), 5100, .inl v_sectorOf)), (a_placeOf, .inl ((k 2), 5100, .inl v_placeOf)), (a_manyOf, .inl ((k 2), 5100, .inl v_manyOf)), (a_there, .inl ((k 1), 5100, .inl v_there)), (a_waitKind, .inl ((k 2), 100, .inl v_waitKind)), (a_waitMany, .inl ((k 2), 100, .inl v_waitMany)), (a_waitBytes, .inl ((k 3), 100, .inr (.inl v_waitBytes)))] sz) := by
  unfold fX6_alter at h
  refine dk_ofW (Qc := fun A => dk_Qv D [(h0, .inr (6, [.int o.1, .int v_sectors, .int v_power, .ref a_disk, .ref a_made, .int v_used, .int v_reserve, .int v_cutWrites, .int v_cutBytes, .int v_rows, .ref a_sectorOf, .ref a_placeOf, .ref a_manyOf, .ref a_there, .int v_waits, .ref a_waitKind, .ref a_waitMany, .ref a_waitBytes, .int v_stateNumber, .long v_stateNow, .int v_second, .int v_repaired, .int v_up, .int v_sent])), (a_disk, .inl ((k 2), 32768, .inl o.2)), (a_made, .inl ((k 2), 512, .inl v_made)), (a_sectorOf, .inl ((k 2), 5100, .inl v_sectorOf)), (a_placeOf, .inl ((k 2), 5100, .inl v_placeOf)), (a_manyOf, .inl ((k 2), 5100, .inl v_manyOf)), (a_there, .inl ((k 1), 5100, .inl v_there)), (a_waitKind, .inl ((k 2), 100, .inl v_waitKind)), (a_waitMany, .inl ((k 2), 100, .inl v_waitMany)), (a_waitBytes, .inl ((k 3), 100, .inr (.inl v_waitBytes)))] A) (cc := cX6_alter) (maxL := 6) (ret := none) (lv := [(0, .ref h0), (1, .int p1), (2, .int p2), (3, .int p3), (4, .int p4)]) (by decide) rfl (Nat.le_of_ble_eq_true rfl) rfl ?_
  intro p e s m below meth c C hK hN hP A hA hD hS ls hl
  obtain ⟨hx, hb, hr, hml, hown, hts, hlocks⟩ := id C
  refine lv_iload_n hx hb dX6_alter_0 rfl (lv_at hl 1 rfl) ?_
  refine lv_iconst (v := 0) hx hb dX6_alter_1 (by decide) ?_
  refine lv_iconst (v := 1) hx hb dX6_alter_2 (by decide) ?_
  replace h := dk_b h
  obtain ⟨o1, e1, h⟩ := h
  refine dk_cri (va_runS (As := [.int p1, .int 0, .int 1]) (rest := []) ⟨hx, hb, hml, hown, hts⟩ (mX6_in l D k p1 0 1 o1 e1) (va_cwS 3 hts (dk_gS w_818 w_819 w_46 w_820) rfl rfl rfl (by decide +kernel) ⟨Nat.le_of_ble_eq_true rfl, Nat.le_of_ble_eq_true rfl⟩) (dk_psr hK hN hP [] rfl) rfl rfl hl.1 rfl (lv_room (Nat.le_of_ble_eq_true rfl)) dX6_alter_3 ⟨Nat.le_of_ble_eq_true rfl, Nat.le_of_ble_eq_true rfl⟩) ?_
  refine lv_if_eq (tgt := 34) hx hb dX6_alter_6 (by decide) (fun q => ?_) (fun q => ?_)
  · replace h := dk_t q h
    refine lv_iconst (v := 1) hx hb dX6_alter_34 (by decide) ?_
    refine lv_goto (tgt := 39) hx hb dX6_alter_35 (by decide) ?_
    refine lv_istore (lv' := [(5, .int 1), (0, .ref h0), (1, .int p1), (2, .int p2), (3, .int p3), (4, .int p4)]) hx hb dX6_alter_39 hl (by decide) rfl (fun ls hl => ?_)
    refine lv_aload_n hx hb dX6_alter_41 rfl (lv_at hl 1 rfl) ?_
    refine lv_iload hx hb dX6_alter_42 (lv_at hl 0 rfl) ?_
    refine lv_iload hx hb dX6_alter_44 (lv_at hl 5 rfl) ?_
    refine lv_iconst (v := 1) hx hb dX6_alter_46 (by decide) ?_
    refine lv_sipush (v := 255) hx hb dX6_alter_47 (by decide) ?_
    replace h := dk_b h
    obtain ⟨o2, e2, h⟩ := h
    refine dk_cri (va_runS (As := [.int p4, .int 1, .int 255]) (rest := [.int 1, .ref h0]) ⟨hx, hb, hml, hown, hts⟩ (mX6_in l D k p4 1 255 o2 e2) (va_cwS 3 hts (dk_gS w_818 w_819 w_46 w_820) rfl rfl rfl (by decide +kernel) ⟨Nat.le_of_ble_eq_true rfl, Nat.le_of_ble_eq_true rfl⟩) (dk_psr hK hN hP [] rfl) rfl rfl hl.1 rfl (lv_room (Nat.le_of_ble_eq_true rfl)) dX6_alter_50 ⟨Nat.le_of_ble_eq_true rfl, Nat.le_of_ble_eq_true rfl⟩) ?_
    refine dk_jn (F0 m 61 ls [.int (if o2 = 0 then 1 else 0), .int 1, .ref h0]) (fun K => ?_) ?_
    · refine lv_if_ne (tgt := 60) hx hb dX6_alter_53 (by decide) (fun q1 => ?_) (fun q1 => ?_)
      · refine lv_iconst (v := 0) hx hb dX6_alter_60 (by decide) ?_
        have K := K
        rw [if_neg q1] at K
        exact K
      · refine lv_iconst (v := 1) hx hb dX6_alter_56 (by decide) ?_
        refine lv_goto (tgt := 61) hx hb dX6_alter_57 (by decide) ?_
        have K := K
        rw [if_pos q1] at K
        exact K
    refine lv_aload_n hx hb dX6_alter_61 rfl (lv_at hl 1 rfl) ?_
    refine va_get (D := D) (ci := 6) (v := .int v_sectors) (C := "ServiceDiskModel") (T := TX6) (N := 24) hx hb hts inX6 hown hK hP 0 rfl rfl 1 (by decide) (hts _ w_738) (fun _ h9 => h9) rfl dX6_alter_62 ?_
    refine dk_jn (F0 m 73 ls [.int (if v_sectors = 0 then 1 else 0), .int (if o2 = 0 then 1 else 0), .int 1, .ref h0]) (fun K => ?_) ?_
    · refine lv_if_ne (tgt := 72) hx hb dX6_alter_65 (by decide) (fun q1 => ?_) (fun q1 => ?_)
      · refine lv_iconst (v := 0) hx hb dX6_alter_72 (by decide) ?_
        have K := K
        rw [if_neg q1] at K
        exact K
      · refine lv_iconst (v := 1) hx hb dX6_alter_68 (by decide) ?_
        refine lv_goto (tgt := 73) hx hb dX6_alter_69 (by decide) ?_
        have K := K
        rw [if_pos q1] at K
        exact K
    refine lv_iconst (v := 0) hx hb dX6_alter_73 (by decide) ?_
    replace h := dk_b h
    obtain ⟨o3, e3, h⟩ := h
    refine dk_cwi (wr := []) (va_runV (As := [.int 1, .int (if o2 = 0 then 1 else 0), .int (if v_sectors = 0 then 1 else 0), .int 0]) (rest := []) ⟨hx, hb, hml, hown, hts⟩ (mX6_throwing l D k h0 a_disk a_made a_sectorOf a_placeOf a_manyOf a_there a_waitKind a_waitMany a_waitBytes s.heap.size v_thrown v_sectors v_power v_used v_reserve v_cutWrites v_cutBytes v_rows v_waits v_stateNumber v_stateNow v_second v_repaired v_up v_sent v_disk v_made v_sectorOf v_placeOf v_manyOf v_there v_waitKind v_waitMany v_waitBytes 1 (if o2 = 0 then 1 else 0) (if v_sectors = 0 then 1 else 0) 0 o3 e3) (cwV 4 hts (dk_gV w_821 w_823 w_20 w_46 w_824) rfl rfl rfl (by decide +kernel) ⟨Nat.le_of_ble_eq_true rfl, Nat.le_of_ble_eq_true rfl⟩) (dk_pvw hK hN hP hD [0, 1, 2, 3, 4, 5, 6, 7, 8, 9] rfl rfl rfl rfl (hP.sub [0, 1, 2, 3, 4, 5, 6, 7, 8, 9] rfl)) rfl rfl hl.1 rfl (lv_room (Nat.le_of_ble_eq_true rfl)) dX6_alter_74 ⟨Nat.le_of_ble_eq_true rfl, Nat.le_of_ble_eq_true rfl⟩) hP hD hS hA [0, 1, 2, 3, 4, 5, 6, 7, 8, 9] [] rfl rfl rfl (by decide) (fun H locs hP hD hS => ?_)
    have hP : va_P D vwCl [(h0, .inr (6, [.int o3.2, .int v_sectors, .int v_power, .ref a_disk, .ref a_made, .int v_used, .int v_reserve, .int v_cutWrites, .int v_cutBytes, .int v_rows, .ref a_sectorOf, .ref a_placeOf, .ref a_manyOf, .ref a_there, .int v_waits, .ref a_waitKind, .ref a_waitMany, .ref a_waitBytes, .int v_stateNumber, .long v_stateNow, .int v_second, .int v_repaired, .int v_up, .int v_sent])), (a_disk, .inl ((k 2), 32768, .inl v_disk)), (a_made, .inl ((k 2), 512, .inl v_made)), (a_sectorOf, .inl ((k 2), 5100, .inl v_sectorOf)), (a_placeOf, .inl ((k 2), 5100, .inl v_placeOf)), (a_manyOf, .inl ((k 2), 5100, .inl v_manyOf)), (a_there, .inl ((k 1), 5100, .inl v_there)), (a_waitKind, .inl ((k 2), 100, .inl v_waitKind)), (a_waitMany, .inl ((k 2), 100, .inl v_waitMany)), (a_waitBytes, .inl ((k 3), 100, .inr (.inl v_waitBytes)))] H := hP
    have hD : va_D A [(h0, .inr (6, [.int o3.2, .int v_sectors, .int v_power, .ref a_disk, .ref a_made, .int v_used, .int v_reserve, .int v_cutWrites, .int v_cutBytes, .int v_rows, .ref a_sectorOf, .ref a_placeOf, .ref a_manyOf, .ref a_there, .int v_waits, .ref a_waitKind, .ref a_waitMany, .ref a_waitBytes, .int v_stateNumber, .long v_stateNow, .int v_second, .int v_repaired, .int v_up, .int v_sent])), (a_disk, .inl ((k 2), 32768, .inl v_disk)), (a_made, .inl ((k 2), 512, .inl v_made)), (a_sectorOf, .inl ((k 2), 5100, .inl v_sectorOf)), (a_placeOf, .inl ((k 2), 5100, .inl v_placeOf)), (a_manyOf, .inl ((k 2), 5100, .inl v_manyOf)), (a_there, .inl ((k 1), 5100, .inl v_there)), (a_waitKind, .inl ((k 2), 100, .inl v_waitKind)), (a_waitMany, .inl ((k 2), 100, .inl v_waitMany)), (a_waitBytes, .inl ((k 3), 100, .inr (.inl v_waitBytes)))] := hD
    refine lv_if_eq (tgt := 81) hx hb dX6_alter_77 (by decide) (fun q => ?_) (fun q => ?_)
    · replace h := dk_t q h
      refine lv_aload_n hx hb dX6_alter_81 rfl (lv_at hl 1 rfl) ?_
      refine va_get (D := D) (ci := 6) (v := .ref a_disk) (C := "ServiceDiskModel") (T := TX6) (N := 24) hx hb hts inX6 hown hK hP 0 rfl rfl 3 (by decide) (hts _ w_740) (fun _ h9 => h9) rfl dX6_alter_82 ?_
      refine lv_iload_n hx hb dX6_alter_85 rfl (lv_at hl 2 rfl) ?_
      refine lv_iload_n hx hb dX6_alter_86 rfl (lv_at hl 3 rfl) ?_
      replace h := dk_b h
      obtain ⟨o4, e4, h⟩ := h
      refine dk_cri (va_runS (As := [.int p1, .int p2]) (rest := [.ref a_disk]) ⟨hx, hb, hml, hown, hts⟩ (mX6_at l D k p1 p2 o4 e4) (va_cwS 2 hts (dk_gS w_869 w_870 w_46 w_871) rfl rfl rfl (by decide +kernel) ⟨Nat.le_of_ble_eq_true rfl, Nat.le_of_ble_eq_true rfl⟩) (dk_psr hK hN hP [] rfl) rfl rfl hl.1 rfl (lv_room (Nat.le_of_ble_eq_true rfl)) dX6_alter_87 ⟨Nat.le_of_ble_eq_true rfl, Nat.le_of_ble_eq_true rfl⟩) ?_
      refine lv_iload_n hx hb dX6_alter_90 rfl (lv_at hl 4 rfl) ?_
      refine lv_iadd hx hb dX6_alter_91 ?_
      refine lv_dup2_11 hx hb dX6_alter_92 rfl rfl ?_
      obtain ⟨q, h⟩ := dk_g h
      refine va_iald hx hb hK hP 1 2 rfl rfl q dX6_alter_93 ?_
      refine lv_iload hx hb dX6_alter_94 (lv_at hl 5 rfl) ?_
      refine lv_ixor hx hb dX6_alter_96 ?_
      obtain ⟨q, h⟩ := dk_g h
      refine va_iast hx hb hK hP hD hS 1 2 rfl rfl q dX6_alter_97 (fun H locs hP hD hS => ?_)
      have hP : va_P D vwCl [(h0, .inr (6, [.int o3.2, .int v_sectors, .int v_power, .ref a_disk, .ref a_made, .int v_used, .int v_reserve, .int v_cutWrites, .int v_cutBytes, .int v_rows, .ref a_sectorOf, .ref a_placeOf, .ref a_manyOf, .ref a_there, .int v_waits, .ref a_waitKind, .ref a_waitMany, .ref a_waitBytes, .int v_stateNumber, .long v_stateNow, .int v_second, .int v_repaired, .int v_up, .int v_sent])), (a_disk, .inl ((k 2), 32768, .inl (upd v_disk (o4 + p3).toNatClampNeg ((v_disk (o4 + p3).toNatClampNeg) ^^^ p4)))), (a_made, .inl ((k 2), 512, .inl v_made)), (a_sectorOf, .inl ((k 2), 5100, .inl v_sectorOf)), (a_placeOf, .inl ((k 2), 5100, .inl v_placeOf)), (a_manyOf, .inl ((k 2), 5100, .inl v_manyOf)), (a_there, .inl ((k 1), 5100, .inl v_there)), (a_waitKind, .inl ((k 2), 100, .inl v_waitKind)), (a_waitMany, .inl ((k 2), 100, .inl v_waitMany)), (a_waitBytes, .inl ((k 3), 100, .inr (.inl v_waitBytes)))] H := hP
      have hD : va_D A [(h0, .inr (6, [.int o3.2, .int v_sectors, .int v_power, .ref a_disk, .ref a_made, .int v_used, .int v_reserve, .int v_cutWrites, .int v_cutBytes, .int v_rows, .ref a_sectorOf, .ref a_placeOf, .ref a_manyOf, .ref a_there, .int v_waits, .ref a_waitKind, .ref a_waitMany, .ref a_waitBytes, .int v_stateNumber, .long v_stateNow, .int v_second, .int v_repaired, .int v_up, .int v_sent])), (a_disk, .inl ((k 2), 32768, .inl (upd v_disk (o4 + p3).toNatClampNeg ((v_disk (o4 + p3).toNatClampNeg) ^^^ p4)))), (a_made, .inl ((k 2), 512, .inl v_made)), (a_sectorOf, .inl ((k 2), 5100, .inl v_sectorOf)), (a_placeOf, .inl ((k 2), 5100, .inl v_placeOf)), (a_manyOf, .inl ((k 2), 5100, .inl v_manyOf)), (a_there, .inl ((k 1), 5100, .inl v_there)), (a_waitKind, .inl ((k 2), 100, .inl v_waitKind)), (a_waitMany, .inl ((k 2), 100, .inl v_waitMany)), (a_waitBytes, .inl ((k 3), 100, .inr (.inl v_waitBytes)))] := hD
      have h := dk_r h
      subst h
      exact dk_rwv hx hb hr hlocks (hP.sub [0, 1, 2, 3, 4, 5, 6, 7, 8, 9] rfl) (hD.sub [0, 1, 2, 3, 4, 5, 6, 7, 8, 9] (by decide) rfl) hS dX6_alter_98
    · replace h := dk_f q h
      have h := dk_r h
      subst h
      exact dk_rwv hx hb hr hlocks (hP.sub [0, 1, 2, 3, 4, 5, 6, 7, 8, 9] rfl) (hD.sub [0, 1, 2, 3, 4, 5, 6, 7, 8, 9] (by decide) rfl) hS dX6_alter_80
  · replace h := dk_f q h
    refine lv_iload_n hx hb dX6_alter_9 rfl (lv_at hl 2 rfl) ?_
    refine lv_iconst (v := 0) hx hb dX6_alter_10 (by decide) ?_
    refine lv_aload_n hx hb dX6_alter_11 rfl (lv_at hl 0 rfl) ?_
    refine va_get (D := D) (ci := 6) (v := .int v_sectors) (C := "ServiceDiskModel") (T := TX6) (N := 24) hx hb hts inX6 hown hK hP 0 rfl rfl 1 (by decide) (hts _ w_738) (fun _ h9 => h9) rfl dX6_alter_12 ?_
    refine lv_iconst (v := 1) hx hb dX6_alter_15 (by decide) ?_
    refine lv_isub hx hb dX6_alter_16 ?_
    replace h := dk_b h
    obtain ⟨o5, e5, h⟩ := h
    refine dk_cri (va_runS (As := [.int p2, .int 0, .int (v_sectors - 1)]) (rest := []) ⟨hx, hb, hml, hown, hts⟩ (mX6_in l D k p2 0 (v_sectors - 1) o5 e5) (va_cwS 3 hts (dk_gS w_818 w_819 w_46 w_820) rfl rfl rfl (by decide +kernel) ⟨Nat.le_of_ble_eq_true rfl, Nat.le_of_ble_eq_true rfl⟩) (dk_psr hK hN hP [] rfl) rfl rfl hl.1 rfl (lv_room (Nat.le_of_ble_eq_true rfl)) dX6_alter_17 ⟨Nat.le_of_ble_eq_true rfl, Nat.le_of_ble_eq_true rfl⟩) ?_
    refine lv_if_eq (tgt := 34) hx hb dX6_alter_20 (by decide) (fun q => ?_) (fun q => ?_)
    · replace h := dk_t q h
      refine lv_iconst (v := 1) hx hb dX6_alter_34 (by decide) ?_
      refine lv_goto (tgt := 39) hx hb dX6_alter_35 (by decide) ?_
      refine lv_istore (lv' := [(5, .int 1), (0, .ref h0), (1, .int p1), (2, .int p2), (3, .int p3), (4, .int p4)]) hx hb dX6_alter_39 hl (by decide) rfl (fun ls hl => ?_)
      refine lv_aload_n hx hb dX6_alter_41 rfl (lv_at hl 1 rfl) ?_
      refine lv_iload hx hb dX6_alter_42 (lv_at hl 0 rfl) ?_
      refine lv_iload hx hb dX6_alter_44 (lv_at hl 5 rfl) ?_
      refine lv_iconst (v := 1) hx hb dX6_alter_46 (by decide) ?_
      refine lv_sipush (v := 255) hx hb dX6_alter_47 (by decide) ?_
      replace h := dk_b h
      obtain ⟨o6, e6, h⟩ := h
      refine dk_cri (va_runS (As := [.int p4, .int 1, .int 255]) (rest := [.int 1, .ref h0]) ⟨hx, hb, hml, hown, hts⟩ (mX6_in l D k p4 1 255 o6 e6) (va_cwS 3 hts (dk_gS w_818 w_819 w_46 w_820) rfl rfl rfl (by decide +kernel) ⟨Nat.le_of_ble_eq_true rfl, Nat.le_of_ble_eq_true rfl⟩) (dk_psr hK hN hP [] rfl) rfl rfl hl.1 rfl (lv_room (Nat.le_of_ble_eq_true rfl)) dX6_alter_50 ⟨Nat.le_of_ble_eq_true rfl, Nat.le_of_ble_eq_true rfl⟩) ?_
      refine dk_jn (F0 m 61 ls [.int (if o6 = 0 then 1 else 0), .int 1, .ref h0]) (fun K => ?_) ?_
      · refine lv_if_ne (tgt := 60) hx hb dX6_alter_53 (by decide) (fun q1 => ?_) (fun q1 => ?_)
        · refine lv_iconst (v := 0) hx hb dX6_alter_60 (by decide) ?_
          have K := K
          rw [if_neg q1] at K
          exact K
        · refine lv_iconst (v := 1) hx hb dX6_alter_56 (by decide) ?_
          refine lv_goto (tgt := 61) hx hb dX6_alter_57 (by decide) ?_
          have K := K
          rw [if_pos q1] at K
          exact K
      refine lv_aload_n hx hb dX6_alter_61 rfl (lv_at hl 1 rfl) ?_
      refine va_get (D := D) (ci := 6) (v := .int v_sectors) (C := "ServiceDiskModel") (T := TX6) (N := 24) hx hb hts inX6 hown hK hP 0 rfl rfl 1 (by decide) (hts _ w_738) (fun _ h9 => h9) rfl dX6_alter_62 ?_
      refine dk_jn (F0 m 73 ls [.int (if v_sectors = 0 then 1 else 0), .int (if o6 = 0 then 1 else 0), .int 1, .ref h0]) (fun K => ?_) ?_
      · refine lv_if_ne (tgt := 72) hx hb dX6_alter_65 (by decide) (fun q1 => ?_) (fun q1 => ?_)
        · refine lv_iconst (v := 0) hx hb dX6_alter_72 (by decide) ?_
          have K := K
          rw [if_neg q1] at K
          exact K
        · refine lv_iconst (v := 1) hx hb dX6_alter_68 (by decide) ?_
          refine lv_goto (tgt := 73) hx hb dX6_alter_69 (by decide) ?_
          have K := K
          rw [if_pos q1] at K
          exact K
      refine lv_iconst (v := 0) hx hb dX6_alter_73 (by decide) ?_
      replace h := dk_b h
      obtain ⟨o7, e7, h⟩ := h
      refine dk_cwi (wr := []) (va_runV (As := [.int 1, .int (if o6 = 0 then 1 else 0), .int (if v_sectors = 0 then 1 else 0), .int 0]) (rest := []) ⟨hx, hb, hml, hown, hts⟩ (mX6_throwing l D k h0 a_disk a_made a_sectorOf a_placeOf a_manyOf a_there a_waitKind a_waitMany a_waitBytes s.heap.size v_thrown v_sectors v_power v_used v_reserve v_cutWrites v_cutBytes v_rows v_waits v_stateNumber v_stateNow v_second v_repaired v_up v_sent v_disk v_made v_sectorOf v_placeOf v_manyOf v_there v_waitKind v_waitMany v_waitBytes 1 (if o6 = 0 then 1 else 0) (if v_sectors = 0 then 1 else 0) 0 o7 e7) (cwV 4 hts (dk_gV w_821 w_823 w_20 w_46 w_824) rfl rfl rfl (by decide +kernel) ⟨Nat.le_of_ble_eq_true rfl, Nat.le_of_ble_eq_true rfl⟩) (dk_pvw hK hN hP hD [0, 1, 2, 3, 4, 5, 6, 7, 8, 9] rfl rfl rfl rfl (hP.sub [0, 1, 2, 3, 4, 5, 6, 7, 8, 9] rfl)) rfl rfl hl.1 rfl (lv_room (Nat.le_of_ble_eq_true rfl)) dX6_alter_74 ⟨Nat.le_of_ble_eq_true rfl, Nat.le_of_ble_eq_true rfl⟩) hP hD hS hA [0, 1, 2, 3, 4, 5, 6, 7, 8, 9] [] rfl rfl rfl (by decide) (fun H locs hP hD hS => ?_)
      have hP : va_P D vwCl [(h0, .inr (6, [.int o7.2, .int v_sectors, .int v_power, .ref a_disk, .ref a_made, .int v_used, .int v_reserve, .int v_cutWrites, .int v_cutBytes, .int v_rows, .ref a_sectorOf, .ref a_placeOf, .ref a_manyOf, .ref a_there, .int v_waits, .ref a_waitKind, .ref a_waitMany, .ref a_waitBytes, .int v_stateNumber, .long v_stateNow, .int v_second, .int v_repaired, .int v_up, .int v_sent])), (a_disk, .inl ((k 2), 32768, .inl v_disk)), (a_made, .inl ((k 2), 512, .inl v_made)), (a_sectorOf, .inl ((k 2), 5100, .inl v_sectorOf)), (a_placeOf, .inl ((k 2), 5100, .inl v_placeOf)), (a_manyOf, .inl ((k 2), 5100, .inl v_manyOf)), (a_there, .inl ((k 1), 5100, .inl v_there)), (a_waitKind, .inl ((k 2), 100, .inl v_waitKind)), (a_waitMany, .inl ((k 2), 100, .inl v_waitMany)), (a_waitBytes, .inl ((k 3), 100, .inr (.inl v_waitBytes)))] H := hP
      have hD : va_D A [(h0, .inr (6, [.int o7.2, .int v_sectors, .int v_power, .ref a_disk, .ref a_made, .int v_used, .int v_reserve, .int v_cutWrites, .int v_cutBytes, .int v_rows, .ref a_sectorOf, .ref a_placeOf, .ref a_manyOf, .ref a_there, .int v_waits, .ref a_waitKind, .ref a_waitMany, .ref a_waitBytes, .int v_stateNumber, .long v_stateNow, .int v_second, .int v_repaired, .int v_up, .int v_sent])), (a_disk, .inl ((k 2), 32768, .inl v_disk)), (a_made, .inl ((k 2), 512, .inl v_made)), (a_sectorOf, .inl ((k 2), 5100, .inl v_sectorOf)), (a_placeOf, .inl ((k 2), 5100, .inl v_placeOf)), (a_manyOf, .inl ((k 2), 5100, .inl v_manyOf)), (a_there, .inl ((k 1), 5100, .inl v_there)), (a_waitKind, .inl ((k 2), 100, .inl v_waitKind)), (a_waitMany, .inl ((k 2), 100, .inl v_waitMany)), (a_waitBytes, .inl ((k 3), 100, .inr (.inl v_waitBytes)))] := hD
      refine lv_if_eq (tgt := 81) hx hb dX6_alter_77 (by decide) (fun q => ?_) (fun q => ?_)
      · replace h := dk_t q h
        refine lv_aload_n hx hb dX6_alter_81 rfl (lv_at hl 1 rfl) ?_
        refine va_get (D := D) (ci := 6) (v := .ref a_disk) (C := "ServiceDiskModel") (T := TX6) (N := 24) hx hb hts inX6 hown hK hP 0 rfl rfl 3 (by decide) (hts _ w_740) (fun _ h9 => h9) rfl dX6_alter_82 ?_
        refine lv_iload_n hx hb dX6_alter_85 rfl (lv_at hl 2 rfl) ?_
        refine lv_iload_n hx hb dX6_alter_86 rfl (lv_at hl 3 rfl) ?_
        replace h := dk_b h
        obtain ⟨o8, e8, h⟩ := h
        refine dk_cri (va_runS (As := [.int p1, .int p2]) (rest := [.ref a_disk]) ⟨hx, hb, hml, hown, hts⟩ (mX6_at l D k p1 p2 o8 e8) (va_cwS 2 hts (dk_gS w_869 w_870 w_46 w_871) rfl rfl rfl (by decide +kernel) ⟨Nat.le_of_ble_eq_true rfl, Nat.le_of_ble_eq_true rfl⟩) (dk_psr hK hN hP [] rfl) rfl rfl hl.1 rfl (lv_room (Nat.le_of_ble_eq_true rfl)) dX6_alter_87 ⟨Nat.le_of_ble_eq_true rfl, Nat.le_of_ble_eq_true rfl⟩) ?_
        refine lv_iload_n hx hb dX6_alter_90 rfl (lv_at hl 4 rfl) ?_
        refine lv_iadd hx hb dX6_alter_91 ?_
        refine lv_dup2_11 hx hb dX6_alter_92 rfl rfl ?_
        obtain ⟨q, h⟩ := dk_g h
        refine va_iald hx hb hK hP 1 2 rfl rfl q dX6_alter_93 ?_
        refine lv_iload hx hb dX6_alter_94 (lv_at hl 5 rfl) ?_
        refine lv_ixor hx hb dX6_alter_96 ?_
        obtain ⟨q, h⟩ := dk_g h
        refine va_iast hx hb hK hP hD hS 1 2 rfl rfl q dX6_alter_97 (fun H locs hP hD hS => ?_)
        have hP : va_P D vwCl [(h0, .inr (6, [.int o7.2, .int v_sectors, .int v_power, .ref a_disk, .ref a_made, .int v_used, .int v_reserve, .int v_cutWrites, .int v_cutBytes, .int v_rows, .ref a_sectorOf, .ref a_placeOf, .ref a_manyOf, .ref a_there, .int v_waits, .ref a_waitKind, .ref a_waitMany, .ref a_waitBytes, .int v_stateNumber, .long v_stateNow, .int v_second, .int v_repaired, .int v_up, .int v_sent])), (a_disk, .inl ((k 2), 32768, .inl (upd v_disk (o8 + p3).toNatClampNeg ((v_disk (o8 + p3).toNatClampNeg) ^^^ p4)))), (a_made, .inl ((k 2), 512, .inl v_made)), (a_sectorOf, .inl ((k 2), 5100, .inl v_sectorOf)), (a_placeOf, .inl ((k 2), 5100, .inl v_placeOf)), (a_manyOf, .inl ((k 2), 5100, .inl v_manyOf)), (a_there, .inl ((k 1), 5100, .inl v_there)), (a_waitKind, .inl ((k 2), 100, .inl v_waitKind)), (a_waitMany, .inl ((k 2), 100, .inl v_waitMany)), (a_waitBytes, .inl ((k 3), 100, .inr (.inl v_waitBytes)))] H := hP
        have hD : va_D A [(h0, .inr (6, [.int o7.2, .int v_sectors, .int v_power, .ref a_disk, .ref a_made, .int v_used, .int v_reserve, .int v_cutWrites, .int v_cutBytes, .int v_rows, .ref a_sectorOf, .ref a_placeOf, .ref a_manyOf, .ref a_there, .int v_waits, .ref a_waitKind, .ref a_waitMany, .ref a_waitBytes, .int v_stateNumber, .long v_stateNow, .int v_second, .int v_repaired, .int v_up, .int v_sent])), (a_disk, .inl ((k 2), 32768, .inl (upd v_disk (o8 + p3).toNatClampNeg ((v_disk (o8 + p3).toNatClampNeg) ^^^ p4)))), (a_made, .inl ((k 2), 512, .inl v_made)), (a_sectorOf, .inl ((k 2), 5100, .inl v_sectorOf)), (a_placeOf, .inl ((k 2), 5100, .inl v_placeOf)), (a_manyOf, .inl ((k 2), 5100, .inl v_manyOf)), (a_there, .inl ((k 1), 5100, .inl v_there)), (a_waitKind, .inl ((k 2), 100, .inl v_waitKind)), (a_waitMany, .inl ((k 2), 100, .inl v_waitMany)), (a_waitBytes, .inl ((k 3), 100, .inr (.inl v_waitBytes)))] := hD
        have h := dk_r h
        subst h
        exact dk_rwv hx hb hr hlocks (hP.sub [0, 1, 2, 3, 4, 5, 6, 7, 8, 9] rfl) (hD.sub [0, 1, 2, 3, 4, 5, 6, 7, 8, 9] (by decide) rfl) hS dX6_alter_98
      · replace h := dk_f q h
        have h := dk_r h
        subst h
        exact dk_rwv hx hb hr hlocks (hP.sub [0, 1, 2, 3, 4, 5, 6, 7, 8, 9] rfl) (hD.sub [0, 1, 2, 3, 4, 5, 6, 7, 8, 9] (by decide) rfl) hS dX6_alter_80
    · replace h := dk_f q h
      refine lv_iload_n hx hb dX6_alter_23 rfl (lv_at hl 3 rfl) ?_
      refine lv_iconst (v := 0) hx hb dX6_alter_24 (by decide) ?_
      refine lv_sipush (v := 511) hx hb dX6_alter_25 (by decide) ?_
      replace h := dk_b h
      obtain ⟨o9, e9, h⟩ := h
      refine dk_cri (va_runS (As := [.int p3, .int 0, .int 511]) (rest := []) ⟨hx, hb, hml, hown, hts⟩ (mX6_in l D k p3 0 511 o9 e9) (va_cwS 3 hts (dk_gS w_818 w_819 w_46 w_820) rfl rfl rfl (by decide +kernel) ⟨Nat.le_of_ble_eq_true rfl, Nat.le_of_ble_eq_true rfl⟩) (dk_psr hK hN hP [] rfl) rfl rfl hl.1 rfl (lv_room (Nat.le_of_ble_eq_true rfl)) dX6_alter_28 ⟨Nat.le_of_ble_eq_true rfl, Nat.le_of_ble_eq_true rfl⟩) ?_
      refine dk_jn (F0 m 39 ls [.int (if o9 = 0 then 1 else 0)]) (fun K => ?_) ?_
      · refine lv_if_ne (tgt := 38) hx hb dX6_alter_31 (by decide) (fun q1 => ?_) (fun q1 => ?_)
        · refine lv_iconst (v := 0) hx hb dX6_alter_38 (by decide) ?_
          have K := K
          rw [if_neg q1] at K
          exact K
        · refine lv_iconst (v := 1) hx hb dX6_alter_34 (by decide) ?_
          refine lv_goto (tgt := 39) hx hb dX6_alter_35 (by decide) ?_
          have K := K
          rw [if_pos q1] at K
          exact K
      refine lv_istore (lv' := [(5, .int (if o9 = 0 then 1 else 0)), (0, .ref h0), (1, .int p1), (2, .int p2), (3, .int p3), (4, .int p4)]) hx hb dX6_alter_39 hl (by decide) rfl (fun ls hl => ?_)
      refine lv_aload_n hx hb dX6_alter_41 rfl (lv_at hl 1 rfl) ?_
      refine lv_iload hx hb dX6_alter_42 (lv_at hl 0 rfl) ?_
      refine lv_iload hx hb dX6_alter_44 (lv_at hl 5 rfl) ?_
      refine lv_iconst (v := 1) hx hb dX6_alter_46 (by decide) ?_
      refine lv_sipush (v := 255) hx hb dX6_alter_47 (by decide) ?_
      replace h := dk_b h
      obtain ⟨o10, e10, h⟩ := h
      refine dk_cri (va_runS (As := [.int p4, .int 1, .int 255]) (rest := [.int (if o9 = 0 then 1 else 0), .ref h0]) ⟨hx, hb, hml, hown, hts⟩ (mX6_in l D k p4 1 255 o10 e10) (va_cwS 3 hts (dk_gS w_818 w_819 w_46 w_820) rfl rfl rfl (by decide +kernel) ⟨Nat.le_of_ble_eq_true rfl, Nat.le_of_ble_eq_true rfl⟩) (dk_psr hK hN hP [] rfl) rfl rfl hl.1 rfl (lv_room (Nat.le_of_ble_eq_true rfl)) dX6_alter_50 ⟨Nat.le_of_ble_eq_true rfl, Nat.le_of_ble_eq_true rfl⟩) ?_
      refine dk_jn (F0 m 61 ls [.int (if o10 = 0 then 1 else 0), .int (if o9 = 0 then 1 else 0), .ref h0]) (fun K => ?_) ?_
      · refine lv_if_ne (tgt := 60) hx hb dX6_alter_53 (by decide) (fun q1 => ?_) (fun q1 => ?_)
        · refine lv_iconst (v := 0) hx hb dX6_alter_60 (by decide) ?_
          have K := K
          rw [if_neg q1] at K
          exact K
        · refine lv_iconst (v := 1) hx hb dX6_alter_56 (by decide) ?_
          refine lv_goto (tgt := 61) hx hb dX6_alter_57 (by decide) ?_
          have K := K
          rw [if_pos q1] at K
          exact K
      refine lv_aload_n hx hb dX6_alter_61 rfl (lv_at hl 1 rfl) ?_
      refine va_get (D := D) (ci := 6) (v := .int v_sectors) (C := "ServiceDiskModel") (T := TX6) (N := 24) hx hb hts inX6 hown hK hP 0 rfl rfl 1 (by decide) (hts _ w_738) (fun _ h9 => h9) rfl dX6_alter_62 ?_
      refine dk_jn (F0 m 73 ls [.int (if v_sectors = 0 then 1 else 0), .int (if o10 = 0 then 1 else 0), .int (if o9 = 0 then 1 else 0), .ref h0]) (fun K => ?_) ?_
      · refine lv_if_ne (tgt := 72) hx hb dX6_alter_65 (by decide) (fun q1 => ?_) (fun q1 => ?_)
        · refine lv_iconst (v := 0) hx hb dX6_alter_72 (by decide) ?_
          have K := K
          rw [if_neg q1] at K
          exact K
        · refine lv_iconst (v := 1) hx hb dX6_alter_68 (by decide) ?_
          refine lv_goto (tgt := 73) hx hb dX6_alter_69 (by decide) ?_
          have K := K
          rw [if_pos q1] at K
          exact K
      refine lv_iconst (v := 0) hx hb dX6_alter_73 (by decide) ?_
      replace h := dk_b h
      obtain ⟨o11, e11, h⟩ := h
      refine dk_cwi (wr := []) (va_runV (As := [.int (if o9 = 0 then 1 else 0), .int (if o10 = 0 then 1 else 0), .int (if v_sectors = 0 then 1 else 0), .int 0]) (rest := []) ⟨hx, hb, hml, hown, hts⟩ (mX6_throwing l D k h0 a_disk a_made a_sectorOf a_placeOf a_manyOf a_there a_waitKind a_waitMany a_waitBytes s.heap.size v_thrown v_sectors v_power v_used v_reserve v_cutWrites v_cutBytes v_rows v_waits v_stateNumber v_stateNow v_second v_repaired v_up v_sent v_disk v_made v_sectorOf v_placeOf v_manyOf v_there v_waitKind v_waitMany v_waitBytes (if o9 = 0 then 1 else 0) (if o10 = 0 then 1 else 0) (if v_sectors = 0 then 1 else 0) 0 o11 e11) (cwV 4 hts (dk_gV w_821 w_823 w_20 w_46 w_824) rfl rfl rfl (by decide +kernel) ⟨Nat.le_of_ble_eq_true rfl, Nat.le_of_ble_eq_true rfl⟩) (dk_pvw hK hN hP hD [0, 1, 2, 3, 4, 5, 6, 7, 8, 9] rfl rfl rfl rfl (hP.sub [0, 1, 2, 3, 4, 5, 6, 7, 8, 9] rfl)) rfl rfl hl.1 rfl (lv_room (Nat.le_of_ble_eq_true rfl)) dX6_alter_74 ⟨Nat.le_of_ble_eq_true rfl, Nat.le_of_ble_eq_true rfl⟩) hP hD hS hA [0, 1, 2, 3, 4, 5, 6, 7, 8, 9] [] rfl rfl rfl (by decide) (fun H locs hP hD hS => ?_)
      have hP : va_P D vwCl [(h0, .inr (6, [.int o11.2, .int v_sectors, .int v_power, .ref a_disk, .ref a_made, .int v_used, .int v_reserve, .int v_cutWrites, .int v_cutBytes, .int v_rows, .ref a_sectorOf, .ref a_placeOf, .ref a_manyOf, .ref a_there, .int v_waits, .ref a_waitKind, .ref a_waitMany, .ref a_waitBytes, .int v_stateNumber, .long v_stateNow, .int v_second, .int v_repaired, .int v_up, .int v_sent])), (a_disk, .inl ((k 2), 32768, .inl v_disk)), (a_made, .inl ((k 2), 512, .inl v_made)), (a_sectorOf, .inl ((k 2), 5100, .inl v_sectorOf)), (a_placeOf, .inl ((k 2), 5100, .inl v_placeOf)), (a_manyOf, .inl ((k 2), 5100, .inl v_manyOf)), (a_there, .inl ((k 1), 5100, .inl v_there)), (a_waitKind, .inl ((k 2), 100, .inl v_waitKind)), (a_waitMany, .inl ((k 2), 100, .inl v_waitMany)), (a_waitBytes, .inl ((k 3), 100, .inr (.inl v_waitBytes)))] H := hP
      have hD : va_D A [(h0, .inr (6, [.int o11.2, .int v_sectors, .int v_power, .ref a_disk, .ref a_made, .int v_used, .int v_reserve, .int v_cutWrites, .int v_cutBytes, .int v_rows, .ref a_sectorOf, .ref a_placeOf, .ref a_manyOf, .ref a_there, .int v_waits, .ref a_waitKind, .ref a_waitMany, .ref a_waitBytes, .int v_stateNumber, .long v_stateNow, .int v_second, .int v_repaired, .int v_up, .int v_sent])), (a_disk, .inl ((k 2), 32768, .inl v_disk)), (a_made, .inl ((k 2), 512, .inl v_made)), (a_sectorOf, .inl ((k 2), 5100, .inl v_sectorOf)), (a_placeOf, .inl ((k 2), 5100, .inl v_placeOf)), (a_manyOf, .inl ((k 2), 5100, .inl v_manyOf)), (a_there, .inl ((k 1), 5100, .inl v_there)), (a_waitKind, .inl ((k 2), 100, .inl v_waitKind)), (a_waitMany, .inl ((k 2), 100, .inl v_waitMany)), (a_waitBytes, .inl ((k 3), 100, .inr (.inl v_waitBytes)))] := hD
      refine lv_if_eq (tgt := 81) hx hb dX6_alter_77 (by decide) (fun q => ?_) (fun q => ?_)
      · replace h := dk_t q h
        refine lv_aload_n hx hb dX6_alter_81 rfl (lv_at hl 1 rfl) ?_
        refine va_get (D := D) (ci := 6) (v := .ref a_disk) (C := "ServiceDiskModel") (T := TX6) (N := 24) hx hb hts inX6 hown hK hP 0 rfl rfl 3 (by decide) (hts _ w_740) (fun _ h9 => h9) rfl dX6_alter_82 ?_
        refine lv_iload_n hx hb dX6_alter_85 rfl (lv_at hl 2 rfl) ?_
        refine lv_iload_n hx hb dX6_alter_86 rfl (lv_at hl 3 rfl) ?_
        replace h := dk_b h
        obtain ⟨o12, e12, h⟩ := h
        refine dk_cri (va_runS (As := [.int p1, .int p2]) (rest := [.ref a_disk]) ⟨hx, hb, hml, hown, hts⟩ (mX6_at l D k p1 p2 o12 e12) (va_cwS 2 hts (dk_gS w_869 w_870 w_46 w_871) rfl rfl rfl (by decide +kernel) ⟨Nat.le_of_ble_eq_true rfl, Nat.le_of_ble_eq_true rfl⟩) (dk_psr hK hN hP [] rfl) rfl rfl hl.1 rfl (lv_room (Nat.le_of_ble_eq_true rfl)) dX6_alter_87 ⟨Nat.le_of_ble_eq_true rfl, Nat.le_of_ble_eq_true rfl⟩) ?_
        refine lv_iload_n hx hb dX6_alter_90 rfl (lv_at hl 4 rfl) ?_
        refine lv_iadd hx hb dX6_alter_91 ?_
        refine lv_dup2_11 hx hb dX6_alter_92 rfl rfl ?_
        obtain ⟨q, h⟩ := dk_g h
        refine va_iald hx hb hK hP 1 2 rfl rfl q dX6_alter_93 ?_
        refine lv_iload hx hb dX6_alter_94 (lv_at hl 5 rfl) ?_
        refine lv_ixor hx hb dX6_alter_96 ?_
        obtain ⟨q, h⟩ := dk_g h
        refine va_iast hx hb hK hP hD hS 1 2 rfl rfl q dX6_alter_97 (fun H locs hP hD hS => ?_)
        have hP : va_P D vwCl [(h0, .inr (6, [.int o11.2, .int v_sectors, .int v_power, .ref a_disk, .ref a_made, .int v_used, .int v_reserve, .int v_cutWrites, .int v_cutBytes, .int v_rows, .ref a_sectorOf, .ref a_placeOf, .ref a_manyOf, .ref a_there, .int v_waits, .ref a_waitKind, .ref a_waitMany, .ref a_waitBytes, .int v_stateNumber, .long v_stateNow, .int v_second, .int v_repaired, .int v_up, .int v_sent])), (a_disk, .inl ((k 2), 32768, .inl (upd v_disk (o12 + p3).toNatClampNeg ((v_disk (o12 + p3).toNatClampNeg) ^^^ p4)))), (a_made, .inl ((k 2), 512, .inl v_made)), (a_sectorOf, .inl ((k 2), 5100, .inl v_sectorOf)), (a_placeOf, .inl ((k 2), 5100, .inl v_placeOf)), (a_manyOf, .inl ((k 2), 5100, .inl v_manyOf)), (a_there, .inl ((k 1), 5100, .inl v_there)), (a_waitKind, .inl ((k 2), 100, .inl v_waitKind)), (a_waitMany, .inl ((k 2), 100, .inl v_waitMany)), (a_waitBytes, .inl ((k 3), 100, .inr (.inl v_waitBytes)))] H := hP
        have hD : va_D A [(h0, .inr (6, [.int o11.2, .int v_sectors, .int v_power, .ref a_disk, .ref a_made, .int v_used, .int v_reserve, .int v_cutWrites, .int v_cutBytes, .int v_rows, .ref a_sectorOf, .ref a_placeOf, .ref a_manyOf, .ref a_there, .int v_waits, .ref a_waitKind, .ref a_waitMany, .ref a_waitBytes, .int v_stateNumber, .long v_stateNow, .int v_second, .int v_repaired, .int v_up, .int v_sent])), (a_disk, .inl ((k 2), 32768, .inl (upd v_disk (o12 + p3).toNatClampNeg ((v_disk (o12 + p3).toNatClampNeg) ^^^ p4)))), (a_made, .inl ((k 2), 512, .inl v_made)), (a_sectorOf, .inl ((k 2), 5100, .inl v_sectorOf)), (a_placeOf, .inl ((k 2), 5100, .inl v_placeOf)), (a_manyOf, .inl ((k 2), 5100, .inl v_manyOf)), (a_there, .inl ((k 1), 5100, .inl v_there)), (a_waitKind, .inl ((k 2), 100, .inl v_waitKind)), (a_waitMany, .inl ((k 2), 100, .inl v_waitMany)), (a_waitBytes, .inl ((k 3), 100, .inr (.inl v_waitBytes)))] := hD
        have h := dk_r h
        subst h
        exact dk_rwv hx hb hr hlocks (hP.sub [0, 1, 2, 3, 4, 5, 6, 7, 8, 9] rfl) (hD.sub [0, 1, 2, 3, 4, 5, 6, 7, 8, 9] (by decide) rfl) hS dX6_alter_98
      · replace h := dk_f q h
        have h := dk_r h
        subst h
        exact dk_rwv hx hb hr hlocks (hP.sub [0, 1, 2, 3, 4, 5, 6, 7, 8, 9] rfl) (hD.sub [0, 1, 2, 3, 4, 5, 6, 7, 8, 9] (by decide) rfl) hS dX6_alter_80
/-! ServiceDiskModel.read(II)I: rw, frames 5, locals 113 -/
def fX6_read (v_sectors : Int32) (v_power : Int32) (v_rows : Int32) (v_second : Int32) (v_disk : Nat → Int32) (v_sectorOf : Nat → Int32) (v_placeOf : Nat → Int32) (v_manyOf : Nat → Int32) (p1 : Int32) (p2 : Int32) : Option (Int32 × Int32 × Int32) :=
  (fX6_refuses v_power v_rows p1 (if 0 ≤ p2 then 0 else 1) 3).bind fun o1 =>
  if o1.1 = 0 then
    (fX6_find v_sectors v_second v_disk v_sectorOf v_placeOf p1).bind fun o2 =>
    if 0 ≤ o2.1 then
      if dk_in p1 5100 then
      if (v_manyOf p1.toNatClampNeg) ≤ p2 then
        some ((-1), o1.2, o2.2)
      else
        if dk_in ((o2.1 + 2) + p2) 32768 then
        some ((v_disk ((o2.1 + 2) + p2).toNatClampNeg), o1.2, o2.2)
        else none
      else none
    else
      some ((-2), o1.2, o2.2)
  else
    some (0, o1.2, v_second)
set_option maxHeartbeats 4000000 in
set_option maxRecDepth 100000 in
theorem mX6_read (l : Launch) (D : va_G) (k : Nat → ClassId) (h0 a_disk a_made a_sectorOf a_placeOf a_manyOf a_there a_waitKind a_waitMany a_waitBytes : Nat) (sz : Nat) (v_thrown : Int32) (v_sectors : Int32) (v_power : Int32) (v_used : Int32) (v_reserve : Int32) (v_cutWrites : Int32) (v_cutBytes : Int32) (v_rows : Int32) (v_waits : Int32) (v_stateNumber : Int32) (v_stateNow : Int64) (v_second : Int32) (v_repaired : Int32) (v_up : Int32) (v_sent : Int32) (v_disk : Nat → Int32) (v_made : Nat → Int32) (v_sectorOf : Nat → Int32) (v_placeOf : Nat → Int32) (v_manyOf : Nat → Int32) (v_there : Nat → Int32) (v_waitKind : Nat → Int32) (v_waitMany : Nat → Int32) (v_waitBytes : Nat → Int64) (p1 : Int32) (p2 : Int32) (o : Int32 × Int32 × Int32) (h : fX6_read v_sectors v_power v_rows v_second v_disk v_sectorOf v_placeOf v_manyOf p1 p2 = some o) : Met l yX6_read wsX6_read { frames := 5, cells := 0, slots := 0, locals := 113 } (dk_Pw D k [.ref h0, .int p1, .int p2] [(h0, .inr (6, [.int v_thrown, .int v_sectors, .int v_power, .ref a_disk, .ref a_made, .int v_used, .int v_reserve, .int v_cutWrites, .int v_cutBytes, .int v_rows, .ref a_sectorOf, .ref a_placeOf, .ref a_manyOf, .ref a_there, .int v_waits, .ref a_waitKind, .ref a_waitMany, .ref a_waitBytes, .int v_stateNumber, .long v_stateNow, .int v_second, .int v_repaired, .int v_up, .int v_sent])), (a_disk, .inl ((k 2), 32768, .inl v_disk)), (a_made, .inl ((k 2), 512, .inl v_made)), (a_sectorOf, .inl ((k 2), 5100, .inl v_sectorOf)), (a_placeOf, .inl ((k 2), 5100, .inl v_placeOf)), (a_manyOf, .inl ((k 2), 5100, .inl v_manyOf)), (a_there, .inl ((k 1), 5100, .inl v_there)), (a_waitKind, .inl ((k 2), 100, .inl v_waitKind)), (a_waitMany, .inl ((k 2), 100, .inl v_waitMany)), (a_waitBytes, .inl ((k 3), 100, .inr (.inl v_waitBytes)))] sz) (dk_Qi o.1 D [(h0, .inr (6, [.int o.2.1, .int v_sectors, .int v_power, .ref a_disk, .ref a_made, .int v_used, .int v_reserve, .int v_cutWrites, .int v_cutBytes, .int v_rows, .ref a_sectorOf, .ref a_placeOf, .ref a_manyOf, .ref a_there, .int v_waits, .ref a_waitKind, .ref a_waitMany, .ref a_waitBytes, .int v_stateNumber, .long v_stateNow, .int o.2.2, .int v_repaired, .int v_up, .int v_sent])), (a_disk, .inl ((k 2), 32768, .inl v_disk)), (a_made, .inl ((k 2), 512, .inl v_made)), (a_sectorOf, .inl ((k 2), 5100, .inl v_sectorOf)), (a_placeOf, .inl ((k 2), 5100, .inl v_placeOf)), (a_manyOf, .inl ((k 2), 5100, .inl v_manyOf)), (a_there, .inl ((k 1), 5100, .inl v_there)), (a_waitKind, .inl ((k 2), 100, .inl v_waitKind)), (a_waitMany, .inl ((k 2), 100, .inl v_waitMany)), (a_waitBytes, .inl ((k 3), 100, .inr (.inl v_waitBytes)))] (va_A [(h0, .inr (6, [.int v_thrown, .int v_sectors, .int v_power, .ref a_disk, .ref a_made, .int v_used, .int v_reserve, .int v_cutWrites, .int v_cutBytes, .int v_rows, .ref a_sectorOf, .ref a_placeOf, .ref a_manyOf, .ref a_there, .int v_waits, .ref a_waitKind, .ref a_waitMany, .ref a_waitBytes, .int v_stateNumber, .long v_stateNow, .int v_second, .int v_repaired, .int v_up, .int v_sent])), (a_disk, .inl ((k 2), 32768, .inl v_disk)), (a_made, .inl ((k 2), 512, .inl v_made)), (a_sectorOf, .inl ((k 2), 5100, .inl v_sectorOf)), (a_placeOf, .inl ((k 2), 5100, .inl v_placeOf)), (a_manyOf, .inl ((k 2), 5100, .inl v_manyOf)), (a_there, .inl ((k 1), 5100, .inl v_there)), (a_waitKind, .inl ((k 2), 100, .inl v_waitKind)), (a_waitMany, .inl ((k 2), 100, .inl v_waitMany)), (a_waitBytes, .inl ((k 3), 100, .inr (.inl v_waitBytes)))] sz)) 0 0 (va_A [(h0, .inr (6, [.int v_thrown, .int v_sectors, .int v_power, .ref a_disk, .ref a_made, .int v_used, .int v_reserve, .int v_cutWrites, .int v_cutBytes, .int v_rows, .ref a_sectorOf, .ref a_placeOf, .ref a_manyOf, .ref a_there, .int v_waits, .ref a_waitKind, .ref a_waitMany, .ref a_waitBytes, .int v_stateNumber, .long v_stateNow, .int v_second, .int v_repaired, .int v_up, .int v_sent])), (a_disk, .inl ((k 2), 32768, .inl v_disk)), (a_made, .inl ((k 2), 512, .inl v_made)), (a_sectorOf, .inl ((k 2), 5100, .inl v_sectorOf)), (a_placeOf, .inl ((k 2), 5100, .inl v_placeOf)), (a_manyOf, .inl ((k 2), 5100, .inl v_manyOf)), (a_there, .inl ((k 1), 5100, .inl v_there)), (a_waitKind, .inl ((k 2), 100, .inl v_waitKind)), (a_waitMany, .inl ((k 2), 100, .inl v_waitMany)), (a_waitBytes, .inl ((k 3), 100, .inr (.inl v_waitBytes)))] sz) := by
  unfold fX6_read at h
  refine dk_ofW (Qc := fun A => dk_Qi o.1 D [(h0, .inr (6, [.int o.2.1, .int v_sectors, .int v_power, .ref a_disk, .ref a_made, .int v_used, .int v_reserve, .int v_cutWrites, .int v_cutBytes, .int v_rows, .ref a_sectorOf, .ref a_placeOf, .ref a_manyOf, .ref a_there, .int v_waits, .ref a_waitKind, .ref a_waitMany, .ref a_waitBytes, .int v_stateNumber, .long v_stateNow, .int o.2.2, .int v_repaired, .int v_up, .int v_sent])), (a_disk, .inl ((k 2), 32768, .inl v_disk)), (a_made, .inl ((k 2), 512, .inl v_made)), (a_sectorOf, .inl ((k 2), 5100, .inl v_sectorOf)), (a_placeOf, .inl ((k 2), 5100, .inl v_placeOf)), (a_manyOf, .inl ((k 2), 5100, .inl v_manyOf)), (a_there, .inl ((k 1), 5100, .inl v_there)), (a_waitKind, .inl ((k 2), 100, .inl v_waitKind)), (a_waitMany, .inl ((k 2), 100, .inl v_waitMany)), (a_waitBytes, .inl ((k 3), 100, .inr (.inl v_waitBytes)))] A) (cc := cX6_read) (maxL := 4) (ret := (some .int)) (lv := [(0, .ref h0), (1, .int p1), (2, .int p2)]) (by decide) rfl (Nat.le_of_ble_eq_true rfl) rfl ?_
  intro p e s m below meth c C hK hN hP A hA hD hS ls hl
  obtain ⟨hx, hb, hr, hml, hown, hts, hlocks⟩ := id C
  refine lv_aload_n hx hb dX6_read_0 rfl (lv_at hl 0 rfl) ?_
  refine lv_iload_n hx hb dX6_read_1 rfl (lv_at hl 1 rfl) ?_
  refine lv_iload_n hx hb dX6_read_2 rfl (lv_at hl 2 rfl) ?_
  refine dk_jn (F0 m 11 ls [.int (if 0 ≤ p2 then 0 else 1), .int p1, .ref h0]) (fun K => ?_) ?_
  · refine lv_if_ge (tgt := 10) hx hb dX6_read_3 (by decide) (fun q1 => ?_) (fun q1 => ?_)
    · refine lv_iconst (v := 0) hx hb dX6_read_10 (by decide) ?_
      have K := K
      rw [if_pos q1] at K
      exact K
    · refine lv_iconst (v := 1) hx hb dX6_read_6 (by decide) ?_
      refine lv_goto (tgt := 11) hx hb dX6_read_7 (by decide) ?_
      have K := K
      rw [if_neg q1] at K
      exact K
  refine lv_iconst (v := 3) hx hb dX6_read_11 (by decide) ?_
  replace h := dk_b h
  obtain ⟨o1, e1, h⟩ := h
  refine dk_cwi (wr := []) (va_runV (As := [.int p1, .int (if 0 ≤ p2 then 0 else 1), .int 3]) (rest := []) ⟨hx, hb, hml, hown, hts⟩ (mX6_refuses l D k h0 a_disk a_made a_sectorOf a_placeOf a_manyOf a_there a_waitKind a_waitMany a_waitBytes s.heap.size v_thrown v_sectors v_power v_used v_reserve v_cutWrites v_cutBytes v_rows v_waits v_stateNumber v_stateNow v_second v_repaired v_up v_sent v_disk v_made v_sectorOf v_placeOf v_manyOf v_there v_waitKind v_waitMany v_waitBytes p1 (if 0 ≤ p2 then 0 else 1) 3 o1 e1) (cwV 3 hts (dk_gV w_928 w_930 w_36 w_46 w_931) rfl rfl rfl (by decide +kernel) ⟨Nat.le_of_ble_eq_true rfl, Nat.le_of_ble_eq_true rfl⟩) (dk_pvw hK hN hP hD [0, 1, 2, 3, 4, 5, 6, 7, 8, 9] rfl rfl rfl rfl (hP.sub [0, 1, 2, 3, 4, 5, 6, 7, 8, 9] rfl)) rfl rfl hl.1 rfl (lv_room (Nat.le_of_ble_eq_true rfl)) dX6_read_12 ⟨Nat.le_of_ble_eq_true rfl, Nat.le_of_ble_eq_true rfl⟩) hP hD hS hA [0, 1, 2, 3, 4, 5, 6, 7, 8, 9] [] rfl rfl rfl (by decide) (fun H locs hP hD hS => ?_)
  have hP : va_P D vwCl [(h0, .inr (6, [.int o1.2, .int v_sectors, .int v_power, .ref a_disk, .ref a_made, .int v_used, .int v_reserve, .int v_cutWrites, .int v_cutBytes, .int v_rows, .ref a_sectorOf, .ref a_placeOf, .ref a_manyOf, .ref a_there, .int v_waits, .ref a_waitKind, .ref a_waitMany, .ref a_waitBytes, .int v_stateNumber, .long v_stateNow, .int v_second, .int v_repaired, .int v_up, .int v_sent])), (a_disk, .inl ((k 2), 32768, .inl v_disk)), (a_made, .inl ((k 2), 512, .inl v_made)), (a_sectorOf, .inl ((k 2), 5100, .inl v_sectorOf)), (a_placeOf, .inl ((k 2), 5100, .inl v_placeOf)), (a_manyOf, .inl ((k 2), 5100, .inl v_manyOf)), (a_there, .inl ((k 1), 5100, .inl v_there)), (a_waitKind, .inl ((k 2), 100, .inl v_waitKind)), (a_waitMany, .inl ((k 2), 100, .inl v_waitMany)), (a_waitBytes, .inl ((k 3), 100, .inr (.inl v_waitBytes)))] H := hP
  have hD : va_D A [(h0, .inr (6, [.int o1.2, .int v_sectors, .int v_power, .ref a_disk, .ref a_made, .int v_used, .int v_reserve, .int v_cutWrites, .int v_cutBytes, .int v_rows, .ref a_sectorOf, .ref a_placeOf, .ref a_manyOf, .ref a_there, .int v_waits, .ref a_waitKind, .ref a_waitMany, .ref a_waitBytes, .int v_stateNumber, .long v_stateNow, .int v_second, .int v_repaired, .int v_up, .int v_sent])), (a_disk, .inl ((k 2), 32768, .inl v_disk)), (a_made, .inl ((k 2), 512, .inl v_made)), (a_sectorOf, .inl ((k 2), 5100, .inl v_sectorOf)), (a_placeOf, .inl ((k 2), 5100, .inl v_placeOf)), (a_manyOf, .inl ((k 2), 5100, .inl v_manyOf)), (a_there, .inl ((k 1), 5100, .inl v_there)), (a_waitKind, .inl ((k 2), 100, .inl v_waitKind)), (a_waitMany, .inl ((k 2), 100, .inl v_waitMany)), (a_waitBytes, .inl ((k 3), 100, .inr (.inl v_waitBytes)))] := hD
  refine lv_if_eq (tgt := 20) hx hb dX6_read_15 (by decide) (fun q => ?_) (fun q => ?_)
  · replace h := dk_t q h
    refine lv_aload_n hx hb dX6_read_20 rfl (lv_at hl 0 rfl) ?_
    refine lv_iload_n hx hb dX6_read_21 rfl (lv_at hl 1 rfl) ?_
    replace h := dk_b h
    obtain ⟨o2, e2, h⟩ := h
    refine dk_cwi (wr := []) (va_runV (As := [.int p1]) (rest := []) ⟨hx, hb, hml, hown, hts⟩ (mX6_find l D k h0 a_disk a_made a_sectorOf a_placeOf a_manyOf a_there a_waitKind a_waitMany a_waitBytes H.size o1.2 v_sectors v_power v_used v_reserve v_cutWrites v_cutBytes v_rows v_waits v_stateNumber v_stateNow v_second v_repaired v_up v_sent v_disk v_made v_sectorOf v_placeOf v_manyOf v_there v_waitKind v_waitMany v_waitBytes p1 o2 e2) (cwV 1 hts (dk_gV w_932 w_934 w_37 w_46 w_935) rfl rfl rfl (by decide +kernel) ⟨Nat.le_of_ble_eq_true rfl, Nat.le_of_ble_eq_true rfl⟩) (dk_pvw hK hN hP hD [0, 1, 2, 3, 4, 5, 6, 7, 8, 9] rfl rfl rfl rfl (hP.sub [0, 1, 2, 3, 4, 5, 6, 7, 8, 9] rfl)) rfl rfl hl.1 rfl (lv_room (Nat.le_of_ble_eq_true rfl)) dX6_read_22 ⟨Nat.le_of_ble_eq_true rfl, Nat.le_of_ble_eq_true rfl⟩) hP hD hS hA [0, 1, 2, 3, 4, 5, 6, 7, 8, 9] [] rfl rfl rfl (by decide) (fun H locs hP hD hS => ?_)
    have hP : va_P D vwCl [(h0, .inr (6, [.int o1.2, .int v_sectors, .int v_power, .ref a_disk, .ref a_made, .int v_used, .int v_reserve, .int v_cutWrites, .int v_cutBytes, .int v_rows, .ref a_sectorOf, .ref a_placeOf, .ref a_manyOf, .ref a_there, .int v_waits, .ref a_waitKind, .ref a_waitMany, .ref a_waitBytes, .int v_stateNumber, .long v_stateNow, .int o2.2, .int v_repaired, .int v_up, .int v_sent])), (a_disk, .inl ((k 2), 32768, .inl v_disk)), (a_made, .inl ((k 2), 512, .inl v_made)), (a_sectorOf, .inl ((k 2), 5100, .inl v_sectorOf)), (a_placeOf, .inl ((k 2), 5100, .inl v_placeOf)), (a_manyOf, .inl ((k 2), 5100, .inl v_manyOf)), (a_there, .inl ((k 1), 5100, .inl v_there)), (a_waitKind, .inl ((k 2), 100, .inl v_waitKind)), (a_waitMany, .inl ((k 2), 100, .inl v_waitMany)), (a_waitBytes, .inl ((k 3), 100, .inr (.inl v_waitBytes)))] H := hP
    have hD : va_D A [(h0, .inr (6, [.int o1.2, .int v_sectors, .int v_power, .ref a_disk, .ref a_made, .int v_used, .int v_reserve, .int v_cutWrites, .int v_cutBytes, .int v_rows, .ref a_sectorOf, .ref a_placeOf, .ref a_manyOf, .ref a_there, .int v_waits, .ref a_waitKind, .ref a_waitMany, .ref a_waitBytes, .int v_stateNumber, .long v_stateNow, .int o2.2, .int v_repaired, .int v_up, .int v_sent])), (a_disk, .inl ((k 2), 32768, .inl v_disk)), (a_made, .inl ((k 2), 512, .inl v_made)), (a_sectorOf, .inl ((k 2), 5100, .inl v_sectorOf)), (a_placeOf, .inl ((k 2), 5100, .inl v_placeOf)), (a_manyOf, .inl ((k 2), 5100, .inl v_manyOf)), (a_there, .inl ((k 1), 5100, .inl v_there)), (a_waitKind, .inl ((k 2), 100, .inl v_waitKind)), (a_waitMany, .inl ((k 2), 100, .inl v_waitMany)), (a_waitBytes, .inl ((k 3), 100, .inr (.inl v_waitBytes)))] := hD
    refine lv_istore_n (lv' := [(3, .int o2.1), (0, .ref h0), (1, .int p1), (2, .int p2)]) hx hb dX6_read_25 rfl hl (by decide) rfl (fun ls hl => ?_)
    refine lv_iload_n hx hb dX6_read_26 rfl (lv_at hl 0 rfl) ?_
    refine lv_if_ge (tgt := 33) hx hb dX6_read_27 (by decide) (fun q => ?_) (fun q => ?_)
    · replace h := dk_t q h
      refine lv_iload_n hx hb dX6_read_33 rfl (lv_at hl 3 rfl) ?_
      refine lv_aload_n hx hb dX6_read_34 rfl (lv_at hl 1 rfl) ?_
      refine va_get (D := D) (ci := 6) (v := .ref a_manyOf) (C := "ServiceDiskModel") (T := TX6) (N := 24) hx hb hts inX6 hown hK hP 0 rfl rfl 12 (by decide) (hts _ w_749) (fun _ h9 => h9) rfl dX6_read_35 ?_
      refine lv_iload_n hx hb dX6_read_38 rfl (lv_at hl 2 rfl) ?_
      obtain ⟨q, h⟩ := dk_g h
      refine va_iald hx hb hK hP 5 2 rfl rfl q dX6_read_39 ?_
      refine lv_icmp_ge (tgt := 56) hx hb dX6_read_40 (by decide) (fun q => ?_) (fun q => ?_)
      · replace h := dk_t q h
        refine lv_iconst (v := -1) hx hb dX6_read_56 (by decide) ?_
        have h := dk_r h
        subst h
        exact dk_rwi hx hb hr hlocks (hP.sub [0, 1, 2, 3, 4, 5, 6, 7, 8, 9] rfl) (hD.sub [0, 1, 2, 3, 4, 5, 6, 7, 8, 9] (by decide) rfl) hS dX6_read_57 rfl
      · replace h := dk_f q h
        refine lv_aload_n hx hb dX6_read_43 rfl (lv_at hl 1 rfl) ?_
        refine va_get (D := D) (ci := 6) (v := .ref a_disk) (C := "ServiceDiskModel") (T := TX6) (N := 24) hx hb hts inX6 hown hK hP 0 rfl rfl 3 (by decide) (hts _ w_740) (fun _ h9 => h9) rfl dX6_read_44 ?_
        refine lv_iload_n hx hb dX6_read_47 rfl (lv_at hl 0 rfl) ?_
        refine lv_iconst (v := 2) hx hb dX6_read_48 (by decide) ?_
        refine lv_iadd hx hb dX6_read_49 ?_
        refine lv_iload_n hx hb dX6_read_50 rfl (lv_at hl 3 rfl) ?_
        refine lv_iadd hx hb dX6_read_51 ?_
        obtain ⟨q, h⟩ := dk_g h
        refine va_iald hx hb hK hP 1 2 rfl rfl q dX6_read_52 ?_
        refine lv_goto (tgt := 57) hx hb dX6_read_53 (by decide) ?_
        have h := dk_r h
        subst h
        exact dk_rwi hx hb hr hlocks (hP.sub [0, 1, 2, 3, 4, 5, 6, 7, 8, 9] rfl) (hD.sub [0, 1, 2, 3, 4, 5, 6, 7, 8, 9] (by decide) rfl) hS dX6_read_57 rfl
    · replace h := dk_f q h
      refine lv_bipush (v := -2) hx hb dX6_read_30 (by decide) ?_
      have h := dk_r h
      subst h
      exact dk_rwi hx hb hr hlocks (hP.sub [0, 1, 2, 3, 4, 5, 6, 7, 8, 9] rfl) (hD.sub [0, 1, 2, 3, 4, 5, 6, 7, 8, 9] (by decide) rfl) hS dX6_read_32 rfl
  · replace h := dk_f q h
    refine lv_iconst (v := 0) hx hb dX6_read_18 (by decide) ?_
    have h := dk_r h
    subst h
    exact dk_rwi hx hb hr hlocks (hP.sub [0, 1, 2, 3, 4, 5, 6, 7, 8, 9] rfl) (hD.sub [0, 1, 2, 3, 4, 5, 6, 7, 8, 9] (by decide) rfl) hS dX6_read_19 rfl
/-! ServiceDiskModel.kind(I)I: rw, frames 5, locals 113 -/
def fX6_kind (v_sectors : Int32) (v_power : Int32) (v_rows : Int32) (v_second : Int32) (v_disk : Nat → Int32) (v_sectorOf : Nat → Int32) (v_placeOf : Nat → Int32) (p1 : Int32) : Option (Int32 × Int32 × Int32) :=
  (fX6_refuses v_power v_rows p1 0 2).bind fun o1 =>
  if o1.1 = 0 then
    (fX6_find v_sectors v_second v_disk v_sectorOf v_placeOf p1).bind fun o2 =>
    if 0 ≤ o2.1 then
      if dk_in o2.1 32768 then
      some ((v_disk o2.1.toNatClampNeg), o1.2, o2.2)
      else none
    else
      some ((-2), o1.2, o2.2)
  else
    some (0, o1.2, v_second)
set_option maxHeartbeats 4000000 in
set_option maxRecDepth 100000 in
theorem mX6_kind (l : Launch) (D : va_G) (k : Nat → ClassId) (h0 a_disk a_made a_sectorOf a_placeOf a_manyOf a_there a_waitKind a_waitMany a_waitBytes : Nat) (sz : Nat) (v_thrown : Int32) (v_sectors : Int32) (v_power : Int32) (v_used : Int32) (v_reserve : Int32) (v_cutWrites : Int32) (v_cutBytes : Int32) (v_rows : Int32) (v_waits : Int32) (v_stateNumber : Int32) (v_stateNow : Int64) (v_second : Int32) (v_repaired : Int32) (v_up : Int32) (v_sent : Int32) (v_disk : Nat → Int32) (v_made : Nat → Int32) (v_sectorOf : Nat → Int32) (v_placeOf : Nat → Int32) (v_manyOf : Nat → Int32) (v_there : Nat → Int32) (v_waitKind : Nat → Int32) (v_waitMany : Nat → Int32) (v_waitBytes : Nat → Int64) (p1 : Int32) (o : Int32 × Int32 × Int32) (h : fX6_kind v_sectors v_power v_rows v_second v_disk v_sectorOf v_placeOf p1 = some o) : Met l yX6_kind wsX6_kind { frames := 5, cells := 0, slots := 0, locals := 113 } (dk_Pw D k [.ref h0, .int p1] [(h0, .inr (6, [.int v_thrown, .int v_sectors, .int v_power, .ref a_disk, .ref a_made, .int v_used, .int v_reserve, .int v_cutWrites, .int v_cutBytes, .int v_rows, .ref a_sectorOf, .ref a_placeOf, .ref a_manyOf, .ref a_there, .int v_waits, .ref a_waitKind, .ref a_waitMany, .ref a_waitBytes, .int v_stateNumber, .long v_stateNow, .int v_second, .int v_repaired, .int v_up, .int v_sent])), (a_disk, .inl ((k 2), 32768, .inl v_disk)), (a_made, .inl ((k 2), 512, .inl v_made)), (a_sectorOf, .inl ((k 2), 5100, .inl v_sectorOf)), (a_placeOf, .inl ((k 2), 5100, .inl v_placeOf)), (a_manyOf, .inl ((k 2), 5100, .inl v_manyOf)), (a_there, .inl ((k 1), 5100, .inl v_there)), (a_waitKind, .inl ((k 2), 100, .inl v_waitKind)), (a_waitMany, .inl ((k 2), 100, .inl v_waitMany)), (a_waitBytes, .inl ((k 3), 100, .inr (.inl v_waitBytes)))] sz) (dk_Qi o.1 D [(h0, .inr (6, [.int o.2.1, .int v_sectors, .int v_power, .ref a_disk, .ref a_made, .int v_used, .int v_reserve, .int v_cutWrites, .int v_cutBytes, .int v_rows, .ref a_sectorOf, .ref a_placeOf, .ref a_manyOf, .ref a_there, .int v_waits, .ref a_waitKind, .ref a_waitMany, .ref a_waitBytes, .int v_stateNumber, .long v_stateNow, .int o.2.2, .int v_repaired, .int v_up, .int v_sent])), (a_disk, .inl ((k 2), 32768, .inl v_disk)), (a_made, .inl ((k 2), 512, .inl v_made)), (a_sectorOf, .inl ((k 2), 5100, .inl v_sectorOf)), (a_placeOf, .inl ((k 2), 5100, .inl v_placeOf)), (a_manyOf, .inl ((k 2), 5100, .inl v_manyOf)), (a_there, .inl ((k 1), 5100, .inl v_there)), (a_waitKind, .inl ((k 2), 100, .inl v_waitKind)), (a_waitMany, .inl ((k 2), 100, .inl v_waitMany)), (a_waitBytes, .inl ((k 3), 100, .inr (.inl v_waitBytes)))] (va_A [(h0, .inr (6, [.int v_thrown, .int v_sectors, .int v_power, .ref a_disk, .ref a_made, .int v_used, .int v_reserve, .int v_cutWrites, .int v_cutBytes, .int v_rows, .ref a_sectorOf, .ref a_placeOf, .ref a_manyOf, .ref a_there, .int v_waits, .ref a_waitKind, .ref a_waitMany, .ref a_waitBytes, .int v_stateNumber, .long v_stateNow, .int v_second, .int v_repaired, .int v_up, .int v_sent])), (a_disk, .inl ((k 2), 32768, .inl v_disk)), (a_made, .inl ((k 2), 512, .inl v_made)), (a_sectorOf, .inl ((k 2), 5100, .inl v_sectorOf)), (a_placeOf, .inl ((k 2), 5100, .inl v_placeOf)), (a_manyOf, .inl ((k 2), 5100, .inl v_manyOf)), (a_there, .inl ((k 1), 5100, .inl v_there)), (a_waitKind, .inl ((k 2), 100, .inl v_waitKind)), (a_waitMany, .inl ((k 2), 100, .inl v_waitMany)), (a_waitBytes, .inl ((k 3), 100, .inr (.inl v_waitBytes)))] sz)) 0 0 (va_A [(h0, .inr (6, [.int v_thrown, .int v_sectors, .int v_power, .ref a_disk, .ref a_made, .int v_used, .int v_reserve, .int v_cutWrites, .int v_cutBytes, .int v_rows, .ref a_sectorOf, .ref a_placeOf, .ref a_manyOf, .ref a_there, .int v_waits, .ref a_waitKind, .ref a_waitMany, .ref a_waitBytes, .int v_stateNumber, .long v_stateNow, .int v_second, .int v_repaired, .int v_up, .int v_sent])), (a_disk, .inl ((k 2), 32768, .inl v_disk)), (a_made, .inl ((k 2), 512, .inl v_made)), (a_sectorOf, .inl ((k 2), 5100, .inl v_sectorOf)), (a_placeOf, .inl ((k 2), 5100, .inl v_placeOf)), (a_manyOf, .inl ((k 2), 5100, .inl v_manyOf)), (a_there, .inl ((k 1), 5100, .inl v_there)), (a_waitKind, .inl ((k 2), 100, .inl v_waitKind)), (a_waitMany, .inl ((k 2), 100, .inl v_waitMany)), (a_waitBytes, .inl ((k 3), 100, .inr (.inl v_waitBytes)))] sz) := by
  unfold fX6_kind at h
  refine dk_ofW (Qc := fun A => dk_Qi o.1 D [(h0, .inr (6, [.int o.2.1, .int v_sectors, .int v_power, .ref a_disk, .ref a_made, .int v_used, .int v_reserve, .int v_cutWrites, .int v_cutBytes, .int v_rows, .ref a_sectorOf, .ref a_placeOf, .ref a_manyOf, .ref a_there, .int v_waits, .ref a_waitKind, .ref a_waitMany, .ref a_waitBytes, .int v_stateNumber, .long v_stateNow, .int o.2.2, .int v_repaired, .int v_up, .int v_sent])), (a_disk, .inl ((k 2), 32768, .inl v_disk)), (a_made, .inl ((k 2), 512, .inl v_made)), (a_sectorOf, .inl ((k 2), 5100, .inl v_sectorOf)), (a_placeOf, .inl ((k 2), 5100, .inl v_placeOf)), (a_manyOf, .inl ((k 2), 5100, .inl v_manyOf)), (a_there, .inl ((k 1), 5100, .inl v_there)), (a_waitKind, .inl ((k 2), 100, .inl v_waitKind)), (a_waitMany, .inl ((k 2), 100, .inl v_waitMany)), (a_waitBytes, .inl ((k 3), 100, .inr (.inl v_waitBytes)))] A) (cc := cX6_kind) (maxL := 3) (ret := (some .int)) (lv := [(0, .ref h0), (1, .int p1)]) (by decide) rfl (Nat.le_of_ble_eq_true rfl) rfl ?_
  intro p e s m below meth c C hK hN hP A hA hD hS ls hl
  obtain ⟨hx, hb, hr, hml, hown, hts, hlocks⟩ := id C
  refine lv_aload_n hx hb dX6_kind_0 rfl (lv_at hl 0 rfl) ?_
  refine lv_iload_n hx hb dX6_kind_1 rfl (lv_at hl 1 rfl) ?_
  refine lv_iconst (v := 0) hx hb dX6_kind_2 (by decide) ?_
  refine lv_iconst (v := 2) hx hb dX6_kind_3 (by decide) ?_
  replace h := dk_b h
  obtain ⟨o1, e1, h⟩ := h
  refine dk_cwi (wr := []) (va_runV (As := [.int p1, .int 0, .int 2]) (rest := []) ⟨hx, hb, hml, hown, hts⟩ (mX6_refuses l D k h0 a_disk a_made a_sectorOf a_placeOf a_manyOf a_there a_waitKind a_waitMany a_waitBytes s.heap.size v_thrown v_sectors v_power v_used v_reserve v_cutWrites v_cutBytes v_rows v_waits v_stateNumber v_stateNow v_second v_repaired v_up v_sent v_disk v_made v_sectorOf v_placeOf v_manyOf v_there v_waitKind v_waitMany v_waitBytes p1 0 2 o1 e1) (cwV 3 hts (dk_gV w_928 w_930 w_36 w_46 w_931) rfl rfl rfl (by decide +kernel) ⟨Nat.le_of_ble_eq_true rfl, Nat.le_of_ble_eq_true rfl⟩) (dk_pvw hK hN hP hD [0, 1, 2, 3, 4, 5, 6, 7, 8, 9] rfl rfl rfl rfl (hP.sub [0, 1, 2, 3, 4, 5, 6, 7, 8, 9] rfl)) rfl rfl hl.1 rfl (lv_room (Nat.le_of_ble_eq_true rfl)) dX6_kind_4 ⟨Nat.le_of_ble_eq_true rfl, Nat.le_of_ble_eq_true rfl⟩) hP hD hS hA [0, 1, 2, 3, 4, 5, 6, 7, 8, 9] [] rfl rfl rfl (by decide) (fun H locs hP hD hS => ?_)
  have hP : va_P D vwCl [(h0, .inr (6, [.int o1.2, .int v_sectors, .int v_power, .ref a_disk, .ref a_made, .int v_used, .int v_reserve, .int v_cutWrites, .int v_cutBytes, .int v_rows, .ref a_sectorOf, .ref a_placeOf, .ref a_manyOf, .ref a_there, .int v_waits, .ref a_waitKind, .ref a_waitMany, .ref a_waitBytes, .int v_stateNumber, .long v_stateNow, .int v_second, .int v_repaired, .int v_up, .int v_sent])), (a_disk, .inl ((k 2), 32768, .inl v_disk)), (a_made, .inl ((k 2), 512, .inl v_made)), (a_sectorOf, .inl ((k 2), 5100, .inl v_sectorOf)), (a_placeOf, .inl ((k 2), 5100, .inl v_placeOf)), (a_manyOf, .inl ((k 2), 5100, .inl v_manyOf)), (a_there, .inl ((k 1), 5100, .inl v_there)), (a_waitKind, .inl ((k 2), 100, .inl v_waitKind)), (a_waitMany, .inl ((k 2), 100, .inl v_waitMany)), (a_waitBytes, .inl ((k 3), 100, .inr (.inl v_waitBytes)))] H := hP
  have hD : va_D A [(h0, .inr (6, [.int o1.2, .int v_sectors, .int v_power, .ref a_disk, .ref a_made, .int v_used, .int v_reserve, .int v_cutWrites, .int v_cutBytes, .int v_rows, .ref a_sectorOf, .ref a_placeOf, .ref a_manyOf, .ref a_there, .int v_waits, .ref a_waitKind, .ref a_waitMany, .ref a_waitBytes, .int v_stateNumber, .long v_stateNow, .int v_second, .int v_repaired, .int v_up, .int v_sent])), (a_disk, .inl ((k 2), 32768, .inl v_disk)), (a_made, .inl ((k 2), 512, .inl v_made)), (a_sectorOf, .inl ((k 2), 5100, .inl v_sectorOf)), (a_placeOf, .inl ((k 2), 5100, .inl v_placeOf)), (a_manyOf, .inl ((k 2), 5100, .inl v_manyOf)), (a_there, .inl ((k 1), 5100, .inl v_there)), (a_waitKind, .inl ((k 2), 100, .inl v_waitKind)), (a_waitMany, .inl ((k 2), 100, .inl v_waitMany)), (a_waitBytes, .inl ((k 3), 100, .inr (.inl v_waitBytes)))] := hD
  refine lv_if_eq (tgt := 12) hx hb dX6_kind_7 (by decide) (fun q => ?_) (fun q => ?_)
  · replace h := dk_t q h
    refine lv_aload_n hx hb dX6_kind_12 rfl (lv_at hl 0 rfl) ?_
    refine lv_iload_n hx hb dX6_kind_13 rfl (lv_at hl 1 rfl) ?_
    replace h := dk_b h
    obtain ⟨o2, e2, h⟩ := h
    refine dk_cwi (wr := []) (va_runV (As := [.int p1]) (rest := []) ⟨hx, hb, hml, hown, hts⟩ (mX6_find l D k h0 a_disk a_made a_sectorOf a_placeOf a_manyOf a_there a_waitKind a_waitMany a_waitBytes H.size o1.2 v_sectors v_power v_used v_reserve v_cutWrites v_cutBytes v_rows v_waits v_stateNumber v_stateNow v_second v_repaired v_up v_sent v_disk v_made v_sectorOf v_placeOf v_manyOf v_there v_waitKind v_waitMany v_waitBytes p1 o2 e2) (cwV 1 hts (dk_gV w_932 w_934 w_37 w_46 w_935) rfl rfl rfl (by decide +kernel) ⟨Nat.le_of_ble_eq_true rfl, Nat.le_of_ble_eq_true rfl⟩) (dk_pvw hK hN hP hD [0, 1, 2, 3, 4, 5, 6, 7, 8, 9] rfl rfl rfl rfl (hP.sub [0, 1, 2, 3, 4, 5, 6, 7, 8, 9] rfl)) rfl rfl hl.1 rfl (lv_room (Nat.le_of_ble_eq_true rfl)) dX6_kind_14 ⟨Nat.le_of_ble_eq_true rfl, Nat.le_of_ble_eq_true rfl⟩) hP hD hS hA [0, 1, 2, 3, 4, 5, 6, 7, 8, 9] [] rfl rfl rfl (by decide) (fun H locs hP hD hS => ?_)
    have hP : va_P D vwCl [(h0, .inr (6, [.int o1.2, .int v_sectors, .int v_power, .ref a_disk, .ref a_made, .int v_used, .int v_reserve, .int v_cutWrites, .int v_cutBytes, .int v_rows, .ref a_sectorOf, .ref a_placeOf, .ref a_manyOf, .ref a_there, .int v_waits, .ref a_waitKind, .ref a_waitMany, .ref a_waitBytes, .int v_stateNumber, .long v_stateNow, .int o2.2, .int v_repaired, .int v_up, .int v_sent])), (a_disk, .inl ((k 2), 32768, .inl v_disk)), (a_made, .inl ((k 2), 512, .inl v_made)), (a_sectorOf, .inl ((k 2), 5100, .inl v_sectorOf)), (a_placeOf, .inl ((k 2), 5100, .inl v_placeOf)), (a_manyOf, .inl ((k 2), 5100, .inl v_manyOf)), (a_there, .inl ((k 1), 5100, .inl v_there)), (a_waitKind, .inl ((k 2), 100, .inl v_waitKind)), (a_waitMany, .inl ((k 2), 100, .inl v_waitMany)), (a_waitBytes, .inl ((k 3), 100, .inr (.inl v_waitBytes)))] H := hP
    have hD : va_D A [(h0, .inr (6, [.int o1.2, .int v_sectors, .int v_power, .ref a_disk, .ref a_made, .int v_used, .int v_reserve, .int v_cutWrites, .int v_cutBytes, .int v_rows, .ref a_sectorOf, .ref a_placeOf, .ref a_manyOf, .ref a_there, .int v_waits, .ref a_waitKind, .ref a_waitMany, .ref a_waitBytes, .int v_stateNumber, .long v_stateNow, .int o2.2, .int v_repaired, .int v_up, .int v_sent])), (a_disk, .inl ((k 2), 32768, .inl v_disk)), (a_made, .inl ((k 2), 512, .inl v_made)), (a_sectorOf, .inl ((k 2), 5100, .inl v_sectorOf)), (a_placeOf, .inl ((k 2), 5100, .inl v_placeOf)), (a_manyOf, .inl ((k 2), 5100, .inl v_manyOf)), (a_there, .inl ((k 1), 5100, .inl v_there)), (a_waitKind, .inl ((k 2), 100, .inl v_waitKind)), (a_waitMany, .inl ((k 2), 100, .inl v_waitMany)), (a_waitBytes, .inl ((k 3), 100, .inr (.inl v_waitBytes)))] := hD
    refine lv_istore_n (lv' := [(2, .int o2.1), (0, .ref h0), (1, .int p1)]) hx hb dX6_kind_17 rfl hl (by decide) rfl (fun ls hl => ?_)
    refine lv_iload_n hx hb dX6_kind_18 rfl (lv_at hl 0 rfl) ?_
    refine lv_if_ge (tgt := 27) hx hb dX6_kind_19 (by decide) (fun q => ?_) (fun q => ?_)
    · replace h := dk_t q h
      refine lv_aload_n hx hb dX6_kind_27 rfl (lv_at hl 1 rfl) ?_
      refine va_get (D := D) (ci := 6) (v := .ref a_disk) (C := "ServiceDiskModel") (T := TX6) (N := 24) hx hb hts inX6 hown hK hP 0 rfl rfl 3 (by decide) (hts _ w_740) (fun _ h9 => h9) rfl dX6_kind_28 ?_
      refine lv_iload_n hx hb dX6_kind_31 rfl (lv_at hl 0 rfl) ?_
      obtain ⟨q, h⟩ := dk_g h
      refine va_iald hx hb hK hP 1 2 rfl rfl q dX6_kind_32 ?_
      have h := dk_r h
      subst h
      exact dk_rwi hx hb hr hlocks (hP.sub [0, 1, 2, 3, 4, 5, 6, 7, 8, 9] rfl) (hD.sub [0, 1, 2, 3, 4, 5, 6, 7, 8, 9] (by decide) rfl) hS dX6_kind_33 rfl
    · replace h := dk_f q h
      refine lv_bipush (v := -2) hx hb dX6_kind_22 (by decide) ?_
      refine lv_goto (tgt := 33) hx hb dX6_kind_24 (by decide) ?_
      have h := dk_r h
      subst h
      exact dk_rwi hx hb hr hlocks (hP.sub [0, 1, 2, 3, 4, 5, 6, 7, 8, 9] rfl) (hD.sub [0, 1, 2, 3, 4, 5, 6, 7, 8, 9] (by decide) rfl) hS dX6_kind_33 rfl
  · replace h := dk_f q h
    refine lv_iconst (v := 0) hx hb dX6_kind_10 (by decide) ?_
    have h := dk_r h
    subst h
    exact dk_rwi hx hb hr hlocks (hP.sub [0, 1, 2, 3, 4, 5, 6, 7, 8, 9] rfl) (hD.sub [0, 1, 2, 3, 4, 5, 6, 7, 8, 9] (by decide) rfl) hS dX6_kind_11 rfl
/-! ServiceDiskModel.extract(II)I: rw, frames 5, locals 113 -/
def fX6_extract_L85 (v_disk : Nat → Int32) (v_manyOf : Nat → Int32) (x2 : Int32) (x4 : Int32) (x5 : Int32) : Nat → (Int32) → (Int32) → Option (Int32 × Int32)
  | 0, _, _ => none
  | n + 1, x3, x6 =>
    if dk_in x4 5100 then
    if (v_manyOf x4.toNatClampNeg) ≤ x6 then
      some (x3, x6)
    else
      if dk_in ((x5 + 2) + x6) 32768 then
      (fX6_with x3 (v_disk ((x5 + 2) + x6).toNatClampNeg)).bind fun o5 =>
      fX6_extract_L85 v_disk v_manyOf x2 x4 x5 n o5 (x6 + 1)
      else none
    else none
def fX6_extract_L51 (v_sectors : Int32) (v_disk : Nat → Int32) (v_sectorOf : Nat → Int32) (v_placeOf : Nat → Int32) (v_manyOf : Nat → Int32) (x2 : Int32) : Nat → (Int32) → (Int32) → (Int32) → Option (Int32 × Int32 × Int32)
  | 0, _, _, _ => none
  | n + 1, x3, x4, v_second =>
    if x2 ≤ x4 then
      some (x3, x4, v_second)
    else
      (fX6_find v_sectors v_second v_disk v_sectorOf v_placeOf x4).bind fun o2 =>
      if o2.1 < 0 then
        fX6_extract_L51 v_sectors v_disk v_sectorOf v_placeOf v_manyOf x2 n x3 (x4 + 1) o2.2
      else
        if dk_in o2.1 32768 then
        (fX6_with x3 (v_disk o2.1.toNatClampNeg)).bind fun o3 =>
        (fX6_extract_L85 v_disk v_manyOf x2 x4 o2.1 dkF o3 0).bind fun o4 =>
        fX6_extract_L51 v_sectors v_disk v_sectorOf v_placeOf v_manyOf x2 n o4.1 (x4 + 1) o2.2
        else none
def fX6_extract (v_sectors : Int32) (v_power : Int32) (v_rows : Int32) (v_second : Int32) (v_disk : Nat → Int32) (v_sectorOf : Nat → Int32) (v_placeOf : Nat → Int32) (v_manyOf : Nat → Int32) (p1 : Int32) (p2 : Int32) : Option (Int32 × Int32 × Int32) :=
  if ((if v_power = 0 then 2 else (if p1 < 0 then 1 else (if p2 < p1 then 1 else (if p2 ≤ v_rows then 0 else 1)))) : Int32) ≤ 0 then
    (fX6_extract_L51 v_sectors v_disk v_sectorOf v_placeOf v_manyOf p2 dkF 0 p1 v_second).bind fun o1 =>
    some (o1.1, (if v_power = 0 then 2 else (if p1 < 0 then 1 else (if p2 < p1 then 1 else (if p2 ≤ v_rows then 0 else 1)))), o1.2.2)
  else
    some (0, (if v_power = 0 then 2 else (if p1 < 0 then 1 else (if p2 < p1 then 1 else (if p2 ≤ v_rows then 0 else 1)))), v_second)
set_option maxHeartbeats 4000000 in
set_option maxRecDepth 100000 in
theorem lX6_extract_85 {p : Program} {l : Launch} {e : Env} {s : State} {m : MethodId} {below : List Frame} {meth : Method} {c : Code} {args : Array Value} {D : va_G} {k : Nat → ClassId} {h0 : Nat} {a_disk : Nat} {a_made : Nat} {a_sectorOf : Nat} {a_placeOf : Nat} {a_manyOf : Nat} {a_there : Nat} {a_waitKind : Nat} {a_waitMany : Nat} {a_waitBytes : Nat} {v_thrown : Int32} {v_sectors : Int32} {v_power : Int32} {v_used : Int32} {v_reserve : Int32} {v_cutWrites : Int32} {v_cutBytes : Int32} {v_rows : Int32} {v_waits : Int32} {v_stateNumber : Int32} {v_stateNow : Int64} {v_second : Int32} {v_repaired : Int32} {v_up : Int32} {v_sent : Int32} {v_disk : Nat → Int32} {v_made : Nat → Int32} {v_sectorOf : Nat → Int32} {v_placeOf : Nat → Int32} {v_manyOf : Nat → Int32} {v_there : Nat → Int32} {v_waitKind : Nat → Int32} {v_waitMany : Nat → Int32} {v_waitBytes : Nat → Int64} {x2 : Int32} {x4 : Int32} {x5 : Int32} {Q : State → Prop} {o : Int32 × Int32} {A : Nat → Prop} (C : dk_Cx p s m meth c cX6_extract (some .int) 7 "ServiceDiskModel" dkB args) (hK : va_K D vwCl (dkT k) s) (hN : dk_N s) (hA : ∀ q : Nat, s.heap.size ≤ q → A q) :
    ∀ (n : Nat) (x3 : Int32) (x6 : Int32), fX6_extract_L85 v_disk v_manyOf x2 x4 x5 n x3 x6 = some o → (∀ (H : Heap) (locs : List Loc), va_P D vwCl [(h0, .inr (6, [.int v_thrown, .int v_sectors, .int v_power, .ref a_disk, .ref a_made, .int v_used, .int v_reserve, .int v_cutWrites, .int v_cutBytes, .int v_rows, .ref a_sectorOf, .ref a_placeOf, .ref a_manyOf, .ref a_there, .int v_waits, .ref a_waitKind, .ref a_waitMany, .ref a_waitBytes, .int v_stateNumber, .long v_stateNow, .int v_second, .int v_repaired, .int v_up, .int v_sent])), (a_disk, .inl ((k 2), 32768, .inl v_disk)), (a_made, .inl ((k 2), 512, .inl v_made)), (a_sectorOf, .inl ((k 2), 5100, .inl v_sectorOf)), (a_placeOf, .inl ((k 2), 5100, .inl v_placeOf)), (a_manyOf, .inl ((k 2), 5100, .inl v_manyOf)), (a_there, .inl ((k 1), 5100, .inl v_there)), (a_waitKind, .inl ((k 2), 100, .inl v_waitKind)), (a_waitMany, .inl ((k 2), 100, .inl v_waitMany)), (a_waitBytes, .inl ((k 3), 100, .inr (.inl v_waitBytes)))] H → va_D A [(h0, .inr (6, [.int v_thrown, .int v_sectors, .int v_power, .ref a_disk, .ref a_made, .int v_used, .int v_reserve, .int v_cutWrites, .int v_cutBytes, .int v_rows, .ref a_sectorOf, .ref a_placeOf, .ref a_manyOf, .ref a_there, .int v_waits, .ref a_waitKind, .ref a_waitMany, .ref a_waitBytes, .int v_stateNumber, .long v_stateNow, .int v_second, .int v_repaired, .int v_up, .int v_sent])), (a_disk, .inl ((k 2), 32768, .inl v_disk)), (a_made, .inl ((k 2), 512, .inl v_made)), (a_sectorOf, .inl ((k 2), 5100, .inl v_sectorOf)), (a_placeOf, .inl ((k 2), 5100, .inl v_placeOf)), (a_manyOf, .inl ((k 2), 5100, .inl v_manyOf)), (a_there, .inl ((k 1), 5100, .inl v_there)), (a_waitKind, .inl ((k 2), 100, .inl v_waitKind)), (a_waitMany, .inl ((k 2), 100, .inl v_waitMany)), (a_waitBytes, .inl ((k 3), 100, .inr (.inl v_waitBytes)))] → va_S A s.heap H locs → ∀ ls : Array Slot, lv_has ls 7 [(0, .ref h0), (2, .int x2), (3, .int o.1), (4, .int x4), (5, .int x5), (6, .int o.2)] → W p l e { frames := 5, cells := 0, slots := 0, locals := 113 } s m args below meth c H locs 0 0 Q (F0 m 120 ls [])) → ∀ (H : Heap) (locs : List Loc), va_P D vwCl [(h0, .inr (6, [.int v_thrown, .int v_sectors, .int v_power, .ref a_disk, .ref a_made, .int v_used, .int v_reserve, .int v_cutWrites, .int v_cutBytes, .int v_rows, .ref a_sectorOf, .ref a_placeOf, .ref a_manyOf, .ref a_there, .int v_waits, .ref a_waitKind, .ref a_waitMany, .ref a_waitBytes, .int v_stateNumber, .long v_stateNow, .int v_second, .int v_repaired, .int v_up, .int v_sent])), (a_disk, .inl ((k 2), 32768, .inl v_disk)), (a_made, .inl ((k 2), 512, .inl v_made)), (a_sectorOf, .inl ((k 2), 5100, .inl v_sectorOf)), (a_placeOf, .inl ((k 2), 5100, .inl v_placeOf)), (a_manyOf, .inl ((k 2), 5100, .inl v_manyOf)), (a_there, .inl ((k 1), 5100, .inl v_there)), (a_waitKind, .inl ((k 2), 100, .inl v_waitKind)), (a_waitMany, .inl ((k 2), 100, .inl v_waitMany)), (a_waitBytes, .inl ((k 3), 100, .inr (.inl v_waitBytes)))] H → va_D A [(h0, .inr (6, [.int v_thrown, .int v_sectors, .int v_power, .ref a_disk, .ref a_made, .int v_used, .int v_reserve, .int v_cutWrites, .int v_cutBytes, .int v_rows, .ref a_sectorOf, .ref a_placeOf, .ref a_manyOf, .ref a_there, .int v_waits, .ref a_waitKind, .ref a_waitMany, .ref a_waitBytes, .int v_stateNumber, .long v_stateNow, .int v_second, .int v_repaired, .int v_up, .int v_sent])), (a_disk, .inl ((k 2), 32768, .inl v_disk)), (a_made, .inl ((k 2), 512, .inl v_made)), (a_sectorOf, .inl ((k 2), 5100, .inl v_sectorOf)), (a_placeOf, .inl ((k 2), 5100, .inl v_placeOf)), (a_manyOf, .inl ((k 2), 5100, .inl v_manyOf)), (a_there, .inl ((k 1), 5100, .inl v_there)), (a_waitKind, .inl ((k 2), 100, .inl v_waitKind)), (a_waitMany, .inl ((k 2), 100, .inl v_waitMany)), (a_waitBytes, .inl ((k 3), 100, .inr (.inl v_waitBytes)))] → va_S A s.heap H locs → ∀ ls : Array Slot, lv_has ls 7 [(0, .ref h0), (2, .int x2), (3, .int x3), (4, .int x4), (5, .int x5), (6, .int x6)] → W p l e { frames := 5, cells := 0, slots := 0, locals := 113 } s m args below meth c H locs 0 0 Q (F0 m 85 ls []) := by
  obtain ⟨hx, hb, hr, hml, hown, hts, hlocks⟩ := id C
  intro n
  induction n with
  | zero =>
    intro x3 x6 h
    exact dk_n (o := o) h
  | succ n ih =>
    intro x3 x6 h K H locs hP hD hS ls hl
    rw [fX6_extract_L85.eq_2] at h
    refine lv_iload hx hb dX6_extract_85 (lv_at hl 5 rfl) ?_
    refine lv_aload_n hx hb dX6_extract_87 rfl (lv_at hl 0 rfl) ?_
    refine va_get (D := D) (ci := 6) (v := .ref a_manyOf) (C := "ServiceDiskModel") (T := TX6) (N := 24) hx hb hts inX6 hown hK hP 0 rfl rfl 12 (by decide) (hts _ w_749) (fun _ h9 => h9) rfl dX6_extract_88 ?_
    refine lv_iload hx hb dX6_extract_91 (lv_at hl 3 rfl) ?_
    obtain ⟨q, h⟩ := dk_g h
    refine va_iald hx hb hK hP 5 2 rfl rfl q dX6_extract_93 ?_
    refine lv_icmp_ge (tgt := 120) hx hb dX6_extract_94 (by decide) (fun q => ?_) (fun q => ?_)
    · replace h := dk_t q h
      have h := dk_r h
      subst h
      exact K _ _ (hP.sub [0, 1, 2, 3, 4, 5, 6, 7, 8, 9] rfl) (hD.sub [0, 1, 2, 3, 4, 5, 6, 7, 8, 9] (by decide) rfl) hS ls (lv_sub hl [0, 1, 2, 3, 4, 5] rfl)
    · replace h := dk_f q h
      refine lv_iload_n hx hb dX6_extract_97 rfl (lv_at hl 2 rfl) ?_
      refine lv_aload_n hx hb dX6_extract_98 rfl (lv_at hl 0 rfl) ?_
      refine va_get (D := D) (ci := 6) (v := .ref a_disk) (C := "ServiceDiskModel") (T := TX6) (N := 24) hx hb hts inX6 hown hK hP 0 rfl rfl 3 (by decide) (hts _ w_740) (fun _ h9 => h9) rfl dX6_extract_99 ?_
      refine lv_iload hx hb dX6_extract_102 (lv_at hl 4 rfl) ?_
      refine lv_iconst (v := 2) hx hb dX6_extract_104 (by decide) ?_
      refine lv_iadd hx hb dX6_extract_105 ?_
      refine lv_iload hx hb dX6_extract_106 (lv_at hl 5 rfl) ?_
      refine lv_iadd hx hb dX6_extract_108 ?_
      obtain ⟨q, h⟩ := dk_g h
      refine va_iald hx hb hK hP 1 2 rfl rfl q dX6_extract_109 ?_
      replace h := dk_b h
      obtain ⟨o5, e5, h⟩ := h
      refine dk_cri (va_runS (As := [.int x3, .int (v_disk ((x5 + 2) + x6).toNatClampNeg)]) (rest := []) ⟨hx, hb, hml, hown, hts⟩ (mX6_with l D k x3 (v_disk ((x5 + 2) + x6).toNatClampNeg) o5 e5) (va_cwS 2 hts (dk_gS w_857 w_858 w_46 w_859) rfl rfl rfl (by decide +kernel) ⟨Nat.le_of_ble_eq_true rfl, Nat.le_of_ble_eq_true rfl⟩) (dk_psr hK hN hP [] rfl) rfl rfl hl.1 rfl (lv_room (Nat.le_of_ble_eq_true rfl)) dX6_extract_110 ⟨Nat.le_of_ble_eq_true rfl, Nat.le_of_ble_eq_true rfl⟩) ?_
      refine lv_istore_n (lv' := [(3, .int o5), (0, .ref h0), (2, .int x2), (4, .int x4), (5, .int x5), (6, .int x6)]) hx hb dX6_extract_113 rfl hl (by decide) rfl (fun ls hl => ?_)
      refine lv_iinc (v := (x6 + 1)) (lv' := [(6, .int (x6 + 1)), (3, .int o5), (0, .ref h0), (2, .int x2), (4, .int x4), (5, .int x5)]) hx hb dX6_extract_114 hl (k := 5) rfl rfl (by decide) rfl (fun ls hl => ?_)
      refine lv_goto (tgt := 85) hx hb dX6_extract_117 (by decide) ?_
      exact ih o5 (x6 + 1) h K _ _ (hP.sub [0, 1, 2, 3, 4, 5, 6, 7, 8, 9] rfl) (hD.sub [0, 1, 2, 3, 4, 5, 6, 7, 8, 9] (by decide) rfl) hS ls (lv_sub hl [2, 3, 1, 4, 5, 0] rfl)
set_option maxHeartbeats 4000000 in
set_option maxRecDepth 100000 in
theorem lX6_extract_51 {p : Program} {l : Launch} {e : Env} {s : State} {m : MethodId} {below : List Frame} {meth : Method} {c : Code} {args : Array Value} {D : va_G} {k : Nat → ClassId} {h0 : Nat} {a_disk : Nat} {a_made : Nat} {a_sectorOf : Nat} {a_placeOf : Nat} {a_manyOf : Nat} {a_there : Nat} {a_waitKind : Nat} {a_waitMany : Nat} {a_waitBytes : Nat} {v_thrown : Int32} {v_sectors : Int32} {v_power : Int32} {v_used : Int32} {v_reserve : Int32} {v_cutWrites : Int32} {v_cutBytes : Int32} {v_rows : Int32} {v_waits : Int32} {v_stateNumber : Int32} {v_stateNow : Int64} {v_repaired : Int32} {v_up : Int32} {v_sent : Int32} {v_disk : Nat → Int32} {v_made : Nat → Int32} {v_sectorOf : Nat → Int32} {v_placeOf : Nat → Int32} {v_manyOf : Nat → Int32} {v_there : Nat → Int32} {v_waitKind : Nat → Int32} {v_waitMany : Nat → Int32} {v_waitBytes : Nat → Int64} {x2 : Int32} {Q : State → Prop} {o : Int32 × Int32 × Int32} {A : Nat → Prop} (C : dk_Cx p s m meth c cX6_extract (some .int) 7 "ServiceDiskModel" dkB args) (hK : va_K D vwCl (dkT k) s) (hN : dk_N s) (hA : ∀ q : Nat, s.heap.size ≤ q → A q) :
    ∀ (n : Nat) (x3 : Int32) (x4 : Int32) (v_second : Int32), fX6_extract_L51 v_sectors v_disk v_sectorOf v_placeOf v_manyOf x2 n x3 x4 v_second = some o → (∀ (H : Heap) (locs : List Loc), va_P D vwCl [(h0, .inr (6, [.int v_thrown, .int v_sectors, .int v_power, .ref a_disk, .ref a_made, .int v_used, .int v_reserve, .int v_cutWrites, .int v_cutBytes, .int v_rows, .ref a_sectorOf, .ref a_placeOf, .ref a_manyOf, .ref a_there, .int v_waits, .ref a_waitKind, .ref a_waitMany, .ref a_waitBytes, .int v_stateNumber, .long v_stateNow, .int o.2.2, .int v_repaired, .int v_up, .int v_sent])), (a_disk, .inl ((k 2), 32768, .inl v_disk)), (a_made, .inl ((k 2), 512, .inl v_made)), (a_sectorOf, .inl ((k 2), 5100, .inl v_sectorOf)), (a_placeOf, .inl ((k 2), 5100, .inl v_placeOf)), (a_manyOf, .inl ((k 2), 5100, .inl v_manyOf)), (a_there, .inl ((k 1), 5100, .inl v_there)), (a_waitKind, .inl ((k 2), 100, .inl v_waitKind)), (a_waitMany, .inl ((k 2), 100, .inl v_waitMany)), (a_waitBytes, .inl ((k 3), 100, .inr (.inl v_waitBytes)))] H → va_D A [(h0, .inr (6, [.int v_thrown, .int v_sectors, .int v_power, .ref a_disk, .ref a_made, .int v_used, .int v_reserve, .int v_cutWrites, .int v_cutBytes, .int v_rows, .ref a_sectorOf, .ref a_placeOf, .ref a_manyOf, .ref a_there, .int v_waits, .ref a_waitKind, .ref a_waitMany, .ref a_waitBytes, .int v_stateNumber, .long v_stateNow, .int o.2.2, .int v_repaired, .int v_up, .int v_sent])), (a_disk, .inl ((k 2), 32768, .inl v_disk)), (a_made, .inl ((k 2), 512, .inl v_made)), (a_sectorOf, .inl ((k 2), 5100, .inl v_sectorOf)), (a_placeOf, .inl ((k 2), 5100, .inl v_placeOf)), (a_manyOf, .inl ((k 2), 5100, .inl v_manyOf)), (a_there, .inl ((k 1), 5100, .inl v_there)), (a_waitKind, .inl ((k 2), 100, .inl v_waitKind)), (a_waitMany, .inl ((k 2), 100, .inl v_waitMany)), (a_waitBytes, .inl ((k 3), 100, .inr (.inl v_waitBytes)))] → va_S A s.heap H locs → ∀ ls : Array Slot, lv_has ls 7 [(0, .ref h0), (2, .int x2), (3, .int o.1), (4, .int o.2.1)] → W p l e { frames := 5, cells := 0, slots := 0, locals := 113 } s m args below meth c H locs 0 0 Q (F0 m 126 ls [])) → ∀ (H : Heap) (locs : List Loc), va_P D vwCl [(h0, .inr (6, [.int v_thrown, .int v_sectors, .int v_power, .ref a_disk, .ref a_made, .int v_used, .int v_reserve, .int v_cutWrites, .int v_cutBytes, .int v_rows, .ref a_sectorOf, .ref a_placeOf, .ref a_manyOf, .ref a_there, .int v_waits, .ref a_waitKind, .ref a_waitMany, .ref a_waitBytes, .int v_stateNumber, .long v_stateNow, .int v_second, .int v_repaired, .int v_up, .int v_sent])), (a_disk, .inl ((k 2), 32768, .inl v_disk)), (a_made, .inl ((k 2), 512, .inl v_made)), (a_sectorOf, .inl ((k 2), 5100, .inl v_sectorOf)), (a_placeOf, .inl ((k 2), 5100, .inl v_placeOf)), (a_manyOf, .inl ((k 2), 5100, .inl v_manyOf)), (a_there, .inl ((k 1), 5100, .inl v_there)), (a_waitKind, .inl ((k 2), 100, .inl v_waitKind)), (a_waitMany, .inl ((k 2), 100, .inl v_waitMany)), (a_waitBytes, .inl ((k 3), 100, .inr (.inl v_waitBytes)))] H → va_D A [(h0, .inr (6, [.int v_thrown, .int v_sectors, .int v_power, .ref a_disk, .ref a_made, .int v_used, .int v_reserve, .int v_cutWrites, .int v_cutBytes, .int v_rows, .ref a_sectorOf, .ref a_placeOf, .ref a_manyOf, .ref a_there, .int v_waits, .ref a_waitKind, .ref a_waitMany, .ref a_waitBytes, .int v_stateNumber, .long v_stateNow, .int v_second, .int v_repaired, .int v_up, .int v_sent])), (a_disk, .inl ((k 2), 32768, .inl v_disk)), (a_made, .inl ((k 2), 512, .inl v_made)), (a_sectorOf, .inl ((k 2), 5100, .inl v_sectorOf)), (a_placeOf, .inl ((k 2), 5100, .inl v_placeOf)), (a_manyOf, .inl ((k 2), 5100, .inl v_manyOf)), (a_there, .inl ((k 1), 5100, .inl v_there)), (a_waitKind, .inl ((k 2), 100, .inl v_waitKind)), (a_waitMany, .inl ((k 2), 100, .inl v_waitMany)), (a_waitBytes, .inl ((k 3), 100, .inr (.inl v_waitBytes)))] → va_S A s.heap H locs → ∀ ls : Array Slot, lv_has ls 7 [(0, .ref h0), (2, .int x2), (3, .int x3), (4, .int x4)] → W p l e { frames := 5, cells := 0, slots := 0, locals := 113 } s m args below meth c H locs 0 0 Q (F0 m 51 ls []) := by
  obtain ⟨hx, hb, hr, hml, hown, hts, hlocks⟩ := id C
  intro n
  induction n with
  | zero =>
    intro x3 x4 v_second h
    exact dk_n (o := o) h
  | succ n ih =>
    intro x3 x4 v_second h K H locs hP hD hS ls hl
    rw [fX6_extract_L51.eq_2] at h
    refine lv_iload hx hb dX6_extract_51 (lv_at hl 3 rfl) ?_
    refine lv_iload_n hx hb dX6_extract_53 rfl (lv_at hl 1 rfl) ?_
    refine lv_icmp_ge (tgt := 126) hx hb dX6_extract_54 (by decide) (fun q => ?_) (fun q => ?_)
    · replace h := dk_t q h
      have h := dk_r h
      subst h
      exact K _ _ (hP.sub [0, 1, 2, 3, 4, 5, 6, 7, 8, 9] rfl) (hD.sub [0, 1, 2, 3, 4, 5, 6, 7, 8, 9] (by decide) rfl) hS ls (lv_sub hl [0, 1, 2, 3] rfl)
    · replace h := dk_f q h
      refine lv_aload_n hx hb dX6_extract_57 rfl (lv_at hl 0 rfl) ?_
      refine lv_iload hx hb dX6_extract_58 (lv_at hl 3 rfl) ?_
      replace h := dk_b h
      obtain ⟨o2, e2, h⟩ := h
      refine dk_cwi (wr := []) (va_runV (As := [.int x4]) (rest := []) ⟨hx, hb, hml, hown, hts⟩ (mX6_find l D k h0 a_disk a_made a_sectorOf a_placeOf a_manyOf a_there a_waitKind a_waitMany a_waitBytes H.size v_thrown v_sectors v_power v_used v_reserve v_cutWrites v_cutBytes v_rows v_waits v_stateNumber v_stateNow v_second v_repaired v_up v_sent v_disk v_made v_sectorOf v_placeOf v_manyOf v_there v_waitKind v_waitMany v_waitBytes x4 o2 e2) (cwV 1 hts (dk_gV w_932 w_934 w_37 w_46 w_935) rfl rfl rfl (by decide +kernel) ⟨Nat.le_of_ble_eq_true rfl, Nat.le_of_ble_eq_true rfl⟩) (dk_pvw hK hN hP hD [0, 1, 2, 3, 4, 5, 6, 7, 8, 9] rfl rfl rfl rfl (hP.sub [0, 1, 2, 3, 4, 5, 6, 7, 8, 9] rfl)) rfl rfl hl.1 rfl (lv_room (Nat.le_of_ble_eq_true rfl)) dX6_extract_60 ⟨Nat.le_of_ble_eq_true rfl, Nat.le_of_ble_eq_true rfl⟩) hP hD hS hA [0, 1, 2, 3, 4, 5, 6, 7, 8, 9] [] rfl rfl rfl (by decide) (fun H locs hP hD hS => ?_)
      have hP : va_P D vwCl [(h0, .inr (6, [.int v_thrown, .int v_sectors, .int v_power, .ref a_disk, .ref a_made, .int v_used, .int v_reserve, .int v_cutWrites, .int v_cutBytes, .int v_rows, .ref a_sectorOf, .ref a_placeOf, .ref a_manyOf, .ref a_there, .int v_waits, .ref a_waitKind, .ref a_waitMany, .ref a_waitBytes, .int v_stateNumber, .long v_stateNow, .int o2.2, .int v_repaired, .int v_up, .int v_sent])), (a_disk, .inl ((k 2), 32768, .inl v_disk)), (a_made, .inl ((k 2), 512, .inl v_made)), (a_sectorOf, .inl ((k 2), 5100, .inl v_sectorOf)), (a_placeOf, .inl ((k 2), 5100, .inl v_placeOf)), (a_manyOf, .inl ((k 2), 5100, .inl v_manyOf)), (a_there, .inl ((k 1), 5100, .inl v_there)), (a_waitKind, .inl ((k 2), 100, .inl v_waitKind)), (a_waitMany, .inl ((k 2), 100, .inl v_waitMany)), (a_waitBytes, .inl ((k 3), 100, .inr (.inl v_waitBytes)))] H := hP
      have hD : va_D A [(h0, .inr (6, [.int v_thrown, .int v_sectors, .int v_power, .ref a_disk, .ref a_made, .int v_used, .int v_reserve, .int v_cutWrites, .int v_cutBytes, .int v_rows, .ref a_sectorOf, .ref a_placeOf, .ref a_manyOf, .ref a_there, .int v_waits, .ref a_waitKind, .ref a_waitMany, .ref a_waitBytes, .int v_stateNumber, .long v_stateNow, .int o2.2, .int v_repaired, .int v_up, .int v_sent])), (a_disk, .inl ((k 2), 32768, .inl v_disk)), (a_made, .inl ((k 2), 512, .inl v_made)), (a_sectorOf, .inl ((k 2), 5100, .inl v_sectorOf)), (a_placeOf, .inl ((k 2), 5100, .inl v_placeOf)), (a_manyOf, .inl ((k 2), 5100, .inl v_manyOf)), (a_there, .inl ((k 1), 5100, .inl v_there)), (a_waitKind, .inl ((k 2), 100, .inl v_waitKind)), (a_waitMany, .inl ((k 2), 100, .inl v_waitMany)), (a_waitBytes, .inl ((k 3), 100, .inr (.inl v_waitBytes)))] := hD
      refine lv_istore (lv' := [(5, .int o2.1), (0, .ref h0), (2, .int x2), (3, .int x3), (4, .int x4)]) hx hb dX6_extract_63 hl (by decide) rfl (fun ls hl => ?_)
      refine lv_iload hx hb dX6_extract_65 (lv_at hl 0 rfl) ?_
      refine lv_if_lt (tgt := 120) hx hb dX6_extract_67 (by decide) (fun q => ?_) (fun q => ?_)
      · replace h := dk_t q h
        refine lv_iinc (v := (x4 + 1)) (lv' := [(4, .int (x4 + 1)), (5, .int o2.1), (0, .ref h0), (2, .int x2), (3, .int x3)]) hx hb dX6_extract_120 hl (k := 4) rfl rfl (by decide) rfl (fun ls hl => ?_)
        refine lv_goto (tgt := 51) hx hb dX6_extract_123 (by decide) ?_
        exact ih x3 (x4 + 1) o2.2 h K _ _ (hP.sub [0, 1, 2, 3, 4, 5, 6, 7, 8, 9] rfl) (hD.sub [0, 1, 2, 3, 4, 5, 6, 7, 8, 9] (by decide) rfl) hS ls (lv_sub hl [2, 3, 4, 0] rfl)
      · replace h := dk_f q h
        refine lv_iload_n hx hb dX6_extract_70 rfl (lv_at hl 3 rfl) ?_
        refine lv_aload_n hx hb dX6_extract_71 rfl (lv_at hl 1 rfl) ?_
        refine va_get (D := D) (ci := 6) (v := .ref a_disk) (C := "ServiceDiskModel") (T := TX6) (N := 24) hx hb hts inX6 hown hK hP 0 rfl rfl 3 (by decide) (hts _ w_740) (fun _ h9 => h9) rfl dX6_extract_72 ?_
        refine lv_iload hx hb dX6_extract_75 (lv_at hl 0 rfl) ?_
        obtain ⟨q, h⟩ := dk_g h
        refine va_iald hx hb hK hP 1 2 rfl rfl q dX6_extract_77 ?_
        replace h := dk_b h
        obtain ⟨o3, e3, h⟩ := h
        refine dk_cri (va_runS (As := [.int x3, .int (v_disk o2.1.toNatClampNeg)]) (rest := []) ⟨hx, hb, hml, hown, hts⟩ (mX6_with l D k x3 (v_disk o2.1.toNatClampNeg) o3 e3) (va_cwS 2 hts (dk_gS w_857 w_858 w_46 w_859) rfl rfl rfl (by decide +kernel) ⟨Nat.le_of_ble_eq_true rfl, Nat.le_of_ble_eq_true rfl⟩) (dk_psr hK hN hP [] rfl) rfl rfl hl.1 rfl (lv_room (Nat.le_of_ble_eq_true rfl)) dX6_extract_78 ⟨Nat.le_of_ble_eq_true rfl, Nat.le_of_ble_eq_true rfl⟩) ?_
        refine lv_istore_n (lv' := [(3, .int o3), (5, .int o2.1), (0, .ref h0), (2, .int x2), (4, .int x4)]) hx hb dX6_extract_81 rfl hl (by decide) rfl (fun ls hl => ?_)
        refine lv_iconst (v := 0) hx hb dX6_extract_82 (by decide) ?_
        refine lv_istore (lv' := [(6, .int 0), (3, .int o3), (5, .int o2.1), (0, .ref h0), (2, .int x2), (4, .int x4)]) hx hb dX6_extract_83 hl (by decide) rfl (fun ls hl => ?_)
        replace h := dk_b h
        obtain ⟨o4, e4, h⟩ := h
        refine lX6_extract_85 C hK hN hA _ o3 0  e4 (fun H locs hP hD hS ls hl => ?_) _ _ (hP.sub [0, 1, 2, 3, 4, 5, 6, 7, 8, 9] rfl) (hD.sub [0, 1, 2, 3, 4, 5, 6, 7, 8, 9] (by decide) rfl) hS ls (lv_sub hl [3, 4, 1, 5, 2, 0] rfl)
        have hP : va_P D vwCl [(h0, .inr (6, [.int v_thrown, .int v_sectors, .int v_power, .ref a_disk, .ref a_made, .int v_used, .int v_reserve, .int v_cutWrites, .int v_cutBytes, .int v_rows, .ref a_sectorOf, .ref a_placeOf, .ref a_manyOf, .ref a_there, .int v_waits, .ref a_waitKind, .ref a_waitMany, .ref a_waitBytes, .int v_stateNumber, .long v_stateNow, .int o2.2, .int v_repaired, .int v_up, .int v_sent])), (a_disk, .inl ((k 2), 32768, .inl v_disk)), (a_made, .inl ((k 2), 512, .inl v_made)), (a_sectorOf, .inl ((k 2), 5100, .inl v_sectorOf)), (a_placeOf, .inl ((k 2), 5100, .inl v_placeOf)), (a_manyOf, .inl ((k 2), 5100, .inl v_manyOf)), (a_there, .inl ((k 1), 5100, .inl v_there)), (a_waitKind, .inl ((k 2), 100, .inl v_waitKind)), (a_waitMany, .inl ((k 2), 100, .inl v_waitMany)), (a_waitBytes, .inl ((k 3), 100, .inr (.inl v_waitBytes)))] H := hP
        have hD : va_D A [(h0, .inr (6, [.int v_thrown, .int v_sectors, .int v_power, .ref a_disk, .ref a_made, .int v_used, .int v_reserve, .int v_cutWrites, .int v_cutBytes, .int v_rows, .ref a_sectorOf, .ref a_placeOf, .ref a_manyOf, .ref a_there, .int v_waits, .ref a_waitKind, .ref a_waitMany, .ref a_waitBytes, .int v_stateNumber, .long v_stateNow, .int o2.2, .int v_repaired, .int v_up, .int v_sent])), (a_disk, .inl ((k 2), 32768, .inl v_disk)), (a_made, .inl ((k 2), 512, .inl v_made)), (a_sectorOf, .inl ((k 2), 5100, .inl v_sectorOf)), (a_placeOf, .inl ((k 2), 5100, .inl v_placeOf)), (a_manyOf, .inl ((k 2), 5100, .inl v_manyOf)), (a_there, .inl ((k 1), 5100, .inl v_there)), (a_waitKind, .inl ((k 2), 100, .inl v_waitKind)), (a_waitMany, .inl ((k 2), 100, .inl v_waitMany)), (a_waitBytes, .inl ((k 3), 100, .inr (.inl v_waitBytes)))] := hD
        have hl : lv_has ls 7 [(0, .ref h0), (2, .int x2), (3, .int o4.1), (4, .int x4), (5, .int o2.1), (6, .int o4.2)] := hl
        refine lv_iinc (v := (x4 + 1)) (lv' := [(4, .int (x4 + 1)), (0, .ref h0), (2, .int x2), (3, .int o4.1), (5, .int o2.1), (6, .int o4.2)]) hx hb dX6_extract_120 hl (k := 3) rfl rfl (by decide) rfl (fun ls hl => ?_)
        refine lv_goto (tgt := 51) hx hb dX6_extract_123 (by decide) ?_
        exact ih o4.1 (x4 + 1) o2.2 h K _ _ (hP.sub [0, 1, 2, 3, 4, 5, 6, 7, 8, 9] rfl) (hD.sub [0, 1, 2, 3, 4, 5, 6, 7, 8, 9] (by decide) rfl) hS ls (lv_sub hl [1, 2, 3, 0] rfl)
set_option maxHeartbeats 4000000 in
set_option maxRecDepth 100000 in
theorem mX6_extract (l : Launch) (D : va_G) (k : Nat → ClassId) (h0 a_disk a_made a_sectorOf a_placeOf a_manyOf a_there a_waitKind a_waitMany a_waitBytes : Nat) (sz : Nat) (v_thrown : Int32) (v_sectors : Int32) (v_power : Int32) (v_used : Int32) (v_reserve : Int32) (v_cutWrites : Int32) (v_cutBytes : Int32) (v_rows : Int32) (v_waits : Int32) (v_stateNumber : Int32) (v_stateNow : Int64) (v_second : Int32) (v_repaired : Int32) (v_up : Int32) (v_sent : Int32) (v_disk : Nat → Int32) (v_made : Nat → Int32) (v_sectorOf : Nat → Int32) (v_placeOf : Nat → Int32) (v_manyOf : Nat → Int32) (v_there : Nat → Int32) (v_waitKind : Nat → Int32) (v_waitMany : Nat → Int32) (v_waitBytes : Nat → Int64) (p1 : Int32) (p2 : Int32) (o : Int32 × Int32 × Int32) (h : fX6_extract v_sectors v_power v_rows v_second v_disk v_sectorOf v_placeOf v_manyOf p1 p2 = some o) : Met l yX6_extract wsX6_extract { frames := 5, cells := 0, slots := 0, locals := 113 } (dk_Pw D k [.ref h0, .int p1, .int p2] [(h0, .inr (6, [.int v_thrown, .int v_sectors, .int v_power, .ref a_disk, .ref a_made, .int v_used, .int v_reserve, .int v_cutWrites, .int v_cutBytes, .int v_rows, .ref a_sectorOf, .ref a_placeOf, .ref a_manyOf, .ref a_there, .int v_waits, .ref a_waitKind, .ref a_waitMany, .ref a_waitBytes, .int v_stateNumber, .long v_stateNow, .int v_second, .int v_repaired, .int v_up, .int v_sent])), (a_disk, .inl ((k 2), 32768, .inl v_disk)), (a_made, .inl ((k 2), 512, .inl v_made)), (a_sectorOf, .inl ((k 2), 5100, .inl v_sectorOf)), (a_placeOf, .inl ((k 2), 5100, .inl v_placeOf)), (a_manyOf, .inl ((k 2), 5100, .inl v_manyOf)), (a_there, .inl ((k 1), 5100, .inl v_there)), (a_waitKind, .inl ((k 2), 100, .inl v_waitKind)), (a_waitMany, .inl ((k 2), 100, .inl v_waitMany)), (a_waitBytes, .inl ((k 3), 100, .inr (.inl v_waitBytes)))] sz) (dk_Qi o.1 D [(h0, .inr (6, [.int o.2.1, .int v_sectors, .int v_power, .ref a_disk, .ref a_made, .int v_used, .int v_reserve, .int v_cutWrites, .int v_cutBytes, .int v_rows, .ref a_sectorOf, .ref a_placeOf, .ref a_manyOf, .ref a_there, .int v_waits, .ref a_waitKind, .ref a_waitMany, .ref a_waitBytes, .int v_stateNumber, .long v_stateNow, .int o.2.2, .int v_repaired, .int v_up, .int v_sent])), (a_disk, .inl ((k 2), 32768, .inl v_disk)), (a_made, .inl ((k 2), 512, .inl v_made)), (a_sectorOf, .inl ((k 2), 5100, .inl v_sectorOf)), (a_placeOf, .inl ((k 2), 5100, .inl v_placeOf)), (a_manyOf, .inl ((k 2), 5100, .inl v_manyOf)), (a_there, .inl ((k 1), 5100, .inl v_there)), (a_waitKind, .inl ((k 2), 100, .inl v_waitKind)), (a_waitMany, .inl ((k 2), 100, .inl v_waitMany)), (a_waitBytes, .inl ((k 3), 100, .inr (.inl v_waitBytes)))] (va_A [(h0, .inr (6, [.int v_thrown, .int v_sectors, .int v_power, .ref a_disk, .ref a_made, .int v_used, .int v_reserve, .int v_cutWrites, .int v_cutBytes, .int v_rows, .ref a_sectorOf, .ref a_placeOf, .ref a_manyOf, .ref a_there, .int v_waits, .ref a_waitKind, .ref a_waitMany, .ref a_waitBytes, .int v_stateNumber, .long v_stateNow, .int v_second, .int v_repaired, .int v_up, .int v_sent])), (a_disk, .inl ((k 2), 32768, .inl v_disk)), (a_made, .inl ((k 2), 512, .inl v_made)), (a_sectorOf, .inl ((k 2), 5100, .inl v_sectorOf)), (a_placeOf, .inl ((k 2), 5100, .inl v_placeOf)), (a_manyOf, .inl ((k 2), 5100, .inl v_manyOf)), (a_there, .inl ((k 1), 5100, .inl v_there)), (a_waitKind, .inl ((k 2), 100, .inl v_waitKind)), (a_waitMany, .inl ((k 2), 100, .inl v_waitMany)), (a_waitBytes, .inl ((k 3), 100, .inr (.inl v_waitBytes)))] sz)) 0 0 (va_A [(h0, .inr (6, [.int v_thrown, .int v_sectors, .int v_power, .ref a_disk, .ref a_made, .int v_used, .int v_reserve, .int v_cutWrites, .int v_cutBytes, .int v_rows, .ref a_sectorOf, .ref a_placeOf, .ref a_manyOf, .ref a_there, .int v_waits, .ref a_waitKind, .ref a_waitMany, .ref a_waitBytes, .int v_stateNumber, .long v_stateNow, .int v_second, .int v_repaired, .int v_up, .int v_sent])), (a_disk, .inl ((k 2), 32768, .inl v_disk)), (a_made, .inl ((k 2), 512, .inl v_made)), (a_sectorOf, .inl ((k 2), 5100, .inl v_sectorOf)), (a_placeOf, .inl ((k 2), 5100, .inl v_placeOf)), (a_manyOf, .inl ((k 2), 5100, .inl v_manyOf)), (a_there, .inl ((k 1), 5100, .inl v_there)), (a_waitKind, .inl ((k 2), 100, .inl v_waitKind)), (a_waitMany, .inl ((k 2), 100, .inl v_waitMany)), (a_waitBytes, .inl ((k 3), 100, .inr (.inl v_waitBytes)))] sz) := by
  unfold fX6_extract at h
  refine dk_ofW (Qc := fun A => dk_Qi o.1 D [(h0, .inr (6, [.int o.2.1, .int v_sectors, .int v_power, .ref a_disk, .ref a_made, .int v_used, .int v_reserve, .int v_cutWrites, .int v_cutBytes, .int v_rows, .ref a_sectorOf, .ref a_placeOf, .ref a_manyOf, .ref a_there, .int v_waits, .ref a_waitKind, .ref a_waitMany, .ref a_waitBytes, .int v_stateNumber, .long v_stateNow, .int o.2.2, .int v_repaired, .int v_up, .int v_sent])), (a_disk, .inl ((k 2), 32768, .inl v_disk)), (a_made, .inl ((k 2), 512, .inl v_made)), (a_sectorOf, .inl ((k 2), 5100, .inl v_sectorOf)), (a_placeOf, .inl ((k 2), 5100, .inl v_placeOf)), (a_manyOf, .inl ((k 2), 5100, .inl v_manyOf)), (a_there, .inl ((k 1), 5100, .inl v_there)), (a_waitKind, .inl ((k 2), 100, .inl v_waitKind)), (a_waitMany, .inl ((k 2), 100, .inl v_waitMany)), (a_waitBytes, .inl ((k 3), 100, .inr (.inl v_waitBytes)))] A) (cc := cX6_extract) (maxL := 7) (ret := (some .int)) (lv := [(0, .ref h0), (1, .int p1), (2, .int p2)]) (by decide) rfl (Nat.le_of_ble_eq_true rfl) rfl ?_
  intro p e s m below meth c C hK hN hP A hA hD hS ls hl
  obtain ⟨hx, hb, hr, hml, hown, hts, hlocks⟩ := id C
  refine lv_aload_n hx hb dX6_extract_0 rfl (lv_at hl 0 rfl) ?_
  refine lv_aload_n hx hb dX6_extract_1 rfl (lv_at hl 0 rfl) ?_
  refine va_get (D := D) (ci := 6) (v := .int v_power) (C := "ServiceDiskModel") (T := TX6) (N := 24) hx hb hts inX6 hown hK hP 0 rfl rfl 2 (by decide) (hts _ w_739) (fun _ h9 => h9) rfl dX6_extract_2 ?_
  refine dk_jn (F0 m 34 ls [.int (if v_power = 0 then 2 else (if p1 < 0 then 1 else (if p2 < p1 then 1 else (if p2 ≤ v_rows then 0 else 1)))), .ref h0]) (fun K => ?_) ?_
  · refine lv_if_ne (tgt := 12) hx hb dX6_extract_5 (by decide) (fun q1 => ?_) (fun q1 => ?_)
    · refine lv_iload_n hx hb dX6_extract_12 rfl (lv_at hl 1 rfl) ?_
      refine lv_if_lt (tgt := 29) hx hb dX6_extract_13 (by decide) (fun q2 => ?_) (fun q2 => ?_)
      · refine lv_iconst (v := 1) hx hb dX6_extract_29 (by decide) ?_
        refine lv_goto (tgt := 34) hx hb dX6_extract_30 (by decide) ?_
        have K := K
        rw [if_neg q1, if_pos q2] at K
        exact K
      · refine lv_iload_n hx hb dX6_extract_16 rfl (lv_at hl 2 rfl) ?_
        refine lv_iload_n hx hb dX6_extract_17 rfl (lv_at hl 1 rfl) ?_
        refine lv_icmp_lt (tgt := 29) hx hb dX6_extract_18 (by decide) (fun q3 => ?_) (fun q3 => ?_)
        · refine lv_iconst (v := 1) hx hb dX6_extract_29 (by decide) ?_
          refine lv_goto (tgt := 34) hx hb dX6_extract_30 (by decide) ?_
          have K := K
          rw [if_neg q1, if_neg q2, if_pos q3] at K
          exact K
        · refine lv_iload_n hx hb dX6_extract_21 rfl (lv_at hl 2 rfl) ?_
          refine lv_aload_n hx hb dX6_extract_22 rfl (lv_at hl 0 rfl) ?_
          refine va_get (D := D) (ci := 6) (v := .int v_rows) (C := "ServiceDiskModel") (T := TX6) (N := 24) hx hb hts inX6 hown hK hP 0 rfl rfl 9 (by decide) (hts _ w_746) (fun _ h9 => h9) rfl dX6_extract_23 ?_
          refine lv_icmp_le (tgt := 33) hx hb dX6_extract_26 (by decide) (fun q4 => ?_) (fun q4 => ?_)
          · refine lv_iconst (v := 0) hx hb dX6_extract_33 (by decide) ?_
            have K := K
            rw [if_neg q1, if_neg q2, if_neg q3, if_pos q4] at K
            exact K
          · refine lv_iconst (v := 1) hx hb dX6_extract_29 (by decide) ?_
            refine lv_goto (tgt := 34) hx hb dX6_extract_30 (by decide) ?_
            have K := K
            rw [if_neg q1, if_neg q2, if_neg q3, if_neg q4] at K
            exact K
    · refine lv_iconst (v := 2) hx hb dX6_extract_8 (by decide) ?_
      refine lv_goto (tgt := 34) hx hb dX6_extract_9 (by decide) ?_
      have K := K
      rw [if_pos q1] at K
      exact K
  refine va_put (D := D) (ci := 6) (v := .int (if v_power = 0 then 2 else (if p1 < 0 then 1 else (if p2 < p1 then 1 else (if p2 ≤ v_rows then 0 else 1))))) (ty := .int) (C := "ServiceDiskModel") (T := TX6) (N := 24) hx hb hts inX6 tyX6 tyX6_ok nmX6 hown hK hP hD hS 0 rfl rfl 0 (by decide) (hts _ w_737) (fun _ h9 => h9) rfl (by decide +kernel) rfl rfl (Nat.le_of_ble_eq_true rfl) dX6_extract_34 (fun H locs hP hD hS => ?_)
  have hP : va_P D vwCl [(h0, .inr (6, [.int (if v_power = 0 then 2 else (if p1 < 0 then 1 else (if p2 < p1 then 1 else (if p2 ≤ v_rows then 0 else 1)))), .int v_sectors, .int v_power, .ref a_disk, .ref a_made, .int v_used, .int v_reserve, .int v_cutWrites, .int v_cutBytes, .int v_rows, .ref a_sectorOf, .ref a_placeOf, .ref a_manyOf, .ref a_there, .int v_waits, .ref a_waitKind, .ref a_waitMany, .ref a_waitBytes, .int v_stateNumber, .long v_stateNow, .int v_second, .int v_repaired, .int v_up, .int v_sent])), (a_disk, .inl ((k 2), 32768, .inl v_disk)), (a_made, .inl ((k 2), 512, .inl v_made)), (a_sectorOf, .inl ((k 2), 5100, .inl v_sectorOf)), (a_placeOf, .inl ((k 2), 5100, .inl v_placeOf)), (a_manyOf, .inl ((k 2), 5100, .inl v_manyOf)), (a_there, .inl ((k 1), 5100, .inl v_there)), (a_waitKind, .inl ((k 2), 100, .inl v_waitKind)), (a_waitMany, .inl ((k 2), 100, .inl v_waitMany)), (a_waitBytes, .inl ((k 3), 100, .inr (.inl v_waitBytes)))] H := hP
  have hD : va_D A [(h0, .inr (6, [.int (if v_power = 0 then 2 else (if p1 < 0 then 1 else (if p2 < p1 then 1 else (if p2 ≤ v_rows then 0 else 1)))), .int v_sectors, .int v_power, .ref a_disk, .ref a_made, .int v_used, .int v_reserve, .int v_cutWrites, .int v_cutBytes, .int v_rows, .ref a_sectorOf, .ref a_placeOf, .ref a_manyOf, .ref a_there, .int v_waits, .ref a_waitKind, .ref a_waitMany, .ref a_waitBytes, .int v_stateNumber, .long v_stateNow, .int v_second, .int v_repaired, .int v_up, .int v_sent])), (a_disk, .inl ((k 2), 32768, .inl v_disk)), (a_made, .inl ((k 2), 512, .inl v_made)), (a_sectorOf, .inl ((k 2), 5100, .inl v_sectorOf)), (a_placeOf, .inl ((k 2), 5100, .inl v_placeOf)), (a_manyOf, .inl ((k 2), 5100, .inl v_manyOf)), (a_there, .inl ((k 1), 5100, .inl v_there)), (a_waitKind, .inl ((k 2), 100, .inl v_waitKind)), (a_waitMany, .inl ((k 2), 100, .inl v_waitMany)), (a_waitBytes, .inl ((k 3), 100, .inr (.inl v_waitBytes)))] := hD
  refine lv_aload_n hx hb dX6_extract_37 rfl (lv_at hl 0 rfl) ?_
  refine va_get (D := D) (ci := 6) (v := .int (if v_power = 0 then 2 else (if p1 < 0 then 1 else (if p2 < p1 then 1 else (if p2 ≤ v_rows then 0 else 1))))) (C := "ServiceDiskModel") (T := TX6) (N := 24) hx hb hts inX6 hown hK hP 0 rfl rfl 0 (by decide) (hts _ w_737) (fun _ h9 => h9) rfl dX6_extract_38 ?_
  refine lv_if_le (tgt := 46) hx hb dX6_extract_41 (by decide) (fun q => ?_) (fun q => ?_)
  · replace h := dk_t q h
    refine lv_iconst (v := 0) hx hb dX6_extract_46 (by decide) ?_
    refine lv_istore_n (lv' := [(3, .int 0), (0, .ref h0), (1, .int p1), (2, .int p2)]) hx hb dX6_extract_47 rfl hl (by decide) rfl (fun ls hl => ?_)
    refine lv_iload_n hx hb dX6_extract_48 rfl (lv_at hl 2 rfl) ?_
    refine lv_istore (lv' := [(4, .int p1), (3, .int 0), (0, .ref h0), (1, .int p1), (2, .int p2)]) hx hb dX6_extract_49 hl (by decide) rfl (fun ls hl => ?_)
    replace h := dk_b h
    obtain ⟨o1, e1, h⟩ := h
    refine lX6_extract_51 C hK hN hA _ 0 p1 v_second  e1 (fun H locs hP hD hS ls hl => ?_) _ _ (hP.sub [0, 1, 2, 3, 4, 5, 6, 7, 8, 9] rfl) (hD.sub [0, 1, 2, 3, 4, 5, 6, 7, 8, 9] (by decide) rfl) hS ls (lv_sub hl [2, 4, 1, 0] rfl)
    have hP : va_P D vwCl [(h0, .inr (6, [.int (if v_power = 0 then 2 else (if p1 < 0 then 1 else (if p2 < p1 then 1 else (if p2 ≤ v_rows then 0 else 1)))), .int v_sectors, .int v_power, .ref a_disk, .ref a_made, .int v_used, .int v_reserve, .int v_cutWrites, .int v_cutBytes, .int v_rows, .ref a_sectorOf, .ref a_placeOf, .ref a_manyOf, .ref a_there, .int v_waits, .ref a_waitKind, .ref a_waitMany, .ref a_waitBytes, .int v_stateNumber, .long v_stateNow, .int o1.2.2, .int v_repaired, .int v_up, .int v_sent])), (a_disk, .inl ((k 2), 32768, .inl v_disk)), (a_made, .inl ((k 2), 512, .inl v_made)), (a_sectorOf, .inl ((k 2), 5100, .inl v_sectorOf)), (a_placeOf, .inl ((k 2), 5100, .inl v_placeOf)), (a_manyOf, .inl ((k 2), 5100, .inl v_manyOf)), (a_there, .inl ((k 1), 5100, .inl v_there)), (a_waitKind, .inl ((k 2), 100, .inl v_waitKind)), (a_waitMany, .inl ((k 2), 100, .inl v_waitMany)), (a_waitBytes, .inl ((k 3), 100, .inr (.inl v_waitBytes)))] H := hP
    have hD : va_D A [(h0, .inr (6, [.int (if v_power = 0 then 2 else (if p1 < 0 then 1 else (if p2 < p1 then 1 else (if p2 ≤ v_rows then 0 else 1)))), .int v_sectors, .int v_power, .ref a_disk, .ref a_made, .int v_used, .int v_reserve, .int v_cutWrites, .int v_cutBytes, .int v_rows, .ref a_sectorOf, .ref a_placeOf, .ref a_manyOf, .ref a_there, .int v_waits, .ref a_waitKind, .ref a_waitMany, .ref a_waitBytes, .int v_stateNumber, .long v_stateNow, .int o1.2.2, .int v_repaired, .int v_up, .int v_sent])), (a_disk, .inl ((k 2), 32768, .inl v_disk)), (a_made, .inl ((k 2), 512, .inl v_made)), (a_sectorOf, .inl ((k 2), 5100, .inl v_sectorOf)), (a_placeOf, .inl ((k 2), 5100, .inl v_placeOf)), (a_manyOf, .inl ((k 2), 5100, .inl v_manyOf)), (a_there, .inl ((k 1), 5100, .inl v_there)), (a_waitKind, .inl ((k 2), 100, .inl v_waitKind)), (a_waitMany, .inl ((k 2), 100, .inl v_waitMany)), (a_waitBytes, .inl ((k 3), 100, .inr (.inl v_waitBytes)))] := hD
    have hl : lv_has ls 7 [(0, .ref h0), (2, .int p2), (3, .int o1.1), (4, .int o1.2.1)] := hl
    refine lv_iload_n hx hb dX6_extract_126 rfl (lv_at hl 2 rfl) ?_
    have h := dk_r h
    subst h
    exact dk_rwi hx hb hr hlocks (hP.sub [0, 1, 2, 3, 4, 5, 6, 7, 8, 9] rfl) (hD.sub [0, 1, 2, 3, 4, 5, 6, 7, 8, 9] (by decide) rfl) hS dX6_extract_127 rfl
  · replace h := dk_f q h
    refine lv_iconst (v := 0) hx hb dX6_extract_44 (by decide) ?_
    have h := dk_r h
    subst h
    exact dk_rwi hx hb hr hlocks (hP.sub [0, 1, 2, 3, 4, 5, 6, 7, 8, 9] rfl) (hD.sub [0, 1, 2, 3, 4, 5, 6, 7, 8, 9] (by decide) rfl) hS dX6_extract_45 rfl
/-! ServiceDiskModel.line(Z)V: rw, frames 1, locals 24 -/
def fX6_line (v_power : Int32) (v_up : Int32) (p1 : Int32) : Option (Int32 × Int32) :=
  (fX6_throwing (if v_power = 0 then 1 else (if v_up = p1 then 1 else 0)) 0 0 0).bind fun o1 =>
  if o1.1 = 0 then
    if dk_01 p1 then some (o1.2, p1) else none
  else
    some (o1.2, v_up)
set_option maxHeartbeats 4000000 in
set_option maxRecDepth 100000 in
theorem mX6_line (l : Launch) (D : va_G) (k : Nat → ClassId) (h0 a_disk a_made a_sectorOf a_placeOf a_manyOf a_there a_waitKind a_waitMany a_waitBytes : Nat) (sz : Nat) (v_thrown : Int32) (v_sectors : Int32) (v_power : Int32) (v_used : Int32) (v_reserve : Int32) (v_cutWrites : Int32) (v_cutBytes : Int32) (v_rows : Int32) (v_waits : Int32) (v_stateNumber : Int32) (v_stateNow : Int64) (v_second : Int32) (v_repaired : Int32) (v_up : Int32) (v_sent : Int32) (v_disk : Nat → Int32) (v_made : Nat → Int32) (v_sectorOf : Nat → Int32) (v_placeOf : Nat → Int32) (v_manyOf : Nat → Int32) (v_there : Nat → Int32) (v_waitKind : Nat → Int32) (v_waitMany : Nat → Int32) (v_waitBytes : Nat → Int64) (p1 : Int32) (o : Int32 × Int32) (h : fX6_line v_power v_up p1 = some o) : Met l yX6_line wsX6_line { frames := 1, cells := 0, slots := 0, locals := 24 } (dk_Pw D k [.ref h0, .int p1] [(h0, .inr (6, [.int v_thrown, .int v_sectors, .int v_power, .ref a_disk, .ref a_made, .int v_used, .int v_reserve, .int v_cutWrites, .int v_cutBytes, .int v_rows, .ref a_sectorOf, .ref a_placeOf, .ref a_manyOf, .ref a_there, .int v_waits, .ref a_waitKind, .ref a_waitMany, .ref a_waitBytes, .int v_stateNumber, .long v_stateNow, .int v_second, .int v_repaired, .int v_up, .int v_sent])), (a_disk, .inl ((k 2), 32768, .inl v_disk)), (a_made, .inl ((k 2), 512, .inl v_made)), (a_sectorOf, .inl ((k 2), 5100, .inl v_sectorOf)), (a_placeOf, .inl ((k 2), 5100, .inl v_placeOf)), (a_manyOf, .inl ((k 2), 5100, .inl v_manyOf)), (a_there, .inl ((k 1), 5100, .inl v_there)), (a_waitKind, .inl ((k 2), 100, .inl v_waitKind)), (a_waitMany, .inl ((k 2), 100, .inl v_waitMany)), (a_waitBytes, .inl ((k 3), 100, .inr (.inl v_waitBytes)))] sz) (dk_Qv D [(h0, .inr (6, [.int o.1, .int v_sectors, .int v_power, .ref a_disk, .ref a_made, .int v_used, .int v_reserve, .int v_cutWrites, .int v_cutBytes, .int v_rows, .ref a_sectorOf, .ref a_placeOf, .ref a_manyOf, .ref a_there, .int v_waits, .ref a_waitKind, .ref a_waitMany, .ref a_waitBytes, .int v_stateNumber, .long v_stateNow, .int v_second, .int v_repaired, .int o.2, .int v_sent])), (a_disk, .inl ((k 2), 32768, .inl v_disk)), (a_made, .inl ((k 2), 512, .inl v_made)), (a_sectorOf, .inl ((k 2), 5100, .inl v_sectorOf)), (a_placeOf, .inl ((k 2), 5100, .inl v_placeOf)), (a_manyOf, .inl ((k 2), 5100, .inl v_manyOf)), (a_there, .inl ((k 1), 5100, .inl v_there)), (a_waitKind, .inl ((k 2), 100, .inl v_waitKind)), (a_waitMany, .inl ((k 2), 100, .inl v_waitMany)), (a_waitBytes, .inl ((k 3), 100, .inr (.inl v_waitBytes)))] (va_A [(h0, .inr (6, [.int v_thrown, .int v_sectors, .int v_power, .ref a_disk, .ref a_made, .int v_used, .int v_reserve, .int v_cutWrites, .int v_cutBytes, .int v_rows, .ref a_sectorOf, .ref a_placeOf, .ref a_manyOf, .ref a_there, .int v_waits, .ref a_waitKind, .ref a_waitMany, .ref a_waitBytes, .int v_stateNumber, .long v_stateNow, .int v_second, .int v_repaired, .int v_up, .int v_sent])), (a_disk, .inl ((k 2), 32768, .inl v_disk)), (a_made, .inl ((k 2), 512, .inl v_made)), (a_sectorOf, .inl ((k 2), 5100, .inl v_sectorOf)), (a_placeOf, .inl ((k 2), 5100, .inl v_placeOf)), (a_manyOf, .inl ((k 2), 5100, .inl v_manyOf)), (a_there, .inl ((k 1), 5100, .inl v_there)), (a_waitKind, .inl ((k 2), 100, .inl v_waitKind)), (a_waitMany, .inl ((k 2), 100, .inl v_waitMany)), (a_waitBytes, .inl ((k 3), 100, .inr (.inl v_waitBytes)))] sz)) 0 0 (va_A [(h0, .inr (6, [.int v_thrown, .int v_sectors, .int v_power, .ref a_disk, .ref a_made, .int v_used, .int v_reserve, .int v_cutWrites, .int v_cutBytes, .int v_rows, .ref a_sectorOf, .ref a_placeOf, .ref a_manyOf, .ref a_there, .int v_waits, .ref a_waitKind, .ref a_waitMany, .ref a_waitBytes, .int v_stateNumber, .long v_stateNow, .int v_second, .int v_repaired, .int v_up, .int v_sent])), (a_disk, .inl ((k 2), 32768, .inl v_disk)), (a_made, .inl ((k 2), 512, .inl v_made)), (a_sectorOf, .inl ((k 2), 5100, .inl v_sectorOf)), (a_placeOf, .inl ((k 2), 5100, .inl v_placeOf)), (a_manyOf, .inl ((k 2), 5100, .inl v_manyOf)), (a_there, .inl ((k 1), 5100, .inl v_there)), (a_waitKind, .inl ((k 2), 100, .inl v_waitKind)), (a_waitMany, .inl ((k 2), 100, .inl v_waitMany)), (a_waitBytes, .inl ((k 3), 100, .inr (.inl v_waitBytes)))] sz) := by
  unfold fX6_line at h
  refine dk_ofW (Qc := fun A => dk_Qv D [(h0, .inr (6, [.int o.1, .int v_sectors, .int v_power, .ref a_disk, .ref a_made, .int v_used, .int v_reserve, .int v_cutWrites, .int v_cutBytes, .int v_rows, .ref a_sectorOf, .ref a_placeOf, .ref a_manyOf, .ref a_there, .int v_waits, .ref a_waitKind, .ref a_waitMany, .ref a_waitBytes, .int v_stateNumber, .long v_stateNow, .int v_second, .int v_repaired, .int o.2, .int v_sent])), (a_disk, .inl ((k 2), 32768, .inl v_disk)), (a_made, .inl ((k 2), 512, .inl v_made)), (a_sectorOf, .inl ((k 2), 5100, .inl v_sectorOf)), (a_placeOf, .inl ((k 2), 5100, .inl v_placeOf)), (a_manyOf, .inl ((k 2), 5100, .inl v_manyOf)), (a_there, .inl ((k 1), 5100, .inl v_there)), (a_waitKind, .inl ((k 2), 100, .inl v_waitKind)), (a_waitMany, .inl ((k 2), 100, .inl v_waitMany)), (a_waitBytes, .inl ((k 3), 100, .inr (.inl v_waitBytes)))] A) (cc := cX6_line) (maxL := 2) (ret := none) (lv := [(0, .ref h0), (1, .int p1)]) (by decide) rfl (Nat.le_of_ble_eq_true rfl) rfl ?_
  intro p e s m below meth c C hK hN hP A hA hD hS ls hl
  obtain ⟨hx, hb, hr, hml, hown, hts, hlocks⟩ := id C
  refine lv_aload_n hx hb dX6_line_0 rfl (lv_at hl 0 rfl) ?_
  refine lv_aload_n hx hb dX6_line_1 rfl (lv_at hl 0 rfl) ?_
  refine va_get (D := D) (ci := 6) (v := .int v_power) (C := "ServiceDiskModel") (T := TX6) (N := 24) hx hb hts inX6 hown hK hP 0 rfl rfl 2 (by decide) (hts _ w_739) (fun _ h9 => h9) rfl dX6_line_2 ?_
  refine dk_jn (F0 m 21 ls [.int (if v_power = 0 then 1 else (if v_up = p1 then 1 else 0)), .ref h0]) (fun K => ?_) ?_
  · refine lv_if_eq (tgt := 16) hx hb dX6_line_5 (by decide) (fun q1 => ?_) (fun q1 => ?_)
    · refine lv_iconst (v := 1) hx hb dX6_line_16 (by decide) ?_
      refine lv_goto (tgt := 21) hx hb dX6_line_17 (by decide) ?_
      have K := K
      rw [if_pos q1] at K
      exact K
    · refine lv_aload_n hx hb dX6_line_8 rfl (lv_at hl 0 rfl) ?_
      refine va_get (D := D) (ci := 6) (v := .int v_up) (C := "ServiceDiskModel") (T := TX6) (N := 24) hx hb hts inX6 hown hK hP 0 rfl rfl 22 (by decide) (hts _ w_759) (fun _ h9 => h9) rfl dX6_line_9 ?_
      refine lv_iload_n hx hb dX6_line_12 rfl (lv_at hl 1 rfl) ?_
      refine lv_icmp_ne (tgt := 20) hx hb dX6_line_13 (by decide) (fun q2 => ?_) (fun q2 => ?_)
      · refine lv_iconst (v := 0) hx hb dX6_line_20 (by decide) ?_
        have K := K
        rw [if_neg q1, if_neg q2] at K
        exact K
      · refine lv_iconst (v := 1) hx hb dX6_line_16 (by decide) ?_
        refine lv_goto (tgt := 21) hx hb dX6_line_17 (by decide) ?_
        have K := K
        rw [if_neg q1, if_pos q2] at K
        exact K
  refine lv_iconst (v := 0) hx hb dX6_line_21 (by decide) ?_
  refine lv_iconst (v := 0) hx hb dX6_line_22 (by decide) ?_
  refine lv_iconst (v := 0) hx hb dX6_line_23 (by decide) ?_
  replace h := dk_b h
  obtain ⟨o1, e1, h⟩ := h
  refine dk_cwi (wr := []) (va_runV (As := [.int (if v_power = 0 then 1 else (if v_up = p1 then 1 else 0)), .int 0, .int 0, .int 0]) (rest := []) ⟨hx, hb, hml, hown, hts⟩ (mX6_throwing l D k h0 a_disk a_made a_sectorOf a_placeOf a_manyOf a_there a_waitKind a_waitMany a_waitBytes s.heap.size v_thrown v_sectors v_power v_used v_reserve v_cutWrites v_cutBytes v_rows v_waits v_stateNumber v_stateNow v_second v_repaired v_up v_sent v_disk v_made v_sectorOf v_placeOf v_manyOf v_there v_waitKind v_waitMany v_waitBytes (if v_power = 0 then 1 else (if v_up = p1 then 1 else 0)) 0 0 0 o1 e1) (cwV 4 hts (dk_gV w_821 w_823 w_20 w_46 w_824) rfl rfl rfl (by decide +kernel) ⟨Nat.le_of_ble_eq_true rfl, Nat.le_of_ble_eq_true rfl⟩) (dk_pvw hK hN hP hD [0, 1, 2, 3, 4, 5, 6, 7, 8, 9] rfl rfl rfl rfl (hP.sub [0, 1, 2, 3, 4, 5, 6, 7, 8, 9] rfl)) rfl rfl hl.1 rfl (lv_room (Nat.le_of_ble_eq_true rfl)) dX6_line_24 ⟨Nat.le_of_ble_eq_true rfl, Nat.le_of_ble_eq_true rfl⟩) hP hD hS hA [0, 1, 2, 3, 4, 5, 6, 7, 8, 9] [] rfl rfl rfl (by decide) (fun H locs hP hD hS => ?_)
  have hP : va_P D vwCl [(h0, .inr (6, [.int o1.2, .int v_sectors, .int v_power, .ref a_disk, .ref a_made, .int v_used, .int v_reserve, .int v_cutWrites, .int v_cutBytes, .int v_rows, .ref a_sectorOf, .ref a_placeOf, .ref a_manyOf, .ref a_there, .int v_waits, .ref a_waitKind, .ref a_waitMany, .ref a_waitBytes, .int v_stateNumber, .long v_stateNow, .int v_second, .int v_repaired, .int v_up, .int v_sent])), (a_disk, .inl ((k 2), 32768, .inl v_disk)), (a_made, .inl ((k 2), 512, .inl v_made)), (a_sectorOf, .inl ((k 2), 5100, .inl v_sectorOf)), (a_placeOf, .inl ((k 2), 5100, .inl v_placeOf)), (a_manyOf, .inl ((k 2), 5100, .inl v_manyOf)), (a_there, .inl ((k 1), 5100, .inl v_there)), (a_waitKind, .inl ((k 2), 100, .inl v_waitKind)), (a_waitMany, .inl ((k 2), 100, .inl v_waitMany)), (a_waitBytes, .inl ((k 3), 100, .inr (.inl v_waitBytes)))] H := hP
  have hD : va_D A [(h0, .inr (6, [.int o1.2, .int v_sectors, .int v_power, .ref a_disk, .ref a_made, .int v_used, .int v_reserve, .int v_cutWrites, .int v_cutBytes, .int v_rows, .ref a_sectorOf, .ref a_placeOf, .ref a_manyOf, .ref a_there, .int v_waits, .ref a_waitKind, .ref a_waitMany, .ref a_waitBytes, .int v_stateNumber, .long v_stateNow, .int v_second, .int v_repaired, .int v_up, .int v_sent])), (a_disk, .inl ((k 2), 32768, .inl v_disk)), (a_made, .inl ((k 2), 512, .inl v_made)), (a_sectorOf, .inl ((k 2), 5100, .inl v_sectorOf)), (a_placeOf, .inl ((k 2), 5100, .inl v_placeOf)), (a_manyOf, .inl ((k 2), 5100, .inl v_manyOf)), (a_there, .inl ((k 1), 5100, .inl v_there)), (a_waitKind, .inl ((k 2), 100, .inl v_waitKind)), (a_waitMany, .inl ((k 2), 100, .inl v_waitMany)), (a_waitBytes, .inl ((k 3), 100, .inr (.inl v_waitBytes)))] := hD
  refine lv_if_eq (tgt := 31) hx hb dX6_line_27 (by decide) (fun q => ?_) (fun q => ?_)
  · replace h := dk_t q h
    refine lv_aload_n hx hb dX6_line_31 rfl (lv_at hl 0 rfl) ?_
    refine lv_iload_n hx hb dX6_line_32 rfl (lv_at hl 1 rfl) ?_
    obtain ⟨q, h⟩ := dk_g h
    refine va_put (D := D) (ci := 6) (v := .int p1) (ty := .boolean) (C := "ServiceDiskModel") (T := TX6) (N := 24) hx hb hts inX6 tyX6 tyX6_ok nmX6 hown hK hP hD hS 0 rfl rfl 22 (by decide) (hts _ w_759) (fun _ h9 => h9) rfl (by decide +kernel) (dk_nz q) (dk_fz q) (Nat.le_of_ble_eq_true rfl) dX6_line_33 (fun H locs hP hD hS => ?_)
    have hP : va_P D vwCl [(h0, .inr (6, [.int o1.2, .int v_sectors, .int v_power, .ref a_disk, .ref a_made, .int v_used, .int v_reserve, .int v_cutWrites, .int v_cutBytes, .int v_rows, .ref a_sectorOf, .ref a_placeOf, .ref a_manyOf, .ref a_there, .int v_waits, .ref a_waitKind, .ref a_waitMany, .ref a_waitBytes, .int v_stateNumber, .long v_stateNow, .int v_second, .int v_repaired, .int p1, .int v_sent])), (a_disk, .inl ((k 2), 32768, .inl v_disk)), (a_made, .inl ((k 2), 512, .inl v_made)), (a_sectorOf, .inl ((k 2), 5100, .inl v_sectorOf)), (a_placeOf, .inl ((k 2), 5100, .inl v_placeOf)), (a_manyOf, .inl ((k 2), 5100, .inl v_manyOf)), (a_there, .inl ((k 1), 5100, .inl v_there)), (a_waitKind, .inl ((k 2), 100, .inl v_waitKind)), (a_waitMany, .inl ((k 2), 100, .inl v_waitMany)), (a_waitBytes, .inl ((k 3), 100, .inr (.inl v_waitBytes)))] H := hP
    have hD : va_D A [(h0, .inr (6, [.int o1.2, .int v_sectors, .int v_power, .ref a_disk, .ref a_made, .int v_used, .int v_reserve, .int v_cutWrites, .int v_cutBytes, .int v_rows, .ref a_sectorOf, .ref a_placeOf, .ref a_manyOf, .ref a_there, .int v_waits, .ref a_waitKind, .ref a_waitMany, .ref a_waitBytes, .int v_stateNumber, .long v_stateNow, .int v_second, .int v_repaired, .int p1, .int v_sent])), (a_disk, .inl ((k 2), 32768, .inl v_disk)), (a_made, .inl ((k 2), 512, .inl v_made)), (a_sectorOf, .inl ((k 2), 5100, .inl v_sectorOf)), (a_placeOf, .inl ((k 2), 5100, .inl v_placeOf)), (a_manyOf, .inl ((k 2), 5100, .inl v_manyOf)), (a_there, .inl ((k 1), 5100, .inl v_there)), (a_waitKind, .inl ((k 2), 100, .inl v_waitKind)), (a_waitMany, .inl ((k 2), 100, .inl v_waitMany)), (a_waitBytes, .inl ((k 3), 100, .inr (.inl v_waitBytes)))] := hD
    have h := dk_r h
    subst h
    exact dk_rwv hx hb hr hlocks (hP.sub [0, 1, 2, 3, 4, 5, 6, 7, 8, 9] rfl) (hD.sub [0, 1, 2, 3, 4, 5, 6, 7, 8, 9] (by decide) rfl) hS dX6_line_36
  · replace h := dk_f q h
    have h := dk_r h
    subst h
    exact dk_rwv hx hb hr hlocks (hP.sub [0, 1, 2, 3, 4, 5, 6, 7, 8, 9] rfl) (hD.sub [0, 1, 2, 3, 4, 5, 6, 7, 8, 9] (by decide) rfl) hS dX6_line_30
/-! ServiceDiskModel.send(I)I: rw, frames 1, locals 24 -/
def fX6_send_L40 (v_rows : Int32) (v_up : Int32) (x1 : Int32) : Nat → (Int32) → (Int32) → (Nat → Int32) → Option (Int32 × Int32 × (Nat → Int32))
  | 0, _, _, _ => none
  | n + 1, x2, v_sent, v_there =>
    if x1 ≤ x2 then
      some (x2, v_sent, v_there)
    else
      if v_rows ≤ v_sent then
        some (x2, v_sent, v_there)
      else
        if dk_in v_sent 5100 then
        fX6_send_L40 v_rows v_up x1 n (x2 + 1) (v_sent + 1) (upd v_there v_sent.toNatClampNeg (vp_nar .boolean v_up))
        else none
def fX6_send (v_power : Int32) (v_rows : Int32) (v_up : Int32) (v_sent : Int32) (v_there : Nat → Int32) (p1 : Int32) : Option (Int32 × Int32 × Int32 × (Nat → Int32)) :=
  (fX6_in p1 0 100).bind fun o1 =>
  (fX6_throwing (if o1 = 0 then 1 else 0) (if v_power = 0 then 1 else 0) 0 0).bind fun o2 =>
  if o2.1 = 0 then
    (fX6_send_L40 v_rows v_up p1 dkF 0 v_sent v_there).bind fun o3 =>
    (fX6_inRoom v_rows o3.2.2).bind fun o4 =>
    some (o4, o2.2, o3.2.1, o3.2.2)
  else
    some (0, o2.2, v_sent, v_there)
set_option maxHeartbeats 4000000 in
set_option maxRecDepth 100000 in
theorem lX6_send_40 {p : Program} {l : Launch} {e : Env} {s : State} {m : MethodId} {below : List Frame} {meth : Method} {c : Code} {args : Array Value} {D : va_G} {k : Nat → ClassId} {h0 : Nat} {a_disk : Nat} {a_made : Nat} {a_sectorOf : Nat} {a_placeOf : Nat} {a_manyOf : Nat} {a_there : Nat} {a_waitKind : Nat} {a_waitMany : Nat} {a_waitBytes : Nat} {v_thrown : Int32} {v_sectors : Int32} {v_power : Int32} {v_used : Int32} {v_reserve : Int32} {v_cutWrites : Int32} {v_cutBytes : Int32} {v_rows : Int32} {v_waits : Int32} {v_stateNumber : Int32} {v_stateNow : Int64} {v_second : Int32} {v_repaired : Int32} {v_up : Int32} {v_disk : Nat → Int32} {v_made : Nat → Int32} {v_sectorOf : Nat → Int32} {v_placeOf : Nat → Int32} {v_manyOf : Nat → Int32} {v_waitKind : Nat → Int32} {v_waitMany : Nat → Int32} {v_waitBytes : Nat → Int64} {x1 : Int32} {Q : State → Prop} {o : Int32 × Int32 × (Nat → Int32)} {A : Nat → Prop} (C : dk_Cx p s m meth c cX6_send (some .int) 3 "ServiceDiskModel" dkB args) (hK : va_K D vwCl (dkT k) s) (hN : dk_N s) (hA : ∀ q : Nat, s.heap.size ≤ q → A q) :
    ∀ (n : Nat) (x2 : Int32) (v_sent : Int32) (v_there : Nat → Int32), fX6_send_L40 v_rows v_up x1 n x2 v_sent v_there = some o → (∀ (H : Heap) (locs : List Loc), va_P D vwCl [(h0, .inr (6, [.int v_thrown, .int v_sectors, .int v_power, .ref a_disk, .ref a_made, .int v_used, .int v_reserve, .int v_cutWrites, .int v_cutBytes, .int v_rows, .ref a_sectorOf, .ref a_placeOf, .ref a_manyOf, .ref a_there, .int v_waits, .ref a_waitKind, .ref a_waitMany, .ref a_waitBytes, .int v_stateNumber, .long v_stateNow, .int v_second, .int v_repaired, .int v_up, .int o.2.1])), (a_disk, .inl ((k 2), 32768, .inl v_disk)), (a_made, .inl ((k 2), 512, .inl v_made)), (a_sectorOf, .inl ((k 2), 5100, .inl v_sectorOf)), (a_placeOf, .inl ((k 2), 5100, .inl v_placeOf)), (a_manyOf, .inl ((k 2), 5100, .inl v_manyOf)), (a_there, .inl ((k 1), 5100, .inl o.2.2)), (a_waitKind, .inl ((k 2), 100, .inl v_waitKind)), (a_waitMany, .inl ((k 2), 100, .inl v_waitMany)), (a_waitBytes, .inl ((k 3), 100, .inr (.inl v_waitBytes)))] H → va_D A [(h0, .inr (6, [.int v_thrown, .int v_sectors, .int v_power, .ref a_disk, .ref a_made, .int v_used, .int v_reserve, .int v_cutWrites, .int v_cutBytes, .int v_rows, .ref a_sectorOf, .ref a_placeOf, .ref a_manyOf, .ref a_there, .int v_waits, .ref a_waitKind, .ref a_waitMany, .ref a_waitBytes, .int v_stateNumber, .long v_stateNow, .int v_second, .int v_repaired, .int v_up, .int o.2.1])), (a_disk, .inl ((k 2), 32768, .inl v_disk)), (a_made, .inl ((k 2), 512, .inl v_made)), (a_sectorOf, .inl ((k 2), 5100, .inl v_sectorOf)), (a_placeOf, .inl ((k 2), 5100, .inl v_placeOf)), (a_manyOf, .inl ((k 2), 5100, .inl v_manyOf)), (a_there, .inl ((k 1), 5100, .inl o.2.2)), (a_waitKind, .inl ((k 2), 100, .inl v_waitKind)), (a_waitMany, .inl ((k 2), 100, .inl v_waitMany)), (a_waitBytes, .inl ((k 3), 100, .inr (.inl v_waitBytes)))] → va_S A s.heap H locs → ∀ ls : Array Slot, lv_has ls 3 [(0, .ref h0), (1, .int x1), (2, .int o.1)] → W p l e { frames := 1, cells := 0, slots := 0, locals := 24 } s m args below meth c H locs 0 0 Q (F0 m 85 ls [])) → ∀ (H : Heap) (locs : List Loc), va_P D vwCl [(h0, .inr (6, [.int v_thrown, .int v_sectors, .int v_power, .ref a_disk, .ref a_made, .int v_used, .int v_reserve, .int v_cutWrites, .int v_cutBytes, .int v_rows, .ref a_sectorOf, .ref a_placeOf, .ref a_manyOf, .ref a_there, .int v_waits, .ref a_waitKind, .ref a_waitMany, .ref a_waitBytes, .int v_stateNumber, .long v_stateNow, .int v_second, .int v_repaired, .int v_up, .int v_sent])), (a_disk, .inl ((k 2), 32768, .inl v_disk)), (a_made, .inl ((k 2), 512, .inl v_made)), (a_sectorOf, .inl ((k 2), 5100, .inl v_sectorOf)), (a_placeOf, .inl ((k 2), 5100, .inl v_placeOf)), (a_manyOf, .inl ((k 2), 5100, .inl v_manyOf)), (a_there, .inl ((k 1), 5100, .inl v_there)), (a_waitKind, .inl ((k 2), 100, .inl v_waitKind)), (a_waitMany, .inl ((k 2), 100, .inl v_waitMany)), (a_waitBytes, .inl ((k 3), 100, .inr (.inl v_waitBytes)))] H → va_D A [(h0, .inr (6, [.int v_thrown, .int v_sectors, .int v_power, .ref a_disk, .ref a_made, .int v_used, .int v_reserve, .int v_cutWrites, .int v_cutBytes, .int v_rows, .ref a_sectorOf, .ref a_placeOf, .ref a_manyOf, .ref a_there, .int v_waits, .ref a_waitKind, .ref a_waitMany, .ref a_waitBytes, .int v_stateNumber, .long v_stateNow, .int v_second, .int v_repaired, .int v_up, .int v_sent])), (a_disk, .inl ((k 2), 32768, .inl v_disk)), (a_made, .inl ((k 2), 512, .inl v_made)), (a_sectorOf, .inl ((k 2), 5100, .inl v_sectorOf)), (a_placeOf, .inl ((k 2), 5100, .inl v_placeOf)), (a_manyOf, .inl ((k 2), 5100, .inl v_manyOf)), (a_there, .inl ((k 1), 5100, .inl v_there)), (a_waitKind, .inl ((k 2), 100, .inl v_waitKind)), (a_waitMany, .inl ((k 2), 100, .inl v_waitMany)), (a_waitBytes, .inl ((k 3), 100, .inr (.inl v_waitBytes)))] → va_S A s.heap H locs → ∀ ls : Array Slot, lv_has ls 3 [(0, .ref h0), (1, .int x1), (2, .int x2)] → W p l e { frames := 1, cells := 0, slots := 0, locals := 24 } s m args below meth c H locs 0 0 Q (F0 m 40 ls []) := by
  obtain ⟨hx, hb, hr, hml, hown, hts, hlocks⟩ := id C
  intro n
  induction n with
  | zero =>
    intro x2 v_sent v_there h
    exact dk_n (o := o) h
  | succ n ih =>
    intro x2 v_sent v_there h K H locs hP hD hS ls hl
    rw [fX6_send_L40.eq_2] at h
    refine lv_iload_n hx hb dX6_send_40 rfl (lv_at hl 2 rfl) ?_
    refine lv_iload_n hx hb dX6_send_41 rfl (lv_at hl 1 rfl) ?_
    refine lv_icmp_ge (tgt := 85) hx hb dX6_send_42 (by decide) (fun q => ?_) (fun q => ?_)
    · replace h := dk_t q h
      have h := dk_r h
      subst h
      exact K _ _ (hP.sub [0, 1, 2, 3, 4, 5, 6, 7, 8, 9] rfl) (hD.sub [0, 1, 2, 3, 4, 5, 6, 7, 8, 9] (by decide) rfl) hS ls (lv_sub hl [0, 1, 2] rfl)
    · replace h := dk_f q h
      refine lv_aload_n hx hb dX6_send_45 rfl (lv_at hl 0 rfl) ?_
      refine va_get (D := D) (ci := 6) (v := .int v_sent) (C := "ServiceDiskModel") (T := TX6) (N := 24) hx hb hts inX6 hown hK hP 0 rfl rfl 23 (by decide) (hts _ w_760) (fun _ h9 => h9) rfl dX6_send_46 ?_
      refine lv_aload_n hx hb dX6_send_49 rfl (lv_at hl 0 rfl) ?_
      refine va_get (D := D) (ci := 6) (v := .int v_rows) (C := "ServiceDiskModel") (T := TX6) (N := 24) hx hb hts inX6 hown hK hP 0 rfl rfl 9 (by decide) (hts _ w_746) (fun _ h9 => h9) rfl dX6_send_50 ?_
      refine lv_icmp_ge (tgt := 85) hx hb dX6_send_53 (by decide) (fun q => ?_) (fun q => ?_)
      · replace h := dk_t q h
        have h := dk_r h
        subst h
        exact K _ _ (hP.sub [0, 1, 2, 3, 4, 5, 6, 7, 8, 9] rfl) (hD.sub [0, 1, 2, 3, 4, 5, 6, 7, 8, 9] (by decide) rfl) hS ls (lv_sub hl [0, 1, 2] rfl)
      · replace h := dk_f q h
        refine lv_aload_n hx hb dX6_send_56 rfl (lv_at hl 0 rfl) ?_
        refine va_get (D := D) (ci := 6) (v := .ref a_there) (C := "ServiceDiskModel") (T := TX6) (N := 24) hx hb hts inX6 hown hK hP 0 rfl rfl 13 (by decide) (hts _ w_750) (fun _ h9 => h9) rfl dX6_send_57 ?_
        refine lv_aload_n hx hb dX6_send_60 rfl (lv_at hl 0 rfl) ?_
        refine va_get (D := D) (ci := 6) (v := .int v_sent) (C := "ServiceDiskModel") (T := TX6) (N := 24) hx hb hts inX6 hown hK hP 0 rfl rfl 23 (by decide) (hts _ w_760) (fun _ h9 => h9) rfl dX6_send_61 ?_
        refine lv_aload_n hx hb dX6_send_64 rfl (lv_at hl 0 rfl) ?_
        refine va_get (D := D) (ci := 6) (v := .int v_up) (C := "ServiceDiskModel") (T := TX6) (N := 24) hx hb hts inX6 hown hK hP 0 rfl rfl 22 (by decide) (hts _ w_759) (fun _ h9 => h9) rfl dX6_send_65 ?_
        obtain ⟨q, h⟩ := dk_g h
        refine va_zast hx hb hK hP hD hS 6 1 rfl rfl q dX6_send_68 (fun H locs hP hD hS => ?_)
        have hP : va_P D vwCl [(h0, .inr (6, [.int v_thrown, .int v_sectors, .int v_power, .ref a_disk, .ref a_made, .int v_used, .int v_reserve, .int v_cutWrites, .int v_cutBytes, .int v_rows, .ref a_sectorOf, .ref a_placeOf, .ref a_manyOf, .ref a_there, .int v_waits, .ref a_waitKind, .ref a_waitMany, .ref a_waitBytes, .int v_stateNumber, .long v_stateNow, .int v_second, .int v_repaired, .int v_up, .int v_sent])), (a_disk, .inl ((k 2), 32768, .inl v_disk)), (a_made, .inl ((k 2), 512, .inl v_made)), (a_sectorOf, .inl ((k 2), 5100, .inl v_sectorOf)), (a_placeOf, .inl ((k 2), 5100, .inl v_placeOf)), (a_manyOf, .inl ((k 2), 5100, .inl v_manyOf)), (a_there, .inl ((k 1), 5100, .inl (upd v_there v_sent.toNatClampNeg (vp_nar .boolean v_up)))), (a_waitKind, .inl ((k 2), 100, .inl v_waitKind)), (a_waitMany, .inl ((k 2), 100, .inl v_waitMany)), (a_waitBytes, .inl ((k 3), 100, .inr (.inl v_waitBytes)))] H := hP
        have hD : va_D A [(h0, .inr (6, [.int v_thrown, .int v_sectors, .int v_power, .ref a_disk, .ref a_made, .int v_used, .int v_reserve, .int v_cutWrites, .int v_cutBytes, .int v_rows, .ref a_sectorOf, .ref a_placeOf, .ref a_manyOf, .ref a_there, .int v_waits, .ref a_waitKind, .ref a_waitMany, .ref a_waitBytes, .int v_stateNumber, .long v_stateNow, .int v_second, .int v_repaired, .int v_up, .int v_sent])), (a_disk, .inl ((k 2), 32768, .inl v_disk)), (a_made, .inl ((k 2), 512, .inl v_made)), (a_sectorOf, .inl ((k 2), 5100, .inl v_sectorOf)), (a_placeOf, .inl ((k 2), 5100, .inl v_placeOf)), (a_manyOf, .inl ((k 2), 5100, .inl v_manyOf)), (a_there, .inl ((k 1), 5100, .inl (upd v_there v_sent.toNatClampNeg (vp_nar .boolean v_up)))), (a_waitKind, .inl ((k 2), 100, .inl v_waitKind)), (a_waitMany, .inl ((k 2), 100, .inl v_waitMany)), (a_waitBytes, .inl ((k 3), 100, .inr (.inl v_waitBytes)))] := hD
        refine lv_aload_n hx hb dX6_send_69 rfl (lv_at hl 0 rfl) ?_
        refine lv_dup hx hb dX6_send_70 rfl ?_
        refine va_get (D := D) (ci := 6) (v := .int v_sent) (C := "ServiceDiskModel") (T := TX6) (N := 24) hx hb hts inX6 hown hK hP 0 rfl rfl 23 (by decide) (hts _ w_760) (fun _ h9 => h9) rfl dX6_send_71 ?_
        refine lv_iconst (v := 1) hx hb dX6_send_74 (by decide) ?_
        refine lv_iadd hx hb dX6_send_75 ?_
        refine va_put (D := D) (ci := 6) (v := .int (v_sent + 1)) (ty := .int) (C := "ServiceDiskModel") (T := TX6) (N := 24) hx hb hts inX6 tyX6 tyX6_ok nmX6 hown hK hP hD hS 0 rfl rfl 23 (by decide) (hts _ w_760) (fun _ h9 => h9) rfl (by decide +kernel) rfl rfl (Nat.le_of_ble_eq_true rfl) dX6_send_76 (fun H locs hP hD hS => ?_)
        have hP : va_P D vwCl [(h0, .inr (6, [.int v_thrown, .int v_sectors, .int v_power, .ref a_disk, .ref a_made, .int v_used, .int v_reserve, .int v_cutWrites, .int v_cutBytes, .int v_rows, .ref a_sectorOf, .ref a_placeOf, .ref a_manyOf, .ref a_there, .int v_waits, .ref a_waitKind, .ref a_waitMany, .ref a_waitBytes, .int v_stateNumber, .long v_stateNow, .int v_second, .int v_repaired, .int v_up, .int (v_sent + 1)])), (a_disk, .inl ((k 2), 32768, .inl v_disk)), (a_made, .inl ((k 2), 512, .inl v_made)), (a_sectorOf, .inl ((k 2), 5100, .inl v_sectorOf)), (a_placeOf, .inl ((k 2), 5100, .inl v_placeOf)), (a_manyOf, .inl ((k 2), 5100, .inl v_manyOf)), (a_there, .inl ((k 1), 5100, .inl (upd v_there v_sent.toNatClampNeg (vp_nar .boolean v_up)))), (a_waitKind, .inl ((k 2), 100, .inl v_waitKind)), (a_waitMany, .inl ((k 2), 100, .inl v_waitMany)), (a_waitBytes, .inl ((k 3), 100, .inr (.inl v_waitBytes)))] H := hP
        have hD : va_D A [(h0, .inr (6, [.int v_thrown, .int v_sectors, .int v_power, .ref a_disk, .ref a_made, .int v_used, .int v_reserve, .int v_cutWrites, .int v_cutBytes, .int v_rows, .ref a_sectorOf, .ref a_placeOf, .ref a_manyOf, .ref a_there, .int v_waits, .ref a_waitKind, .ref a_waitMany, .ref a_waitBytes, .int v_stateNumber, .long v_stateNow, .int v_second, .int v_repaired, .int v_up, .int (v_sent + 1)])), (a_disk, .inl ((k 2), 32768, .inl v_disk)), (a_made, .inl ((k 2), 512, .inl v_made)), (a_sectorOf, .inl ((k 2), 5100, .inl v_sectorOf)), (a_placeOf, .inl ((k 2), 5100, .inl v_placeOf)), (a_manyOf, .inl ((k 2), 5100, .inl v_manyOf)), (a_there, .inl ((k 1), 5100, .inl (upd v_there v_sent.toNatClampNeg (vp_nar .boolean v_up)))), (a_waitKind, .inl ((k 2), 100, .inl v_waitKind)), (a_waitMany, .inl ((k 2), 100, .inl v_waitMany)), (a_waitBytes, .inl ((k 3), 100, .inr (.inl v_waitBytes)))] := hD
        refine lv_iinc (v := (x2 + 1)) (lv' := [(2, .int (x2 + 1)), (0, .ref h0), (1, .int x1)]) hx hb dX6_send_79 hl (k := 2) rfl rfl (by decide) rfl (fun ls hl => ?_)
        refine lv_goto (tgt := 40) hx hb dX6_send_82 (by decide) ?_
        exact ih (x2 + 1) (v_sent + 1) (upd v_there v_sent.toNatClampNeg (vp_nar .boolean v_up)) h K _ _ (hP.sub [0, 1, 2, 3, 4, 5, 6, 7, 8, 9] rfl) (hD.sub [0, 1, 2, 3, 4, 5, 6, 7, 8, 9] (by decide) rfl) hS ls (lv_sub hl [1, 2, 0] rfl)
set_option maxHeartbeats 4000000 in
set_option maxRecDepth 100000 in
theorem mX6_send (l : Launch) (D : va_G) (k : Nat → ClassId) (h0 a_disk a_made a_sectorOf a_placeOf a_manyOf a_there a_waitKind a_waitMany a_waitBytes : Nat) (sz : Nat) (v_thrown : Int32) (v_sectors : Int32) (v_power : Int32) (v_used : Int32) (v_reserve : Int32) (v_cutWrites : Int32) (v_cutBytes : Int32) (v_rows : Int32) (v_waits : Int32) (v_stateNumber : Int32) (v_stateNow : Int64) (v_second : Int32) (v_repaired : Int32) (v_up : Int32) (v_sent : Int32) (v_disk : Nat → Int32) (v_made : Nat → Int32) (v_sectorOf : Nat → Int32) (v_placeOf : Nat → Int32) (v_manyOf : Nat → Int32) (v_there : Nat → Int32) (v_waitKind : Nat → Int32) (v_waitMany : Nat → Int32) (v_waitBytes : Nat → Int64) (p1 : Int32) (o : Int32 × Int32 × Int32 × (Nat → Int32)) (h : fX6_send v_power v_rows v_up v_sent v_there p1 = some o) : Met l yX6_send wsX6_send { frames := 1, cells := 0, slots := 0, locals := 24 } (dk_Pw D k [.ref h0, .int p1] [(h0, .inr (6, [.int v_thrown, .int v_sectors, .int v_power, .ref a_disk, .ref a_made, .int v_used, .int v_reserve, .int v_cutWrites, .int v_cutBytes, .int v_rows, .ref a_sectorOf, .ref a_placeOf, .ref a_manyOf, .ref a_there, .int v_waits, .ref a_waitKind, .ref a_waitMany, .ref a_waitBytes, .int v_stateNumber, .long v_stateNow, .int v_second, .int v_repaired, .int v_up, .int v_sent])), (a_disk, .inl ((k 2), 32768, .inl v_disk)), (a_made, .inl ((k 2), 512, .inl v_made)), (a_sectorOf, .inl ((k 2), 5100, .inl v_sectorOf)), (a_placeOf, .inl ((k 2), 5100, .inl v_placeOf)), (a_manyOf, .inl ((k 2), 5100, .inl v_manyOf)), (a_there, .inl ((k 1), 5100, .inl v_there)), (a_waitKind, .inl ((k 2), 100, .inl v_waitKind)), (a_waitMany, .inl ((k 2), 100, .inl v_waitMany)), (a_waitBytes, .inl ((k 3), 100, .inr (.inl v_waitBytes)))] sz) (dk_Qi o.1 D [(h0, .inr (6, [.int o.2.1, .int v_sectors, .int v_power, .ref a_disk, .ref a_made, .int v_used, .int v_reserve, .int v_cutWrites, .int v_cutBytes, .int v_rows, .ref a_sectorOf, .ref a_placeOf, .ref a_manyOf, .ref a_there, .int v_waits, .ref a_waitKind, .ref a_waitMany, .ref a_waitBytes, .int v_stateNumber, .long v_stateNow, .int v_second, .int v_repaired, .int v_up, .int o.2.2.1])), (a_disk, .inl ((k 2), 32768, .inl v_disk)), (a_made, .inl ((k 2), 512, .inl v_made)), (a_sectorOf, .inl ((k 2), 5100, .inl v_sectorOf)), (a_placeOf, .inl ((k 2), 5100, .inl v_placeOf)), (a_manyOf, .inl ((k 2), 5100, .inl v_manyOf)), (a_there, .inl ((k 1), 5100, .inl o.2.2.2)), (a_waitKind, .inl ((k 2), 100, .inl v_waitKind)), (a_waitMany, .inl ((k 2), 100, .inl v_waitMany)), (a_waitBytes, .inl ((k 3), 100, .inr (.inl v_waitBytes)))] (va_A [(h0, .inr (6, [.int v_thrown, .int v_sectors, .int v_power, .ref a_disk, .ref a_made, .int v_used, .int v_reserve, .int v_cutWrites, .int v_cutBytes, .int v_rows, .ref a_sectorOf, .ref a_placeOf, .ref a_manyOf, .ref a_there, .int v_waits, .ref a_waitKind, .ref a_waitMany, .ref a_waitBytes, .int v_stateNumber, .long v_stateNow, .int v_second, .int v_repaired, .int v_up, .int v_sent])), (a_disk, .inl ((k 2), 32768, .inl v_disk)), (a_made, .inl ((k 2), 512, .inl v_made)), (a_sectorOf, .inl ((k 2), 5100, .inl v_sectorOf)), (a_placeOf, .inl ((k 2), 5100, .inl v_placeOf)), (a_manyOf, .inl ((k 2), 5100, .inl v_manyOf)), (a_there, .inl ((k 1), 5100, .inl v_there)), (a_waitKind, .inl ((k 2), 100, .inl v_waitKind)), (a_waitMany, .inl ((k 2), 100, .inl v_waitMany)), (a_waitBytes, .inl ((k 3), 100, .inr (.inl v_waitBytes)))] sz)) 0 0 (va_A [(h0, .inr (6, [.int v_thrown, .int v_sectors, .int v_power, .ref a_disk, .ref a_made, .int v_used, .int v_reserve, .int v_cutWrites, .int v_cutBytes, .int v_rows, .ref a_sectorOf, .ref a_placeOf, .ref a_manyOf, .ref a_there, .int v_waits, .ref a_waitKind, .ref a_waitMany, .ref a_waitBytes, .int v_stateNumber, .long v_stateNow, .int v_second, .int v_repaired, .int v_up, .int v_sent])), (a_disk, .inl ((k 2), 32768, .inl v_disk)), (a_made, .inl ((k 2), 512, .inl v_made)), (a_sectorOf, .inl ((k 2), 5100, .inl v_sectorOf)), (a_placeOf, .inl ((k 2), 5100, .inl v_placeOf)), (a_manyOf, .inl ((k 2), 5100, .inl v_manyOf)), (a_there, .inl ((k 1), 5100, .inl v_there)), (a_waitKind, .inl ((k 2), 100, .inl v_waitKind)), (a_waitMany, .inl ((k 2), 100, .inl v_waitMany)), (a_waitBytes, .inl ((k 3), 100, .inr (.inl v_waitBytes)))] sz) := by
  unfold fX6_send at h
  refine dk_ofW (Qc := fun A => dk_Qi o.1 D [(h0, .inr (6, [.int o.2.1, .int v_sectors, .int v_power, .ref a_disk, .ref a_made, .int v_used, .int v_reserve, .int v_cutWrites, .int v_cutBytes, .int v_rows, .ref a_sectorOf, .ref a_placeOf, .ref a_manyOf, .ref a_there, .int v_waits, .ref a_waitKind, .ref a_waitMany, .ref a_waitBytes, .int v_stateNumber, .long v_stateNow, .int v_second, .int v_repaired, .int v_up, .int o.2.2.1])), (a_disk, .inl ((k 2), 32768, .inl v_disk)), (a_made, .inl ((k 2), 512, .inl v_made)), (a_sectorOf, .inl ((k 2), 5100, .inl v_sectorOf)), (a_placeOf, .inl ((k 2), 5100, .inl v_placeOf)), (a_manyOf, .inl ((k 2), 5100, .inl v_manyOf)), (a_there, .inl ((k 1), 5100, .inl o.2.2.2)), (a_waitKind, .inl ((k 2), 100, .inl v_waitKind)), (a_waitMany, .inl ((k 2), 100, .inl v_waitMany)), (a_waitBytes, .inl ((k 3), 100, .inr (.inl v_waitBytes)))] A) (cc := cX6_send) (maxL := 3) (ret := (some .int)) (lv := [(0, .ref h0), (1, .int p1)]) (by decide) rfl (Nat.le_of_ble_eq_true rfl) rfl ?_
  intro p e s m below meth c C hK hN hP A hA hD hS ls hl
  obtain ⟨hx, hb, hr, hml, hown, hts, hlocks⟩ := id C
  refine lv_aload_n hx hb dX6_send_0 rfl (lv_at hl 0 rfl) ?_
  refine lv_iload_n hx hb dX6_send_1 rfl (lv_at hl 1 rfl) ?_
  refine lv_iconst (v := 0) hx hb dX6_send_2 (by decide) ?_
  refine lv_bipush (v := 100) hx hb dX6_send_3 (by decide) ?_
  replace h := dk_b h
  obtain ⟨o1, e1, h⟩ := h
  refine dk_cri (va_runS (As := [.int p1, .int 0, .int 100]) (rest := [.ref h0]) ⟨hx, hb, hml, hown, hts⟩ (mX6_in l D k p1 0 100 o1 e1) (va_cwS 3 hts (dk_gS w_818 w_819 w_46 w_820) rfl rfl rfl (by decide +kernel) ⟨Nat.le_of_ble_eq_true rfl, Nat.le_of_ble_eq_true rfl⟩) (dk_psr hK hN hP [] rfl) rfl rfl hl.1 rfl (lv_room (Nat.le_of_ble_eq_true rfl)) dX6_send_5 ⟨Nat.le_of_ble_eq_true rfl, Nat.le_of_ble_eq_true rfl⟩) ?_
  refine dk_jn (F0 m 16 ls [.int (if o1 = 0 then 1 else 0), .ref h0]) (fun K => ?_) ?_
  · refine lv_if_ne (tgt := 15) hx hb dX6_send_8 (by decide) (fun q1 => ?_) (fun q1 => ?_)
    · refine lv_iconst (v := 0) hx hb dX6_send_15 (by decide) ?_
      have K := K
      rw [if_neg q1] at K
      exact K
    · refine lv_iconst (v := 1) hx hb dX6_send_11 (by decide) ?_
      refine lv_goto (tgt := 16) hx hb dX6_send_12 (by decide) ?_
      have K := K
      rw [if_pos q1] at K
      exact K
  refine lv_aload_n hx hb dX6_send_16 rfl (lv_at hl 0 rfl) ?_
  refine va_get (D := D) (ci := 6) (v := .int v_power) (C := "ServiceDiskModel") (T := TX6) (N := 24) hx hb hts inX6 hown hK hP 0 rfl rfl 2 (by decide) (hts _ w_739) (fun _ h9 => h9) rfl dX6_send_17 ?_
  refine dk_jn (F0 m 28 ls [.int (if v_power = 0 then 1 else 0), .int (if o1 = 0 then 1 else 0), .ref h0]) (fun K => ?_) ?_
  · refine lv_if_ne (tgt := 27) hx hb dX6_send_20 (by decide) (fun q1 => ?_) (fun q1 => ?_)
    · refine lv_iconst (v := 0) hx hb dX6_send_27 (by decide) ?_
      have K := K
      rw [if_neg q1] at K
      exact K
    · refine lv_iconst (v := 1) hx hb dX6_send_23 (by decide) ?_
      refine lv_goto (tgt := 28) hx hb dX6_send_24 (by decide) ?_
      have K := K
      rw [if_pos q1] at K
      exact K
  refine lv_iconst (v := 0) hx hb dX6_send_28 (by decide) ?_
  refine lv_iconst (v := 0) hx hb dX6_send_29 (by decide) ?_
  replace h := dk_b h
  obtain ⟨o2, e2, h⟩ := h
  refine dk_cwi (wr := []) (va_runV (As := [.int (if o1 = 0 then 1 else 0), .int (if v_power = 0 then 1 else 0), .int 0, .int 0]) (rest := []) ⟨hx, hb, hml, hown, hts⟩ (mX6_throwing l D k h0 a_disk a_made a_sectorOf a_placeOf a_manyOf a_there a_waitKind a_waitMany a_waitBytes s.heap.size v_thrown v_sectors v_power v_used v_reserve v_cutWrites v_cutBytes v_rows v_waits v_stateNumber v_stateNow v_second v_repaired v_up v_sent v_disk v_made v_sectorOf v_placeOf v_manyOf v_there v_waitKind v_waitMany v_waitBytes (if o1 = 0 then 1 else 0) (if v_power = 0 then 1 else 0) 0 0 o2 e2) (cwV 4 hts (dk_gV w_821 w_823 w_20 w_46 w_824) rfl rfl rfl (by decide +kernel) ⟨Nat.le_of_ble_eq_true rfl, Nat.le_of_ble_eq_true rfl⟩) (dk_pvw hK hN hP hD [0, 1, 2, 3, 4, 5, 6, 7, 8, 9] rfl rfl rfl rfl (hP.sub [0, 1, 2, 3, 4, 5, 6, 7, 8, 9] rfl)) rfl rfl hl.1 rfl (lv_room (Nat.le_of_ble_eq_true rfl)) dX6_send_30 ⟨Nat.le_of_ble_eq_true rfl, Nat.le_of_ble_eq_true rfl⟩) hP hD hS hA [0, 1, 2, 3, 4, 5, 6, 7, 8, 9] [] rfl rfl rfl (by decide) (fun H locs hP hD hS => ?_)
  have hP : va_P D vwCl [(h0, .inr (6, [.int o2.2, .int v_sectors, .int v_power, .ref a_disk, .ref a_made, .int v_used, .int v_reserve, .int v_cutWrites, .int v_cutBytes, .int v_rows, .ref a_sectorOf, .ref a_placeOf, .ref a_manyOf, .ref a_there, .int v_waits, .ref a_waitKind, .ref a_waitMany, .ref a_waitBytes, .int v_stateNumber, .long v_stateNow, .int v_second, .int v_repaired, .int v_up, .int v_sent])), (a_disk, .inl ((k 2), 32768, .inl v_disk)), (a_made, .inl ((k 2), 512, .inl v_made)), (a_sectorOf, .inl ((k 2), 5100, .inl v_sectorOf)), (a_placeOf, .inl ((k 2), 5100, .inl v_placeOf)), (a_manyOf, .inl ((k 2), 5100, .inl v_manyOf)), (a_there, .inl ((k 1), 5100, .inl v_there)), (a_waitKind, .inl ((k 2), 100, .inl v_waitKind)), (a_waitMany, .inl ((k 2), 100, .inl v_waitMany)), (a_waitBytes, .inl ((k 3), 100, .inr (.inl v_waitBytes)))] H := hP
  have hD : va_D A [(h0, .inr (6, [.int o2.2, .int v_sectors, .int v_power, .ref a_disk, .ref a_made, .int v_used, .int v_reserve, .int v_cutWrites, .int v_cutBytes, .int v_rows, .ref a_sectorOf, .ref a_placeOf, .ref a_manyOf, .ref a_there, .int v_waits, .ref a_waitKind, .ref a_waitMany, .ref a_waitBytes, .int v_stateNumber, .long v_stateNow, .int v_second, .int v_repaired, .int v_up, .int v_sent])), (a_disk, .inl ((k 2), 32768, .inl v_disk)), (a_made, .inl ((k 2), 512, .inl v_made)), (a_sectorOf, .inl ((k 2), 5100, .inl v_sectorOf)), (a_placeOf, .inl ((k 2), 5100, .inl v_placeOf)), (a_manyOf, .inl ((k 2), 5100, .inl v_manyOf)), (a_there, .inl ((k 1), 5100, .inl v_there)), (a_waitKind, .inl ((k 2), 100, .inl v_waitKind)), (a_waitMany, .inl ((k 2), 100, .inl v_waitMany)), (a_waitBytes, .inl ((k 3), 100, .inr (.inl v_waitBytes)))] := hD
  refine lv_if_eq (tgt := 38) hx hb dX6_send_33 (by decide) (fun q => ?_) (fun q => ?_)
  · replace h := dk_t q h
    refine lv_iconst (v := 0) hx hb dX6_send_38 (by decide) ?_
    refine lv_istore_n (lv' := [(2, .int 0), (0, .ref h0), (1, .int p1)]) hx hb dX6_send_39 rfl hl (by decide) rfl (fun ls hl => ?_)
    replace h := dk_b h
    obtain ⟨o3, e3, h⟩ := h
    refine lX6_send_40 C hK hN hA _ 0 v_sent v_there  e3 (fun H locs hP hD hS ls hl => ?_) _ _ (hP.sub [0, 1, 2, 3, 4, 5, 6, 7, 8, 9] rfl) (hD.sub [0, 1, 2, 3, 4, 5, 6, 7, 8, 9] (by decide) rfl) hS ls (lv_sub hl [1, 2, 0] rfl)
    have hP : va_P D vwCl [(h0, .inr (6, [.int o2.2, .int v_sectors, .int v_power, .ref a_disk, .ref a_made, .int v_used, .int v_reserve, .int v_cutWrites, .int v_cutBytes, .int v_rows, .ref a_sectorOf, .ref a_placeOf, .ref a_manyOf, .ref a_there, .int v_waits, .ref a_waitKind, .ref a_waitMany, .ref a_waitBytes, .int v_stateNumber, .long v_stateNow, .int v_second, .int v_repaired, .int v_up, .int o3.2.1])), (a_disk, .inl ((k 2), 32768, .inl v_disk)), (a_made, .inl ((k 2), 512, .inl v_made)), (a_sectorOf, .inl ((k 2), 5100, .inl v_sectorOf)), (a_placeOf, .inl ((k 2), 5100, .inl v_placeOf)), (a_manyOf, .inl ((k 2), 5100, .inl v_manyOf)), (a_there, .inl ((k 1), 5100, .inl o3.2.2)), (a_waitKind, .inl ((k 2), 100, .inl v_waitKind)), (a_waitMany, .inl ((k 2), 100, .inl v_waitMany)), (a_waitBytes, .inl ((k 3), 100, .inr (.inl v_waitBytes)))] H := hP
    have hD : va_D A [(h0, .inr (6, [.int o2.2, .int v_sectors, .int v_power, .ref a_disk, .ref a_made, .int v_used, .int v_reserve, .int v_cutWrites, .int v_cutBytes, .int v_rows, .ref a_sectorOf, .ref a_placeOf, .ref a_manyOf, .ref a_there, .int v_waits, .ref a_waitKind, .ref a_waitMany, .ref a_waitBytes, .int v_stateNumber, .long v_stateNow, .int v_second, .int v_repaired, .int v_up, .int o3.2.1])), (a_disk, .inl ((k 2), 32768, .inl v_disk)), (a_made, .inl ((k 2), 512, .inl v_made)), (a_sectorOf, .inl ((k 2), 5100, .inl v_sectorOf)), (a_placeOf, .inl ((k 2), 5100, .inl v_placeOf)), (a_manyOf, .inl ((k 2), 5100, .inl v_manyOf)), (a_there, .inl ((k 1), 5100, .inl o3.2.2)), (a_waitKind, .inl ((k 2), 100, .inl v_waitKind)), (a_waitMany, .inl ((k 2), 100, .inl v_waitMany)), (a_waitBytes, .inl ((k 3), 100, .inr (.inl v_waitBytes)))] := hD
    have hl : lv_has ls 3 [(0, .ref h0), (1, .int p1), (2, .int o3.1)] := hl
    refine lv_aload_n hx hb dX6_send_85 rfl (lv_at hl 0 rfl) ?_
    replace h := dk_b h
    obtain ⟨o4, e4, h⟩ := h
    refine dk_cri (va_runV (As := []) (rest := []) ⟨hx, hb, hml, hown, hts⟩ (mX6_inRoom l D k h0 a_disk a_made a_sectorOf a_placeOf a_manyOf a_there a_waitKind a_waitMany a_waitBytes o2.2 v_sectors v_power v_used v_reserve v_cutWrites v_cutBytes v_rows v_waits v_stateNumber v_stateNow v_second v_repaired v_up o3.2.1 v_disk v_made v_sectorOf v_placeOf v_manyOf o3.2.2 v_waitKind v_waitMany v_waitBytes o4 e4) (cwV 0 hts (dk_gV w_952 w_954 w_38 w_46 w_955) rfl rfl rfl (by decide +kernel) ⟨Nat.le_of_ble_eq_true rfl, Nat.le_of_ble_eq_true rfl⟩) (dk_pvr hK hN hP [0, 1, 2, 3, 4, 5, 6, 7, 8, 9] rfl rfl rfl) rfl rfl hl.1 rfl (lv_room (Nat.le_of_ble_eq_true rfl)) dX6_send_86 ⟨Nat.le_of_ble_eq_true rfl, Nat.le_of_ble_eq_true rfl⟩) ?_
    have h := dk_r h
    subst h
    exact dk_rwi hx hb hr hlocks (hP.sub [0, 1, 2, 3, 4, 5, 6, 7, 8, 9] rfl) (hD.sub [0, 1, 2, 3, 4, 5, 6, 7, 8, 9] (by decide) rfl) hS dX6_send_89 rfl
  · replace h := dk_f q h
    refine lv_iconst (v := 0) hx hb dX6_send_36 (by decide) ?_
    have h := dk_r h
    subst h
    exact dk_rwi hx hb hr hlocks (hP.sub [0, 1, 2, 3, 4, 5, 6, 7, 8, 9] rfl) (hD.sub [0, 1, 2, 3, 4, 5, 6, 7, 8, 9] (by decide) rfl) hS dX6_send_37 rfl
/-! ServiceDiskModel.gap(I)I: rw, frames 0, locals 0 -/
def fX6_gap_L48 (v_sent : Int32) (v_there : Nat → Int32) (x2 : Int32) (x3 : Int32) : Nat → (Int32) → Option (Int32)
  | 0, _ => none
  | n + 1, x4 =>
    if v_sent ≤ (x3 + x4) then
      some x4
    else
      if dk_in (x3 + x4) 5100 then
      if (v_there (x3 + x4).toNatClampNeg) = 0 then
        fX6_gap_L48 v_sent v_there x2 x3 n (x4 + 1)
      else
        some x4
      else none
def fX6_gap_L37 (v_thrown : Int32) (v_sent : Int32) (v_there : Nat → Int32)  : Nat → (Int32) → (Int32) → Option (Int32 × Int32)
  | 0, _, _ => none
  | n + 1, x2, x3 =>
    if v_sent ≤ x3 then
      some ((-1), v_thrown)
    else
      (fX6_gap_L48 v_sent v_there x2 x3 dkF 0).bind fun o1 =>
      if o1 ≤ 0 then
        fX6_gap_L37 v_thrown v_sent v_there n (x2 - (if o1 ≤ 0 then 0 else 1)) (x3 + (o1 + 1))
      else
        if x2 = 0 then
          some (((10000 * x3) + o1), v_thrown)
        else
          fX6_gap_L37 v_thrown v_sent v_there n (x2 - (if o1 ≤ 0 then 0 else 1)) (x3 + (o1 + 1))
def fX6_gap (v_power : Int32) (v_sent : Int32) (v_there : Nat → Int32) (p1 : Int32) : Option (Int32 × Int32) :=
  if ((if v_power = 0 then 2 else (if 0 ≤ p1 then 0 else 1)) : Int32) ≤ 0 then
    fX6_gap_L37 (if v_power = 0 then 2 else (if 0 ≤ p1 then 0 else 1)) v_sent v_there dkF p1 0
  else
    some (0, (if v_power = 0 then 2 else (if 0 ≤ p1 then 0 else 1)))
set_option maxHeartbeats 4000000 in
set_option maxRecDepth 100000 in
theorem lX6_gap_48 {p : Program} {l : Launch} {e : Env} {s : State} {m : MethodId} {below : List Frame} {meth : Method} {c : Code} {args : Array Value} {D : va_G} {k : Nat → ClassId} {h0 : Nat} {a_disk : Nat} {a_made : Nat} {a_sectorOf : Nat} {a_placeOf : Nat} {a_manyOf : Nat} {a_there : Nat} {a_waitKind : Nat} {a_waitMany : Nat} {a_waitBytes : Nat} {v_thrown : Int32} {v_sectors : Int32} {v_power : Int32} {v_used : Int32} {v_reserve : Int32} {v_cutWrites : Int32} {v_cutBytes : Int32} {v_rows : Int32} {v_waits : Int32} {v_stateNumber : Int32} {v_stateNow : Int64} {v_second : Int32} {v_repaired : Int32} {v_up : Int32} {v_sent : Int32} {v_disk : Nat → Int32} {v_made : Nat → Int32} {v_sectorOf : Nat → Int32} {v_placeOf : Nat → Int32} {v_manyOf : Nat → Int32} {v_there : Nat → Int32} {v_waitKind : Nat → Int32} {v_waitMany : Nat → Int32} {v_waitBytes : Nat → Int64} {x2 : Int32} {x3 : Int32} {Q : State → Prop} {o : Int32} {A : Nat → Prop} (C : dk_Cx p s m meth c cX6_gap (some .int) 5 "ServiceDiskModel" dkB args) (hK : va_K D vwCl (dkT k) s) (hN : dk_N s) (hA : ∀ q : Nat, s.heap.size ≤ q → A q) :
    ∀ (n : Nat) (x4 : Int32), fX6_gap_L48 v_sent v_there x2 x3 n x4 = some o → (∀ (H : Heap) (locs : List Loc), va_P D vwCl [(h0, .inr (6, [.int v_thrown, .int v_sectors, .int v_power, .ref a_disk, .ref a_made, .int v_used, .int v_reserve, .int v_cutWrites, .int v_cutBytes, .int v_rows, .ref a_sectorOf, .ref a_placeOf, .ref a_manyOf, .ref a_there, .int v_waits, .ref a_waitKind, .ref a_waitMany, .ref a_waitBytes, .int v_stateNumber, .long v_stateNow, .int v_second, .int v_repaired, .int v_up, .int v_sent])), (a_disk, .inl ((k 2), 32768, .inl v_disk)), (a_made, .inl ((k 2), 512, .inl v_made)), (a_sectorOf, .inl ((k 2), 5100, .inl v_sectorOf)), (a_placeOf, .inl ((k 2), 5100, .inl v_placeOf)), (a_manyOf, .inl ((k 2), 5100, .inl v_manyOf)), (a_there, .inl ((k 1), 5100, .inl v_there)), (a_waitKind, .inl ((k 2), 100, .inl v_waitKind)), (a_waitMany, .inl ((k 2), 100, .inl v_waitMany)), (a_waitBytes, .inl ((k 3), 100, .inr (.inl v_waitBytes)))] H → va_D A [(h0, .inr (6, [.int v_thrown, .int v_sectors, .int v_power, .ref a_disk, .ref a_made, .int v_used, .int v_reserve, .int v_cutWrites, .int v_cutBytes, .int v_rows, .ref a_sectorOf, .ref a_placeOf, .ref a_manyOf, .ref a_there, .int v_waits, .ref a_waitKind, .ref a_waitMany, .ref a_waitBytes, .int v_stateNumber, .long v_stateNow, .int v_second, .int v_repaired, .int v_up, .int v_sent])), (a_disk, .inl ((k 2), 32768, .inl v_disk)), (a_made, .inl ((k 2), 512, .inl v_made)), (a_sectorOf, .inl ((k 2), 5100, .inl v_sectorOf)), (a_placeOf, .inl ((k 2), 5100, .inl v_placeOf)), (a_manyOf, .inl ((k 2), 5100, .inl v_manyOf)), (a_there, .inl ((k 1), 5100, .inl v_there)), (a_waitKind, .inl ((k 2), 100, .inl v_waitKind)), (a_waitMany, .inl ((k 2), 100, .inl v_waitMany)), (a_waitBytes, .inl ((k 3), 100, .inr (.inl v_waitBytes)))] → va_S A s.heap H locs → ∀ ls : Array Slot, lv_has ls 5 [(0, .ref h0), (2, .int x2), (3, .int x3), (4, .int o)] → W p l e { frames := 0, cells := 0, slots := 0, locals := 0 } s m args below meth c H locs 0 0 Q (F0 m 77 ls [])) → ∀ (H : Heap) (locs : List Loc), va_P D vwCl [(h0, .inr (6, [.int v_thrown, .int v_sectors, .int v_power, .ref a_disk, .ref a_made, .int v_used, .int v_reserve, .int v_cutWrites, .int v_cutBytes, .int v_rows, .ref a_sectorOf, .ref a_placeOf, .ref a_manyOf, .ref a_there, .int v_waits, .ref a_waitKind, .ref a_waitMany, .ref a_waitBytes, .int v_stateNumber, .long v_stateNow, .int v_second, .int v_repaired, .int v_up, .int v_sent])), (a_disk, .inl ((k 2), 32768, .inl v_disk)), (a_made, .inl ((k 2), 512, .inl v_made)), (a_sectorOf, .inl ((k 2), 5100, .inl v_sectorOf)), (a_placeOf, .inl ((k 2), 5100, .inl v_placeOf)), (a_manyOf, .inl ((k 2), 5100, .inl v_manyOf)), (a_there, .inl ((k 1), 5100, .inl v_there)), (a_waitKind, .inl ((k 2), 100, .inl v_waitKind)), (a_waitMany, .inl ((k 2), 100, .inl v_waitMany)), (a_waitBytes, .inl ((k 3), 100, .inr (.inl v_waitBytes)))] H → va_D A [(h0, .inr (6, [.int v_thrown, .int v_sectors, .int v_power, .ref a_disk, .ref a_made, .int v_used, .int v_reserve, .int v_cutWrites, .int v_cutBytes, .int v_rows, .ref a_sectorOf, .ref a_placeOf, .ref a_manyOf, .ref a_there, .int v_waits, .ref a_waitKind, .ref a_waitMany, .ref a_waitBytes, .int v_stateNumber, .long v_stateNow, .int v_second, .int v_repaired, .int v_up, .int v_sent])), (a_disk, .inl ((k 2), 32768, .inl v_disk)), (a_made, .inl ((k 2), 512, .inl v_made)), (a_sectorOf, .inl ((k 2), 5100, .inl v_sectorOf)), (a_placeOf, .inl ((k 2), 5100, .inl v_placeOf)), (a_manyOf, .inl ((k 2), 5100, .inl v_manyOf)), (a_there, .inl ((k 1), 5100, .inl v_there)), (a_waitKind, .inl ((k 2), 100, .inl v_waitKind)), (a_waitMany, .inl ((k 2), 100, .inl v_waitMany)), (a_waitBytes, .inl ((k 3), 100, .inr (.inl v_waitBytes)))] → va_S A s.heap H locs → ∀ ls : Array Slot, lv_has ls 5 [(0, .ref h0), (2, .int x2), (3, .int x3), (4, .int x4)] → W p l e { frames := 0, cells := 0, slots := 0, locals := 0 } s m args below meth c H locs 0 0 Q (F0 m 48 ls []) := by
  obtain ⟨hx, hb, hr, hml, hown, hts, hlocks⟩ := id C
  intro n
  induction n with
  | zero =>
    intro x4 h
    exact dk_n (o := o) h
  | succ n ih =>
    intro x4 h K H locs hP hD hS ls hl
    rw [fX6_gap_L48.eq_2] at h
    refine lv_iload_n hx hb dX6_gap_48 rfl (lv_at hl 2 rfl) ?_
    refine lv_iload hx hb dX6_gap_49 (lv_at hl 3 rfl) ?_
    refine lv_iadd hx hb dX6_gap_51 ?_
    refine lv_aload_n hx hb dX6_gap_52 rfl (lv_at hl 0 rfl) ?_
    refine va_get (D := D) (ci := 6) (v := .int v_sent) (C := "ServiceDiskModel") (T := TX6) (N := 24) hx hb hts inX6 hown hK hP 0 rfl rfl 23 (by decide) (hts _ w_760) (fun _ h9 => h9) rfl dX6_gap_53 ?_
    refine lv_icmp_ge (tgt := 77) hx hb dX6_gap_56 (by decide) (fun q => ?_) (fun q => ?_)
    · replace h := dk_t q h
      have h := dk_r h
      subst h
      exact K _ _ (hP.sub [0, 1, 2, 3, 4, 5, 6, 7, 8, 9] rfl) (hD.sub [0, 1, 2, 3, 4, 5, 6, 7, 8, 9] (by decide) rfl) hS ls (lv_sub hl [0, 1, 2, 3] rfl)
    · replace h := dk_f q h
      refine lv_aload_n hx hb dX6_gap_59 rfl (lv_at hl 0 rfl) ?_
      refine va_get (D := D) (ci := 6) (v := .ref a_there) (C := "ServiceDiskModel") (T := TX6) (N := 24) hx hb hts inX6 hown hK hP 0 rfl rfl 13 (by decide) (hts _ w_750) (fun _ h9 => h9) rfl dX6_gap_60 ?_
      refine lv_iload_n hx hb dX6_gap_63 rfl (lv_at hl 2 rfl) ?_
      refine lv_iload hx hb dX6_gap_64 (lv_at hl 3 rfl) ?_
      refine lv_iadd hx hb dX6_gap_66 ?_
      obtain ⟨q, h⟩ := dk_g h
      refine va_zald hx hb hK hP 6 1 rfl rfl q dX6_gap_67 ?_
      refine lv_if_ne (tgt := 77) hx hb dX6_gap_68 (by decide) (fun q => ?_) (fun q => ?_)
      · replace h := dk_f q h
        have h := dk_r h
        subst h
        exact K _ _ (hP.sub [0, 1, 2, 3, 4, 5, 6, 7, 8, 9] rfl) (hD.sub [0, 1, 2, 3, 4, 5, 6, 7, 8, 9] (by decide) rfl) hS ls (lv_sub hl [0, 1, 2, 3] rfl)
      · replace h := dk_t q h
        refine lv_iinc (v := (x4 + 1)) (lv' := [(4, .int (x4 + 1)), (0, .ref h0), (2, .int x2), (3, .int x3)]) hx hb dX6_gap_71 hl (k := 3) rfl rfl (by decide) rfl (fun ls hl => ?_)
        refine lv_goto (tgt := 48) hx hb dX6_gap_74 (by decide) ?_
        exact ih (x4 + 1) h K _ _ (hP.sub [0, 1, 2, 3, 4, 5, 6, 7, 8, 9] rfl) (hD.sub [0, 1, 2, 3, 4, 5, 6, 7, 8, 9] (by decide) rfl) hS ls (lv_sub hl [1, 2, 3, 0] rfl)
set_option maxHeartbeats 4000000 in
set_option maxRecDepth 100000 in
theorem lX6_gap_37 {p : Program} {l : Launch} {e : Env} {s : State} {m : MethodId} {below : List Frame} {meth : Method} {c : Code} {args : Array Value} {D : va_G} {k : Nat → ClassId} {h0 : Nat} {a_disk : Nat} {a_made : Nat} {a_sectorOf : Nat} {a_placeOf : Nat} {a_manyOf : Nat} {a_there : Nat} {a_waitKind : Nat} {a_waitMany : Nat} {a_waitBytes : Nat} {v_thrown : Int32} {v_sectors : Int32} {v_power : Int32} {v_used : Int32} {v_reserve : Int32} {v_cutWrites : Int32} {v_cutBytes : Int32} {v_rows : Int32} {v_waits : Int32} {v_stateNumber : Int32} {v_stateNow : Int64} {v_second : Int32} {v_repaired : Int32} {v_up : Int32} {v_sent : Int32} {v_disk : Nat → Int32} {v_made : Nat → Int32} {v_sectorOf : Nat → Int32} {v_placeOf : Nat → Int32} {v_manyOf : Nat → Int32} {v_there : Nat → Int32} {v_waitKind : Nat → Int32} {v_waitMany : Nat → Int32} {v_waitBytes : Nat → Int64} {o : Int32 × Int32} {A : Nat → Prop} (C : dk_Cx p s m meth c cX6_gap (some .int) 5 "ServiceDiskModel" dkB args) (hK : va_K D vwCl (dkT k) s) (hN : dk_N s) (hA : ∀ q : Nat, s.heap.size ≤ q → A q) :
    ∀ (n : Nat) (x2 : Int32) (x3 : Int32), fX6_gap_L37 v_thrown v_sent v_there n x2 x3 = some o → ∀ (H : Heap) (locs : List Loc), va_P D vwCl [(h0, .inr (6, [.int v_thrown, .int v_sectors, .int v_power, .ref a_disk, .ref a_made, .int v_used, .int v_reserve, .int v_cutWrites, .int v_cutBytes, .int v_rows, .ref a_sectorOf, .ref a_placeOf, .ref a_manyOf, .ref a_there, .int v_waits, .ref a_waitKind, .ref a_waitMany, .ref a_waitBytes, .int v_stateNumber, .long v_stateNow, .int v_second, .int v_repaired, .int v_up, .int v_sent])), (a_disk, .inl ((k 2), 32768, .inl v_disk)), (a_made, .inl ((k 2), 512, .inl v_made)), (a_sectorOf, .inl ((k 2), 5100, .inl v_sectorOf)), (a_placeOf, .inl ((k 2), 5100, .inl v_placeOf)), (a_manyOf, .inl ((k 2), 5100, .inl v_manyOf)), (a_there, .inl ((k 1), 5100, .inl v_there)), (a_waitKind, .inl ((k 2), 100, .inl v_waitKind)), (a_waitMany, .inl ((k 2), 100, .inl v_waitMany)), (a_waitBytes, .inl ((k 3), 100, .inr (.inl v_waitBytes)))] H → va_D A [(h0, .inr (6, [.int v_thrown, .int v_sectors, .int v_power, .ref a_disk, .ref a_made, .int v_used, .int v_reserve, .int v_cutWrites, .int v_cutBytes, .int v_rows, .ref a_sectorOf, .ref a_placeOf, .ref a_manyOf, .ref a_there, .int v_waits, .ref a_waitKind, .ref a_waitMany, .ref a_waitBytes, .int v_stateNumber, .long v_stateNow, .int v_second, .int v_repaired, .int v_up, .int v_sent])), (a_disk, .inl ((k 2), 32768, .inl v_disk)), (a_made, .inl ((k 2), 512, .inl v_made)), (a_sectorOf, .inl ((k 2), 5100, .inl v_sectorOf)), (a_placeOf, .inl ((k 2), 5100, .inl v_placeOf)), (a_manyOf, .inl ((k 2), 5100, .inl v_manyOf)), (a_there, .inl ((k 1), 5100, .inl v_there)), (a_waitKind, .inl ((k 2), 100, .inl v_waitKind)), (a_waitMany, .inl ((k 2), 100, .inl v_waitMany)), (a_waitBytes, .inl ((k 3), 100, .inr (.inl v_waitBytes)))] → va_S A s.heap H locs → ∀ ls : Array Slot, lv_has ls 5 [(0, .ref h0), (2, .int x2), (3, .int x3)] → W p l e { frames := 0, cells := 0, slots := 0, locals := 0 } s m args below meth c H locs 0 0 (MQ below (dk_Qi o.1 D [(h0, .inr (6, [.int o.2, .int v_sectors, .int v_power, .ref a_disk, .ref a_made, .int v_used, .int v_reserve, .int v_cutWrites, .int v_cutBytes, .int v_rows, .ref a_sectorOf, .ref a_placeOf, .ref a_manyOf, .ref a_there, .int v_waits, .ref a_waitKind, .ref a_waitMany, .ref a_waitBytes, .int v_stateNumber, .long v_stateNow, .int v_second, .int v_repaired, .int v_up, .int v_sent])), (a_disk, .inl ((k 2), 32768, .inl v_disk)), (a_made, .inl ((k 2), 512, .inl v_made)), (a_sectorOf, .inl ((k 2), 5100, .inl v_sectorOf)), (a_placeOf, .inl ((k 2), 5100, .inl v_placeOf)), (a_manyOf, .inl ((k 2), 5100, .inl v_manyOf)), (a_there, .inl ((k 1), 5100, .inl v_there)), (a_waitKind, .inl ((k 2), 100, .inl v_waitKind)), (a_waitMany, .inl ((k 2), 100, .inl v_waitMany)), (a_waitBytes, .inl ((k 3), 100, .inr (.inl v_waitBytes)))] A) args s 0 0 A) (F0 m 37 ls []) := by
  obtain ⟨hx, hb, hr, hml, hown, hts, hlocks⟩ := id C
  intro n
  induction n with
  | zero =>
    intro x2 x3 h
    exact dk_n (o := o) h
  | succ n ih =>
    intro x2 x3 h H locs hP hD hS ls hl
    rw [fX6_gap_L37.eq_2] at h
    refine lv_iload_n hx hb dX6_gap_37 rfl (lv_at hl 2 rfl) ?_
    refine lv_aload_n hx hb dX6_gap_38 rfl (lv_at hl 0 rfl) ?_
    refine va_get (D := D) (ci := 6) (v := .int v_sent) (C := "ServiceDiskModel") (T := TX6) (N := 24) hx hb hts inX6 hown hK hP 0 rfl rfl 23 (by decide) (hts _ w_760) (fun _ h9 => h9) rfl dX6_gap_39 ?_
    refine lv_icmp_ge (tgt := 118) hx hb dX6_gap_42 (by decide) (fun q => ?_) (fun q => ?_)
    · replace h := dk_t q h
      refine lv_iconst (v := -1) hx hb dX6_gap_118 (by decide) ?_
      have h := dk_r h
      subst h
      exact dk_rwi hx hb hr hlocks (hP.sub [0, 1, 2, 3, 4, 5, 6, 7, 8, 9] rfl) (hD.sub [0, 1, 2, 3, 4, 5, 6, 7, 8, 9] (by decide) rfl) hS dX6_gap_119 rfl
    · replace h := dk_f q h
      refine lv_iconst (v := 0) hx hb dX6_gap_45 (by decide) ?_
      refine lv_istore (lv' := [(4, .int 0), (0, .ref h0), (2, .int x2), (3, .int x3)]) hx hb dX6_gap_46 hl (by decide) rfl (fun ls hl => ?_)
      replace h := dk_b h
      obtain ⟨o1, e1, h⟩ := h
      refine lX6_gap_48 C hK hN hA _ 0  e1 (fun H locs hP hD hS ls hl => ?_) _ _ (hP.sub [0, 1, 2, 3, 4, 5, 6, 7, 8, 9] rfl) (hD.sub [0, 1, 2, 3, 4, 5, 6, 7, 8, 9] (by decide) rfl) hS ls (lv_sub hl [1, 2, 3, 0] rfl)
      have hP : va_P D vwCl [(h0, .inr (6, [.int v_thrown, .int v_sectors, .int v_power, .ref a_disk, .ref a_made, .int v_used, .int v_reserve, .int v_cutWrites, .int v_cutBytes, .int v_rows, .ref a_sectorOf, .ref a_placeOf, .ref a_manyOf, .ref a_there, .int v_waits, .ref a_waitKind, .ref a_waitMany, .ref a_waitBytes, .int v_stateNumber, .long v_stateNow, .int v_second, .int v_repaired, .int v_up, .int v_sent])), (a_disk, .inl ((k 2), 32768, .inl v_disk)), (a_made, .inl ((k 2), 512, .inl v_made)), (a_sectorOf, .inl ((k 2), 5100, .inl v_sectorOf)), (a_placeOf, .inl ((k 2), 5100, .inl v_placeOf)), (a_manyOf, .inl ((k 2), 5100, .inl v_manyOf)), (a_there, .inl ((k 1), 5100, .inl v_there)), (a_waitKind, .inl ((k 2), 100, .inl v_waitKind)), (a_waitMany, .inl ((k 2), 100, .inl v_waitMany)), (a_waitBytes, .inl ((k 3), 100, .inr (.inl v_waitBytes)))] H := hP
      have hD : va_D A [(h0, .inr (6, [.int v_thrown, .int v_sectors, .int v_power, .ref a_disk, .ref a_made, .int v_used, .int v_reserve, .int v_cutWrites, .int v_cutBytes, .int v_rows, .ref a_sectorOf, .ref a_placeOf, .ref a_manyOf, .ref a_there, .int v_waits, .ref a_waitKind, .ref a_waitMany, .ref a_waitBytes, .int v_stateNumber, .long v_stateNow, .int v_second, .int v_repaired, .int v_up, .int v_sent])), (a_disk, .inl ((k 2), 32768, .inl v_disk)), (a_made, .inl ((k 2), 512, .inl v_made)), (a_sectorOf, .inl ((k 2), 5100, .inl v_sectorOf)), (a_placeOf, .inl ((k 2), 5100, .inl v_placeOf)), (a_manyOf, .inl ((k 2), 5100, .inl v_manyOf)), (a_there, .inl ((k 1), 5100, .inl v_there)), (a_waitKind, .inl ((k 2), 100, .inl v_waitKind)), (a_waitMany, .inl ((k 2), 100, .inl v_waitMany)), (a_waitBytes, .inl ((k 3), 100, .inr (.inl v_waitBytes)))] := hD
      have hl : lv_has ls 5 [(0, .ref h0), (2, .int x2), (3, .int x3), (4, .int o1)] := hl
      refine lv_iload hx hb dX6_gap_77 (lv_at hl 3 rfl) ?_
      refine lv_if_le (tgt := 95) hx hb dX6_gap_79 (by decide) (fun q => ?_) (fun q => ?_)
      · replace h := dk_t q h
        refine lv_iload_n hx hb dX6_gap_95 rfl (lv_at hl 1 rfl) ?_
        refine lv_iload hx hb dX6_gap_96 (lv_at hl 3 rfl) ?_
        refine dk_jn (F0 m 106 ls [.int (if o1 ≤ 0 then 0 else 1), .int x2]) (fun K => ?_) ?_
        · refine lv_if_le (tgt := 105) hx hb dX6_gap_98 (by decide) (fun q1 => ?_) (fun q1 => ?_)
          · refine lv_iconst (v := 0) hx hb dX6_gap_105 (by decide) ?_
            have K := K
            rw [if_pos q1] at K
            exact K
          · refine lv_iconst (v := 1) hx hb dX6_gap_101 (by decide) ?_
            refine lv_goto (tgt := 106) hx hb dX6_gap_102 (by decide) ?_
            have K := K
            rw [if_neg q1] at K
            exact K
        refine lv_isub hx hb dX6_gap_106 ?_
        refine lv_istore_n (lv' := [(2, .int (x2 - (if o1 ≤ 0 then 0 else 1))), (0, .ref h0), (3, .int x3), (4, .int o1)]) hx hb dX6_gap_107 rfl hl (by decide) rfl (fun ls hl => ?_)
        refine lv_iload_n hx hb dX6_gap_108 rfl (lv_at hl 2 rfl) ?_
        refine lv_iload hx hb dX6_gap_109 (lv_at hl 3 rfl) ?_
        refine lv_iconst (v := 1) hx hb dX6_gap_111 (by decide) ?_
        refine lv_iadd hx hb dX6_gap_112 ?_
        refine lv_iadd hx hb dX6_gap_113 ?_
        refine lv_istore_n (lv' := [(3, .int (x3 + (o1 + 1))), (2, .int (x2 - (if o1 ≤ 0 then 0 else 1))), (0, .ref h0), (4, .int o1)]) hx hb dX6_gap_114 rfl hl (by decide) rfl (fun ls hl => ?_)
        refine lv_goto (tgt := 37) hx hb dX6_gap_115 (by decide) ?_
        exact ih (x2 - (if o1 ≤ 0 then 0 else 1)) (x3 + (o1 + 1)) h _ _ (hP.sub [0, 1, 2, 3, 4, 5, 6, 7, 8, 9] rfl) (hD.sub [0, 1, 2, 3, 4, 5, 6, 7, 8, 9] (by decide) rfl) hS ls (lv_sub hl [2, 1, 0] rfl)
      · replace h := dk_f q h
        refine lv_iload_n hx hb dX6_gap_82 rfl (lv_at hl 1 rfl) ?_
        refine lv_if_ne (tgt := 95) hx hb dX6_gap_83 (by decide) (fun q => ?_) (fun q => ?_)
        · replace h := dk_f q h
          refine lv_iload_n hx hb dX6_gap_95 rfl (lv_at hl 1 rfl) ?_
          refine lv_iload hx hb dX6_gap_96 (lv_at hl 3 rfl) ?_
          refine dk_jn (F0 m 106 ls [.int (if o1 ≤ 0 then 0 else 1), .int x2]) (fun K => ?_) ?_
          · refine lv_if_le (tgt := 105) hx hb dX6_gap_98 (by decide) (fun q1 => ?_) (fun q1 => ?_)
            · refine lv_iconst (v := 0) hx hb dX6_gap_105 (by decide) ?_
              have K := K
              rw [if_pos q1] at K
              exact K
            · refine lv_iconst (v := 1) hx hb dX6_gap_101 (by decide) ?_
              refine lv_goto (tgt := 106) hx hb dX6_gap_102 (by decide) ?_
              have K := K
              rw [if_neg q1] at K
              exact K
          refine lv_isub hx hb dX6_gap_106 ?_
          refine lv_istore_n (lv' := [(2, .int (x2 - (if o1 ≤ 0 then 0 else 1))), (0, .ref h0), (3, .int x3), (4, .int o1)]) hx hb dX6_gap_107 rfl hl (by decide) rfl (fun ls hl => ?_)
          refine lv_iload_n hx hb dX6_gap_108 rfl (lv_at hl 2 rfl) ?_
          refine lv_iload hx hb dX6_gap_109 (lv_at hl 3 rfl) ?_
          refine lv_iconst (v := 1) hx hb dX6_gap_111 (by decide) ?_
          refine lv_iadd hx hb dX6_gap_112 ?_
          refine lv_iadd hx hb dX6_gap_113 ?_
          refine lv_istore_n (lv' := [(3, .int (x3 + (o1 + 1))), (2, .int (x2 - (if o1 ≤ 0 then 0 else 1))), (0, .ref h0), (4, .int o1)]) hx hb dX6_gap_114 rfl hl (by decide) rfl (fun ls hl => ?_)
          refine lv_goto (tgt := 37) hx hb dX6_gap_115 (by decide) ?_
          exact ih (x2 - (if o1 ≤ 0 then 0 else 1)) (x3 + (o1 + 1)) h _ _ (hP.sub [0, 1, 2, 3, 4, 5, 6, 7, 8, 9] rfl) (hD.sub [0, 1, 2, 3, 4, 5, 6, 7, 8, 9] (by decide) rfl) hS ls (lv_sub hl [2, 1, 0] rfl)
        · replace h := dk_t q h
          refine lv_sipush (v := 10000) hx hb dX6_gap_86 (by decide) ?_
          refine lv_iload_n hx hb dX6_gap_89 rfl (lv_at hl 2 rfl) ?_
          refine lv_imul hx hb dX6_gap_90 ?_
          refine lv_iload hx hb dX6_gap_91 (lv_at hl 3 rfl) ?_
          refine lv_iadd hx hb dX6_gap_93 ?_
          have h := dk_r h
          subst h
          exact dk_rwi hx hb hr hlocks (hP.sub [0, 1, 2, 3, 4, 5, 6, 7, 8, 9] rfl) (hD.sub [0, 1, 2, 3, 4, 5, 6, 7, 8, 9] (by decide) rfl) hS dX6_gap_94 rfl
set_option maxHeartbeats 4000000 in
set_option maxRecDepth 100000 in
theorem mX6_gap (l : Launch) (D : va_G) (k : Nat → ClassId) (h0 a_disk a_made a_sectorOf a_placeOf a_manyOf a_there a_waitKind a_waitMany a_waitBytes : Nat) (sz : Nat) (v_thrown : Int32) (v_sectors : Int32) (v_power : Int32) (v_used : Int32) (v_reserve : Int32) (v_cutWrites : Int32) (v_cutBytes : Int32) (v_rows : Int32) (v_waits : Int32) (v_stateNumber : Int32) (v_stateNow : Int64) (v_second : Int32) (v_repaired : Int32) (v_up : Int32) (v_sent : Int32) (v_disk : Nat → Int32) (v_made : Nat → Int32) (v_sectorOf : Nat → Int32) (v_placeOf : Nat → Int32) (v_manyOf : Nat → Int32) (v_there : Nat → Int32) (v_waitKind : Nat → Int32) (v_waitMany : Nat → Int32) (v_waitBytes : Nat → Int64) (p1 : Int32) (o : Int32 × Int32) (h : fX6_gap v_power v_sent v_there p1 = some o) : Met l yX6_gap wsX6_gap { frames := 0, cells := 0, slots := 0, locals := 0 } (dk_Pw D k [.ref h0, .int p1] [(h0, .inr (6, [.int v_thrown, .int v_sectors, .int v_power, .ref a_disk, .ref a_made, .int v_used, .int v_reserve, .int v_cutWrites, .int v_cutBytes, .int v_rows, .ref a_sectorOf, .ref a_placeOf, .ref a_manyOf, .ref a_there, .int v_waits, .ref a_waitKind, .ref a_waitMany, .ref a_waitBytes, .int v_stateNumber, .long v_stateNow, .int v_second, .int v_repaired, .int v_up, .int v_sent])), (a_disk, .inl ((k 2), 32768, .inl v_disk)), (a_made, .inl ((k 2), 512, .inl v_made)), (a_sectorOf, .inl ((k 2), 5100, .inl v_sectorOf)), (a_placeOf, .inl ((k 2), 5100, .inl v_placeOf)), (a_manyOf, .inl ((k 2), 5100, .inl v_manyOf)), (a_there, .inl ((k 1), 5100, .inl v_there)), (a_waitKind, .inl ((k 2), 100, .inl v_waitKind)), (a_waitMany, .inl ((k 2), 100, .inl v_waitMany)), (a_waitBytes, .inl ((k 3), 100, .inr (.inl v_waitBytes)))] sz) (dk_Qi o.1 D [(h0, .inr (6, [.int o.2, .int v_sectors, .int v_power, .ref a_disk, .ref a_made, .int v_used, .int v_reserve, .int v_cutWrites, .int v_cutBytes, .int v_rows, .ref a_sectorOf, .ref a_placeOf, .ref a_manyOf, .ref a_there, .int v_waits, .ref a_waitKind, .ref a_waitMany, .ref a_waitBytes, .int v_stateNumber, .long v_stateNow, .int v_second, .int v_repaired, .int v_up, .int v_sent])), (a_disk, .inl ((k 2), 32768, .inl v_disk)), (a_made, .inl ((k 2), 512, .inl v_made)), (a_sectorOf, .inl ((k 2), 5100, .inl v_sectorOf)), (a_placeOf, .inl ((k 2), 5100, .inl v_placeOf)), (a_manyOf, .inl ((k 2), 5100, .inl v_manyOf)), (a_there, .inl ((k 1), 5100, .inl v_there)), (a_waitKind, .inl ((k 2), 100, .inl v_waitKind)), (a_waitMany, .inl ((k 2), 100, .inl v_waitMany)), (a_waitBytes, .inl ((k 3), 100, .inr (.inl v_waitBytes)))] (va_A [(h0, .inr (6, [.int v_thrown, .int v_sectors, .int v_power, .ref a_disk, .ref a_made, .int v_used, .int v_reserve, .int v_cutWrites, .int v_cutBytes, .int v_rows, .ref a_sectorOf, .ref a_placeOf, .ref a_manyOf, .ref a_there, .int v_waits, .ref a_waitKind, .ref a_waitMany, .ref a_waitBytes, .int v_stateNumber, .long v_stateNow, .int v_second, .int v_repaired, .int v_up, .int v_sent])), (a_disk, .inl ((k 2), 32768, .inl v_disk)), (a_made, .inl ((k 2), 512, .inl v_made)), (a_sectorOf, .inl ((k 2), 5100, .inl v_sectorOf)), (a_placeOf, .inl ((k 2), 5100, .inl v_placeOf)), (a_manyOf, .inl ((k 2), 5100, .inl v_manyOf)), (a_there, .inl ((k 1), 5100, .inl v_there)), (a_waitKind, .inl ((k 2), 100, .inl v_waitKind)), (a_waitMany, .inl ((k 2), 100, .inl v_waitMany)), (a_waitBytes, .inl ((k 3), 100, .inr (.inl v_waitBytes)))] sz)) 0 0 (va_A [(h0, .inr (6, [.int v_thrown, .int v_sectors, .int v_power, .ref a_disk, .ref a_made, .int v_used, .int v_reserve, .int v_cutWrites, .int v_cutBytes, .int v_rows, .ref a_sectorOf, .ref a_placeOf, .ref a_manyOf, .ref a_there, .int v_waits, .ref a_waitKind, .ref a_waitMany, .ref a_waitBytes, .int v_stateNumber, .long v_stateNow, .int v_second, .int v_repaired, .int v_up, .int v_sent])), (a_disk, .inl ((k 2), 32768, .inl v_disk)), (a_made, .inl ((k 2), 512, .inl v_made)), (a_sectorOf, .inl ((k 2), 5100, .inl v_sectorOf)), (a_placeOf, .inl ((k 2), 5100, .inl v_placeOf)), (a_manyOf, .inl ((k 2), 5100, .inl v_manyOf)), (a_there, .inl ((k 1), 5100, .inl v_there)), (a_waitKind, .inl ((k 2), 100, .inl v_waitKind)), (a_waitMany, .inl ((k 2), 100, .inl v_waitMany)), (a_waitBytes, .inl ((k 3), 100, .inr (.inl v_waitBytes)))] sz) := by
  unfold fX6_gap at h
  refine dk_ofW (Qc := fun A => dk_Qi o.1 D [(h0, .inr (6, [.int o.2, .int v_sectors, .int v_power, .ref a_disk, .ref a_made, .int v_used, .int v_reserve, .int v_cutWrites, .int v_cutBytes, .int v_rows, .ref a_sectorOf, .ref a_placeOf, .ref a_manyOf, .ref a_there, .int v_waits, .ref a_waitKind, .ref a_waitMany, .ref a_waitBytes, .int v_stateNumber, .long v_stateNow, .int v_second, .int v_repaired, .int v_up, .int v_sent])), (a_disk, .inl ((k 2), 32768, .inl v_disk)), (a_made, .inl ((k 2), 512, .inl v_made)), (a_sectorOf, .inl ((k 2), 5100, .inl v_sectorOf)), (a_placeOf, .inl ((k 2), 5100, .inl v_placeOf)), (a_manyOf, .inl ((k 2), 5100, .inl v_manyOf)), (a_there, .inl ((k 1), 5100, .inl v_there)), (a_waitKind, .inl ((k 2), 100, .inl v_waitKind)), (a_waitMany, .inl ((k 2), 100, .inl v_waitMany)), (a_waitBytes, .inl ((k 3), 100, .inr (.inl v_waitBytes)))] A) (cc := cX6_gap) (maxL := 5) (ret := (some .int)) (lv := [(0, .ref h0), (1, .int p1)]) (by decide) rfl (Nat.le_of_ble_eq_true rfl) rfl ?_
  intro p e s m below meth c C hK hN hP A hA hD hS ls hl
  obtain ⟨hx, hb, hr, hml, hown, hts, hlocks⟩ := id C
  refine lv_aload_n hx hb dX6_gap_0 rfl (lv_at hl 0 rfl) ?_
  refine lv_aload_n hx hb dX6_gap_1 rfl (lv_at hl 0 rfl) ?_
  refine va_get (D := D) (ci := 6) (v := .int v_power) (C := "ServiceDiskModel") (T := TX6) (N := 24) hx hb hts inX6 hown hK hP 0 rfl rfl 2 (by decide) (hts _ w_739) (fun _ h9 => h9) rfl dX6_gap_2 ?_
  refine dk_jn (F0 m 21 ls [.int (if v_power = 0 then 2 else (if 0 ≤ p1 then 0 else 1)), .ref h0]) (fun K => ?_) ?_
  · refine lv_if_ne (tgt := 12) hx hb dX6_gap_5 (by decide) (fun q1 => ?_) (fun q1 => ?_)
    · refine lv_iload_n hx hb dX6_gap_12 rfl (lv_at hl 1 rfl) ?_
      refine lv_if_ge (tgt := 20) hx hb dX6_gap_13 (by decide) (fun q2 => ?_) (fun q2 => ?_)
      · refine lv_iconst (v := 0) hx hb dX6_gap_20 (by decide) ?_
        have K := K
        rw [if_neg q1, if_pos q2] at K
        exact K
      · refine lv_iconst (v := 1) hx hb dX6_gap_16 (by decide) ?_
        refine lv_goto (tgt := 21) hx hb dX6_gap_17 (by decide) ?_
        have K := K
        rw [if_neg q1, if_neg q2] at K
        exact K
    · refine lv_iconst (v := 2) hx hb dX6_gap_8 (by decide) ?_
      refine lv_goto (tgt := 21) hx hb dX6_gap_9 (by decide) ?_
      have K := K
      rw [if_pos q1] at K
      exact K
  refine va_put (D := D) (ci := 6) (v := .int (if v_power = 0 then 2 else (if 0 ≤ p1 then 0 else 1))) (ty := .int) (C := "ServiceDiskModel") (T := TX6) (N := 24) hx hb hts inX6 tyX6 tyX6_ok nmX6 hown hK hP hD hS 0 rfl rfl 0 (by decide) (hts _ w_737) (fun _ h9 => h9) rfl (by decide +kernel) rfl rfl (Nat.le_of_ble_eq_true rfl) dX6_gap_21 (fun H locs hP hD hS => ?_)
  have hP : va_P D vwCl [(h0, .inr (6, [.int (if v_power = 0 then 2 else (if 0 ≤ p1 then 0 else 1)), .int v_sectors, .int v_power, .ref a_disk, .ref a_made, .int v_used, .int v_reserve, .int v_cutWrites, .int v_cutBytes, .int v_rows, .ref a_sectorOf, .ref a_placeOf, .ref a_manyOf, .ref a_there, .int v_waits, .ref a_waitKind, .ref a_waitMany, .ref a_waitBytes, .int v_stateNumber, .long v_stateNow, .int v_second, .int v_repaired, .int v_up, .int v_sent])), (a_disk, .inl ((k 2), 32768, .inl v_disk)), (a_made, .inl ((k 2), 512, .inl v_made)), (a_sectorOf, .inl ((k 2), 5100, .inl v_sectorOf)), (a_placeOf, .inl ((k 2), 5100, .inl v_placeOf)), (a_manyOf, .inl ((k 2), 5100, .inl v_manyOf)), (a_there, .inl ((k 1), 5100, .inl v_there)), (a_waitKind, .inl ((k 2), 100, .inl v_waitKind)), (a_waitMany, .inl ((k 2), 100, .inl v_waitMany)), (a_waitBytes, .inl ((k 3), 100, .inr (.inl v_waitBytes)))] H := hP
  have hD : va_D A [(h0, .inr (6, [.int (if v_power = 0 then 2 else (if 0 ≤ p1 then 0 else 1)), .int v_sectors, .int v_power, .ref a_disk, .ref a_made, .int v_used, .int v_reserve, .int v_cutWrites, .int v_cutBytes, .int v_rows, .ref a_sectorOf, .ref a_placeOf, .ref a_manyOf, .ref a_there, .int v_waits, .ref a_waitKind, .ref a_waitMany, .ref a_waitBytes, .int v_stateNumber, .long v_stateNow, .int v_second, .int v_repaired, .int v_up, .int v_sent])), (a_disk, .inl ((k 2), 32768, .inl v_disk)), (a_made, .inl ((k 2), 512, .inl v_made)), (a_sectorOf, .inl ((k 2), 5100, .inl v_sectorOf)), (a_placeOf, .inl ((k 2), 5100, .inl v_placeOf)), (a_manyOf, .inl ((k 2), 5100, .inl v_manyOf)), (a_there, .inl ((k 1), 5100, .inl v_there)), (a_waitKind, .inl ((k 2), 100, .inl v_waitKind)), (a_waitMany, .inl ((k 2), 100, .inl v_waitMany)), (a_waitBytes, .inl ((k 3), 100, .inr (.inl v_waitBytes)))] := hD
  refine lv_aload_n hx hb dX6_gap_24 rfl (lv_at hl 0 rfl) ?_
  refine va_get (D := D) (ci := 6) (v := .int (if v_power = 0 then 2 else (if 0 ≤ p1 then 0 else 1))) (C := "ServiceDiskModel") (T := TX6) (N := 24) hx hb hts inX6 hown hK hP 0 rfl rfl 0 (by decide) (hts _ w_737) (fun _ h9 => h9) rfl dX6_gap_25 ?_
  refine lv_if_le (tgt := 33) hx hb dX6_gap_28 (by decide) (fun q => ?_) (fun q => ?_)
  · replace h := dk_t q h
    refine lv_iload_n hx hb dX6_gap_33 rfl (lv_at hl 1 rfl) ?_
    refine lv_istore_n (lv' := [(2, .int p1), (0, .ref h0), (1, .int p1)]) hx hb dX6_gap_34 rfl hl (by decide) rfl (fun ls hl => ?_)
    refine lv_iconst (v := 0) hx hb dX6_gap_35 (by decide) ?_
    refine lv_istore_n (lv' := [(3, .int 0), (2, .int p1), (0, .ref h0), (1, .int p1)]) hx hb dX6_gap_36 rfl hl (by decide) rfl (fun ls hl => ?_)
    exact lX6_gap_37 C hK hN hA _ p1 0 h _ _ (hP.sub [0, 1, 2, 3, 4, 5, 6, 7, 8, 9] rfl) (hD.sub [0, 1, 2, 3, 4, 5, 6, 7, 8, 9] (by decide) rfl) hS ls (lv_sub hl [2, 1, 0] rfl)
  · replace h := dk_f q h
    refine lv_iconst (v := 0) hx hb dX6_gap_31 (by decide) ?_
    have h := dk_r h
    subst h
    exact dk_rwi hx hb hr hlocks (hP.sub [0, 1, 2, 3, 4, 5, 6, 7, 8, 9] rfl) (hD.sub [0, 1, 2, 3, 4, 5, 6, 7, 8, 9] (by decide) rfl) hS dX6_gap_32 rfl
/-! ServiceDiskModel.fill(I)I: rw, frames 1, locals 24 -/
def fX6_fill_L49 (v_sent : Int32) (x1 : Int32) : Nat → (Int32) → (Int32) → (Nat → Int32) → Option (Int32 × Int32 × (Nat → Int32))
  | 0, _, _, _ => none
  | n + 1, x2, x3, v_there =>
    if v_sent ≤ x3 then
      some (x2, x3, v_there)
    else
      if x1 ≤ x2 then
        some (x2, x3, v_there)
      else
        if dk_in x3 5100 then
        if (v_there x3.toNatClampNeg) = 0 then
          if dk_in x3 5100 then
          fX6_fill_L49 v_sent x1 n (x2 + 1) (x3 + 1) (upd v_there x3.toNatClampNeg (vp_nar .boolean 1))
          else none
        else
          fX6_fill_L49 v_sent x1 n x2 (x3 + 1) v_there
        else none
def fX6_fill (v_power : Int32) (v_up : Int32) (v_sent : Int32) (v_there : Nat → Int32) (p1 : Int32) : Option (Int32 × Int32 × (Nat → Int32)) :=
  (fX6_in p1 0 100).bind fun o1 =>
  (fX6_throwing (if o1 = 0 then 1 else 0) (if v_power = 0 then 1 else (if v_up = 0 then 1 else 0)) 0 0).bind fun o2 =>
  if o2.1 = 0 then
    (fX6_fill_L49 v_sent p1 dkF 0 0 v_there).bind fun o3 =>
    some (o3.1, o2.2, o3.2.2)
  else
    some (0, o2.2, v_there)
set_option maxHeartbeats 4000000 in
set_option maxRecDepth 100000 in
theorem lX6_fill_49 {p : Program} {l : Launch} {e : Env} {s : State} {m : MethodId} {below : List Frame} {meth : Method} {c : Code} {args : Array Value} {D : va_G} {k : Nat → ClassId} {h0 : Nat} {a_disk : Nat} {a_made : Nat} {a_sectorOf : Nat} {a_placeOf : Nat} {a_manyOf : Nat} {a_there : Nat} {a_waitKind : Nat} {a_waitMany : Nat} {a_waitBytes : Nat} {v_thrown : Int32} {v_sectors : Int32} {v_power : Int32} {v_used : Int32} {v_reserve : Int32} {v_cutWrites : Int32} {v_cutBytes : Int32} {v_rows : Int32} {v_waits : Int32} {v_stateNumber : Int32} {v_stateNow : Int64} {v_second : Int32} {v_repaired : Int32} {v_up : Int32} {v_sent : Int32} {v_disk : Nat → Int32} {v_made : Nat → Int32} {v_sectorOf : Nat → Int32} {v_placeOf : Nat → Int32} {v_manyOf : Nat → Int32} {v_waitKind : Nat → Int32} {v_waitMany : Nat → Int32} {v_waitBytes : Nat → Int64} {x1 : Int32} {Q : State → Prop} {o : Int32 × Int32 × (Nat → Int32)} {A : Nat → Prop} (C : dk_Cx p s m meth c cX6_fill (some .int) 4 "ServiceDiskModel" dkB args) (hK : va_K D vwCl (dkT k) s) (hN : dk_N s) (hA : ∀ q : Nat, s.heap.size ≤ q → A q) :
    ∀ (n : Nat) (x2 : Int32) (x3 : Int32) (v_there : Nat → Int32), fX6_fill_L49 v_sent x1 n x2 x3 v_there = some o → (∀ (H : Heap) (locs : List Loc), va_P D vwCl [(h0, .inr (6, [.int v_thrown, .int v_sectors, .int v_power, .ref a_disk, .ref a_made, .int v_used, .int v_reserve, .int v_cutWrites, .int v_cutBytes, .int v_rows, .ref a_sectorOf, .ref a_placeOf, .ref a_manyOf, .ref a_there, .int v_waits, .ref a_waitKind, .ref a_waitMany, .ref a_waitBytes, .int v_stateNumber, .long v_stateNow, .int v_second, .int v_repaired, .int v_up, .int v_sent])), (a_disk, .inl ((k 2), 32768, .inl v_disk)), (a_made, .inl ((k 2), 512, .inl v_made)), (a_sectorOf, .inl ((k 2), 5100, .inl v_sectorOf)), (a_placeOf, .inl ((k 2), 5100, .inl v_placeOf)), (a_manyOf, .inl ((k 2), 5100, .inl v_manyOf)), (a_there, .inl ((k 1), 5100, .inl o.2.2)), (a_waitKind, .inl ((k 2), 100, .inl v_waitKind)), (a_waitMany, .inl ((k 2), 100, .inl v_waitMany)), (a_waitBytes, .inl ((k 3), 100, .inr (.inl v_waitBytes)))] H → va_D A [(h0, .inr (6, [.int v_thrown, .int v_sectors, .int v_power, .ref a_disk, .ref a_made, .int v_used, .int v_reserve, .int v_cutWrites, .int v_cutBytes, .int v_rows, .ref a_sectorOf, .ref a_placeOf, .ref a_manyOf, .ref a_there, .int v_waits, .ref a_waitKind, .ref a_waitMany, .ref a_waitBytes, .int v_stateNumber, .long v_stateNow, .int v_second, .int v_repaired, .int v_up, .int v_sent])), (a_disk, .inl ((k 2), 32768, .inl v_disk)), (a_made, .inl ((k 2), 512, .inl v_made)), (a_sectorOf, .inl ((k 2), 5100, .inl v_sectorOf)), (a_placeOf, .inl ((k 2), 5100, .inl v_placeOf)), (a_manyOf, .inl ((k 2), 5100, .inl v_manyOf)), (a_there, .inl ((k 1), 5100, .inl o.2.2)), (a_waitKind, .inl ((k 2), 100, .inl v_waitKind)), (a_waitMany, .inl ((k 2), 100, .inl v_waitMany)), (a_waitBytes, .inl ((k 3), 100, .inr (.inl v_waitBytes)))] → va_S A s.heap H locs → ∀ ls : Array Slot, lv_has ls 4 [(0, .ref h0), (1, .int x1), (2, .int o.1), (3, .int o.2.1)] → W p l e { frames := 1, cells := 0, slots := 0, locals := 24 } s m args below meth c H locs 0 0 Q (F0 m 87 ls [])) → ∀ (H : Heap) (locs : List Loc), va_P D vwCl [(h0, .inr (6, [.int v_thrown, .int v_sectors, .int v_power, .ref a_disk, .ref a_made, .int v_used, .int v_reserve, .int v_cutWrites, .int v_cutBytes, .int v_rows, .ref a_sectorOf, .ref a_placeOf, .ref a_manyOf, .ref a_there, .int v_waits, .ref a_waitKind, .ref a_waitMany, .ref a_waitBytes, .int v_stateNumber, .long v_stateNow, .int v_second, .int v_repaired, .int v_up, .int v_sent])), (a_disk, .inl ((k 2), 32768, .inl v_disk)), (a_made, .inl ((k 2), 512, .inl v_made)), (a_sectorOf, .inl ((k 2), 5100, .inl v_sectorOf)), (a_placeOf, .inl ((k 2), 5100, .inl v_placeOf)), (a_manyOf, .inl ((k 2), 5100, .inl v_manyOf)), (a_there, .inl ((k 1), 5100, .inl v_there)), (a_waitKind, .inl ((k 2), 100, .inl v_waitKind)), (a_waitMany, .inl ((k 2), 100, .inl v_waitMany)), (a_waitBytes, .inl ((k 3), 100, .inr (.inl v_waitBytes)))] H → va_D A [(h0, .inr (6, [.int v_thrown, .int v_sectors, .int v_power, .ref a_disk, .ref a_made, .int v_used, .int v_reserve, .int v_cutWrites, .int v_cutBytes, .int v_rows, .ref a_sectorOf, .ref a_placeOf, .ref a_manyOf, .ref a_there, .int v_waits, .ref a_waitKind, .ref a_waitMany, .ref a_waitBytes, .int v_stateNumber, .long v_stateNow, .int v_second, .int v_repaired, .int v_up, .int v_sent])), (a_disk, .inl ((k 2), 32768, .inl v_disk)), (a_made, .inl ((k 2), 512, .inl v_made)), (a_sectorOf, .inl ((k 2), 5100, .inl v_sectorOf)), (a_placeOf, .inl ((k 2), 5100, .inl v_placeOf)), (a_manyOf, .inl ((k 2), 5100, .inl v_manyOf)), (a_there, .inl ((k 1), 5100, .inl v_there)), (a_waitKind, .inl ((k 2), 100, .inl v_waitKind)), (a_waitMany, .inl ((k 2), 100, .inl v_waitMany)), (a_waitBytes, .inl ((k 3), 100, .inr (.inl v_waitBytes)))] → va_S A s.heap H locs → ∀ ls : Array Slot, lv_has ls 4 [(0, .ref h0), (1, .int x1), (2, .int x2), (3, .int x3)] → W p l e { frames := 1, cells := 0, slots := 0, locals := 24 } s m args below meth c H locs 0 0 Q (F0 m 49 ls []) := by
  obtain ⟨hx, hb, hr, hml, hown, hts, hlocks⟩ := id C
  intro n
  induction n with
  | zero =>
    intro x2 x3 v_there h
    exact dk_n (o := o) h
  | succ n ih =>
    intro x2 x3 v_there h K H locs hP hD hS ls hl
    rw [fX6_fill_L49.eq_2] at h
    refine lv_iload_n hx hb dX6_fill_49 rfl (lv_at hl 3 rfl) ?_
    refine lv_aload_n hx hb dX6_fill_50 rfl (lv_at hl 0 rfl) ?_
    refine va_get (D := D) (ci := 6) (v := .int v_sent) (C := "ServiceDiskModel") (T := TX6) (N := 24) hx hb hts inX6 hown hK hP 0 rfl rfl 23 (by decide) (hts _ w_760) (fun _ h9 => h9) rfl dX6_fill_51 ?_
    refine lv_icmp_ge (tgt := 87) hx hb dX6_fill_54 (by decide) (fun q => ?_) (fun q => ?_)
    · replace h := dk_t q h
      have h := dk_r h
      subst h
      exact K _ _ (hP.sub [0, 1, 2, 3, 4, 5, 6, 7, 8, 9] rfl) (hD.sub [0, 1, 2, 3, 4, 5, 6, 7, 8, 9] (by decide) rfl) hS ls (lv_sub hl [0, 1, 2, 3] rfl)
    · replace h := dk_f q h
      refine lv_iload_n hx hb dX6_fill_57 rfl (lv_at hl 2 rfl) ?_
      refine lv_iload_n hx hb dX6_fill_58 rfl (lv_at hl 1 rfl) ?_
      refine lv_icmp_ge (tgt := 87) hx hb dX6_fill_59 (by decide) (fun q => ?_) (fun q => ?_)
      · replace h := dk_t q h
        have h := dk_r h
        subst h
        exact K _ _ (hP.sub [0, 1, 2, 3, 4, 5, 6, 7, 8, 9] rfl) (hD.sub [0, 1, 2, 3, 4, 5, 6, 7, 8, 9] (by decide) rfl) hS ls (lv_sub hl [0, 1, 2, 3] rfl)
      · replace h := dk_f q h
        refine lv_aload_n hx hb dX6_fill_62 rfl (lv_at hl 0 rfl) ?_
        refine va_get (D := D) (ci := 6) (v := .ref a_there) (C := "ServiceDiskModel") (T := TX6) (N := 24) hx hb hts inX6 hown hK hP 0 rfl rfl 13 (by decide) (hts _ w_750) (fun _ h9 => h9) rfl dX6_fill_63 ?_
        refine lv_iload_n hx hb dX6_fill_66 rfl (lv_at hl 3 rfl) ?_
        obtain ⟨q, h⟩ := dk_g h
        refine va_zald hx hb hK hP 6 1 rfl rfl q dX6_fill_67 ?_
        refine lv_if_ne (tgt := 81) hx hb dX6_fill_68 (by decide) (fun q => ?_) (fun q => ?_)
        · replace h := dk_f q h
          refine lv_iinc (v := (x3 + 1)) (lv' := [(3, .int (x3 + 1)), (0, .ref h0), (1, .int x1), (2, .int x2)]) hx hb dX6_fill_81 hl (k := 3) rfl rfl (by decide) rfl (fun ls hl => ?_)
          refine lv_goto (tgt := 49) hx hb dX6_fill_84 (by decide) ?_
          exact ih x2 (x3 + 1) v_there h K _ _ (hP.sub [0, 1, 2, 3, 4, 5, 6, 7, 8, 9] rfl) (hD.sub [0, 1, 2, 3, 4, 5, 6, 7, 8, 9] (by decide) rfl) hS ls (lv_sub hl [1, 2, 3, 0] rfl)
        · replace h := dk_t q h
          refine lv_aload_n hx hb dX6_fill_71 rfl (lv_at hl 0 rfl) ?_
          refine va_get (D := D) (ci := 6) (v := .ref a_there) (C := "ServiceDiskModel") (T := TX6) (N := 24) hx hb hts inX6 hown hK hP 0 rfl rfl 13 (by decide) (hts _ w_750) (fun _ h9 => h9) rfl dX6_fill_72 ?_
          refine lv_iload_n hx hb dX6_fill_75 rfl (lv_at hl 3 rfl) ?_
          refine lv_iconst (v := 1) hx hb dX6_fill_76 (by decide) ?_
          obtain ⟨q, h⟩ := dk_g h
          refine va_zast hx hb hK hP hD hS 6 1 rfl rfl q dX6_fill_77 (fun H locs hP hD hS => ?_)
          have hP : va_P D vwCl [(h0, .inr (6, [.int v_thrown, .int v_sectors, .int v_power, .ref a_disk, .ref a_made, .int v_used, .int v_reserve, .int v_cutWrites, .int v_cutBytes, .int v_rows, .ref a_sectorOf, .ref a_placeOf, .ref a_manyOf, .ref a_there, .int v_waits, .ref a_waitKind, .ref a_waitMany, .ref a_waitBytes, .int v_stateNumber, .long v_stateNow, .int v_second, .int v_repaired, .int v_up, .int v_sent])), (a_disk, .inl ((k 2), 32768, .inl v_disk)), (a_made, .inl ((k 2), 512, .inl v_made)), (a_sectorOf, .inl ((k 2), 5100, .inl v_sectorOf)), (a_placeOf, .inl ((k 2), 5100, .inl v_placeOf)), (a_manyOf, .inl ((k 2), 5100, .inl v_manyOf)), (a_there, .inl ((k 1), 5100, .inl (upd v_there x3.toNatClampNeg (vp_nar .boolean 1)))), (a_waitKind, .inl ((k 2), 100, .inl v_waitKind)), (a_waitMany, .inl ((k 2), 100, .inl v_waitMany)), (a_waitBytes, .inl ((k 3), 100, .inr (.inl v_waitBytes)))] H := hP
          have hD : va_D A [(h0, .inr (6, [.int v_thrown, .int v_sectors, .int v_power, .ref a_disk, .ref a_made, .int v_used, .int v_reserve, .int v_cutWrites, .int v_cutBytes, .int v_rows, .ref a_sectorOf, .ref a_placeOf, .ref a_manyOf, .ref a_there, .int v_waits, .ref a_waitKind, .ref a_waitMany, .ref a_waitBytes, .int v_stateNumber, .long v_stateNow, .int v_second, .int v_repaired, .int v_up, .int v_sent])), (a_disk, .inl ((k 2), 32768, .inl v_disk)), (a_made, .inl ((k 2), 512, .inl v_made)), (a_sectorOf, .inl ((k 2), 5100, .inl v_sectorOf)), (a_placeOf, .inl ((k 2), 5100, .inl v_placeOf)), (a_manyOf, .inl ((k 2), 5100, .inl v_manyOf)), (a_there, .inl ((k 1), 5100, .inl (upd v_there x3.toNatClampNeg (vp_nar .boolean 1)))), (a_waitKind, .inl ((k 2), 100, .inl v_waitKind)), (a_waitMany, .inl ((k 2), 100, .inl v_waitMany)), (a_waitBytes, .inl ((k 3), 100, .inr (.inl v_waitBytes)))] := hD
          refine lv_iinc (v := (x2 + 1)) (lv' := [(2, .int (x2 + 1)), (0, .ref h0), (1, .int x1), (3, .int x3)]) hx hb dX6_fill_78 hl (k := 2) rfl rfl (by decide) rfl (fun ls hl => ?_)
          refine lv_iinc (v := (x3 + 1)) (lv' := [(3, .int (x3 + 1)), (2, .int (x2 + 1)), (0, .ref h0), (1, .int x1)]) hx hb dX6_fill_81 hl (k := 3) rfl rfl (by decide) rfl (fun ls hl => ?_)
          refine lv_goto (tgt := 49) hx hb dX6_fill_84 (by decide) ?_
          exact ih (x2 + 1) (x3 + 1) (upd v_there x3.toNatClampNeg (vp_nar .boolean 1)) h K _ _ (hP.sub [0, 1, 2, 3, 4, 5, 6, 7, 8, 9] rfl) (hD.sub [0, 1, 2, 3, 4, 5, 6, 7, 8, 9] (by decide) rfl) hS ls (lv_sub hl [2, 3, 1, 0] rfl)
set_option maxHeartbeats 4000000 in
set_option maxRecDepth 100000 in
theorem mX6_fill (l : Launch) (D : va_G) (k : Nat → ClassId) (h0 a_disk a_made a_sectorOf a_placeOf a_manyOf a_there a_waitKind a_waitMany a_waitBytes : Nat) (sz : Nat) (v_thrown : Int32) (v_sectors : Int32) (v_power : Int32) (v_used : Int32) (v_reserve : Int32) (v_cutWrites : Int32) (v_cutBytes : Int32) (v_rows : Int32) (v_waits : Int32) (v_stateNumber : Int32) (v_stateNow : Int64) (v_second : Int32) (v_repaired : Int32) (v_up : Int32) (v_sent : Int32) (v_disk : Nat → Int32) (v_made : Nat → Int32) (v_sectorOf : Nat → Int32) (v_placeOf : Nat → Int32) (v_manyOf : Nat → Int32) (v_there : Nat → Int32) (v_waitKind : Nat → Int32) (v_waitMany : Nat → Int32) (v_waitBytes : Nat → Int64) (p1 : Int32) (o : Int32 × Int32 × (Nat → Int32)) (h : fX6_fill v_power v_up v_sent v_there p1 = some o) : Met l yX6_fill wsX6_fill { frames := 1, cells := 0, slots := 0, locals := 24 } (dk_Pw D k [.ref h0, .int p1] [(h0, .inr (6, [.int v_thrown, .int v_sectors, .int v_power, .ref a_disk, .ref a_made, .int v_used, .int v_reserve, .int v_cutWrites, .int v_cutBytes, .int v_rows, .ref a_sectorOf, .ref a_placeOf, .ref a_manyOf, .ref a_there, .int v_waits, .ref a_waitKind, .ref a_waitMany, .ref a_waitBytes, .int v_stateNumber, .long v_stateNow, .int v_second, .int v_repaired, .int v_up, .int v_sent])), (a_disk, .inl ((k 2), 32768, .inl v_disk)), (a_made, .inl ((k 2), 512, .inl v_made)), (a_sectorOf, .inl ((k 2), 5100, .inl v_sectorOf)), (a_placeOf, .inl ((k 2), 5100, .inl v_placeOf)), (a_manyOf, .inl ((k 2), 5100, .inl v_manyOf)), (a_there, .inl ((k 1), 5100, .inl v_there)), (a_waitKind, .inl ((k 2), 100, .inl v_waitKind)), (a_waitMany, .inl ((k 2), 100, .inl v_waitMany)), (a_waitBytes, .inl ((k 3), 100, .inr (.inl v_waitBytes)))] sz) (dk_Qi o.1 D [(h0, .inr (6, [.int o.2.1, .int v_sectors, .int v_power, .ref a_disk, .ref a_made, .int v_used, .int v_reserve, .int v_cutWrites, .int v_cutBytes, .int v_rows, .ref a_sectorOf, .ref a_placeOf, .ref a_manyOf, .ref a_there, .int v_waits, .ref a_waitKind, .ref a_waitMany, .ref a_waitBytes, .int v_stateNumber, .long v_stateNow, .int v_second, .int v_repaired, .int v_up, .int v_sent])), (a_disk, .inl ((k 2), 32768, .inl v_disk)), (a_made, .inl ((k 2), 512, .inl v_made)), (a_sectorOf, .inl ((k 2), 5100, .inl v_sectorOf)), (a_placeOf, .inl ((k 2), 5100, .inl v_placeOf)), (a_manyOf, .inl ((k 2), 5100, .inl v_manyOf)), (a_there, .inl ((k 1), 5100, .inl o.2.2)), (a_waitKind, .inl ((k 2), 100, .inl v_waitKind)), (a_waitMany, .inl ((k 2), 100, .inl v_waitMany)), (a_waitBytes, .inl ((k 3), 100, .inr (.inl v_waitBytes)))] (va_A [(h0, .inr (6, [.int v_thrown, .int v_sectors, .int v_power, .ref a_disk, .ref a_made, .int v_used, .int v_reserve, .int v_cutWrites, .int v_cutBytes, .int v_rows, .ref a_sectorOf, .ref a_placeOf, .ref a_manyOf, .ref a_there, .int v_waits, .ref a_waitKind, .ref a_waitMany, .ref a_waitBytes, .int v_stateNumber, .long v_stateNow, .int v_second, .int v_repaired, .int v_up, .int v_sent])), (a_disk, .inl ((k 2), 32768, .inl v_disk)), (a_made, .inl ((k 2), 512, .inl v_made)), (a_sectorOf, .inl ((k 2), 5100, .inl v_sectorOf)), (a_placeOf, .inl ((k 2), 5100, .inl v_placeOf)), (a_manyOf, .inl ((k 2), 5100, .inl v_manyOf)), (a_there, .inl ((k 1), 5100, .inl v_there)), (a_waitKind, .inl ((k 2), 100, .inl v_waitKind)), (a_waitMany, .inl ((k 2), 100, .inl v_waitMany)), (a_waitBytes, .inl ((k 3), 100, .inr (.inl v_waitBytes)))] sz)) 0 0 (va_A [(h0, .inr (6, [.int v_thrown, .int v_sectors, .int v_power, .ref a_disk, .ref a_made, .int v_used, .int v_reserve, .int v_cutWrites, .int v_cutBytes, .int v_rows, .ref a_sectorOf, .ref a_placeOf, .ref a_manyOf, .ref a_there, .int v_waits, .ref a_waitKind, .ref a_waitMany, .ref a_waitBytes, .int v_stateNumber, .long v_stateNow, .int v_second, .int v_repaired, .int v_up, .int v_sent])), (a_disk, .inl ((k 2), 32768, .inl v_disk)), (a_made, .inl ((k 2), 512, .inl v_made)), (a_sectorOf, .inl ((k 2), 5100, .inl v_sectorOf)), (a_placeOf, .inl ((k 2), 5100, .inl v_placeOf)), (a_manyOf, .inl ((k 2), 5100, .inl v_manyOf)), (a_there, .inl ((k 1), 5100, .inl v_there)), (a_waitKind, .inl ((k 2), 100, .inl v_waitKind)), (a_waitMany, .inl ((k 2), 100, .inl v_waitMany)), (a_waitBytes, .inl ((k 3), 100, .inr (.inl v_waitBytes)))] sz) := by
  unfold fX6_fill at h
  refine dk_ofW (Qc := fun A => dk_Qi o.1 D [(h0, .inr (6, [.int o.2.1, .int v_sectors, .int v_power, .ref a_disk, .ref a_made, .int v_used, .int v_reserve, .int v_cutWrites, .int v_cutBytes, .int v_rows, .ref a_sectorOf, .ref a_placeOf, .ref a_manyOf, .ref a_there, .int v_waits, .ref a_waitKind, .ref a_waitMany, .ref a_waitBytes, .int v_stateNumber, .long v_stateNow, .int v_second, .int v_repaired, .int v_up, .int v_sent])), (a_disk, .inl ((k 2), 32768, .inl v_disk)), (a_made, .inl ((k 2), 512, .inl v_made)), (a_sectorOf, .inl ((k 2), 5100, .inl v_sectorOf)), (a_placeOf, .inl ((k 2), 5100, .inl v_placeOf)), (a_manyOf, .inl ((k 2), 5100, .inl v_manyOf)), (a_there, .inl ((k 1), 5100, .inl o.2.2)), (a_waitKind, .inl ((k 2), 100, .inl v_waitKind)), (a_waitMany, .inl ((k 2), 100, .inl v_waitMany)), (a_waitBytes, .inl ((k 3), 100, .inr (.inl v_waitBytes)))] A) (cc := cX6_fill) (maxL := 4) (ret := (some .int)) (lv := [(0, .ref h0), (1, .int p1)]) (by decide) rfl (Nat.le_of_ble_eq_true rfl) rfl ?_
  intro p e s m below meth c C hK hN hP A hA hD hS ls hl
  obtain ⟨hx, hb, hr, hml, hown, hts, hlocks⟩ := id C
  refine lv_aload_n hx hb dX6_fill_0 rfl (lv_at hl 0 rfl) ?_
  refine lv_iload_n hx hb dX6_fill_1 rfl (lv_at hl 1 rfl) ?_
  refine lv_iconst (v := 0) hx hb dX6_fill_2 (by decide) ?_
  refine lv_bipush (v := 100) hx hb dX6_fill_3 (by decide) ?_
  replace h := dk_b h
  obtain ⟨o1, e1, h⟩ := h
  refine dk_cri (va_runS (As := [.int p1, .int 0, .int 100]) (rest := [.ref h0]) ⟨hx, hb, hml, hown, hts⟩ (mX6_in l D k p1 0 100 o1 e1) (va_cwS 3 hts (dk_gS w_818 w_819 w_46 w_820) rfl rfl rfl (by decide +kernel) ⟨Nat.le_of_ble_eq_true rfl, Nat.le_of_ble_eq_true rfl⟩) (dk_psr hK hN hP [] rfl) rfl rfl hl.1 rfl (lv_room (Nat.le_of_ble_eq_true rfl)) dX6_fill_5 ⟨Nat.le_of_ble_eq_true rfl, Nat.le_of_ble_eq_true rfl⟩) ?_
  refine dk_jn (F0 m 16 ls [.int (if o1 = 0 then 1 else 0), .ref h0]) (fun K => ?_) ?_
  · refine lv_if_ne (tgt := 15) hx hb dX6_fill_8 (by decide) (fun q1 => ?_) (fun q1 => ?_)
    · refine lv_iconst (v := 0) hx hb dX6_fill_15 (by decide) ?_
      have K := K
      rw [if_neg q1] at K
      exact K
    · refine lv_iconst (v := 1) hx hb dX6_fill_11 (by decide) ?_
      refine lv_goto (tgt := 16) hx hb dX6_fill_12 (by decide) ?_
      have K := K
      rw [if_pos q1] at K
      exact K
  refine lv_aload_n hx hb dX6_fill_16 rfl (lv_at hl 0 rfl) ?_
  refine va_get (D := D) (ci := 6) (v := .int v_power) (C := "ServiceDiskModel") (T := TX6) (N := 24) hx hb hts inX6 hown hK hP 0 rfl rfl 2 (by decide) (hts _ w_739) (fun _ h9 => h9) rfl dX6_fill_17 ?_
  refine dk_jn (F0 m 35 ls [.int (if v_power = 0 then 1 else (if v_up = 0 then 1 else 0)), .int (if o1 = 0 then 1 else 0), .ref h0]) (fun K => ?_) ?_
  · refine lv_if_eq (tgt := 30) hx hb dX6_fill_20 (by decide) (fun q1 => ?_) (fun q1 => ?_)
    · refine lv_iconst (v := 1) hx hb dX6_fill_30 (by decide) ?_
      refine lv_goto (tgt := 35) hx hb dX6_fill_31 (by decide) ?_
      have K := K
      rw [if_pos q1] at K
      exact K
    · refine lv_aload_n hx hb dX6_fill_23 rfl (lv_at hl 0 rfl) ?_
      refine va_get (D := D) (ci := 6) (v := .int v_up) (C := "ServiceDiskModel") (T := TX6) (N := 24) hx hb hts inX6 hown hK hP 0 rfl rfl 22 (by decide) (hts _ w_759) (fun _ h9 => h9) rfl dX6_fill_24 ?_
      refine lv_if_ne (tgt := 34) hx hb dX6_fill_27 (by decide) (fun q2 => ?_) (fun q2 => ?_)
      · refine lv_iconst (v := 0) hx hb dX6_fill_34 (by decide) ?_
        have K := K
        rw [if_neg q1, if_neg q2] at K
        exact K
      · refine lv_iconst (v := 1) hx hb dX6_fill_30 (by decide) ?_
        refine lv_goto (tgt := 35) hx hb dX6_fill_31 (by decide) ?_
        have K := K
        rw [if_neg q1, if_pos q2] at K
        exact K
  refine lv_iconst (v := 0) hx hb dX6_fill_35 (by decide) ?_
  refine lv_iconst (v := 0) hx hb dX6_fill_36 (by decide) ?_
  replace h := dk_b h
  obtain ⟨o2, e2, h⟩ := h
  refine dk_cwi (wr := []) (va_runV (As := [.int (if o1 = 0 then 1 else 0), .int (if v_power = 0 then 1 else (if v_up = 0 then 1 else 0)), .int 0, .int 0]) (rest := []) ⟨hx, hb, hml, hown, hts⟩ (mX6_throwing l D k h0 a_disk a_made a_sectorOf a_placeOf a_manyOf a_there a_waitKind a_waitMany a_waitBytes s.heap.size v_thrown v_sectors v_power v_used v_reserve v_cutWrites v_cutBytes v_rows v_waits v_stateNumber v_stateNow v_second v_repaired v_up v_sent v_disk v_made v_sectorOf v_placeOf v_manyOf v_there v_waitKind v_waitMany v_waitBytes (if o1 = 0 then 1 else 0) (if v_power = 0 then 1 else (if v_up = 0 then 1 else 0)) 0 0 o2 e2) (cwV 4 hts (dk_gV w_821 w_823 w_20 w_46 w_824) rfl rfl rfl (by decide +kernel) ⟨Nat.le_of_ble_eq_true rfl, Nat.le_of_ble_eq_true rfl⟩) (dk_pvw hK hN hP hD [0, 1, 2, 3, 4, 5, 6, 7, 8, 9] rfl rfl rfl rfl (hP.sub [0, 1, 2, 3, 4, 5, 6, 7, 8, 9] rfl)) rfl rfl hl.1 rfl (lv_room (Nat.le_of_ble_eq_true rfl)) dX6_fill_37 ⟨Nat.le_of_ble_eq_true rfl, Nat.le_of_ble_eq_true rfl⟩) hP hD hS hA [0, 1, 2, 3, 4, 5, 6, 7, 8, 9] [] rfl rfl rfl (by decide) (fun H locs hP hD hS => ?_)
  have hP : va_P D vwCl [(h0, .inr (6, [.int o2.2, .int v_sectors, .int v_power, .ref a_disk, .ref a_made, .int v_used, .int v_reserve, .int v_cutWrites, .int v_cutBytes, .int v_rows, .ref a_sectorOf, .ref a_placeOf, .ref a_manyOf, .ref a_there, .int v_waits, .ref a_waitKind, .ref a_waitMany, .ref a_waitBytes, .int v_stateNumber, .long v_stateNow, .int v_second, .int v_repaired, .int v_up, .int v_sent])), (a_disk, .inl ((k 2), 32768, .inl v_disk)), (a_made, .inl ((k 2), 512, .inl v_made)), (a_sectorOf, .inl ((k 2), 5100, .inl v_sectorOf)), (a_placeOf, .inl ((k 2), 5100, .inl v_placeOf)), (a_manyOf, .inl ((k 2), 5100, .inl v_manyOf)), (a_there, .inl ((k 1), 5100, .inl v_there)), (a_waitKind, .inl ((k 2), 100, .inl v_waitKind)), (a_waitMany, .inl ((k 2), 100, .inl v_waitMany)), (a_waitBytes, .inl ((k 3), 100, .inr (.inl v_waitBytes)))] H := hP
  have hD : va_D A [(h0, .inr (6, [.int o2.2, .int v_sectors, .int v_power, .ref a_disk, .ref a_made, .int v_used, .int v_reserve, .int v_cutWrites, .int v_cutBytes, .int v_rows, .ref a_sectorOf, .ref a_placeOf, .ref a_manyOf, .ref a_there, .int v_waits, .ref a_waitKind, .ref a_waitMany, .ref a_waitBytes, .int v_stateNumber, .long v_stateNow, .int v_second, .int v_repaired, .int v_up, .int v_sent])), (a_disk, .inl ((k 2), 32768, .inl v_disk)), (a_made, .inl ((k 2), 512, .inl v_made)), (a_sectorOf, .inl ((k 2), 5100, .inl v_sectorOf)), (a_placeOf, .inl ((k 2), 5100, .inl v_placeOf)), (a_manyOf, .inl ((k 2), 5100, .inl v_manyOf)), (a_there, .inl ((k 1), 5100, .inl v_there)), (a_waitKind, .inl ((k 2), 100, .inl v_waitKind)), (a_waitMany, .inl ((k 2), 100, .inl v_waitMany)), (a_waitBytes, .inl ((k 3), 100, .inr (.inl v_waitBytes)))] := hD
  refine lv_if_eq (tgt := 45) hx hb dX6_fill_40 (by decide) (fun q => ?_) (fun q => ?_)
  · replace h := dk_t q h
    refine lv_iconst (v := 0) hx hb dX6_fill_45 (by decide) ?_
    refine lv_istore_n (lv' := [(2, .int 0), (0, .ref h0), (1, .int p1)]) hx hb dX6_fill_46 rfl hl (by decide) rfl (fun ls hl => ?_)
    refine lv_iconst (v := 0) hx hb dX6_fill_47 (by decide) ?_
    refine lv_istore_n (lv' := [(3, .int 0), (2, .int 0), (0, .ref h0), (1, .int p1)]) hx hb dX6_fill_48 rfl hl (by decide) rfl (fun ls hl => ?_)
    replace h := dk_b h
    obtain ⟨o3, e3, h⟩ := h
    refine lX6_fill_49 C hK hN hA _ 0 0 v_there  e3 (fun H locs hP hD hS ls hl => ?_) _ _ (hP.sub [0, 1, 2, 3, 4, 5, 6, 7, 8, 9] rfl) (hD.sub [0, 1, 2, 3, 4, 5, 6, 7, 8, 9] (by decide) rfl) hS ls (lv_sub hl [2, 3, 1, 0] rfl)
    have hP : va_P D vwCl [(h0, .inr (6, [.int o2.2, .int v_sectors, .int v_power, .ref a_disk, .ref a_made, .int v_used, .int v_reserve, .int v_cutWrites, .int v_cutBytes, .int v_rows, .ref a_sectorOf, .ref a_placeOf, .ref a_manyOf, .ref a_there, .int v_waits, .ref a_waitKind, .ref a_waitMany, .ref a_waitBytes, .int v_stateNumber, .long v_stateNow, .int v_second, .int v_repaired, .int v_up, .int v_sent])), (a_disk, .inl ((k 2), 32768, .inl v_disk)), (a_made, .inl ((k 2), 512, .inl v_made)), (a_sectorOf, .inl ((k 2), 5100, .inl v_sectorOf)), (a_placeOf, .inl ((k 2), 5100, .inl v_placeOf)), (a_manyOf, .inl ((k 2), 5100, .inl v_manyOf)), (a_there, .inl ((k 1), 5100, .inl o3.2.2)), (a_waitKind, .inl ((k 2), 100, .inl v_waitKind)), (a_waitMany, .inl ((k 2), 100, .inl v_waitMany)), (a_waitBytes, .inl ((k 3), 100, .inr (.inl v_waitBytes)))] H := hP
    have hD : va_D A [(h0, .inr (6, [.int o2.2, .int v_sectors, .int v_power, .ref a_disk, .ref a_made, .int v_used, .int v_reserve, .int v_cutWrites, .int v_cutBytes, .int v_rows, .ref a_sectorOf, .ref a_placeOf, .ref a_manyOf, .ref a_there, .int v_waits, .ref a_waitKind, .ref a_waitMany, .ref a_waitBytes, .int v_stateNumber, .long v_stateNow, .int v_second, .int v_repaired, .int v_up, .int v_sent])), (a_disk, .inl ((k 2), 32768, .inl v_disk)), (a_made, .inl ((k 2), 512, .inl v_made)), (a_sectorOf, .inl ((k 2), 5100, .inl v_sectorOf)), (a_placeOf, .inl ((k 2), 5100, .inl v_placeOf)), (a_manyOf, .inl ((k 2), 5100, .inl v_manyOf)), (a_there, .inl ((k 1), 5100, .inl o3.2.2)), (a_waitKind, .inl ((k 2), 100, .inl v_waitKind)), (a_waitMany, .inl ((k 2), 100, .inl v_waitMany)), (a_waitBytes, .inl ((k 3), 100, .inr (.inl v_waitBytes)))] := hD
    have hl : lv_has ls 4 [(0, .ref h0), (1, .int p1), (2, .int o3.1), (3, .int o3.2.1)] := hl
    refine lv_iload_n hx hb dX6_fill_87 rfl (lv_at hl 2 rfl) ?_
    have h := dk_r h
    subst h
    exact dk_rwi hx hb hr hlocks (hP.sub [0, 1, 2, 3, 4, 5, 6, 7, 8, 9] rfl) (hD.sub [0, 1, 2, 3, 4, 5, 6, 7, 8, 9] (by decide) rfl) hS dX6_fill_88 rfl
  · replace h := dk_f q h
    refine lv_iconst (v := 0) hx hb dX6_fill_43 (by decide) ?_
    have h := dk_r h
    subst h
    exact dk_rwi hx hb hr hlocks (hP.sub [0, 1, 2, 3, 4, 5, 6, 7, 8, 9] rfl) (hD.sub [0, 1, 2, 3, 4, 5, 6, 7, 8, 9] (by decide) rfl) hS dX6_fill_44 rfl
/-! ServiceDiskModel.count(I)I: rw, frames 1, locals 22 -/
def fX6_count (v_power : Int32) (v_used : Int32) (v_rows : Int32) (v_waits : Int32) (v_stateNumber : Int32) (v_second : Int32) (v_repaired : Int32) (v_sent : Int32) (v_there : Nat → Int32) (p1 : Int32) : Option (Int32 × Int32) :=
  if v_power = 0 then
    some (0, 2)
  else
    (fX6_in p1 0 7).bind fun o1 =>
    if ((if o1 = 0 then 1 else 0) : Int32) ≤ 0 then
      if p1.toInt < 0 ∨ 6 < p1.toInt then
        some (v_sent, (if o1 = 0 then 1 else 0))
      else if p1 = 0 then
        some (v_rows, (if o1 = 0 then 1 else 0))
      else if p1 = 1 then
        some (v_waits, (if o1 = 0 then 1 else 0))
      else if p1 = 2 then
        some (v_second, (if o1 = 0 then 1 else 0))
      else if p1 = 3 then
        some (v_repaired, (if o1 = 0 then 1 else 0))
      else if p1 = 4 then
        some (v_used, (if o1 = 0 then 1 else 0))
      else if p1 = 5 then
        some (v_stateNumber, (if o1 = 0 then 1 else 0))
      else if p1 = 6 then
        (fX6_inRoom v_rows v_there).bind fun o2 =>
        some (o2, (if o1 = 0 then 1 else 0))
      else none
    else
      some (0, (if o1 = 0 then 1 else 0))
set_option maxHeartbeats 4000000 in
set_option maxRecDepth 100000 in
theorem mX6_count (l : Launch) (D : va_G) (k : Nat → ClassId) (h0 a_disk a_made a_sectorOf a_placeOf a_manyOf a_there a_waitKind a_waitMany a_waitBytes : Nat) (sz : Nat) (v_thrown : Int32) (v_sectors : Int32) (v_power : Int32) (v_used : Int32) (v_reserve : Int32) (v_cutWrites : Int32) (v_cutBytes : Int32) (v_rows : Int32) (v_waits : Int32) (v_stateNumber : Int32) (v_stateNow : Int64) (v_second : Int32) (v_repaired : Int32) (v_up : Int32) (v_sent : Int32) (v_disk : Nat → Int32) (v_made : Nat → Int32) (v_sectorOf : Nat → Int32) (v_placeOf : Nat → Int32) (v_manyOf : Nat → Int32) (v_there : Nat → Int32) (v_waitKind : Nat → Int32) (v_waitMany : Nat → Int32) (v_waitBytes : Nat → Int64) (p1 : Int32) (o : Int32 × Int32) (h : fX6_count v_power v_used v_rows v_waits v_stateNumber v_second v_repaired v_sent v_there p1 = some o) : Met l yX6_count wsX6_count { frames := 1, cells := 0, slots := 0, locals := 22 } (dk_Pw D k [.ref h0, .int p1] [(h0, .inr (6, [.int v_thrown, .int v_sectors, .int v_power, .ref a_disk, .ref a_made, .int v_used, .int v_reserve, .int v_cutWrites, .int v_cutBytes, .int v_rows, .ref a_sectorOf, .ref a_placeOf, .ref a_manyOf, .ref a_there, .int v_waits, .ref a_waitKind, .ref a_waitMany, .ref a_waitBytes, .int v_stateNumber, .long v_stateNow, .int v_second, .int v_repaired, .int v_up, .int v_sent])), (a_disk, .inl ((k 2), 32768, .inl v_disk)), (a_made, .inl ((k 2), 512, .inl v_made)), (a_sectorOf, .inl ((k 2), 5100, .inl v_sectorOf)), (a_placeOf, .inl ((k 2), 5100, .inl v_placeOf)), (a_manyOf, .inl ((k 2), 5100, .inl v_manyOf)), (a_there, .inl ((k 1), 5100, .inl v_there)), (a_waitKind, .inl ((k 2), 100, .inl v_waitKind)), (a_waitMany, .inl ((k 2), 100, .inl v_waitMany)), (a_waitBytes, .inl ((k 3), 100, .inr (.inl v_waitBytes)))] sz) (dk_Qi o.1 D [(h0, .inr (6, [.int o.2, .int v_sectors, .int v_power, .ref a_disk, .ref a_made, .int v_used, .int v_reserve, .int v_cutWrites, .int v_cutBytes, .int v_rows, .ref a_sectorOf, .ref a_placeOf, .ref a_manyOf, .ref a_there, .int v_waits, .ref a_waitKind, .ref a_waitMany, .ref a_waitBytes, .int v_stateNumber, .long v_stateNow, .int v_second, .int v_repaired, .int v_up, .int v_sent])), (a_disk, .inl ((k 2), 32768, .inl v_disk)), (a_made, .inl ((k 2), 512, .inl v_made)), (a_sectorOf, .inl ((k 2), 5100, .inl v_sectorOf)), (a_placeOf, .inl ((k 2), 5100, .inl v_placeOf)), (a_manyOf, .inl ((k 2), 5100, .inl v_manyOf)), (a_there, .inl ((k 1), 5100, .inl v_there)), (a_waitKind, .inl ((k 2), 100, .inl v_waitKind)), (a_waitMany, .inl ((k 2), 100, .inl v_waitMany)), (a_waitBytes, .inl ((k 3), 100, .inr (.inl v_waitBytes)))] (va_A [(h0, .inr (6, [.int v_thrown, .int v_sectors, .int v_power, .ref a_disk, .ref a_made, .int v_used, .int v_reserve, .int v_cutWrites, .int v_cutBytes, .int v_rows, .ref a_sectorOf, .ref a_placeOf, .ref a_manyOf, .ref a_there, .int v_waits, .ref a_waitKind, .ref a_waitMany, .ref a_waitBytes, .int v_stateNumber, .long v_stateNow, .int v_second, .int v_repaired, .int v_up, .int v_sent])), (a_disk, .inl ((k 2), 32768, .inl v_disk)), (a_made, .inl ((k 2), 512, .inl v_made)), (a_sectorOf, .inl ((k 2), 5100, .inl v_sectorOf)), (a_placeOf, .inl ((k 2), 5100, .inl v_placeOf)), (a_manyOf, .inl ((k 2), 5100, .inl v_manyOf)), (a_there, .inl ((k 1), 5100, .inl v_there)), (a_waitKind, .inl ((k 2), 100, .inl v_waitKind)), (a_waitMany, .inl ((k 2), 100, .inl v_waitMany)), (a_waitBytes, .inl ((k 3), 100, .inr (.inl v_waitBytes)))] sz)) 0 0 (va_A [(h0, .inr (6, [.int v_thrown, .int v_sectors, .int v_power, .ref a_disk, .ref a_made, .int v_used, .int v_reserve, .int v_cutWrites, .int v_cutBytes, .int v_rows, .ref a_sectorOf, .ref a_placeOf, .ref a_manyOf, .ref a_there, .int v_waits, .ref a_waitKind, .ref a_waitMany, .ref a_waitBytes, .int v_stateNumber, .long v_stateNow, .int v_second, .int v_repaired, .int v_up, .int v_sent])), (a_disk, .inl ((k 2), 32768, .inl v_disk)), (a_made, .inl ((k 2), 512, .inl v_made)), (a_sectorOf, .inl ((k 2), 5100, .inl v_sectorOf)), (a_placeOf, .inl ((k 2), 5100, .inl v_placeOf)), (a_manyOf, .inl ((k 2), 5100, .inl v_manyOf)), (a_there, .inl ((k 1), 5100, .inl v_there)), (a_waitKind, .inl ((k 2), 100, .inl v_waitKind)), (a_waitMany, .inl ((k 2), 100, .inl v_waitMany)), (a_waitBytes, .inl ((k 3), 100, .inr (.inl v_waitBytes)))] sz) := by
  unfold fX6_count at h
  refine dk_ofW (Qc := fun A => dk_Qi o.1 D [(h0, .inr (6, [.int o.2, .int v_sectors, .int v_power, .ref a_disk, .ref a_made, .int v_used, .int v_reserve, .int v_cutWrites, .int v_cutBytes, .int v_rows, .ref a_sectorOf, .ref a_placeOf, .ref a_manyOf, .ref a_there, .int v_waits, .ref a_waitKind, .ref a_waitMany, .ref a_waitBytes, .int v_stateNumber, .long v_stateNow, .int v_second, .int v_repaired, .int v_up, .int v_sent])), (a_disk, .inl ((k 2), 32768, .inl v_disk)), (a_made, .inl ((k 2), 512, .inl v_made)), (a_sectorOf, .inl ((k 2), 5100, .inl v_sectorOf)), (a_placeOf, .inl ((k 2), 5100, .inl v_placeOf)), (a_manyOf, .inl ((k 2), 5100, .inl v_manyOf)), (a_there, .inl ((k 1), 5100, .inl v_there)), (a_waitKind, .inl ((k 2), 100, .inl v_waitKind)), (a_waitMany, .inl ((k 2), 100, .inl v_waitMany)), (a_waitBytes, .inl ((k 3), 100, .inr (.inl v_waitBytes)))] A) (cc := cX6_count) (maxL := 2) (ret := (some .int)) (lv := [(0, .ref h0), (1, .int p1)]) (by decide) rfl (Nat.le_of_ble_eq_true rfl) rfl ?_
  intro p e s m below meth c C hK hN hP A hA hD hS ls hl
  obtain ⟨hx, hb, hr, hml, hown, hts, hlocks⟩ := id C
  refine lv_aload_n hx hb dX6_count_0 rfl (lv_at hl 0 rfl) ?_
  refine lv_aload_n hx hb dX6_count_1 rfl (lv_at hl 0 rfl) ?_
  refine va_get (D := D) (ci := 6) (v := .int v_power) (C := "ServiceDiskModel") (T := TX6) (N := 24) hx hb hts inX6 hown hK hP 0 rfl rfl 2 (by decide) (hts _ w_739) (fun _ h9 => h9) rfl dX6_count_2 ?_
  refine lv_if_ne (tgt := 12) hx hb dX6_count_5 (by decide) (fun q => ?_) (fun q => ?_)
  · replace h := dk_f q h
    refine lv_iload_n hx hb dX6_count_12 rfl (lv_at hl 1 rfl) ?_
    refine lv_iconst (v := 0) hx hb dX6_count_13 (by decide) ?_
    refine lv_bipush (v := 7) hx hb dX6_count_14 (by decide) ?_
    replace h := dk_b h
    obtain ⟨o1, e1, h⟩ := h
    refine dk_cri (va_runS (As := [.int p1, .int 0, .int 7]) (rest := [.ref h0]) ⟨hx, hb, hml, hown, hts⟩ (mX6_in l D k p1 0 7 o1 e1) (va_cwS 3 hts (dk_gS w_818 w_819 w_46 w_820) rfl rfl rfl (by decide +kernel) ⟨Nat.le_of_ble_eq_true rfl, Nat.le_of_ble_eq_true rfl⟩) (dk_psr hK hN hP [] rfl) rfl rfl hl.1 rfl (lv_room (Nat.le_of_ble_eq_true rfl)) dX6_count_16 ⟨Nat.le_of_ble_eq_true rfl, Nat.le_of_ble_eq_true rfl⟩) ?_
    refine dk_jn (F0 m 27 ls [.int (if o1 = 0 then 1 else 0), .ref h0]) (fun K => ?_) ?_
    · refine lv_if_eq (tgt := 26) hx hb dX6_count_19 (by decide) (fun q1 => ?_) (fun q1 => ?_)
      · refine lv_iconst (v := 1) hx hb dX6_count_26 (by decide) ?_
        have K := K
        rw [if_pos q1] at K
        exact K
      · refine lv_iconst (v := 0) hx hb dX6_count_22 (by decide) ?_
        refine lv_goto (tgt := 27) hx hb dX6_count_23 (by decide) ?_
        have K := K
        rw [if_neg q1] at K
        exact K
    refine va_put (D := D) (ci := 6) (v := .int (if o1 = 0 then 1 else 0)) (ty := .int) (C := "ServiceDiskModel") (T := TX6) (N := 24) hx hb hts inX6 tyX6 tyX6_ok nmX6 hown hK hP hD hS 0 rfl rfl 0 (by decide) (hts _ w_737) (fun _ h9 => h9) rfl (by decide +kernel) rfl rfl (Nat.le_of_ble_eq_true rfl) dX6_count_27 (fun H locs hP hD hS => ?_)
    have hP : va_P D vwCl [(h0, .inr (6, [.int (if o1 = 0 then 1 else 0), .int v_sectors, .int v_power, .ref a_disk, .ref a_made, .int v_used, .int v_reserve, .int v_cutWrites, .int v_cutBytes, .int v_rows, .ref a_sectorOf, .ref a_placeOf, .ref a_manyOf, .ref a_there, .int v_waits, .ref a_waitKind, .ref a_waitMany, .ref a_waitBytes, .int v_stateNumber, .long v_stateNow, .int v_second, .int v_repaired, .int v_up, .int v_sent])), (a_disk, .inl ((k 2), 32768, .inl v_disk)), (a_made, .inl ((k 2), 512, .inl v_made)), (a_sectorOf, .inl ((k 2), 5100, .inl v_sectorOf)), (a_placeOf, .inl ((k 2), 5100, .inl v_placeOf)), (a_manyOf, .inl ((k 2), 5100, .inl v_manyOf)), (a_there, .inl ((k 1), 5100, .inl v_there)), (a_waitKind, .inl ((k 2), 100, .inl v_waitKind)), (a_waitMany, .inl ((k 2), 100, .inl v_waitMany)), (a_waitBytes, .inl ((k 3), 100, .inr (.inl v_waitBytes)))] H := hP
    have hD : va_D A [(h0, .inr (6, [.int (if o1 = 0 then 1 else 0), .int v_sectors, .int v_power, .ref a_disk, .ref a_made, .int v_used, .int v_reserve, .int v_cutWrites, .int v_cutBytes, .int v_rows, .ref a_sectorOf, .ref a_placeOf, .ref a_manyOf, .ref a_there, .int v_waits, .ref a_waitKind, .ref a_waitMany, .ref a_waitBytes, .int v_stateNumber, .long v_stateNow, .int v_second, .int v_repaired, .int v_up, .int v_sent])), (a_disk, .inl ((k 2), 32768, .inl v_disk)), (a_made, .inl ((k 2), 512, .inl v_made)), (a_sectorOf, .inl ((k 2), 5100, .inl v_sectorOf)), (a_placeOf, .inl ((k 2), 5100, .inl v_placeOf)), (a_manyOf, .inl ((k 2), 5100, .inl v_manyOf)), (a_there, .inl ((k 1), 5100, .inl v_there)), (a_waitKind, .inl ((k 2), 100, .inl v_waitKind)), (a_waitMany, .inl ((k 2), 100, .inl v_waitMany)), (a_waitBytes, .inl ((k 3), 100, .inr (.inl v_waitBytes)))] := hD
    refine lv_aload_n hx hb dX6_count_30 rfl (lv_at hl 0 rfl) ?_
    refine va_get (D := D) (ci := 6) (v := .int (if o1 = 0 then 1 else 0)) (C := "ServiceDiskModel") (T := TX6) (N := 24) hx hb hts inX6 hown hK hP 0 rfl rfl 0 (by decide) (hts _ w_737) (fun _ h9 => h9) rfl dX6_count_31 ?_
    refine lv_if_le (tgt := 39) hx hb dX6_count_34 (by decide) (fun q => ?_) (fun q => ?_)
    · replace h := dk_t q h
      refine lv_iload_n hx hb dX6_count_39 rfl (lv_at hl 1 rfl) ?_
      by_cases q : p1.toInt < 0 ∨ 6 < p1.toInt
      · replace h := dk_t q h
        refine lv_tableOut (tgt := 119) hx hb dX6_count_40 q (by decide) ?_
        refine lv_aload_n hx hb dX6_count_119 rfl (lv_at hl 0 rfl) ?_
        refine va_get (D := D) (ci := 6) (v := .int v_sent) (C := "ServiceDiskModel") (T := TX6) (N := 24) hx hb hts inX6 hown hK hP 0 rfl rfl 23 (by decide) (hts _ w_760) (fun _ h9 => h9) rfl dX6_count_120 ?_
        have h := dk_r h
        subst h
        exact dk_rwi hx hb hr hlocks (hP.sub [0, 1, 2, 3, 4, 5, 6, 7, 8, 9] rfl) (hD.sub [0, 1, 2, 3, 4, 5, 6, 7, 8, 9] (by decide) rfl) hS dX6_count_123 rfl
      replace h := dk_f q h
      by_cases q : p1 = 0
      · replace h := dk_t q h
        refine lv_tableIn (tgt := 84) hx hb dX6_count_40 (by rw [q]; decide) (by rw [q]; decide) (by rw [q]; rfl) (by decide) ?_
        refine lv_aload_n hx hb dX6_count_84 rfl (lv_at hl 0 rfl) ?_
        refine va_get (D := D) (ci := 6) (v := .int v_rows) (C := "ServiceDiskModel") (T := TX6) (N := 24) hx hb hts inX6 hown hK hP 0 rfl rfl 9 (by decide) (hts _ w_746) (fun _ h9 => h9) rfl dX6_count_85 ?_
        have h := dk_r h
        subst h
        exact dk_rwi hx hb hr hlocks (hP.sub [0, 1, 2, 3, 4, 5, 6, 7, 8, 9] rfl) (hD.sub [0, 1, 2, 3, 4, 5, 6, 7, 8, 9] (by decide) rfl) hS dX6_count_88 rfl
      replace h := dk_f q h
      by_cases q : p1 = 1
      · replace h := dk_t q h
        refine lv_tableIn (tgt := 89) hx hb dX6_count_40 (by rw [q]; decide) (by rw [q]; decide) (by rw [q]; rfl) (by decide) ?_
        refine lv_aload_n hx hb dX6_count_89 rfl (lv_at hl 0 rfl) ?_
        refine va_get (D := D) (ci := 6) (v := .int v_waits) (C := "ServiceDiskModel") (T := TX6) (N := 24) hx hb hts inX6 hown hK hP 0 rfl rfl 14 (by decide) (hts _ w_751) (fun _ h9 => h9) rfl dX6_count_90 ?_
        have h := dk_r h
        subst h
        exact dk_rwi hx hb hr hlocks (hP.sub [0, 1, 2, 3, 4, 5, 6, 7, 8, 9] rfl) (hD.sub [0, 1, 2, 3, 4, 5, 6, 7, 8, 9] (by decide) rfl) hS dX6_count_93 rfl
      replace h := dk_f q h
      by_cases q : p1 = 2
      · replace h := dk_t q h
        refine lv_tableIn (tgt := 94) hx hb dX6_count_40 (by rw [q]; decide) (by rw [q]; decide) (by rw [q]; rfl) (by decide) ?_
        refine lv_aload_n hx hb dX6_count_94 rfl (lv_at hl 0 rfl) ?_
        refine va_get (D := D) (ci := 6) (v := .int v_second) (C := "ServiceDiskModel") (T := TX6) (N := 24) hx hb hts inX6 hown hK hP 0 rfl rfl 20 (by decide) (hts _ w_757) (fun _ h9 => h9) rfl dX6_count_95 ?_
        have h := dk_r h
        subst h
        exact dk_rwi hx hb hr hlocks (hP.sub [0, 1, 2, 3, 4, 5, 6, 7, 8, 9] rfl) (hD.sub [0, 1, 2, 3, 4, 5, 6, 7, 8, 9] (by decide) rfl) hS dX6_count_98 rfl
      replace h := dk_f q h
      by_cases q : p1 = 3
      · replace h := dk_t q h
        refine lv_tableIn (tgt := 99) hx hb dX6_count_40 (by rw [q]; decide) (by rw [q]; decide) (by rw [q]; rfl) (by decide) ?_
        refine lv_aload_n hx hb dX6_count_99 rfl (lv_at hl 0 rfl) ?_
        refine va_get (D := D) (ci := 6) (v := .int v_repaired) (C := "ServiceDiskModel") (T := TX6) (N := 24) hx hb hts inX6 hown hK hP 0 rfl rfl 21 (by decide) (hts _ w_758) (fun _ h9 => h9) rfl dX6_count_100 ?_
        have h := dk_r h
        subst h
        exact dk_rwi hx hb hr hlocks (hP.sub [0, 1, 2, 3, 4, 5, 6, 7, 8, 9] rfl) (hD.sub [0, 1, 2, 3, 4, 5, 6, 7, 8, 9] (by decide) rfl) hS dX6_count_103 rfl
      replace h := dk_f q h
      by_cases q : p1 = 4
      · replace h := dk_t q h
        refine lv_tableIn (tgt := 104) hx hb dX6_count_40 (by rw [q]; decide) (by rw [q]; decide) (by rw [q]; rfl) (by decide) ?_
        refine lv_aload_n hx hb dX6_count_104 rfl (lv_at hl 0 rfl) ?_
        refine va_get (D := D) (ci := 6) (v := .int v_used) (C := "ServiceDiskModel") (T := TX6) (N := 24) hx hb hts inX6 hown hK hP 0 rfl rfl 5 (by decide) (hts _ w_742) (fun _ h9 => h9) rfl dX6_count_105 ?_
        have h := dk_r h
        subst h
        exact dk_rwi hx hb hr hlocks (hP.sub [0, 1, 2, 3, 4, 5, 6, 7, 8, 9] rfl) (hD.sub [0, 1, 2, 3, 4, 5, 6, 7, 8, 9] (by decide) rfl) hS dX6_count_108 rfl
      replace h := dk_f q h
      by_cases q : p1 = 5
      · replace h := dk_t q h
        refine lv_tableIn (tgt := 109) hx hb dX6_count_40 (by rw [q]; decide) (by rw [q]; decide) (by rw [q]; rfl) (by decide) ?_
        refine lv_aload_n hx hb dX6_count_109 rfl (lv_at hl 0 rfl) ?_
        refine va_get (D := D) (ci := 6) (v := .int v_stateNumber) (C := "ServiceDiskModel") (T := TX6) (N := 24) hx hb hts inX6 hown hK hP 0 rfl rfl 18 (by decide) (hts _ w_755) (fun _ h9 => h9) rfl dX6_count_110 ?_
        have h := dk_r h
        subst h
        exact dk_rwi hx hb hr hlocks (hP.sub [0, 1, 2, 3, 4, 5, 6, 7, 8, 9] rfl) (hD.sub [0, 1, 2, 3, 4, 5, 6, 7, 8, 9] (by decide) rfl) hS dX6_count_113 rfl
      replace h := dk_f q h
      by_cases q : p1 = 6
      · replace h := dk_t q h
        refine lv_tableIn (tgt := 114) hx hb dX6_count_40 (by rw [q]; decide) (by rw [q]; decide) (by rw [q]; rfl) (by decide) ?_
        refine lv_aload_n hx hb dX6_count_114 rfl (lv_at hl 0 rfl) ?_
        replace h := dk_b h
        obtain ⟨o2, e2, h⟩ := h
        refine dk_cri (va_runV (As := []) (rest := []) ⟨hx, hb, hml, hown, hts⟩ (mX6_inRoom l D k h0 a_disk a_made a_sectorOf a_placeOf a_manyOf a_there a_waitKind a_waitMany a_waitBytes (if o1 = 0 then 1 else 0) v_sectors v_power v_used v_reserve v_cutWrites v_cutBytes v_rows v_waits v_stateNumber v_stateNow v_second v_repaired v_up v_sent v_disk v_made v_sectorOf v_placeOf v_manyOf v_there v_waitKind v_waitMany v_waitBytes o2 e2) (cwV 0 hts (dk_gV w_952 w_954 w_38 w_46 w_955) rfl rfl rfl (by decide +kernel) ⟨Nat.le_of_ble_eq_true rfl, Nat.le_of_ble_eq_true rfl⟩) (dk_pvr hK hN hP [0, 1, 2, 3, 4, 5, 6, 7, 8, 9] rfl rfl rfl) rfl rfl hl.1 rfl (lv_room (Nat.le_of_ble_eq_true rfl)) dX6_count_115 ⟨Nat.le_of_ble_eq_true rfl, Nat.le_of_ble_eq_true rfl⟩) ?_
        have h := dk_r h
        subst h
        exact dk_rwi hx hb hr hlocks (hP.sub [0, 1, 2, 3, 4, 5, 6, 7, 8, 9] rfl) (hD.sub [0, 1, 2, 3, 4, 5, 6, 7, 8, 9] (by decide) rfl) hS dX6_count_118 rfl
      replace h := dk_f q h
      exact dk_n h
    · replace h := dk_f q h
      refine lv_iconst (v := 0) hx hb dX6_count_37 (by decide) ?_
      have h := dk_r h
      subst h
      exact dk_rwi hx hb hr hlocks (hP.sub [0, 1, 2, 3, 4, 5, 6, 7, 8, 9] rfl) (hD.sub [0, 1, 2, 3, 4, 5, 6, 7, 8, 9] (by decide) rfl) hS dX6_count_38 rfl
  · replace h := dk_t q h
    refine lv_iconst (v := 2) hx hb dX6_count_8 (by decide) ?_
    refine lv_goto (tgt := 27) hx hb dX6_count_9 (by decide) ?_
    refine va_put (D := D) (ci := 6) (v := .int 2) (ty := .int) (C := "ServiceDiskModel") (T := TX6) (N := 24) hx hb hts inX6 tyX6 tyX6_ok nmX6 hown hK hP hD hS 0 rfl rfl 0 (by decide) (hts _ w_737) (fun _ h9 => h9) rfl (by decide +kernel) rfl rfl (Nat.le_of_ble_eq_true rfl) dX6_count_27 (fun H locs hP hD hS => ?_)
    have hP : va_P D vwCl [(h0, .inr (6, [.int 2, .int v_sectors, .int v_power, .ref a_disk, .ref a_made, .int v_used, .int v_reserve, .int v_cutWrites, .int v_cutBytes, .int v_rows, .ref a_sectorOf, .ref a_placeOf, .ref a_manyOf, .ref a_there, .int v_waits, .ref a_waitKind, .ref a_waitMany, .ref a_waitBytes, .int v_stateNumber, .long v_stateNow, .int v_second, .int v_repaired, .int v_up, .int v_sent])), (a_disk, .inl ((k 2), 32768, .inl v_disk)), (a_made, .inl ((k 2), 512, .inl v_made)), (a_sectorOf, .inl ((k 2), 5100, .inl v_sectorOf)), (a_placeOf, .inl ((k 2), 5100, .inl v_placeOf)), (a_manyOf, .inl ((k 2), 5100, .inl v_manyOf)), (a_there, .inl ((k 1), 5100, .inl v_there)), (a_waitKind, .inl ((k 2), 100, .inl v_waitKind)), (a_waitMany, .inl ((k 2), 100, .inl v_waitMany)), (a_waitBytes, .inl ((k 3), 100, .inr (.inl v_waitBytes)))] H := hP
    have hD : va_D A [(h0, .inr (6, [.int 2, .int v_sectors, .int v_power, .ref a_disk, .ref a_made, .int v_used, .int v_reserve, .int v_cutWrites, .int v_cutBytes, .int v_rows, .ref a_sectorOf, .ref a_placeOf, .ref a_manyOf, .ref a_there, .int v_waits, .ref a_waitKind, .ref a_waitMany, .ref a_waitBytes, .int v_stateNumber, .long v_stateNow, .int v_second, .int v_repaired, .int v_up, .int v_sent])), (a_disk, .inl ((k 2), 32768, .inl v_disk)), (a_made, .inl ((k 2), 512, .inl v_made)), (a_sectorOf, .inl ((k 2), 5100, .inl v_sectorOf)), (a_placeOf, .inl ((k 2), 5100, .inl v_placeOf)), (a_manyOf, .inl ((k 2), 5100, .inl v_manyOf)), (a_there, .inl ((k 1), 5100, .inl v_there)), (a_waitKind, .inl ((k 2), 100, .inl v_waitKind)), (a_waitMany, .inl ((k 2), 100, .inl v_waitMany)), (a_waitBytes, .inl ((k 3), 100, .inr (.inl v_waitBytes)))] := hD
    refine lv_aload_n hx hb dX6_count_30 rfl (lv_at hl 0 rfl) ?_
    refine va_get (D := D) (ci := 6) (v := .int 2) (C := "ServiceDiskModel") (T := TX6) (N := 24) hx hb hts inX6 hown hK hP 0 rfl rfl 0 (by decide) (hts _ w_737) (fun _ h9 => h9) rfl dX6_count_31 ?_
    refine lv_if_le (tgt := 39) hx hb dX6_count_34 (by decide) (fun q => absurd q (by decide)) (fun _ => ?_)
    refine lv_iconst (v := 0) hx hb dX6_count_37 (by decide) ?_
    have h := dk_r h
    subst h
    exact dk_rwi hx hb hr hlocks (hP.sub [0, 1, 2, 3, 4, 5, 6, 7, 8, 9] rfl) (hD.sub [0, 1, 2, 3, 4, 5, 6, 7, 8, 9] (by decide) rfl) hS dX6_count_38 rfl
