/-! java/util/Arrays.fill([BB)V: rw, frames 0, locals 0 -/
def fJ_fill_L5 (n_q1 : Nat) (x1 : Int32) (x3 : Int32) : Nat → (Int32) → (Nat → Int32) → Option (Int32 × (Nat → Int32))
  | 0, _, _ => none
  | n + 1, x2, f_q1 =>
    if x3 ≤ x2 then
      some (x2, f_q1)
    else
      if dk_in x2 n_q1 then
      fJ_fill_L5 n_q1 x1 x3 n (x2 + 1) (upd f_q1 x2.toNatClampNeg (vp_nar .byte x1))
      else none
def fJ_fill (n_q1 : Nat) (f_q1 : Nat → Int32) (p2 : Int32) : Option ((Nat → Int32)) :=
  (fJ_fill_L5 n_q1 p2 (nI n_q1) dkF 0 f_q1).bind fun o1 =>
  some (o1.2)
set_option maxHeartbeats 4000000 in
set_option maxRecDepth 100000 in
theorem lJ_fill_5 {p : Program} {l : Launch} {e : Env} {s : State} {m : MethodId} {below : List Frame} {meth : Method} {c : Code} {args : Array Value} {D : va_G} {k : Nat → ClassId} {h1 : Nat} {n_q1 : Nat} {x1 : Int32} {x3 : Int32} {Q : State → Prop} {o : Int32 × (Nat → Int32)} {A : Nat → Prop} (C : dk_Cx p s m meth c cJ_fill none 4 "java/util/Arrays" dkB args) (hK : va_K D vwCl (dkT k) s) (hN : dk_N s) (hA : ∀ q : Nat, s.heap.size ≤ q → A q) :
    ∀ (n : Nat) (x2 : Int32) (f_q1 : Nat → Int32), fJ_fill_L5 n_q1 x1 x3 n x2 f_q1 = some o → (∀ (H : Heap) (locs : List Loc), va_P D vwCl [(h1, .inl ((k 0), n_q1, .inl o.2))] H → va_D A [(h1, .inl ((k 0), n_q1, .inl o.2))] → va_S A s.heap H locs → ∀ ls : Array Slot, lv_has ls 4 [(0, .ref h1), (1, .int x1), (2, .int o.1), (3, .int x3)] → W p l e { frames := 0, cells := 0, slots := 0, locals := 0 } s m args below meth c H locs 0 0 Q (F0 m 20 ls [])) → ∀ (H : Heap) (locs : List Loc), va_P D vwCl [(h1, .inl ((k 0), n_q1, .inl f_q1))] H → va_D A [(h1, .inl ((k 0), n_q1, .inl f_q1))] → va_S A s.heap H locs → ∀ ls : Array Slot, lv_has ls 4 [(0, .ref h1), (1, .int x1), (2, .int x2), (3, .int x3)] → W p l e { frames := 0, cells := 0, slots := 0, locals := 0 } s m args below meth c H locs 0 0 Q (F0 m 5 ls []) := by
  obtain ⟨hx, hb, hr, hml, hown, hts, hlocks⟩ := id C
  intro n
  induction n with
  | zero =>
    intro x2 f_q1 h
    exact dk_n (o := o) h
  | succ n ih =>
    intro x2 f_q1 h K H locs hP hD hS ls hl
    rw [fJ_fill_L5.eq_2] at h
    refine lv_iload_n hx hb dJ_fill_5 rfl (lv_at hl 2 rfl) ?_
    refine lv_iload_n hx hb dJ_fill_6 rfl (lv_at hl 3 rfl) ?_
    refine lv_icmp_ge (tgt := 20) hx hb dJ_fill_7 (by decide) (fun q => ?_) (fun q => ?_)
    · replace h := dk_t q h
      have h := dk_r h
      subst h
      exact K _ _ (hP.sub [0] rfl) (hD.sub [0] (by decide) rfl) hS ls (lv_sub hl [0, 1, 2, 3] rfl)
    · replace h := dk_f q h
      refine lv_aload_n hx hb dJ_fill_10 rfl (lv_at hl 0 rfl) ?_
      refine lv_iload_n hx hb dJ_fill_11 rfl (lv_at hl 2 rfl) ?_
      refine lv_iload_n hx hb dJ_fill_12 rfl (lv_at hl 1 rfl) ?_
      obtain ⟨q, h⟩ := dk_g h
      refine va_bast hx hb hK hP hD hS 0 0 rfl rfl q dJ_fill_13 (fun H locs hP hD hS => ?_)
      have hP : va_P D vwCl [(h1, .inl ((k 0), n_q1, .inl (upd f_q1 x2.toNatClampNeg (vp_nar .byte x1))))] H := hP
      have hD : va_D A [(h1, .inl ((k 0), n_q1, .inl (upd f_q1 x2.toNatClampNeg (vp_nar .byte x1))))] := hD
      refine lv_iinc (v := (x2 + 1)) (lv' := [(2, .int (x2 + 1)), (0, .ref h1), (1, .int x1), (3, .int x3)]) hx hb dJ_fill_14 hl (k := 2) rfl rfl (by decide) rfl (fun ls hl => ?_)
      refine lv_goto (tgt := 5) hx hb dJ_fill_17 (by decide) ?_
      exact ih (x2 + 1) (upd f_q1 x2.toNatClampNeg (vp_nar .byte x1)) h K _ _ (hP.sub [0] rfl) (hD.sub [0] (by decide) rfl) hS ls (lv_sub hl [1, 2, 0, 3] rfl)
set_option maxHeartbeats 4000000 in
set_option maxRecDepth 100000 in
theorem mJ_fill (l : Launch) (D : va_G) (k : Nat → ClassId) (h1 : Nat) (sz : Nat) (n_q1 : Nat) (f_q1 : Nat → Int32) (p2 : Int32) (o : (Nat → Int32)) (h : fJ_fill n_q1 f_q1 p2 = some o) : Met l yJ_fill wsJ_fill { frames := 0, cells := 0, slots := 0, locals := 0 } (dk_Pw D k [.ref h1, .int p2] [(h1, .inl ((k 0), n_q1, .inl f_q1))] sz) (dk_Qv D [(h1, .inl ((k 0), n_q1, .inl o))] (va_A [(h1, .inl ((k 0), n_q1, .inl f_q1))] sz)) 0 0 (va_A [(h1, .inl ((k 0), n_q1, .inl f_q1))] sz) := by
  unfold fJ_fill at h
  refine dk_ofW (Qc := fun A => dk_Qv D [(h1, .inl ((k 0), n_q1, .inl o))] A) (cc := cJ_fill) (maxL := 4) (ret := none) (lv := [(0, .ref h1), (1, .int p2)]) (by decide) rfl (Nat.le_of_ble_eq_true rfl) rfl ?_
  intro p e s m below meth c C hK hN hP A hA hD hS ls hl
  obtain ⟨hx, hb, hr, hml, hown, hts, hlocks⟩ := id C
  refine lv_iconst (v := 0) hx hb dJ_fill_0 (by decide) ?_
  refine lv_istore_n (lv' := [(2, .int 0), (0, .ref h1), (1, .int p2)]) hx hb dJ_fill_1 rfl hl (by decide) rfl (fun ls hl => ?_)
  refine lv_aload_n hx hb dJ_fill_2 rfl (lv_at hl 1 rfl) ?_
  refine va_alen hx hb hK hP 0 0 rfl rfl (v := (nI n_q1)) rfl dJ_fill_3 ?_
  refine lv_istore_n (lv' := [(3, .int (nI n_q1)), (2, .int 0), (0, .ref h1), (1, .int p2)]) hx hb dJ_fill_4 rfl hl (by decide) rfl (fun ls hl => ?_)
  replace h := dk_b h
  obtain ⟨o1, e1, h⟩ := h
  refine lJ_fill_5 C hK hN hA _ 0 f_q1  e1 (fun H locs hP hD hS ls hl => ?_) _ _ (hP.sub [0] rfl) (hD.sub [0] (by decide) rfl) hS ls (lv_sub hl [2, 3, 1, 0] rfl)
  have hP : va_P D vwCl [(h1, .inl ((k 0), n_q1, .inl o1.2))] H := hP
  have hD : va_D A [(h1, .inl ((k 0), n_q1, .inl o1.2))] := hD
  have hl : lv_has ls 4 [(0, .ref h1), (1, .int p2), (2, .int o1.1), (3, .int (nI n_q1))] := hl
  have h := dk_r h
  subst h
  exact dk_rwv hx hb hr hlocks (hP.sub [0] rfl) (hD.sub [0] (by decide) rfl) hS dJ_fill_20
/-! ServiceDisk.sumStep(II)I: ro, frames 0, locals 0 -/
def fX5_sumStep (p1 : Int32) (p2 : Int32) : Option (Int32) :=
  some ((((p1 ^^^ p2) <<< (5 &&& 31)) ||| (dk_iushr (p1 ^^^ p2) 27)) * (-2048144789))
set_option maxHeartbeats 4000000 in
set_option maxRecDepth 100000 in
theorem mX5_sumStep (l : Launch) (D : va_G) (k : Nat → ClassId) (p1 : Int32) (p2 : Int32) (o : Int32) (h : fX5_sumStep p1 p2 = some o) : Met l yX5_sumStep wsX5_sumStep { frames := 0, cells := 0, slots := 0, locals := 0 } (dk_Pr D k [.int p1, .int p2] []) (vp_Si (fun r => r = o)) 0 0 (fun _ => False) := by
  unfold fX5_sumStep at h
  refine dk_ofR (cc := cX5_sumStep) (maxL := 3) (ret := (some .int)) (lv := [(0, .int p1), (1, .int p2)]) (by decide) rfl (Nat.le_of_ble_eq_true rfl) rfl ?_
  intro p e s m below meth c C hK hN hP ls hl
  obtain ⟨hx, hb, hr, hml, hown, hts, hlocks⟩ := id C
  refine lv_iload_n hx hb dX5_sumStep_0 rfl (lv_at hl 0 rfl) ?_
  refine lv_iload_n hx hb dX5_sumStep_1 rfl (lv_at hl 1 rfl) ?_
  refine lv_ixor hx hb dX5_sumStep_2 ?_
  refine lv_istore_n (lv' := [(2, .int (p1 ^^^ p2)), (0, .int p1), (1, .int p2)]) hx hb dX5_sumStep_3 rfl hl (by decide) rfl (fun ls hl => ?_)
  refine lv_iload_n hx hb dX5_sumStep_4 rfl (lv_at hl 0 rfl) ?_
  refine lv_iconst (v := 5) hx hb dX5_sumStep_5 (by decide) ?_
  refine lv_ishl hx hb dX5_sumStep_6 ?_
  refine lv_iload_n hx hb dX5_sumStep_7 rfl (lv_at hl 0 rfl) ?_
  refine lv_bipush (v := 27) hx hb dX5_sumStep_8 (by decide) ?_
  refine lv_iushr (v := (dk_iushr (p1 ^^^ p2) 27)) hx hb dX5_sumStep_10 rfl ?_
  refine lv_ior hx hb dX5_sumStep_11 ?_
  refine lv_ldcw (v := -2048144789) hx hb hown (hts _ w_457) dX5_sumStep_12 ?_
  refine lv_imul hx hb dX5_sumStep_15 ?_
  have h := dk_r h
  subst h
  exact dk_rri hx hb hr hlocks dX5_sumStep_16 rfl
/-! ServiceDisk.sumOf([BI)I: ro, frames 1, locals 22 -/
def fX5_sumOf_L20 (n_q1 : Nat) (f_q1 : Nat → Int32) (x3 : Int32) : Nat → (Int32) → (Int32) → Option (Int32 × Int32)
  | 0, _, _ => none
  | n + 1, x2, x4 =>
    if x3 ≤ x4 then
      some (x2, x4)
    else
      if dk_in x4 n_q1 then
      (fX5_sumStep x2 ((f_q1 x4.toNatClampNeg) &&& 255)).bind fun o2 =>
      fX5_sumOf_L20 n_q1 f_q1 x3 n o2 (x4 + 1)
      else none
def fX5_sumOf (n_q1 : Nat) (f_q1 : Nat → Int32) (p2 : Int32) : Option (Int32) :=
  (fX5_sumOf_L20 n_q1 f_q1 (if (nI n_q1) < (p2 + 508) then (nI n_q1) else (p2 + 508)) dkF 0 (if p2 < 0 then 0 else p2)).bind fun o1 =>
  some (o1.1)
set_option maxHeartbeats 4000000 in
set_option maxRecDepth 100000 in
theorem lX5_sumOf_20 {p : Program} {l : Launch} {e : Env} {s : State} {m : MethodId} {below : List Frame} {meth : Method} {c : Code} {args : Array Value} {D : va_G} {k : Nat → ClassId} {h1 : Nat} {n_q1 : Nat} {f_q1 : Nat → Int32} {x3 : Int32} {Q : State → Prop} {o : Int32 × Int32} (C : dk_Cx p s m meth c cX5_sumOf (some .int) 5 "ServiceDisk" dkB args) (hK : va_K D vwCl (dkT k) s) (hN : dk_N s) (hP : va_P D vwCl [(h1, .inl ((k 0), n_q1, .inl f_q1))] s.heap) :
    ∀ (n : Nat) (x2 : Int32) (x4 : Int32), fX5_sumOf_L20 n_q1 f_q1 x3 n x2 x4 = some o → (∀ ls : Array Slot, lv_has ls 5 [(0, .ref h1), (2, .int o.1), (3, .int x3), (4, .int o.2)] → W p l e { frames := 1, cells := 0, slots := 0, locals := 22 } s m args below meth c s.heap [] 0 0 Q (F0 m 45 ls [])) → ∀ ls : Array Slot, lv_has ls 5 [(0, .ref h1), (2, .int x2), (3, .int x3), (4, .int x4)] → W p l e { frames := 1, cells := 0, slots := 0, locals := 22 } s m args below meth c s.heap [] 0 0 Q (F0 m 20 ls []) := by
  obtain ⟨hx, hb, hr, hml, hown, hts, hlocks⟩ := id C
  intro n
  induction n with
  | zero =>
    intro x2 x4 h
    exact dk_n (o := o) h
  | succ n ih =>
    intro x2 x4 h K ls hl
    rw [fX5_sumOf_L20.eq_2] at h
    refine lv_iload hx hb dX5_sumOf_20 (lv_at hl 3 rfl) ?_
    refine lv_iload_n hx hb dX5_sumOf_22 rfl (lv_at hl 2 rfl) ?_
    refine lv_icmp_ge (tgt := 45) hx hb dX5_sumOf_23 (by decide) (fun q => ?_) (fun q => ?_)
    · replace h := dk_t q h
      have h := dk_r h
      subst h
      exact K ls (lv_sub hl [0, 1, 2, 3] rfl)
    · replace h := dk_f q h
      refine lv_iload_n hx hb dX5_sumOf_26 rfl (lv_at hl 1 rfl) ?_
      refine lv_aload_n hx hb dX5_sumOf_27 rfl (lv_at hl 0 rfl) ?_
      refine lv_iload hx hb dX5_sumOf_28 (lv_at hl 3 rfl) ?_
      obtain ⟨q, h⟩ := dk_g h
      refine va_bald hx hb hK hP 0 0 rfl rfl q dX5_sumOf_30 ?_
      refine lv_sipush (v := 255) hx hb dX5_sumOf_31 (by decide) ?_
      refine lv_iand hx hb dX5_sumOf_34 ?_
      replace h := dk_b h
      obtain ⟨o2, e2, h⟩ := h
      refine dk_cri (va_runS (As := [.int x2, .int ((f_q1 x4.toNatClampNeg) &&& 255)]) (rest := []) ⟨hx, hb, hml, hown, hts⟩ (mX5_sumStep l D k x2 ((f_q1 x4.toNatClampNeg) &&& 255) o2 e2) (va_cwS 2 hts (dk_gS w_454 w_455 w_40 w_456) rfl rfl rfl (by decide +kernel) ⟨Nat.le_of_ble_eq_true rfl, Nat.le_of_ble_eq_true rfl⟩) (dk_psr hK hN hP [] rfl) rfl rfl hl.1 rfl (lv_room (Nat.le_of_ble_eq_true rfl)) dX5_sumOf_35 ⟨Nat.le_of_ble_eq_true rfl, Nat.le_of_ble_eq_true rfl⟩) ?_
      refine lv_istore_n (lv' := [(2, .int o2), (0, .ref h1), (3, .int x3), (4, .int x4)]) hx hb dX5_sumOf_38 rfl hl (by decide) rfl (fun ls hl => ?_)
      refine lv_iinc (v := (x4 + 1)) (lv' := [(4, .int (x4 + 1)), (2, .int o2), (0, .ref h1), (3, .int x3)]) hx hb dX5_sumOf_39 hl (k := 3) rfl rfl (by decide) rfl (fun ls hl => ?_)
      refine lv_goto (tgt := 20) hx hb dX5_sumOf_42 (by decide) ?_
      exact ih o2 (x4 + 1) h K ls (lv_sub hl [2, 1, 3, 0] rfl)
set_option maxHeartbeats 4000000 in
set_option maxRecDepth 100000 in
theorem mX5_sumOf (l : Launch) (D : va_G) (k : Nat → ClassId) (h1 : Nat) (n_q1 : Nat) (f_q1 : Nat → Int32) (p2 : Int32) (o : Int32) (h : fX5_sumOf n_q1 f_q1 p2 = some o) : Met l yX5_sumOf wsX5_sumOf { frames := 1, cells := 0, slots := 0, locals := 22 } (dk_Pr D k [.ref h1, .int p2] [(h1, .inl ((k 0), n_q1, .inl f_q1))]) (vp_Si (fun r => r = o)) 0 0 (fun _ => False) := by
  unfold fX5_sumOf at h
  refine dk_ofR (cc := cX5_sumOf) (maxL := 5) (ret := (some .int)) (lv := [(0, .ref h1), (1, .int p2)]) (by decide) rfl (Nat.le_of_ble_eq_true rfl) rfl ?_
  intro p e s m below meth c C hK hN hP ls hl
  obtain ⟨hx, hb, hr, hml, hown, hts, hlocks⟩ := id C
  refine lv_iconst (v := 0) hx hb dX5_sumOf_0 (by decide) ?_
  refine lv_istore_n (lv' := [(2, .int 0), (0, .ref h1), (1, .int p2)]) hx hb dX5_sumOf_1 rfl hl (by decide) rfl (fun ls hl => ?_)
  refine lv_iload_n hx hb dX5_sumOf_2 rfl (lv_at hl 2 rfl) ?_
  refine lv_sipush (v := 508) hx hb dX5_sumOf_3 (by decide) ?_
  refine lv_iadd hx hb dX5_sumOf_6 ?_
  refine lv_aload_n hx hb dX5_sumOf_7 rfl (lv_at hl 1 rfl) ?_
  refine va_alen hx hb hK hP 0 0 rfl rfl (v := (nI n_q1)) rfl dX5_sumOf_8 ?_
  refine va_mmin hx hb (hml.trans hl.1.symm) hown (hts _ w_448) (hts _ w_449) (hts _ w_55) (hts _ w_450) (Nat.le_of_ble_eq_true rfl) (Nat.le_of_ble_eq_true rfl) (Nat.zero_le _) (Nat.zero_le _) dX5_sumOf_9 ?_
  refine lv_istore_n (lv' := [(3, .int (if (nI n_q1) < (p2 + 508) then (nI n_q1) else (p2 + 508))), (2, .int 0), (0, .ref h1), (1, .int p2)]) hx hb dX5_sumOf_12 rfl hl (by decide) rfl (fun ls hl => ?_)
  refine lv_iload_n hx hb dX5_sumOf_13 rfl (lv_at hl 3 rfl) ?_
  refine lv_iconst (v := 0) hx hb dX5_sumOf_14 (by decide) ?_
  refine va_mmax hx hb (hml.trans hl.1.symm) hown (hts _ w_451) (hts _ w_452) (hts _ w_55) (hts _ w_453) (Nat.le_of_ble_eq_true rfl) (Nat.le_of_ble_eq_true rfl) (Nat.zero_le _) (Nat.zero_le _) dX5_sumOf_15 ?_
  refine lv_istore (lv' := [(4, .int (if p2 < 0 then 0 else p2)), (3, .int (if (nI n_q1) < (p2 + 508) then (nI n_q1) else (p2 + 508))), (2, .int 0), (0, .ref h1), (1, .int p2)]) hx hb dX5_sumOf_18 hl (by decide) rfl (fun ls hl => ?_)
  replace h := dk_b h
  obtain ⟨o1, e1, h⟩ := h
  refine lX5_sumOf_20 C hK hN hP _ 0 (if p2 < 0 then 0 else p2)  e1 (fun ls hl => ?_) ls (lv_sub hl [3, 2, 1, 0] rfl)
  have hl : lv_has ls 5 [(0, .ref h1), (2, .int o1.1), (3, .int (if (nI n_q1) < (p2 + 508) then (nI n_q1) else (p2 + 508))), (4, .int o1.2)] := hl
  refine lv_iload_n hx hb dX5_sumOf_45 rfl (lv_at hl 1 rfl) ?_
  have h := dk_r h
  subst h
  exact dk_rri hx hb hr hlocks dX5_sumOf_46 rfl
/-! ServiceDisk$Disk.firstCell(II)I: ro, frames 0, locals 0 -/
def fX0_firstCell (p1 : Int32) (p2 : Int32) : Option (Int32) :=
  some (((p1 * 32) + p2) * 512)
set_option maxHeartbeats 4000000 in
set_option maxRecDepth 100000 in
theorem mX0_firstCell (l : Launch) (D : va_G) (k : Nat → ClassId) (h0 a_cells : Nat) (v_sectors : Int32) (v_cutWaits : Int32) (v_writesBeforeCut : Int32) (v_bytesOfCut : Int32) (v_cells : Nat → Int32) (p1 : Int32) (p2 : Int32) (o : Int32) (h : fX0_firstCell p1 p2 = some o) : Met l yX0_firstCell wsX0_firstCell { frames := 0, cells := 0, slots := 0, locals := 0 } (dk_Pr D k [.ref h0, .int p1, .int p2] [(h0, .inr (0, [.ref a_cells, .int v_sectors, .int v_cutWaits, .int v_writesBeforeCut, .int v_bytesOfCut])), (a_cells, .inl ((k 0), 32768, .inl v_cells))]) (vp_Si (fun r => r = o)) 0 0 (fun _ => False) := by
  unfold fX0_firstCell at h
  refine dk_ofR (cc := cX0_firstCell) (maxL := 3) (ret := (some .int)) (lv := [(0, .ref h0), (1, .int p1), (2, .int p2)]) (by decide) rfl (Nat.le_of_ble_eq_true rfl) rfl ?_
  intro p e s m below meth c C hK hN hP ls hl
  obtain ⟨hx, hb, hr, hml, hown, hts, hlocks⟩ := id C
  refine lv_iload_n hx hb dX0_firstCell_0 rfl (lv_at hl 1 rfl) ?_
  refine lv_bipush (v := 32) hx hb dX0_firstCell_1 (by decide) ?_
  refine lv_imul hx hb dX0_firstCell_3 ?_
  refine lv_iload_n hx hb dX0_firstCell_4 rfl (lv_at hl 2 rfl) ?_
  refine lv_iadd hx hb dX0_firstCell_5 ?_
  refine lv_sipush (v := 512) hx hb dX0_firstCell_6 (by decide) ?_
  refine lv_imul hx hb dX0_firstCell_9 ?_
  have h := dk_r h
  subst h
  exact dk_rri hx hb hr hlocks dX0_firstCell_10 rfl
/-! ServiceDisk$Disk.byteOf(I)I: ro, frames 0, locals 0 -/
def fX0_byteOf (v_cells : Nat → Int32) (p1 : Int32) : Option (Int32) :=
  if p1 < 0 then
    some 0
  else
    if (nI 32768) ≤ p1 then
      some 0
    else
      if dk_in p1 32768 then
      some ((v_cells p1.toNatClampNeg) &&& 255)
      else none
set_option maxHeartbeats 4000000 in
set_option maxRecDepth 100000 in
theorem mX0_byteOf (l : Launch) (D : va_G) (k : Nat → ClassId) (h0 a_cells : Nat) (v_sectors : Int32) (v_cutWaits : Int32) (v_writesBeforeCut : Int32) (v_bytesOfCut : Int32) (v_cells : Nat → Int32) (p1 : Int32) (o : Int32) (h : fX0_byteOf v_cells p1 = some o) : Met l yX0_byteOf wsX0_byteOf { frames := 0, cells := 0, slots := 0, locals := 0 } (dk_Pr D k [.ref h0, .int p1] [(h0, .inr (0, [.ref a_cells, .int v_sectors, .int v_cutWaits, .int v_writesBeforeCut, .int v_bytesOfCut])), (a_cells, .inl ((k 0), 32768, .inl v_cells))]) (vp_Si (fun r => r = o)) 0 0 (fun _ => False) := by
  unfold fX0_byteOf at h
  refine dk_ofR (cc := cX0_byteOf) (maxL := 2) (ret := (some .int)) (lv := [(0, .ref h0), (1, .int p1)]) (by decide) rfl (Nat.le_of_ble_eq_true rfl) rfl ?_
  intro p e s m below meth c C hK hN hP ls hl
  obtain ⟨hx, hb, hr, hml, hown, hts, hlocks⟩ := id C
  refine lv_iload_n hx hb dX0_byteOf_0 rfl (lv_at hl 1 rfl) ?_
  refine lv_if_lt (tgt := 26) hx hb dX0_byteOf_1 (by decide) (fun q => ?_) (fun q => ?_)
  · replace h := dk_t q h
    refine lv_iconst (v := 0) hx hb dX0_byteOf_26 (by decide) ?_
    have h := dk_r h
    subst h
    exact dk_rri hx hb hr hlocks dX0_byteOf_27 rfl
  · replace h := dk_f q h
    refine lv_iload_n hx hb dX0_byteOf_4 rfl (lv_at hl 1 rfl) ?_
    refine lv_aload_n hx hb dX0_byteOf_5 rfl (lv_at hl 0 rfl) ?_
    refine va_get (D := D) (ci := 0) (v := .ref a_cells) (C := "ServiceDisk$Disk") (T := TX0) (N := 5) hx hb hts inX0 hown hK hP 0 rfl rfl 0 (by decide) (hts _ w_72) (fun _ h9 => h9) rfl dX0_byteOf_6 ?_
    refine va_alen hx hb hK hP 1 0 rfl rfl (v := (nI 32768)) rfl dX0_byteOf_9 ?_
    refine lv_icmp_ge (tgt := 26) hx hb dX0_byteOf_10 (by decide) (fun q => ?_) (fun q => ?_)
    · replace h := dk_t q h
      refine lv_iconst (v := 0) hx hb dX0_byteOf_26 (by decide) ?_
      have h := dk_r h
      subst h
      exact dk_rri hx hb hr hlocks dX0_byteOf_27 rfl
    · replace h := dk_f q h
      refine lv_aload_n hx hb dX0_byteOf_13 rfl (lv_at hl 0 rfl) ?_
      refine va_get (D := D) (ci := 0) (v := .ref a_cells) (C := "ServiceDisk$Disk") (T := TX0) (N := 5) hx hb hts inX0 hown hK hP 0 rfl rfl 0 (by decide) (hts _ w_72) (fun _ h9 => h9) rfl dX0_byteOf_14 ?_
      refine lv_iload_n hx hb dX0_byteOf_17 rfl (lv_at hl 1 rfl) ?_
      obtain ⟨q, h⟩ := dk_g h
      refine va_bald hx hb hK hP 1 0 rfl rfl q dX0_byteOf_18 ?_
      refine lv_sipush (v := 255) hx hb dX0_byteOf_19 (by decide) ?_
      refine lv_iand hx hb dX0_byteOf_22 ?_
      refine lv_goto (tgt := 27) hx hb dX0_byteOf_23 (by decide) ?_
      have h := dk_r h
      subst h
      exact dk_rri hx hb hr hlocks dX0_byteOf_27 rfl
/-! ServiceDisk$Disk.intOf(I)I: ro, frames 1, locals 21 -/
def fX0_intOf_L4 (v_cells : Nat → Int32) (x1 : Int32) : Nat → (Int32) → (Int32) → Option (Int32 × Int32)
  | 0, _, _ => none
  | n + 1, x2, x3 =>
    if (4 : Int32) ≤ x3 then
      some (x2, x3)
    else
      (fX0_byteOf v_cells (x1 + x3)).bind fun o2 =>
      fX0_intOf_L4 v_cells x1 n ((x2 <<< (8 &&& 31)) ||| o2) (x3 + 1)
def fX0_intOf (v_cells : Nat → Int32) (p1 : Int32) : Option (Int32) :=
  (fX0_intOf_L4 v_cells p1 dkF 0 0).bind fun o1 =>
  some (o1.1)
set_option maxHeartbeats 4000000 in
set_option maxRecDepth 100000 in
theorem lX0_intOf_4 {p : Program} {l : Launch} {e : Env} {s : State} {m : MethodId} {below : List Frame} {meth : Method} {c : Code} {args : Array Value} {D : va_G} {k : Nat → ClassId} {h0 : Nat} {a_cells : Nat} {v_sectors : Int32} {v_cutWaits : Int32} {v_writesBeforeCut : Int32} {v_bytesOfCut : Int32} {v_cells : Nat → Int32} {x1 : Int32} {Q : State → Prop} {o : Int32 × Int32} (C : dk_Cx p s m meth c cX0_intOf (some .int) 4 "ServiceDisk$Disk" dkB args) (hK : va_K D vwCl (dkT k) s) (hN : dk_N s) (hP : va_P D vwCl [(h0, .inr (0, [.ref a_cells, .int v_sectors, .int v_cutWaits, .int v_writesBeforeCut, .int v_bytesOfCut])), (a_cells, .inl ((k 0), 32768, .inl v_cells))] s.heap) :
    ∀ (n : Nat) (x2 : Int32) (x3 : Int32), fX0_intOf_L4 v_cells x1 n x2 x3 = some o → (∀ ls : Array Slot, lv_has ls 4 [(0, .ref h0), (1, .int x1), (2, .int o.1), (3, .int o.2)] → W p l e { frames := 1, cells := 0, slots := 0, locals := 21 } s m args below meth c s.heap [] 0 0 Q (F0 m 28 ls [])) → ∀ ls : Array Slot, lv_has ls 4 [(0, .ref h0), (1, .int x1), (2, .int x2), (3, .int x3)] → W p l e { frames := 1, cells := 0, slots := 0, locals := 21 } s m args below meth c s.heap [] 0 0 Q (F0 m 4 ls []) := by
  obtain ⟨hx, hb, hr, hml, hown, hts, hlocks⟩ := id C
  intro n
  induction n with
  | zero =>
    intro x2 x3 h
    exact dk_n (o := o) h
  | succ n ih =>
    intro x2 x3 h K ls hl
    rw [fX0_intOf_L4.eq_2] at h
    refine lv_iload_n hx hb dX0_intOf_4 rfl (lv_at hl 3 rfl) ?_
    refine lv_iconst (v := 4) hx hb dX0_intOf_5 (by decide) ?_
    refine lv_icmp_ge (tgt := 28) hx hb dX0_intOf_6 (by decide) (fun q => ?_) (fun q => ?_)
    · replace h := dk_t q h
      have h := dk_r h
      subst h
      exact K ls (lv_sub hl [0, 1, 2, 3] rfl)
    · replace h := dk_f q h
      refine lv_iload_n hx hb dX0_intOf_9 rfl (lv_at hl 2 rfl) ?_
      refine lv_bipush (v := 8) hx hb dX0_intOf_10 (by decide) ?_
      refine lv_ishl hx hb dX0_intOf_12 ?_
      refine lv_aload_n hx hb dX0_intOf_13 rfl (lv_at hl 0 rfl) ?_
      refine lv_iload_n hx hb dX0_intOf_14 rfl (lv_at hl 1 rfl) ?_
      refine lv_iload_n hx hb dX0_intOf_15 rfl (lv_at hl 3 rfl) ?_
      refine lv_iadd hx hb dX0_intOf_16 ?_
      replace h := dk_b h
      obtain ⟨o2, e2, h⟩ := h
      refine dk_cri (va_runV (As := [.int (x1 + x3)]) (rest := [.int (x2 <<< (8 &&& 31))]) ⟨hx, hb, hml, hown, hts⟩ (mX0_byteOf l D k h0 a_cells v_sectors v_cutWaits v_writesBeforeCut v_bytesOfCut v_cells (x1 + x3) o2 e2) (cwV 1 hts (dk_gV w_538 w_540 w_11 w_41 w_541) rfl rfl rfl (by decide +kernel) ⟨Nat.le_of_ble_eq_true rfl, Nat.le_of_ble_eq_true rfl⟩) (dk_pvr hK hN hP [0, 1] rfl rfl rfl) rfl rfl hl.1 rfl (lv_room (Nat.le_of_ble_eq_true rfl)) dX0_intOf_17 ⟨Nat.le_of_ble_eq_true rfl, Nat.le_of_ble_eq_true rfl⟩) ?_
      refine lv_ior hx hb dX0_intOf_20 ?_
      refine lv_istore_n (lv' := [(2, .int ((x2 <<< (8 &&& 31)) ||| o2)), (0, .ref h0), (1, .int x1), (3, .int x3)]) hx hb dX0_intOf_21 rfl hl (by decide) rfl (fun ls hl => ?_)
      refine lv_iinc (v := (x3 + 1)) (lv' := [(3, .int (x3 + 1)), (2, .int ((x2 <<< (8 &&& 31)) ||| o2)), (0, .ref h0), (1, .int x1)]) hx hb dX0_intOf_22 hl (k := 3) rfl rfl (by decide) rfl (fun ls hl => ?_)
      refine lv_goto (tgt := 4) hx hb dX0_intOf_25 (by decide) ?_
      exact ih ((x2 <<< (8 &&& 31)) ||| o2) (x3 + 1) h K ls (lv_sub hl [2, 3, 1, 0] rfl)
set_option maxHeartbeats 4000000 in
set_option maxRecDepth 100000 in
theorem mX0_intOf (l : Launch) (D : va_G) (k : Nat → ClassId) (h0 a_cells : Nat) (v_sectors : Int32) (v_cutWaits : Int32) (v_writesBeforeCut : Int32) (v_bytesOfCut : Int32) (v_cells : Nat → Int32) (p1 : Int32) (o : Int32) (h : fX0_intOf v_cells p1 = some o) : Met l yX0_intOf wsX0_intOf { frames := 1, cells := 0, slots := 0, locals := 21 } (dk_Pr D k [.ref h0, .int p1] [(h0, .inr (0, [.ref a_cells, .int v_sectors, .int v_cutWaits, .int v_writesBeforeCut, .int v_bytesOfCut])), (a_cells, .inl ((k 0), 32768, .inl v_cells))]) (vp_Si (fun r => r = o)) 0 0 (fun _ => False) := by
  unfold fX0_intOf at h
  refine dk_ofR (cc := cX0_intOf) (maxL := 4) (ret := (some .int)) (lv := [(0, .ref h0), (1, .int p1)]) (by decide) rfl (Nat.le_of_ble_eq_true rfl) rfl ?_
  intro p e s m below meth c C hK hN hP ls hl
  obtain ⟨hx, hb, hr, hml, hown, hts, hlocks⟩ := id C
  refine lv_iconst (v := 0) hx hb dX0_intOf_0 (by decide) ?_
  refine lv_istore_n (lv' := [(2, .int 0), (0, .ref h0), (1, .int p1)]) hx hb dX0_intOf_1 rfl hl (by decide) rfl (fun ls hl => ?_)
  refine lv_iconst (v := 0) hx hb dX0_intOf_2 (by decide) ?_
  refine lv_istore_n (lv' := [(3, .int 0), (2, .int 0), (0, .ref h0), (1, .int p1)]) hx hb dX0_intOf_3 rfl hl (by decide) rfl (fun ls hl => ?_)
  replace h := dk_b h
  obtain ⟨o1, e1, h⟩ := h
  refine lX0_intOf_4 C hK hN hP _ 0 0  e1 (fun ls hl => ?_) ls (lv_sub hl [2, 3, 1, 0] rfl)
  have hl : lv_has ls 4 [(0, .ref h0), (1, .int p1), (2, .int o1.1), (3, .int o1.2)] := hl
  refine lv_iload_n hx hb dX0_intOf_28 rfl (lv_at hl 2 rfl) ?_
  have h := dk_r h
  subst h
  exact dk_rri hx hb hr hlocks dX0_intOf_29 rfl
/-! ServiceDisk$Disk.dataBytesOf(I)I: ro, frames 1, locals 21 -/
def fX0_dataBytesOf (v_cells : Nat → Int32) (p1 : Int32) : Option (Int32) :=
  (fX0_byteOf v_cells (p1 + 4)).bind fun o1 =>
  (fX0_byteOf v_cells ((p1 + 4) + 1)).bind fun o2 =>
  some ((o1 <<< (8 &&& 31)) ||| o2)
set_option maxHeartbeats 4000000 in
set_option maxRecDepth 100000 in
theorem mX0_dataBytesOf (l : Launch) (D : va_G) (k : Nat → ClassId) (h0 a_cells : Nat) (v_sectors : Int32) (v_cutWaits : Int32) (v_writesBeforeCut : Int32) (v_bytesOfCut : Int32) (v_cells : Nat → Int32) (p1 : Int32) (o : Int32) (h : fX0_dataBytesOf v_cells p1 = some o) : Met l yX0_dataBytesOf wsX0_dataBytesOf { frames := 1, cells := 0, slots := 0, locals := 21 } (dk_Pr D k [.ref h0, .int p1] [(h0, .inr (0, [.ref a_cells, .int v_sectors, .int v_cutWaits, .int v_writesBeforeCut, .int v_bytesOfCut])), (a_cells, .inl ((k 0), 32768, .inl v_cells))]) (vp_Si (fun r => r = o)) 0 0 (fun _ => False) := by
  unfold fX0_dataBytesOf at h
  refine dk_ofR (cc := cX0_dataBytesOf) (maxL := 2) (ret := (some .int)) (lv := [(0, .ref h0), (1, .int p1)]) (by decide) rfl (Nat.le_of_ble_eq_true rfl) rfl ?_
  intro p e s m below meth c C hK hN hP ls hl
  obtain ⟨hx, hb, hr, hml, hown, hts, hlocks⟩ := id C
  refine lv_aload_n hx hb dX0_dataBytesOf_0 rfl (lv_at hl 0 rfl) ?_
  refine lv_iload_n hx hb dX0_dataBytesOf_1 rfl (lv_at hl 1 rfl) ?_
  refine lv_iconst (v := 4) hx hb dX0_dataBytesOf_2 (by decide) ?_
  refine lv_iadd hx hb dX0_dataBytesOf_3 ?_
  replace h := dk_b h
  obtain ⟨o1, e1, h⟩ := h
  refine dk_cri (va_runV (As := [.int (p1 + 4)]) (rest := []) ⟨hx, hb, hml, hown, hts⟩ (mX0_byteOf l D k h0 a_cells v_sectors v_cutWaits v_writesBeforeCut v_bytesOfCut v_cells (p1 + 4) o1 e1) (cwV 1 hts (dk_gV w_538 w_540 w_11 w_41 w_541) rfl rfl rfl (by decide +kernel) ⟨Nat.le_of_ble_eq_true rfl, Nat.le_of_ble_eq_true rfl⟩) (dk_pvr hK hN hP [0, 1] rfl rfl rfl) rfl rfl hl.1 rfl (lv_room (Nat.le_of_ble_eq_true rfl)) dX0_dataBytesOf_4 ⟨Nat.le_of_ble_eq_true rfl, Nat.le_of_ble_eq_true rfl⟩) ?_
  refine lv_bipush (v := 8) hx hb dX0_dataBytesOf_7 (by decide) ?_
  refine lv_ishl hx hb dX0_dataBytesOf_9 ?_
  refine lv_aload_n hx hb dX0_dataBytesOf_10 rfl (lv_at hl 0 rfl) ?_
  refine lv_iload_n hx hb dX0_dataBytesOf_11 rfl (lv_at hl 1 rfl) ?_
  refine lv_iconst (v := 4) hx hb dX0_dataBytesOf_12 (by decide) ?_
  refine lv_iadd hx hb dX0_dataBytesOf_13 ?_
  refine lv_iconst (v := 1) hx hb dX0_dataBytesOf_14 (by decide) ?_
  refine lv_iadd hx hb dX0_dataBytesOf_15 ?_
  replace h := dk_b h
  obtain ⟨o2, e2, h⟩ := h
  refine dk_cri (va_runV (As := [.int ((p1 + 4) + 1)]) (rest := [.int (o1 <<< (8 &&& 31))]) ⟨hx, hb, hml, hown, hts⟩ (mX0_byteOf l D k h0 a_cells v_sectors v_cutWaits v_writesBeforeCut v_bytesOfCut v_cells ((p1 + 4) + 1) o2 e2) (cwV 1 hts (dk_gV w_538 w_540 w_11 w_41 w_541) rfl rfl rfl (by decide +kernel) ⟨Nat.le_of_ble_eq_true rfl, Nat.le_of_ble_eq_true rfl⟩) (dk_pvr hK hN hP [0, 1] rfl rfl rfl) rfl rfl hl.1 rfl (lv_room (Nat.le_of_ble_eq_true rfl)) dX0_dataBytesOf_16 ⟨Nat.le_of_ble_eq_true rfl, Nat.le_of_ble_eq_true rfl⟩) ?_
  refine lv_ior hx hb dX0_dataBytesOf_19 ?_
  have h := dk_r h
  subst h
  exact dk_rri hx hb hr hlocks dX0_dataBytesOf_20 rfl
/-! ServiceDisk$Disk.hasWholeRows(I)Z: ro, frames 2, locals 42 -/
def fX0_hasWholeRows_L35 (v_cells : Nat → Int32) (x3 : Int32) : Nat → (Int32) → (Int32) → Option (Int32)
  | 0, _, _ => none
  | n + 1, x4, x5 =>
    if (167 : Int32) ≤ x5 then
      if dk_01 (if x4 = x3 then 1 else 0) then some (if x4 = x3 then 1 else 0) else none
    else
      if x3 ≤ x4 then
        if dk_01 (if x4 = x3 then 1 else 0) then some (if x4 = x3 then 1 else 0) else none
      else
        (fX0_byteOf v_cells (x4 + 1)).bind fun o2 =>
        (fX0_byteOf v_cells x4).bind fun o3 =>
        if (8 : Int32) ≤ o3 then
          some 0
        else
          if o2 = 0 then
            some 0
          else
            if o2 ≤ (8 : Int32) then
              fX0_hasWholeRows_L35 v_cells x3 n (x4 + (2 + o2)) (x5 + 1)
            else
              some 0
def fX0_hasWholeRows (v_cells : Nat → Int32) (p1 : Int32) : Option (Int32) :=
  (fX0_dataBytesOf v_cells p1).bind fun o1 =>
  if o1 = 0 then
    some 0
  else
    if o1 ≤ (502 : Int32) then
      fX0_hasWholeRows_L35 v_cells ((p1 + 6) + o1) dkF (p1 + 6) 0
    else
      some 0
set_option maxHeartbeats 4000000 in
set_option maxRecDepth 100000 in
theorem lX0_hasWholeRows_35 {p : Program} {l : Launch} {e : Env} {s : State} {m : MethodId} {below : List Frame} {meth : Method} {c : Code} {args : Array Value} {D : va_G} {k : Nat → ClassId} {h0 : Nat} {a_cells : Nat} {v_sectors : Int32} {v_cutWaits : Int32} {v_writesBeforeCut : Int32} {v_bytesOfCut : Int32} {v_cells : Nat → Int32} {x3 : Int32} {o : Int32} (C : dk_Cx p s m meth c cX0_hasWholeRows (some .boolean) 7 "ServiceDisk$Disk" dkB args) (hK : va_K D vwCl (dkT k) s) (hN : dk_N s) (hP : va_P D vwCl [(h0, .inr (0, [.ref a_cells, .int v_sectors, .int v_cutWaits, .int v_writesBeforeCut, .int v_bytesOfCut])), (a_cells, .inl ((k 0), 32768, .inl v_cells))] s.heap) :
    ∀ (n : Nat) (x4 : Int32) (x5 : Int32), fX0_hasWholeRows_L35 v_cells x3 n x4 x5 = some o → ∀ ls : Array Slot, lv_has ls 7 [(0, .ref h0), (3, .int x3), (4, .int x4), (5, .int x5)] → W p l e { frames := 2, cells := 0, slots := 0, locals := 42 } s m args below meth c s.heap [] 0 0 (MQ below (vp_Si (fun r => r = o)) args s 0 0 (fun _ => False)) (F0 m 35 ls []) := by
  obtain ⟨hx, hb, hr, hml, hown, hts, hlocks⟩ := id C
  intro n
  induction n with
  | zero =>
    intro x4 x5 h
    exact dk_n (o := o) h
  | succ n ih =>
    intro x4 x5 h ls hl
    rw [fX0_hasWholeRows_L35.eq_2] at h
    refine lv_iload hx hb dX0_hasWholeRows_35 (lv_at hl 3 rfl) ?_
    refine lv_sipush (v := 167) hx hb dX0_hasWholeRows_37 (by decide) ?_
    refine lv_icmp_ge (tgt := 99) hx hb dX0_hasWholeRows_40 (by decide) (fun q => ?_) (fun q => ?_)
    · replace h := dk_t q h
      refine lv_iload hx hb dX0_hasWholeRows_99 (lv_at hl 2 rfl) ?_
      refine lv_iload_n hx hb dX0_hasWholeRows_101 rfl (lv_at hl 1 rfl) ?_
      refine dk_jn (F0 m 110 ls [.int (if x4 = x3 then 1 else 0)]) (fun K => ?_) ?_
      · refine lv_icmp_ne (tgt := 109) hx hb dX0_hasWholeRows_102 (by decide) (fun q1 => ?_) (fun q1 => ?_)
        · refine lv_iconst (v := 0) hx hb dX0_hasWholeRows_109 (by decide) ?_
          have K := K
          rw [if_neg q1] at K
          exact K
        · refine lv_iconst (v := 1) hx hb dX0_hasWholeRows_105 (by decide) ?_
          refine lv_goto (tgt := 110) hx hb dX0_hasWholeRows_106 (by decide) ?_
          have K := K
          rw [if_pos q1] at K
          exact K
      obtain ⟨q, h⟩ := dk_g h
      have h := dk_r h
      subst h
      exact dk_rrz hx hb hr q hlocks dX0_hasWholeRows_110 rfl
    · replace h := dk_f q h
      refine lv_iload hx hb dX0_hasWholeRows_43 (lv_at hl 2 rfl) ?_
      refine lv_iload_n hx hb dX0_hasWholeRows_45 rfl (lv_at hl 1 rfl) ?_
      refine lv_icmp_ge (tgt := 99) hx hb dX0_hasWholeRows_46 (by decide) (fun q => ?_) (fun q => ?_)
      · replace h := dk_t q h
        refine lv_iload hx hb dX0_hasWholeRows_99 (lv_at hl 2 rfl) ?_
        refine lv_iload_n hx hb dX0_hasWholeRows_101 rfl (lv_at hl 1 rfl) ?_
        refine dk_jn (F0 m 110 ls [.int (if x4 = x3 then 1 else 0)]) (fun K => ?_) ?_
        · refine lv_icmp_ne (tgt := 109) hx hb dX0_hasWholeRows_102 (by decide) (fun q1 => ?_) (fun q1 => ?_)
          · refine lv_iconst (v := 0) hx hb dX0_hasWholeRows_109 (by decide) ?_
            have K := K
            rw [if_neg q1] at K
            exact K
          · refine lv_iconst (v := 1) hx hb dX0_hasWholeRows_105 (by decide) ?_
            refine lv_goto (tgt := 110) hx hb dX0_hasWholeRows_106 (by decide) ?_
            have K := K
            rw [if_pos q1] at K
            exact K
        obtain ⟨q, h⟩ := dk_g h
        have h := dk_r h
        subst h
        exact dk_rrz hx hb hr q hlocks dX0_hasWholeRows_110 rfl
      · replace h := dk_f q h
        refine lv_aload_n hx hb dX0_hasWholeRows_49 rfl (lv_at hl 0 rfl) ?_
        refine lv_iload hx hb dX0_hasWholeRows_50 (lv_at hl 2 rfl) ?_
        refine lv_iconst (v := 1) hx hb dX0_hasWholeRows_52 (by decide) ?_
        refine lv_iadd hx hb dX0_hasWholeRows_53 ?_
        replace h := dk_b h
        obtain ⟨o2, e2, h⟩ := h
        refine dk_cri (va_runV (As := [.int (x4 + 1)]) (rest := []) ⟨hx, hb, hml, hown, hts⟩ (mX0_byteOf l D k h0 a_cells v_sectors v_cutWaits v_writesBeforeCut v_bytesOfCut v_cells (x4 + 1) o2 e2) (cwV 1 hts (dk_gV w_538 w_540 w_11 w_41 w_541) rfl rfl rfl (by decide +kernel) ⟨Nat.le_of_ble_eq_true rfl, Nat.le_of_ble_eq_true rfl⟩) (dk_pvr hK hN hP [0, 1] rfl rfl rfl) rfl rfl hl.1 rfl (lv_room (Nat.le_of_ble_eq_true rfl)) dX0_hasWholeRows_54 ⟨Nat.le_of_ble_eq_true rfl, Nat.le_of_ble_eq_true rfl⟩) ?_
        refine lv_istore (lv' := [(6, .int o2), (0, .ref h0), (3, .int x3), (4, .int x4), (5, .int x5)]) hx hb dX0_hasWholeRows_57 hl (by decide) rfl (fun ls hl => ?_)
        refine lv_aload_n hx hb dX0_hasWholeRows_59 rfl (lv_at hl 1 rfl) ?_
        refine lv_iload hx hb dX0_hasWholeRows_60 (lv_at hl 3 rfl) ?_
        replace h := dk_b h
        obtain ⟨o3, e3, h⟩ := h
        refine dk_cri (va_runV (As := [.int x4]) (rest := []) ⟨hx, hb, hml, hown, hts⟩ (mX0_byteOf l D k h0 a_cells v_sectors v_cutWaits v_writesBeforeCut v_bytesOfCut v_cells x4 o3 e3) (cwV 1 hts (dk_gV w_538 w_540 w_11 w_41 w_541) rfl rfl rfl (by decide +kernel) ⟨Nat.le_of_ble_eq_true rfl, Nat.le_of_ble_eq_true rfl⟩) (dk_pvr hK hN hP [0, 1] rfl rfl rfl) rfl rfl hl.1 rfl (lv_room (Nat.le_of_ble_eq_true rfl)) dX0_hasWholeRows_62 ⟨Nat.le_of_ble_eq_true rfl, Nat.le_of_ble_eq_true rfl⟩) ?_
        refine lv_bipush (v := 8) hx hb dX0_hasWholeRows_65 (by decide) ?_
        refine lv_icmp_ge (tgt := 82) hx hb dX0_hasWholeRows_67 (by decide) (fun q => ?_) (fun q => ?_)
        · replace h := dk_t q h
          refine lv_iconst (v := 0) hx hb dX0_hasWholeRows_82 (by decide) ?_
          have h := dk_r h
          subst h
          exact dk_rrz hx hb hr (Or.inl rfl) hlocks dX0_hasWholeRows_83 rfl
        · replace h := dk_f q h
          refine lv_iload hx hb dX0_hasWholeRows_70 (lv_at hl 0 rfl) ?_
          refine lv_if_eq (tgt := 82) hx hb dX0_hasWholeRows_72 (by decide) (fun q => ?_) (fun q => ?_)
          · replace h := dk_t q h
            refine lv_iconst (v := 0) hx hb dX0_hasWholeRows_82 (by decide) ?_
            have h := dk_r h
            subst h
            exact dk_rrz hx hb hr (Or.inl rfl) hlocks dX0_hasWholeRows_83 rfl
          · replace h := dk_f q h
            refine lv_iload hx hb dX0_hasWholeRows_75 (lv_at hl 0 rfl) ?_
            refine lv_bipush (v := 8) hx hb dX0_hasWholeRows_77 (by decide) ?_
            refine lv_icmp_le (tgt := 84) hx hb dX0_hasWholeRows_79 (by decide) (fun q => ?_) (fun q => ?_)
            · replace h := dk_t q h
              refine lv_iload hx hb dX0_hasWholeRows_84 (lv_at hl 3 rfl) ?_
              refine lv_iconst (v := 2) hx hb dX0_hasWholeRows_86 (by decide) ?_
              refine lv_iload hx hb dX0_hasWholeRows_87 (lv_at hl 0 rfl) ?_
              refine lv_iadd hx hb dX0_hasWholeRows_89 ?_
              refine lv_iadd hx hb dX0_hasWholeRows_90 ?_
              refine lv_istore (lv' := [(4, .int (x4 + (2 + o2))), (6, .int o2), (0, .ref h0), (3, .int x3), (5, .int x5)]) hx hb dX0_hasWholeRows_91 hl (by decide) rfl (fun ls hl => ?_)
              refine lv_iinc (v := (x5 + 1)) (lv' := [(5, .int (x5 + 1)), (4, .int (x4 + (2 + o2))), (6, .int o2), (0, .ref h0), (3, .int x3)]) hx hb dX0_hasWholeRows_93 hl (k := 4) rfl rfl (by decide) rfl (fun ls hl => ?_)
              refine lv_goto (tgt := 35) hx hb dX0_hasWholeRows_96 (by decide) ?_
              exact ih (x4 + (2 + o2)) (x5 + 1) h ls (lv_sub hl [3, 4, 1, 0] rfl)
            · replace h := dk_f q h
              refine lv_iconst (v := 0) hx hb dX0_hasWholeRows_82 (by decide) ?_
              have h := dk_r h
              subst h
              exact dk_rrz hx hb hr (Or.inl rfl) hlocks dX0_hasWholeRows_83 rfl
set_option maxHeartbeats 4000000 in
set_option maxRecDepth 100000 in
theorem mX0_hasWholeRows (l : Launch) (D : va_G) (k : Nat → ClassId) (h0 a_cells : Nat) (v_sectors : Int32) (v_cutWaits : Int32) (v_writesBeforeCut : Int32) (v_bytesOfCut : Int32) (v_cells : Nat → Int32) (p1 : Int32) (o : Int32) (h : fX0_hasWholeRows v_cells p1 = some o) : Met l yX0_hasWholeRows wsX0_hasWholeRows { frames := 2, cells := 0, slots := 0, locals := 42 } (dk_Pr D k [.ref h0, .int p1] [(h0, .inr (0, [.ref a_cells, .int v_sectors, .int v_cutWaits, .int v_writesBeforeCut, .int v_bytesOfCut])), (a_cells, .inl ((k 0), 32768, .inl v_cells))]) (vp_Si (fun r => r = o)) 0 0 (fun _ => False) := by
  unfold fX0_hasWholeRows at h
  refine dk_ofR (cc := cX0_hasWholeRows) (maxL := 7) (ret := (some .boolean)) (lv := [(0, .ref h0), (1, .int p1)]) (by decide) rfl (Nat.le_of_ble_eq_true rfl) rfl ?_
  intro p e s m below meth c C hK hN hP ls hl
  obtain ⟨hx, hb, hr, hml, hown, hts, hlocks⟩ := id C
  refine lv_aload_n hx hb dX0_hasWholeRows_0 rfl (lv_at hl 0 rfl) ?_
  refine lv_iload_n hx hb dX0_hasWholeRows_1 rfl (lv_at hl 1 rfl) ?_
  replace h := dk_b h
  obtain ⟨o1, e1, h⟩ := h
  refine dk_cri (va_runV (As := [.int p1]) (rest := []) ⟨hx, hb, hml, hown, hts⟩ (mX0_dataBytesOf l D k h0 a_cells v_sectors v_cutWaits v_writesBeforeCut v_bytesOfCut v_cells p1 o1 e1) (cwV 1 hts (dk_gV w_547 w_549 w_13 w_41 w_550) rfl rfl rfl (by decide +kernel) ⟨Nat.le_of_ble_eq_true rfl, Nat.le_of_ble_eq_true rfl⟩) (dk_pvr hK hN hP [0, 1] rfl rfl rfl) rfl rfl hl.1 rfl (lv_room (Nat.le_of_ble_eq_true rfl)) dX0_hasWholeRows_2 ⟨Nat.le_of_ble_eq_true rfl, Nat.le_of_ble_eq_true rfl⟩) ?_
  refine lv_istore_n (lv' := [(2, .int o1), (0, .ref h0), (1, .int p1)]) hx hb dX0_hasWholeRows_5 rfl hl (by decide) rfl (fun ls hl => ?_)
  refine lv_iload_n hx hb dX0_hasWholeRows_6 rfl (lv_at hl 0 rfl) ?_
  refine lv_if_eq (tgt := 17) hx hb dX0_hasWholeRows_7 (by decide) (fun q => ?_) (fun q => ?_)
  · replace h := dk_t q h
    refine lv_iconst (v := 0) hx hb dX0_hasWholeRows_17 (by decide) ?_
    have h := dk_r h
    subst h
    exact dk_rrz hx hb hr (Or.inl rfl) hlocks dX0_hasWholeRows_18 rfl
  · replace h := dk_f q h
    refine lv_iload_n hx hb dX0_hasWholeRows_10 rfl (lv_at hl 0 rfl) ?_
    refine lv_sipush (v := 502) hx hb dX0_hasWholeRows_11 (by decide) ?_
    refine lv_icmp_le (tgt := 19) hx hb dX0_hasWholeRows_14 (by decide) (fun q => ?_) (fun q => ?_)
    · replace h := dk_t q h
      refine lv_iload_n hx hb dX0_hasWholeRows_19 rfl (lv_at hl 2 rfl) ?_
      refine lv_bipush (v := 6) hx hb dX0_hasWholeRows_20 (by decide) ?_
      refine lv_iadd hx hb dX0_hasWholeRows_22 ?_
      refine lv_iload_n hx hb dX0_hasWholeRows_23 rfl (lv_at hl 0 rfl) ?_
      refine lv_iadd hx hb dX0_hasWholeRows_24 ?_
      refine lv_istore_n (lv' := [(3, .int ((p1 + 6) + o1)), (2, .int o1), (0, .ref h0), (1, .int p1)]) hx hb dX0_hasWholeRows_25 rfl hl (by decide) rfl (fun ls hl => ?_)
      refine lv_iload_n hx hb dX0_hasWholeRows_26 rfl (lv_at hl 3 rfl) ?_
      refine lv_bipush (v := 6) hx hb dX0_hasWholeRows_27 (by decide) ?_
      refine lv_iadd hx hb dX0_hasWholeRows_29 ?_
      refine lv_istore (lv' := [(4, .int (p1 + 6)), (3, .int ((p1 + 6) + o1)), (2, .int o1), (0, .ref h0), (1, .int p1)]) hx hb dX0_hasWholeRows_30 hl (by decide) rfl (fun ls hl => ?_)
      refine lv_iconst (v := 0) hx hb dX0_hasWholeRows_32 (by decide) ?_
      refine lv_istore (lv' := [(5, .int 0), (4, .int (p1 + 6)), (3, .int ((p1 + 6) + o1)), (2, .int o1), (0, .ref h0), (1, .int p1)]) hx hb dX0_hasWholeRows_33 hl (by decide) rfl (fun ls hl => ?_)
      exact lX0_hasWholeRows_35 C hK hN hP _ (p1 + 6) 0 h ls (lv_sub hl [4, 2, 1, 0] rfl)
    · replace h := dk_f q h
      refine lv_iconst (v := 0) hx hb dX0_hasWholeRows_17 (by decide) ?_
      have h := dk_r h
      subst h
      exact dk_rrz hx hb hr (Or.inl rfl) hlocks dX0_hasWholeRows_18 rfl
/-! ServiceDisk$Disk.hasItsSum(I)Z: ro, frames 2, locals 46 -/
def fX0_hasItsSum (v_cells : Nat → Int32) (p1 : Int32) : Option (Int32) :=
  (fX5_sumOf 32768 v_cells p1).bind fun o1 =>
  (fX0_intOf v_cells (p1 + 508)).bind fun o2 =>
  if dk_01 (if o1 = o2 then 1 else 0) then some (if o1 = o2 then 1 else 0) else none
set_option maxHeartbeats 4000000 in
set_option maxRecDepth 100000 in
theorem mX0_hasItsSum (l : Launch) (D : va_G) (k : Nat → ClassId) (h0 a_cells : Nat) (v_sectors : Int32) (v_cutWaits : Int32) (v_writesBeforeCut : Int32) (v_bytesOfCut : Int32) (v_cells : Nat → Int32) (p1 : Int32) (o : Int32) (h : fX0_hasItsSum v_cells p1 = some o) : Met l yX0_hasItsSum wsX0_hasItsSum { frames := 2, cells := 0, slots := 0, locals := 46 } (dk_Pr D k [.ref h0, .int p1] [(h0, .inr (0, [.ref a_cells, .int v_sectors, .int v_cutWaits, .int v_writesBeforeCut, .int v_bytesOfCut])), (a_cells, .inl ((k 0), 32768, .inl v_cells))]) (vp_Si (fun r => r = o)) 0 0 (fun _ => False) := by
  unfold fX0_hasItsSum at h
  refine dk_ofR (cc := cX0_hasItsSum) (maxL := 2) (ret := (some .boolean)) (lv := [(0, .ref h0), (1, .int p1)]) (by decide) rfl (Nat.le_of_ble_eq_true rfl) rfl ?_
  intro p e s m below meth c C hK hN hP ls hl
  obtain ⟨hx, hb, hr, hml, hown, hts, hlocks⟩ := id C
  refine lv_aload_n hx hb dX0_hasItsSum_0 rfl (lv_at hl 0 rfl) ?_
  refine va_get (D := D) (ci := 0) (v := .ref a_cells) (C := "ServiceDisk$Disk") (T := TX0) (N := 5) hx hb hts inX0 hown hK hP 0 rfl rfl 0 (by decide) (hts _ w_72) (fun _ h9 => h9) rfl dX0_hasItsSum_1 ?_
  refine lv_iload_n hx hb dX0_hasItsSum_4 rfl (lv_at hl 1 rfl) ?_
  replace h := dk_b h
  obtain ⟨o1, e1, h⟩ := h
  refine dk_cri (va_runSN (As := [.ref a_cells, .int p1]) (rest := []) ⟨hx, hb, hml, hown, hts⟩ (mX5_sumOf l D k a_cells 32768 v_cells p1 o1 e1) ⟨va_cnB 2 hts (dk_gC w_447) rfl rfl rfl hN.2 (hts _ w_40) (by decide +kernel) ⟨Nat.le_of_ble_eq_true rfl, Nat.le_of_ble_eq_true rfl⟩, hts _ w_446, trivial⟩ (dk_psr hK hN hP [1] rfl) rfl rfl hl.1 rfl (lv_room (Nat.le_of_ble_eq_true rfl)) dX0_hasItsSum_5 ⟨Nat.le_of_ble_eq_true rfl, Nat.le_of_ble_eq_true rfl⟩) ?_
  refine lv_aload_n hx hb dX0_hasItsSum_8 rfl (lv_at hl 0 rfl) ?_
  refine lv_iload_n hx hb dX0_hasItsSum_9 rfl (lv_at hl 1 rfl) ?_
  refine lv_sipush (v := 508) hx hb dX0_hasItsSum_10 (by decide) ?_
  refine lv_iadd hx hb dX0_hasItsSum_13 ?_
  replace h := dk_b h
  obtain ⟨o2, e2, h⟩ := h
  refine dk_cri (va_runV (As := [.int (p1 + 508)]) (rest := [.int o1]) ⟨hx, hb, hml, hown, hts⟩ (mX0_intOf l D k h0 a_cells v_sectors v_cutWaits v_writesBeforeCut v_bytesOfCut v_cells (p1 + 508) o2 e2) (cwV 1 hts (dk_gV w_534 w_536 w_10 w_41 w_537) rfl rfl rfl (by decide +kernel) ⟨Nat.le_of_ble_eq_true rfl, Nat.le_of_ble_eq_true rfl⟩) (dk_pvr hK hN hP [0, 1] rfl rfl rfl) rfl rfl hl.1 rfl (lv_room (Nat.le_of_ble_eq_true rfl)) dX0_hasItsSum_14 ⟨Nat.le_of_ble_eq_true rfl, Nat.le_of_ble_eq_true rfl⟩) ?_
  refine dk_jn (F0 m 25 ls [.int (if o1 = o2 then 1 else 0)]) (fun K => ?_) ?_
  · refine lv_icmp_ne (tgt := 24) hx hb dX0_hasItsSum_17 (by decide) (fun q1 => ?_) (fun q1 => ?_)
    · refine lv_iconst (v := 0) hx hb dX0_hasItsSum_24 (by decide) ?_
      have K := K
      rw [if_neg q1] at K
      exact K
    · refine lv_iconst (v := 1) hx hb dX0_hasItsSum_20 (by decide) ?_
      refine lv_goto (tgt := 25) hx hb dX0_hasItsSum_21 (by decide) ?_
      have K := K
      rw [if_pos q1] at K
      exact K
  obtain ⟨q, h⟩ := dk_g h
  have h := dk_r h
  subst h
  exact dk_rrz hx hb hr q hlocks dX0_hasItsSum_25 rfl
/-! ServiceDisk$Disk.rowSectors()I: ro, frames 0, locals 0 -/
def fX0_rowSectors (v_sectors : Int32) : Option (Int32) :=
  some (v_sectors - 2)
set_option maxHeartbeats 4000000 in
set_option maxRecDepth 100000 in
theorem mX0_rowSectors (l : Launch) (D : va_G) (k : Nat → ClassId) (h0 a_cells : Nat) (v_sectors : Int32) (v_cutWaits : Int32) (v_writesBeforeCut : Int32) (v_bytesOfCut : Int32) (v_cells : Nat → Int32) (o : Int32) (h : fX0_rowSectors v_sectors = some o) : Met l yX0_rowSectors wsX0_rowSectors { frames := 0, cells := 0, slots := 0, locals := 0 } (dk_Pr D k [.ref h0] [(h0, .inr (0, [.ref a_cells, .int v_sectors, .int v_cutWaits, .int v_writesBeforeCut, .int v_bytesOfCut])), (a_cells, .inl ((k 0), 32768, .inl v_cells))]) (vp_Si (fun r => r = o)) 0 0 (fun _ => False) := by
  unfold fX0_rowSectors at h
  refine dk_ofR (cc := cX0_rowSectors) (maxL := 1) (ret := (some .int)) (lv := [(0, .ref h0)]) (by decide) rfl (Nat.le_of_ble_eq_true rfl) rfl ?_
  intro p e s m below meth c C hK hN hP ls hl
  obtain ⟨hx, hb, hr, hml, hown, hts, hlocks⟩ := id C
  refine lv_aload_n hx hb dX0_rowSectors_0 rfl (lv_at hl 0 rfl) ?_
  refine va_get (D := D) (ci := 0) (v := .int v_sectors) (C := "ServiceDisk$Disk") (T := TX0) (N := 5) hx hb hts inX0 hown hK hP 0 rfl rfl 1 (by decide) (hts _ w_73) (fun _ h9 => h9) rfl dX0_rowSectors_1 ?_
  refine lv_iconst (v := 2) hx hb dX0_rowSectors_4 (by decide) ?_
  refine lv_isub hx hb dX0_rowSectors_5 ?_
  have h := dk_r h
  subst h
  exact dk_rri hx hb hr hlocks dX0_rowSectors_6 rfl
/-! ServiceDisk$Disk.isRight(II)Z: ro, frames 3, locals 68 -/
def fX0_isRight (v_sectors : Int32) (v_cells : Nat → Int32) (p1 : Int32) (p2 : Int32) : Option (Int32) :=
  (fX0_firstCell p1 p2).bind fun o1 =>
  (fX0_intOf v_cells o1).bind fun o2 =>
  (fX0_rowSectors v_sectors).bind fun o3 =>
  if o3 ≤ p2 then
    if o2 = 0 then
      some 0
    else
      (fX0_dataBytesOf v_cells o1).bind fun o4 =>
      if o4 = (8 : Int32) then
        (fX0_hasItsSum v_cells o1).bind fun o5 =>
        if dk_01 (if o5 = 0 then 0 else 1) then some (if o5 = 0 then 0 else 1) else none
      else
        some 0
  else
    if o2 = (p2 + 1) then
      (fX0_hasWholeRows v_cells o1).bind fun o6 =>
      if o6 = 0 then
        some 0
      else
        (fX0_hasItsSum v_cells o1).bind fun o7 =>
        if dk_01 (if o7 = 0 then 0 else 1) then some (if o7 = 0 then 0 else 1) else none
    else
      some 0
set_option maxHeartbeats 4000000 in
set_option maxRecDepth 100000 in
theorem mX0_isRight (l : Launch) (D : va_G) (k : Nat → ClassId) (h0 a_cells : Nat) (v_sectors : Int32) (v_cutWaits : Int32) (v_writesBeforeCut : Int32) (v_bytesOfCut : Int32) (v_cells : Nat → Int32) (p1 : Int32) (p2 : Int32) (o : Int32) (h : fX0_isRight v_sectors v_cells p1 p2 = some o) : Met l yX0_isRight wsX0_isRight { frames := 3, cells := 0, slots := 0, locals := 68 } (dk_Pr D k [.ref h0, .int p1, .int p2] [(h0, .inr (0, [.ref a_cells, .int v_sectors, .int v_cutWaits, .int v_writesBeforeCut, .int v_bytesOfCut])), (a_cells, .inl ((k 0), 32768, .inl v_cells))]) (vp_Si (fun r => r = o)) 0 0 (fun _ => False) := by
  unfold fX0_isRight at h
  refine dk_ofR (cc := cX0_isRight) (maxL := 5) (ret := (some .boolean)) (lv := [(0, .ref h0), (1, .int p1), (2, .int p2)]) (by decide) rfl (Nat.le_of_ble_eq_true rfl) rfl ?_
  intro p e s m below meth c C hK hN hP ls hl
  obtain ⟨hx, hb, hr, hml, hown, hts, hlocks⟩ := id C
  refine lv_aload_n hx hb dX0_isRight_0 rfl (lv_at hl 0 rfl) ?_
  refine lv_iload_n hx hb dX0_isRight_1 rfl (lv_at hl 1 rfl) ?_
  refine lv_iload_n hx hb dX0_isRight_2 rfl (lv_at hl 2 rfl) ?_
  replace h := dk_b h
  obtain ⟨o1, e1, h⟩ := h
  refine dk_cri (va_runV (As := [.int p1, .int p2]) (rest := []) ⟨hx, hb, hml, hown, hts⟩ (mX0_firstCell l D k h0 a_cells v_sectors v_cutWaits v_writesBeforeCut v_bytesOfCut v_cells p1 p2 o1 e1) (cwV 2 hts (dk_gV w_466 w_468 w_6 w_41 w_469) rfl rfl rfl (by decide +kernel) ⟨Nat.le_of_ble_eq_true rfl, Nat.le_of_ble_eq_true rfl⟩) (dk_pvr hK hN hP [0, 1] rfl rfl rfl) rfl rfl hl.1 rfl (lv_room (Nat.le_of_ble_eq_true rfl)) dX0_isRight_3 ⟨Nat.le_of_ble_eq_true rfl, Nat.le_of_ble_eq_true rfl⟩) ?_
  refine lv_istore_n (lv' := [(3, .int o1), (0, .ref h0), (1, .int p1), (2, .int p2)]) hx hb dX0_isRight_6 rfl hl (by decide) rfl (fun ls hl => ?_)
  refine lv_aload_n hx hb dX0_isRight_7 rfl (lv_at hl 1 rfl) ?_
  refine lv_iload_n hx hb dX0_isRight_8 rfl (lv_at hl 0 rfl) ?_
  replace h := dk_b h
  obtain ⟨o2, e2, h⟩ := h
  refine dk_cri (va_runV (As := [.int o1]) (rest := []) ⟨hx, hb, hml, hown, hts⟩ (mX0_intOf l D k h0 a_cells v_sectors v_cutWaits v_writesBeforeCut v_bytesOfCut v_cells o1 o2 e2) (cwV 1 hts (dk_gV w_534 w_536 w_10 w_41 w_537) rfl rfl rfl (by decide +kernel) ⟨Nat.le_of_ble_eq_true rfl, Nat.le_of_ble_eq_true rfl⟩) (dk_pvr hK hN hP [0, 1] rfl rfl rfl) rfl rfl hl.1 rfl (lv_room (Nat.le_of_ble_eq_true rfl)) dX0_isRight_9 ⟨Nat.le_of_ble_eq_true rfl, Nat.le_of_ble_eq_true rfl⟩) ?_
  refine lv_istore (lv' := [(4, .int o2), (3, .int o1), (0, .ref h0), (1, .int p1), (2, .int p2)]) hx hb dX0_isRight_12 hl (by decide) rfl (fun ls hl => ?_)
  refine lv_iload_n hx hb dX0_isRight_14 rfl (lv_at hl 4 rfl) ?_
  refine lv_aload_n hx hb dX0_isRight_15 rfl (lv_at hl 2 rfl) ?_
  replace h := dk_b h
  obtain ⟨o3, e3, h⟩ := h
  refine dk_cri (va_runV (As := []) (rest := [.int p2]) ⟨hx, hb, hml, hown, hts⟩ (mX0_rowSectors l D k h0 a_cells v_sectors v_cutWaits v_writesBeforeCut v_bytesOfCut v_cells o3 e3) (cwV 0 hts (dk_gV w_542 w_364 w_365 w_41 w_366) rfl rfl rfl (by decide +kernel) ⟨Nat.le_of_ble_eq_true rfl, Nat.le_of_ble_eq_true rfl⟩) (dk_pvr hK hN hP [0, 1] rfl rfl rfl) rfl rfl hl.1 rfl (lv_room (Nat.le_of_ble_eq_true rfl)) dX0_isRight_16 ⟨Nat.le_of_ble_eq_true rfl, Nat.le_of_ble_eq_true rfl⟩) ?_
  refine lv_icmp_ge (tgt := 52) hx hb dX0_isRight_19 (by decide) (fun q => ?_) (fun q => ?_)
  · replace h := dk_t q h
    refine lv_iload hx hb dX0_isRight_52 (lv_at hl 0 rfl) ?_
    refine lv_if_eq (tgt := 79) hx hb dX0_isRight_54 (by decide) (fun q => ?_) (fun q => ?_)
    · replace h := dk_t q h
      refine lv_iconst (v := 0) hx hb dX0_isRight_79 (by decide) ?_
      have h := dk_r h
      subst h
      exact dk_rrz hx hb hr (Or.inl rfl) hlocks dX0_isRight_80 rfl
    · replace h := dk_f q h
      refine lv_aload_n hx hb dX0_isRight_57 rfl (lv_at hl 2 rfl) ?_
      refine lv_iload_n hx hb dX0_isRight_58 rfl (lv_at hl 1 rfl) ?_
      replace h := dk_b h
      obtain ⟨o4, e4, h⟩ := h
      refine dk_cri (va_runV (As := [.int o1]) (rest := []) ⟨hx, hb, hml, hown, hts⟩ (mX0_dataBytesOf l D k h0 a_cells v_sectors v_cutWaits v_writesBeforeCut v_bytesOfCut v_cells o1 o4 e4) (cwV 1 hts (dk_gV w_547 w_549 w_13 w_41 w_550) rfl rfl rfl (by decide +kernel) ⟨Nat.le_of_ble_eq_true rfl, Nat.le_of_ble_eq_true rfl⟩) (dk_pvr hK hN hP [0, 1] rfl rfl rfl) rfl rfl hl.1 rfl (lv_room (Nat.le_of_ble_eq_true rfl)) dX0_isRight_59 ⟨Nat.le_of_ble_eq_true rfl, Nat.le_of_ble_eq_true rfl⟩) ?_
      refine lv_bipush (v := 8) hx hb dX0_isRight_62 (by decide) ?_
      refine lv_icmp_ne (tgt := 79) hx hb dX0_isRight_64 (by decide) (fun q => ?_) (fun q => ?_)
      · replace h := dk_f q h
        refine lv_iconst (v := 0) hx hb dX0_isRight_79 (by decide) ?_
        have h := dk_r h
        subst h
        exact dk_rrz hx hb hr (Or.inl rfl) hlocks dX0_isRight_80 rfl
      · replace h := dk_t q h
        refine lv_aload_n hx hb dX0_isRight_67 rfl (lv_at hl 2 rfl) ?_
        refine lv_iload_n hx hb dX0_isRight_68 rfl (lv_at hl 1 rfl) ?_
        replace h := dk_b h
        obtain ⟨o5, e5, h⟩ := h
        refine dk_cri (va_runV (As := [.int o1]) (rest := []) ⟨hx, hb, hml, hown, hts⟩ (mX0_hasItsSum l D k h0 a_cells v_sectors v_cutWaits v_writesBeforeCut v_bytesOfCut v_cells o1 o5 e5) (cwV 1 hts (dk_gV w_551 w_553 w_14 w_41 w_554) rfl rfl rfl (by decide +kernel) ⟨Nat.le_of_ble_eq_true rfl, Nat.le_of_ble_eq_true rfl⟩) (dk_pvr hK hN hP [0, 1] rfl rfl rfl) rfl rfl hl.1 rfl (lv_room (Nat.le_of_ble_eq_true rfl)) dX0_isRight_69 ⟨Nat.le_of_ble_eq_true rfl, Nat.le_of_ble_eq_true rfl⟩) ?_
        refine dk_jn (F0 m 80 ls [.int (if o5 = 0 then 0 else 1)]) (fun K => ?_) ?_
        · refine lv_if_eq (tgt := 79) hx hb dX0_isRight_72 (by decide) (fun q1 => ?_) (fun q1 => ?_)
          · refine lv_iconst (v := 0) hx hb dX0_isRight_79 (by decide) ?_
            have K := K
            rw [if_pos q1] at K
            exact K
          · refine lv_iconst (v := 1) hx hb dX0_isRight_75 (by decide) ?_
            refine lv_goto (tgt := 80) hx hb dX0_isRight_76 (by decide) ?_
            have K := K
            rw [if_neg q1] at K
            exact K
        obtain ⟨q, h⟩ := dk_g h
        have h := dk_r h
        subst h
        exact dk_rrz hx hb hr q hlocks dX0_isRight_80 rfl
  · replace h := dk_f q h
    refine lv_iload hx hb dX0_isRight_22 (lv_at hl 0 rfl) ?_
    refine lv_iload_n hx hb dX0_isRight_24 rfl (lv_at hl 4 rfl) ?_
    refine lv_iconst (v := 1) hx hb dX0_isRight_25 (by decide) ?_
    refine lv_iadd hx hb dX0_isRight_26 ?_
    refine lv_icmp_ne (tgt := 50) hx hb dX0_isRight_27 (by decide) (fun q => ?_) (fun q => ?_)
    · replace h := dk_f q h
      refine lv_iconst (v := 0) hx hb dX0_isRight_50 (by decide) ?_
      have h := dk_r h
      subst h
      exact dk_rrz hx hb hr (Or.inl rfl) hlocks dX0_isRight_51 rfl
    · replace h := dk_t q h
      refine lv_aload_n hx hb dX0_isRight_30 rfl (lv_at hl 2 rfl) ?_
      refine lv_iload_n hx hb dX0_isRight_31 rfl (lv_at hl 1 rfl) ?_
      replace h := dk_b h
      obtain ⟨o6, e6, h⟩ := h
      refine dk_cri (va_runV (As := [.int o1]) (rest := []) ⟨hx, hb, hml, hown, hts⟩ (mX0_hasWholeRows l D k h0 a_cells v_sectors v_cutWaits v_writesBeforeCut v_bytesOfCut v_cells o1 o6 e6) (cwV 1 hts (dk_gV w_543 w_545 w_12 w_41 w_546) rfl rfl rfl (by decide +kernel) ⟨Nat.le_of_ble_eq_true rfl, Nat.le_of_ble_eq_true rfl⟩) (dk_pvr hK hN hP [0, 1] rfl rfl rfl) rfl rfl hl.1 rfl (lv_room (Nat.le_of_ble_eq_true rfl)) dX0_isRight_32 ⟨Nat.le_of_ble_eq_true rfl, Nat.le_of_ble_eq_true rfl⟩) ?_
      refine lv_if_eq (tgt := 50) hx hb dX0_isRight_35 (by decide) (fun q => ?_) (fun q => ?_)
      · replace h := dk_t q h
        refine lv_iconst (v := 0) hx hb dX0_isRight_50 (by decide) ?_
        have h := dk_r h
        subst h
        exact dk_rrz hx hb hr (Or.inl rfl) hlocks dX0_isRight_51 rfl
      · replace h := dk_f q h
        refine lv_aload_n hx hb dX0_isRight_38 rfl (lv_at hl 2 rfl) ?_
        refine lv_iload_n hx hb dX0_isRight_39 rfl (lv_at hl 1 rfl) ?_
        replace h := dk_b h
        obtain ⟨o7, e7, h⟩ := h
        refine dk_cri (va_runV (As := [.int o1]) (rest := []) ⟨hx, hb, hml, hown, hts⟩ (mX0_hasItsSum l D k h0 a_cells v_sectors v_cutWaits v_writesBeforeCut v_bytesOfCut v_cells o1 o7 e7) (cwV 1 hts (dk_gV w_551 w_553 w_14 w_41 w_554) rfl rfl rfl (by decide +kernel) ⟨Nat.le_of_ble_eq_true rfl, Nat.le_of_ble_eq_true rfl⟩) (dk_pvr hK hN hP [0, 1] rfl rfl rfl) rfl rfl hl.1 rfl (lv_room (Nat.le_of_ble_eq_true rfl)) dX0_isRight_40 ⟨Nat.le_of_ble_eq_true rfl, Nat.le_of_ble_eq_true rfl⟩) ?_
        refine dk_jn (F0 m 51 ls [.int (if o7 = 0 then 0 else 1)]) (fun K => ?_) ?_
        · refine lv_if_eq (tgt := 50) hx hb dX0_isRight_43 (by decide) (fun q1 => ?_) (fun q1 => ?_)
          · refine lv_iconst (v := 0) hx hb dX0_isRight_50 (by decide) ?_
            have K := K
            rw [if_pos q1] at K
            exact K
          · refine lv_iconst (v := 1) hx hb dX0_isRight_46 (by decide) ?_
            refine lv_goto (tgt := 51) hx hb dX0_isRight_47 (by decide) ?_
            have K := K
            rw [if_neg q1] at K
            exact K
        obtain ⟨q, h⟩ := dk_g h
        have h := dk_r h
        subst h
        exact dk_rrz hx hb hr q hlocks dX0_isRight_51 rfl
/-! ServiceDisk$Disk.firstRightCopy(I)I: ro, frames 4, locals 92 -/
def fX0_firstRightCopy_L2 (v_sectors : Int32) (v_cells : Nat → Int32) (x1 : Int32) : Nat → (Int32) → Option (Int32)
  | 0, _ => none
  | n + 1, x2 =>
    if (2 : Int32) ≤ x2 then
      some (-1)
    else
      (fX0_isRight v_sectors v_cells x2 x1).bind fun o1 =>
      if o1 = 0 then
        fX0_firstRightCopy_L2 v_sectors v_cells x1 n (x2 + 1)
      else
        some x2
def fX0_firstRightCopy (v_sectors : Int32) (v_cells : Nat → Int32) (p1 : Int32) : Option (Int32) :=
  fX0_firstRightCopy_L2 v_sectors v_cells p1 dkF 0
set_option maxHeartbeats 4000000 in
set_option maxRecDepth 100000 in
theorem lX0_firstRightCopy_2 {p : Program} {l : Launch} {e : Env} {s : State} {m : MethodId} {below : List Frame} {meth : Method} {c : Code} {args : Array Value} {D : va_G} {k : Nat → ClassId} {h0 : Nat} {a_cells : Nat} {v_sectors : Int32} {v_cutWaits : Int32} {v_writesBeforeCut : Int32} {v_bytesOfCut : Int32} {v_cells : Nat → Int32} {x1 : Int32} {o : Int32} (C : dk_Cx p s m meth c cX0_firstRightCopy (some .int) 3 "ServiceDisk$Disk" dkB args) (hK : va_K D vwCl (dkT k) s) (hN : dk_N s) (hP : va_P D vwCl [(h0, .inr (0, [.ref a_cells, .int v_sectors, .int v_cutWaits, .int v_writesBeforeCut, .int v_bytesOfCut])), (a_cells, .inl ((k 0), 32768, .inl v_cells))] s.heap) :
    ∀ (n : Nat) (x2 : Int32), fX0_firstRightCopy_L2 v_sectors v_cells x1 n x2 = some o → ∀ ls : Array Slot, lv_has ls 3 [(0, .ref h0), (1, .int x1), (2, .int x2)] → W p l e { frames := 4, cells := 0, slots := 0, locals := 92 } s m args below meth c s.heap [] 0 0 (MQ below (vp_Si (fun r => r = o)) args s 0 0 (fun _ => False)) (F0 m 2 ls []) := by
  obtain ⟨hx, hb, hr, hml, hown, hts, hlocks⟩ := id C
  intro n
  induction n with
  | zero =>
    intro x2 h
    exact dk_n (o := o) h
  | succ n ih =>
    intro x2 h ls hl
    rw [fX0_firstRightCopy_L2.eq_2] at h
    refine lv_iload_n hx hb dX0_firstRightCopy_2 rfl (lv_at hl 2 rfl) ?_
    refine lv_iconst (v := 2) hx hb dX0_firstRightCopy_3 (by decide) ?_
    refine lv_icmp_ge (tgt := 24) hx hb dX0_firstRightCopy_4 (by decide) (fun q => ?_) (fun q => ?_)
    · replace h := dk_t q h
      refine lv_iconst (v := -1) hx hb dX0_firstRightCopy_24 (by decide) ?_
      have h := dk_r h
      subst h
      exact dk_rri hx hb hr hlocks dX0_firstRightCopy_25 rfl
    · replace h := dk_f q h
      refine lv_aload_n hx hb dX0_firstRightCopy_7 rfl (lv_at hl 0 rfl) ?_
      refine lv_iload_n hx hb dX0_firstRightCopy_8 rfl (lv_at hl 2 rfl) ?_
      refine lv_iload_n hx hb dX0_firstRightCopy_9 rfl (lv_at hl 1 rfl) ?_
      replace h := dk_b h
      obtain ⟨o1, e1, h⟩ := h
      refine dk_cri (va_runV (As := [.int x2, .int x1]) (rest := []) ⟨hx, hb, hml, hown, hts⟩ (mX0_isRight l D k h0 a_cells v_sectors v_cutWaits v_writesBeforeCut v_bytesOfCut v_cells x2 x1 o1 e1) (cwV 2 hts (dk_gV w_626 w_531 w_532 w_41 w_533) rfl rfl rfl (by decide +kernel) ⟨Nat.le_of_ble_eq_true rfl, Nat.le_of_ble_eq_true rfl⟩) (dk_pvr hK hN hP [0, 1] rfl rfl rfl) rfl rfl hl.1 rfl (lv_room (Nat.le_of_ble_eq_true rfl)) dX0_firstRightCopy_10 ⟨Nat.le_of_ble_eq_true rfl, Nat.le_of_ble_eq_true rfl⟩) ?_
      refine lv_if_eq (tgt := 18) hx hb dX0_firstRightCopy_13 (by decide) (fun q => ?_) (fun q => ?_)
      · replace h := dk_t q h
        refine lv_iinc (v := (x2 + 1)) (lv' := [(2, .int (x2 + 1)), (0, .ref h0), (1, .int x1)]) hx hb dX0_firstRightCopy_18 hl (k := 2) rfl rfl (by decide) rfl (fun ls hl => ?_)
        refine lv_goto (tgt := 2) hx hb dX0_firstRightCopy_21 (by decide) ?_
        exact ih (x2 + 1) h ls (lv_sub hl [1, 2, 0] rfl)
      · replace h := dk_f q h
        refine lv_iload_n hx hb dX0_firstRightCopy_16 rfl (lv_at hl 2 rfl) ?_
        have h := dk_r h
        subst h
        exact dk_rri hx hb hr hlocks dX0_firstRightCopy_17 rfl
set_option maxHeartbeats 4000000 in
set_option maxRecDepth 100000 in
theorem mX0_firstRightCopy (l : Launch) (D : va_G) (k : Nat → ClassId) (h0 a_cells : Nat) (v_sectors : Int32) (v_cutWaits : Int32) (v_writesBeforeCut : Int32) (v_bytesOfCut : Int32) (v_cells : Nat → Int32) (p1 : Int32) (o : Int32) (h : fX0_firstRightCopy v_sectors v_cells p1 = some o) : Met l yX0_firstRightCopy wsX0_firstRightCopy { frames := 4, cells := 0, slots := 0, locals := 92 } (dk_Pr D k [.ref h0, .int p1] [(h0, .inr (0, [.ref a_cells, .int v_sectors, .int v_cutWaits, .int v_writesBeforeCut, .int v_bytesOfCut])), (a_cells, .inl ((k 0), 32768, .inl v_cells))]) (vp_Si (fun r => r = o)) 0 0 (fun _ => False) := by
  unfold fX0_firstRightCopy at h
  refine dk_ofR (cc := cX0_firstRightCopy) (maxL := 3) (ret := (some .int)) (lv := [(0, .ref h0), (1, .int p1)]) (by decide) rfl (Nat.le_of_ble_eq_true rfl) rfl ?_
  intro p e s m below meth c C hK hN hP ls hl
  obtain ⟨hx, hb, hr, hml, hown, hts, hlocks⟩ := id C
  refine lv_iconst (v := 0) hx hb dX0_firstRightCopy_0 (by decide) ?_
  refine lv_istore_n (lv' := [(2, .int 0), (0, .ref h0), (1, .int p1)]) hx hb dX0_firstRightCopy_1 rfl hl (by decide) rfl (fun ls hl => ?_)
  exact lX0_firstRightCopy_2 C hK hN hP _ 0 h ls (lv_sub hl [1, 2, 0] rfl)
/-! ServiceDisk$Disk.byteAt(III)I: ro, frames 1, locals 22 -/
def fX0_byteAt (v_cells : Nat → Int32) (p1 : Int32) (p2 : Int32) (p3 : Int32) : Option (Int32) :=
  (fX0_firstCell p1 p2).bind fun o1 =>
  (fX0_byteOf v_cells (o1 + p3)).bind fun o2 =>
  some o2
set_option maxHeartbeats 4000000 in
set_option maxRecDepth 100000 in
theorem mX0_byteAt (l : Launch) (D : va_G) (k : Nat → ClassId) (h0 a_cells : Nat) (v_sectors : Int32) (v_cutWaits : Int32) (v_writesBeforeCut : Int32) (v_bytesOfCut : Int32) (v_cells : Nat → Int32) (p1 : Int32) (p2 : Int32) (p3 : Int32) (o : Int32) (h : fX0_byteAt v_cells p1 p2 p3 = some o) : Met l yX0_byteAt wsX0_byteAt { frames := 1, cells := 0, slots := 0, locals := 22 } (dk_Pr D k [.ref h0, .int p1, .int p2, .int p3] [(h0, .inr (0, [.ref a_cells, .int v_sectors, .int v_cutWaits, .int v_writesBeforeCut, .int v_bytesOfCut])), (a_cells, .inl ((k 0), 32768, .inl v_cells))]) (vp_Si (fun r => r = o)) 0 0 (fun _ => False) := by
  unfold fX0_byteAt at h
  refine dk_ofR (cc := cX0_byteAt) (maxL := 4) (ret := (some .int)) (lv := [(0, .ref h0), (1, .int p1), (2, .int p2), (3, .int p3)]) (by decide) rfl (Nat.le_of_ble_eq_true rfl) rfl ?_
  intro p e s m below meth c C hK hN hP ls hl
  obtain ⟨hx, hb, hr, hml, hown, hts, hlocks⟩ := id C
  refine lv_aload_n hx hb dX0_byteAt_0 rfl (lv_at hl 0 rfl) ?_
  refine lv_aload_n hx hb dX0_byteAt_1 rfl (lv_at hl 0 rfl) ?_
  refine lv_iload_n hx hb dX0_byteAt_2 rfl (lv_at hl 1 rfl) ?_
  refine lv_iload_n hx hb dX0_byteAt_3 rfl (lv_at hl 2 rfl) ?_
  replace h := dk_b h
  obtain ⟨o1, e1, h⟩ := h
  refine dk_cri (va_runV (As := [.int p1, .int p2]) (rest := [.ref h0]) ⟨hx, hb, hml, hown, hts⟩ (mX0_firstCell l D k h0 a_cells v_sectors v_cutWaits v_writesBeforeCut v_bytesOfCut v_cells p1 p2 o1 e1) (cwV 2 hts (dk_gV w_466 w_468 w_6 w_41 w_469) rfl rfl rfl (by decide +kernel) ⟨Nat.le_of_ble_eq_true rfl, Nat.le_of_ble_eq_true rfl⟩) (dk_pvr hK hN hP [0, 1] rfl rfl rfl) rfl rfl hl.1 rfl (lv_room (Nat.le_of_ble_eq_true rfl)) dX0_byteAt_4 ⟨Nat.le_of_ble_eq_true rfl, Nat.le_of_ble_eq_true rfl⟩) ?_
  refine lv_iload_n hx hb dX0_byteAt_7 rfl (lv_at hl 3 rfl) ?_
  refine lv_iadd hx hb dX0_byteAt_8 ?_
  replace h := dk_b h
  obtain ⟨o2, e2, h⟩ := h
  refine dk_cri (va_runV (As := [.int (o1 + p3)]) (rest := []) ⟨hx, hb, hml, hown, hts⟩ (mX0_byteOf l D k h0 a_cells v_sectors v_cutWaits v_writesBeforeCut v_bytesOfCut v_cells (o1 + p3) o2 e2) (cwV 1 hts (dk_gV w_538 w_540 w_11 w_41 w_541) rfl rfl rfl (by decide +kernel) ⟨Nat.le_of_ble_eq_true rfl, Nat.le_of_ble_eq_true rfl⟩) (dk_pvr hK hN hP [0, 1] rfl rfl rfl) rfl rfl hl.1 rfl (lv_room (Nat.le_of_ble_eq_true rfl)) dX0_byteAt_9 ⟨Nat.le_of_ble_eq_true rfl, Nat.le_of_ble_eq_true rfl⟩) ?_
  have h := dk_r h
  subst h
  exact dk_rri hx hb hr hlocks dX0_byteAt_12 rfl
/-! ServiceDisk$Disk.numberAt(II)I: ro, frames 2, locals 44 -/
def fX0_numberAt (v_cells : Nat → Int32) (p1 : Int32) (p2 : Int32) : Option (Int32) :=
  (fX0_firstCell p1 p2).bind fun o1 =>
  (fX0_intOf v_cells o1).bind fun o2 =>
  some o2
set_option maxHeartbeats 4000000 in
set_option maxRecDepth 100000 in
theorem mX0_numberAt (l : Launch) (D : va_G) (k : Nat → ClassId) (h0 a_cells : Nat) (v_sectors : Int32) (v_cutWaits : Int32) (v_writesBeforeCut : Int32) (v_bytesOfCut : Int32) (v_cells : Nat → Int32) (p1 : Int32) (p2 : Int32) (o : Int32) (h : fX0_numberAt v_cells p1 p2 = some o) : Met l yX0_numberAt wsX0_numberAt { frames := 2, cells := 0, slots := 0, locals := 44 } (dk_Pr D k [.ref h0, .int p1, .int p2] [(h0, .inr (0, [.ref a_cells, .int v_sectors, .int v_cutWaits, .int v_writesBeforeCut, .int v_bytesOfCut])), (a_cells, .inl ((k 0), 32768, .inl v_cells))]) (vp_Si (fun r => r = o)) 0 0 (fun _ => False) := by
  unfold fX0_numberAt at h
  refine dk_ofR (cc := cX0_numberAt) (maxL := 3) (ret := (some .int)) (lv := [(0, .ref h0), (1, .int p1), (2, .int p2)]) (by decide) rfl (Nat.le_of_ble_eq_true rfl) rfl ?_
  intro p e s m below meth c C hK hN hP ls hl
  obtain ⟨hx, hb, hr, hml, hown, hts, hlocks⟩ := id C
  refine lv_aload_n hx hb dX0_numberAt_0 rfl (lv_at hl 0 rfl) ?_
  refine lv_aload_n hx hb dX0_numberAt_1 rfl (lv_at hl 0 rfl) ?_
  refine lv_iload_n hx hb dX0_numberAt_2 rfl (lv_at hl 1 rfl) ?_
  refine lv_iload_n hx hb dX0_numberAt_3 rfl (lv_at hl 2 rfl) ?_
  replace h := dk_b h
  obtain ⟨o1, e1, h⟩ := h
  refine dk_cri (va_runV (As := [.int p1, .int p2]) (rest := [.ref h0]) ⟨hx, hb, hml, hown, hts⟩ (mX0_firstCell l D k h0 a_cells v_sectors v_cutWaits v_writesBeforeCut v_bytesOfCut v_cells p1 p2 o1 e1) (cwV 2 hts (dk_gV w_466 w_468 w_6 w_41 w_469) rfl rfl rfl (by decide +kernel) ⟨Nat.le_of_ble_eq_true rfl, Nat.le_of_ble_eq_true rfl⟩) (dk_pvr hK hN hP [0, 1] rfl rfl rfl) rfl rfl hl.1 rfl (lv_room (Nat.le_of_ble_eq_true rfl)) dX0_numberAt_4 ⟨Nat.le_of_ble_eq_true rfl, Nat.le_of_ble_eq_true rfl⟩) ?_
  replace h := dk_b h
  obtain ⟨o2, e2, h⟩ := h
  refine dk_cri (va_runV (As := [.int o1]) (rest := []) ⟨hx, hb, hml, hown, hts⟩ (mX0_intOf l D k h0 a_cells v_sectors v_cutWaits v_writesBeforeCut v_bytesOfCut v_cells o1 o2 e2) (cwV 1 hts (dk_gV w_534 w_536 w_10 w_41 w_537) rfl rfl rfl (by decide +kernel) ⟨Nat.le_of_ble_eq_true rfl, Nat.le_of_ble_eq_true rfl⟩) (dk_pvr hK hN hP [0, 1] rfl rfl rfl) rfl rfl hl.1 rfl (lv_room (Nat.le_of_ble_eq_true rfl)) dX0_numberAt_7 ⟨Nat.le_of_ble_eq_true rfl, Nat.le_of_ble_eq_true rfl⟩) ?_
  have h := dk_r h
  subst h
  exact dk_rri hx hb hr hlocks dX0_numberAt_10 rfl
/-! ServiceDisk$Disk.stateAt(II)J: ro, frames 2, locals 44 -/
def fX0_stateAt (v_cells : Nat → Int32) (p1 : Int32) (p2 : Int32) : Option (Int64) :=
  (fX0_firstCell p1 p2).bind fun o1 =>
  (fX0_intOf v_cells (o1 + 6)).bind fun o2 =>
  (fX0_intOf v_cells ((o1 + 6) + 4)).bind fun o3 =>
  some ((dk_lshl o2.toInt64 32) ||| (o3.toInt64 &&& 4294967295))
set_option maxHeartbeats 4000000 in
set_option maxRecDepth 100000 in
theorem mX0_stateAt (l : Launch) (D : va_G) (k : Nat → ClassId) (h0 a_cells : Nat) (v_sectors : Int32) (v_cutWaits : Int32) (v_writesBeforeCut : Int32) (v_bytesOfCut : Int32) (v_cells : Nat → Int32) (p1 : Int32) (p2 : Int32) (o : Int64) (h : fX0_stateAt v_cells p1 p2 = some o) : Met l yX0_stateAt wsX0_stateAt { frames := 2, cells := 0, slots := 0, locals := 44 } (dk_Pr D k [.ref h0, .int p1, .int p2] [(h0, .inr (0, [.ref a_cells, .int v_sectors, .int v_cutWaits, .int v_writesBeforeCut, .int v_bytesOfCut])), (a_cells, .inl ((k 0), 32768, .inl v_cells))]) (vp_Sl (fun r => r = o)) 0 0 (fun _ => False) := by
  unfold fX0_stateAt at h
  refine dk_ofR (cc := cX0_stateAt) (maxL := 8) (ret := (some .long)) (lv := [(0, .ref h0), (1, .int p1), (2, .int p2)]) (by decide) rfl (Nat.le_of_ble_eq_true rfl) rfl ?_
  intro p e s m below meth c C hK hN hP ls hl
  obtain ⟨hx, hb, hr, hml, hown, hts, hlocks⟩ := id C
  refine lv_aload_n hx hb dX0_stateAt_0 rfl (lv_at hl 0 rfl) ?_
  refine lv_iload_n hx hb dX0_stateAt_1 rfl (lv_at hl 1 rfl) ?_
  refine lv_iload_n hx hb dX0_stateAt_2 rfl (lv_at hl 2 rfl) ?_
  replace h := dk_b h
  obtain ⟨o1, e1, h⟩ := h
  refine dk_cri (va_runV (As := [.int p1, .int p2]) (rest := []) ⟨hx, hb, hml, hown, hts⟩ (mX0_firstCell l D k h0 a_cells v_sectors v_cutWaits v_writesBeforeCut v_bytesOfCut v_cells p1 p2 o1 e1) (cwV 2 hts (dk_gV w_466 w_468 w_6 w_41 w_469) rfl rfl rfl (by decide +kernel) ⟨Nat.le_of_ble_eq_true rfl, Nat.le_of_ble_eq_true rfl⟩) (dk_pvr hK hN hP [0, 1] rfl rfl rfl) rfl rfl hl.1 rfl (lv_room (Nat.le_of_ble_eq_true rfl)) dX0_stateAt_3 ⟨Nat.le_of_ble_eq_true rfl, Nat.le_of_ble_eq_true rfl⟩) ?_
  refine lv_bipush (v := 6) hx hb dX0_stateAt_6 (by decide) ?_
  refine lv_iadd hx hb dX0_stateAt_8 ?_
  refine lv_istore_n (lv' := [(3, .int (o1 + 6)), (0, .ref h0), (1, .int p1), (2, .int p2)]) hx hb dX0_stateAt_9 rfl hl (by decide) rfl (fun ls hl => ?_)
  refine lv_aload_n hx hb dX0_stateAt_10 rfl (lv_at hl 1 rfl) ?_
  refine lv_iload_n hx hb dX0_stateAt_11 rfl (lv_at hl 0 rfl) ?_
  replace h := dk_b h
  obtain ⟨o2, e2, h⟩ := h
  refine dk_cri (va_runV (As := [.int (o1 + 6)]) (rest := []) ⟨hx, hb, hml, hown, hts⟩ (mX0_intOf l D k h0 a_cells v_sectors v_cutWaits v_writesBeforeCut v_bytesOfCut v_cells (o1 + 6) o2 e2) (cwV 1 hts (dk_gV w_534 w_536 w_10 w_41 w_537) rfl rfl rfl (by decide +kernel) ⟨Nat.le_of_ble_eq_true rfl, Nat.le_of_ble_eq_true rfl⟩) (dk_pvr hK hN hP [0, 1] rfl rfl rfl) rfl rfl hl.1 rfl (lv_room (Nat.le_of_ble_eq_true rfl)) dX0_stateAt_12 ⟨Nat.le_of_ble_eq_true rfl, Nat.le_of_ble_eq_true rfl⟩) ?_
  refine lv_i2l (v := o2.toInt64) hx hb dX0_stateAt_15 rfl ?_
  refine lv_lstore (lv' := [(4, .long o2.toInt64), (3, .int (o1 + 6)), (0, .ref h0), (1, .int p1), (2, .int p2)]) hx hb dX0_stateAt_16 hl (by decide) rfl (fun ls hl => ?_)
  refine lv_aload_n hx hb dX0_stateAt_18 rfl (lv_at hl 2 rfl) ?_
  refine lv_iload_n hx hb dX0_stateAt_19 rfl (lv_at hl 1 rfl) ?_
  refine lv_iconst (v := 4) hx hb dX0_stateAt_20 (by decide) ?_
  refine lv_iadd hx hb dX0_stateAt_21 ?_
  replace h := dk_b h
  obtain ⟨o3, e3, h⟩ := h
  refine dk_cri (va_runV (As := [.int ((o1 + 6) + 4)]) (rest := []) ⟨hx, hb, hml, hown, hts⟩ (mX0_intOf l D k h0 a_cells v_sectors v_cutWaits v_writesBeforeCut v_bytesOfCut v_cells ((o1 + 6) + 4) o3 e3) (cwV 1 hts (dk_gV w_534 w_536 w_10 w_41 w_537) rfl rfl rfl (by decide +kernel) ⟨Nat.le_of_ble_eq_true rfl, Nat.le_of_ble_eq_true rfl⟩) (dk_pvr hK hN hP [0, 1] rfl rfl rfl) rfl rfl hl.1 rfl (lv_room (Nat.le_of_ble_eq_true rfl)) dX0_stateAt_22 ⟨Nat.le_of_ble_eq_true rfl, Nat.le_of_ble_eq_true rfl⟩) ?_
  refine lv_i2l (v := o3.toInt64) hx hb dX0_stateAt_25 rfl ?_
  refine lv_lstore (lv' := [(6, .long o3.toInt64), (4, .long o2.toInt64), (3, .int (o1 + 6)), (0, .ref h0), (1, .int p1), (2, .int p2)]) hx hb dX0_stateAt_26 hl (by decide) rfl (fun ls hl => ?_)
  refine lv_lload hx hb dX0_stateAt_28 (lv_at hl 1 rfl) ?_
  refine lv_bipush (v := 32) hx hb dX0_stateAt_30 (by decide) ?_
  refine lv_lshl (v := (dk_lshl o2.toInt64 32)) hx hb dX0_stateAt_32 rfl ?_
  refine lv_lload hx hb dX0_stateAt_33 (lv_at hl 0 rfl) ?_
  refine lv_ldc2 (v := 4294967295) hx hb hown (hts _ w_589) dX0_stateAt_35 ?_
  refine lv_land hx hb dX0_stateAt_38 ?_
  refine lv_lor hx hb dX0_stateAt_39 ?_
  have h := dk_r h
  subst h
  exact dk_rrl hx hb hr hlocks dX0_stateAt_40 rfl
/-! ServiceDisk$Disk.dataBytesAt(II)I: ro, frames 2, locals 42 -/
def fX0_dataBytesAt (v_cells : Nat → Int32) (p1 : Int32) (p2 : Int32) : Option (Int32) :=
  (fX0_firstCell p1 p2).bind fun o1 =>
  (fX0_dataBytesOf v_cells o1).bind fun o2 =>
  some o2
set_option maxHeartbeats 4000000 in
set_option maxRecDepth 100000 in
theorem mX0_dataBytesAt (l : Launch) (D : va_G) (k : Nat → ClassId) (h0 a_cells : Nat) (v_sectors : Int32) (v_cutWaits : Int32) (v_writesBeforeCut : Int32) (v_bytesOfCut : Int32) (v_cells : Nat → Int32) (p1 : Int32) (p2 : Int32) (o : Int32) (h : fX0_dataBytesAt v_cells p1 p2 = some o) : Met l yX0_dataBytesAt wsX0_dataBytesAt { frames := 2, cells := 0, slots := 0, locals := 42 } (dk_Pr D k [.ref h0, .int p1, .int p2] [(h0, .inr (0, [.ref a_cells, .int v_sectors, .int v_cutWaits, .int v_writesBeforeCut, .int v_bytesOfCut])), (a_cells, .inl ((k 0), 32768, .inl v_cells))]) (vp_Si (fun r => r = o)) 0 0 (fun _ => False) := by
  unfold fX0_dataBytesAt at h
  refine dk_ofR (cc := cX0_dataBytesAt) (maxL := 3) (ret := (some .int)) (lv := [(0, .ref h0), (1, .int p1), (2, .int p2)]) (by decide) rfl (Nat.le_of_ble_eq_true rfl) rfl ?_
  intro p e s m below meth c C hK hN hP ls hl
  obtain ⟨hx, hb, hr, hml, hown, hts, hlocks⟩ := id C
  refine lv_aload_n hx hb dX0_dataBytesAt_0 rfl (lv_at hl 0 rfl) ?_
  refine lv_aload_n hx hb dX0_dataBytesAt_1 rfl (lv_at hl 0 rfl) ?_
  refine lv_iload_n hx hb dX0_dataBytesAt_2 rfl (lv_at hl 1 rfl) ?_
  refine lv_iload_n hx hb dX0_dataBytesAt_3 rfl (lv_at hl 2 rfl) ?_
  replace h := dk_b h
  obtain ⟨o1, e1, h⟩ := h
  refine dk_cri (va_runV (As := [.int p1, .int p2]) (rest := [.ref h0]) ⟨hx, hb, hml, hown, hts⟩ (mX0_firstCell l D k h0 a_cells v_sectors v_cutWaits v_writesBeforeCut v_bytesOfCut v_cells p1 p2 o1 e1) (cwV 2 hts (dk_gV w_466 w_468 w_6 w_41 w_469) rfl rfl rfl (by decide +kernel) ⟨Nat.le_of_ble_eq_true rfl, Nat.le_of_ble_eq_true rfl⟩) (dk_pvr hK hN hP [0, 1] rfl rfl rfl) rfl rfl hl.1 rfl (lv_room (Nat.le_of_ble_eq_true rfl)) dX0_dataBytesAt_4 ⟨Nat.le_of_ble_eq_true rfl, Nat.le_of_ble_eq_true rfl⟩) ?_
  replace h := dk_b h
  obtain ⟨o2, e2, h⟩ := h
  refine dk_cri (va_runV (As := [.int o1]) (rest := []) ⟨hx, hb, hml, hown, hts⟩ (mX0_dataBytesOf l D k h0 a_cells v_sectors v_cutWaits v_writesBeforeCut v_bytesOfCut v_cells o1 o2 e2) (cwV 1 hts (dk_gV w_547 w_549 w_13 w_41 w_550) rfl rfl rfl (by decide +kernel) ⟨Nat.le_of_ble_eq_true rfl, Nat.le_of_ble_eq_true rfl⟩) (dk_pvr hK hN hP [0, 1] rfl rfl rfl) rfl rfl hl.1 rfl (lv_room (Nat.le_of_ble_eq_true rfl)) dX0_dataBytesAt_7 ⟨Nat.le_of_ble_eq_true rfl, Nat.le_of_ble_eq_true rfl⟩) ?_
  have h := dk_r h
  subst h
  exact dk_rri hx hb hr hlocks dX0_dataBytesAt_10 rfl
/-! ServiceDisk$Disk.make(I)V: rw, frames 1, locals 23 -/
def fX0_make (v_cells : Nat → Int32) (p1 : Int32) : Option (Int32 × Int32 × (Nat → Int32)) :=
  (fJ_fill 32768 v_cells 0).bind fun o1 =>
  some (p1, 0, o1)
set_option maxHeartbeats 4000000 in
set_option maxRecDepth 100000 in
theorem mX0_make (l : Launch) (D : va_G) (k : Nat → ClassId) (h0 a_cells : Nat) (sz : Nat) (v_sectors : Int32) (v_cutWaits : Int32) (v_writesBeforeCut : Int32) (v_bytesOfCut : Int32) (v_cells : Nat → Int32) (p1 : Int32) (o : Int32 × Int32 × (Nat → Int32)) (h : fX0_make v_cells p1 = some o) : Met l yX0_make wsX0_make { frames := 1, cells := 0, slots := 0, locals := 23 } (dk_Pw D k [.ref h0, .int p1] [(h0, .inr (0, [.ref a_cells, .int v_sectors, .int v_cutWaits, .int v_writesBeforeCut, .int v_bytesOfCut])), (a_cells, .inl ((k 0), 32768, .inl v_cells))] sz) (dk_Qv D [(h0, .inr (0, [.ref a_cells, .int o.1, .int o.2.1, .int v_writesBeforeCut, .int v_bytesOfCut])), (a_cells, .inl ((k 0), 32768, .inl o.2.2))] (va_A [(h0, .inr (0, [.ref a_cells, .int v_sectors, .int v_cutWaits, .int v_writesBeforeCut, .int v_bytesOfCut])), (a_cells, .inl ((k 0), 32768, .inl v_cells))] sz)) 0 0 (va_A [(h0, .inr (0, [.ref a_cells, .int v_sectors, .int v_cutWaits, .int v_writesBeforeCut, .int v_bytesOfCut])), (a_cells, .inl ((k 0), 32768, .inl v_cells))] sz) := by
  unfold fX0_make at h
  refine dk_ofW (Qc := fun A => dk_Qv D [(h0, .inr (0, [.ref a_cells, .int o.1, .int o.2.1, .int v_writesBeforeCut, .int v_bytesOfCut])), (a_cells, .inl ((k 0), 32768, .inl o.2.2))] A) (cc := cX0_make) (maxL := 2) (ret := none) (lv := [(0, .ref h0), (1, .int p1)]) (by decide) rfl (Nat.le_of_ble_eq_true rfl) rfl ?_
  intro p e s m below meth c C hK hN hP A hA hD hS ls hl
  obtain ⟨hx, hb, hr, hml, hown, hts, hlocks⟩ := id C
  refine lv_aload_n hx hb dX0_make_0 rfl (lv_at hl 0 rfl) ?_
  refine va_get (D := D) (ci := 0) (v := .ref a_cells) (C := "ServiceDisk$Disk") (T := TX0) (N := 5) hx hb hts inX0 hown hK hP 0 rfl rfl 0 (by decide) (hts _ w_72) (fun _ h9 => h9) rfl dX0_make_1 ?_
  refine lv_iconst (v := 0) hx hb dX0_make_4 (by decide) ?_
  replace h := dk_b h
  obtain ⟨o1, e1, h⟩ := h
  refine dk_cwv (wr := [(h0, .inr (0, [.ref a_cells, .int v_sectors, .int v_cutWaits, .int v_writesBeforeCut, .int v_bytesOfCut]))]) (va_runS (As := [.ref a_cells, .int 0]) (rest := []) ⟨hx, hb, hml, hown, hts⟩ (mJ_fill l D k a_cells s.heap.size 32768 v_cells 0 o1 e1) (va_cwS 2 hts (dk_gS w_276 w_277 w_51 w_278) rfl rfl rfl (by decide +kernel) ⟨Nat.le_of_ble_eq_true rfl, Nat.le_of_ble_eq_true rfl⟩) (dk_psw hK hN hP hD [1] rfl rfl (hP.sub [1] rfl)) rfl rfl hl.1 rfl (lv_room (Nat.le_of_ble_eq_true rfl)) dX0_make_5 ⟨Nat.le_of_ble_eq_true rfl, Nat.le_of_ble_eq_true rfl⟩) hP hD hS hA [1] [0] rfl rfl rfl (by decide) (fun H locs hP hD hS => ?_)
  have hP : va_P D vwCl [(h0, .inr (0, [.ref a_cells, .int v_sectors, .int v_cutWaits, .int v_writesBeforeCut, .int v_bytesOfCut])), (a_cells, .inl ((k 0), 32768, .inl o1))] H := hP
  have hD : va_D A [(h0, .inr (0, [.ref a_cells, .int v_sectors, .int v_cutWaits, .int v_writesBeforeCut, .int v_bytesOfCut])), (a_cells, .inl ((k 0), 32768, .inl o1))] := hD
  refine lv_aload_n hx hb dX0_make_8 rfl (lv_at hl 0 rfl) ?_
  refine lv_iload_n hx hb dX0_make_9 rfl (lv_at hl 1 rfl) ?_
  refine va_put (D := D) (ci := 0) (v := .int p1) (ty := .int) (C := "ServiceDisk$Disk") (T := TX0) (N := 5) hx hb hts inX0 tyX0 tyX0_ok nmX0 hown hK hP hD hS 0 rfl rfl 1 (by decide) (hts _ w_73) (fun _ h9 => h9) rfl (by decide +kernel) rfl rfl (Nat.le_of_ble_eq_true rfl) dX0_make_10 (fun H locs hP hD hS => ?_)
  have hP : va_P D vwCl [(h0, .inr (0, [.ref a_cells, .int p1, .int v_cutWaits, .int v_writesBeforeCut, .int v_bytesOfCut])), (a_cells, .inl ((k 0), 32768, .inl o1))] H := hP
  have hD : va_D A [(h0, .inr (0, [.ref a_cells, .int p1, .int v_cutWaits, .int v_writesBeforeCut, .int v_bytesOfCut])), (a_cells, .inl ((k 0), 32768, .inl o1))] := hD
  refine lv_aload_n hx hb dX0_make_13 rfl (lv_at hl 0 rfl) ?_
  refine lv_iconst (v := 0) hx hb dX0_make_14 (by decide) ?_
  refine va_put (D := D) (ci := 0) (v := .int 0) (ty := .boolean) (C := "ServiceDisk$Disk") (T := TX0) (N := 5) hx hb hts inX0 tyX0 tyX0_ok nmX0 hown hK hP hD hS 0 rfl rfl 2 (by decide) (hts _ w_74) (fun _ h9 => h9) rfl (by decide +kernel) rfl rfl (Nat.le_of_ble_eq_true rfl) dX0_make_15 (fun H locs hP hD hS => ?_)
  have hP : va_P D vwCl [(h0, .inr (0, [.ref a_cells, .int p1, .int 0, .int v_writesBeforeCut, .int v_bytesOfCut])), (a_cells, .inl ((k 0), 32768, .inl o1))] H := hP
  have hD : va_D A [(h0, .inr (0, [.ref a_cells, .int p1, .int 0, .int v_writesBeforeCut, .int v_bytesOfCut])), (a_cells, .inl ((k 0), 32768, .inl o1))] := hD
  have h := dk_r h
  subst h
  exact dk_rwv hx hb hr hlocks (hP.sub [0, 1] rfl) (hD.sub [0, 1] (by decide) rfl) hS dX0_make_18
/-! ServiceDisk$Disk.isMade()Z: ro, frames 0, locals 0 -/
def fX0_isMade (v_sectors : Int32) : Option (Int32) :=
  if dk_01 (if v_sectors ≤ 0 then 0 else 1) then some (if v_sectors ≤ 0 then 0 else 1) else none
set_option maxHeartbeats 4000000 in
set_option maxRecDepth 100000 in
theorem mX0_isMade (l : Launch) (D : va_G) (k : Nat → ClassId) (h0 a_cells : Nat) (v_sectors : Int32) (v_cutWaits : Int32) (v_writesBeforeCut : Int32) (v_bytesOfCut : Int32) (v_cells : Nat → Int32) (o : Int32) (h : fX0_isMade v_sectors = some o) : Met l yX0_isMade wsX0_isMade { frames := 0, cells := 0, slots := 0, locals := 0 } (dk_Pr D k [.ref h0] [(h0, .inr (0, [.ref a_cells, .int v_sectors, .int v_cutWaits, .int v_writesBeforeCut, .int v_bytesOfCut])), (a_cells, .inl ((k 0), 32768, .inl v_cells))]) (vp_Si (fun r => r = o)) 0 0 (fun _ => False) := by
  unfold fX0_isMade at h
  refine dk_ofR (cc := cX0_isMade) (maxL := 1) (ret := (some .boolean)) (lv := [(0, .ref h0)]) (by decide) rfl (Nat.le_of_ble_eq_true rfl) rfl ?_
  intro p e s m below meth c C hK hN hP ls hl
  obtain ⟨hx, hb, hr, hml, hown, hts, hlocks⟩ := id C
  refine lv_aload_n hx hb dX0_isMade_0 rfl (lv_at hl 0 rfl) ?_
  refine va_get (D := D) (ci := 0) (v := .int v_sectors) (C := "ServiceDisk$Disk") (T := TX0) (N := 5) hx hb hts inX0 hown hK hP 0 rfl rfl 1 (by decide) (hts _ w_73) (fun _ h9 => h9) rfl dX0_isMade_1 ?_
  refine dk_jn (F0 m 12 ls [.int (if v_sectors ≤ 0 then 0 else 1)]) (fun K => ?_) ?_
  · refine lv_if_le (tgt := 11) hx hb dX0_isMade_4 (by decide) (fun q1 => ?_) (fun q1 => ?_)
    · refine lv_iconst (v := 0) hx hb dX0_isMade_11 (by decide) ?_
      have K := K
      rw [if_pos q1] at K
      exact K
    · refine lv_iconst (v := 1) hx hb dX0_isMade_7 (by decide) ?_
      refine lv_goto (tgt := 12) hx hb dX0_isMade_8 (by decide) ?_
      have K := K
      rw [if_neg q1] at K
      exact K
  obtain ⟨q, h⟩ := dk_g h
  have h := dk_r h
  subst h
  exact dk_rrz hx hb hr q hlocks dX0_isMade_12 rfl
/-! ServiceDisk$Disk.sectors()I: ro, frames 0, locals 0 -/
def fX0_sectors (v_sectors : Int32) : Option (Int32) :=
  some v_sectors
set_option maxHeartbeats 4000000 in
set_option maxRecDepth 100000 in
theorem mX0_sectors (l : Launch) (D : va_G) (k : Nat → ClassId) (h0 a_cells : Nat) (v_sectors : Int32) (v_cutWaits : Int32) (v_writesBeforeCut : Int32) (v_bytesOfCut : Int32) (v_cells : Nat → Int32) (o : Int32) (h : fX0_sectors v_sectors = some o) : Met l yX0_sectors wsX0_sectors { frames := 0, cells := 0, slots := 0, locals := 0 } (dk_Pr D k [.ref h0] [(h0, .inr (0, [.ref a_cells, .int v_sectors, .int v_cutWaits, .int v_writesBeforeCut, .int v_bytesOfCut])), (a_cells, .inl ((k 0), 32768, .inl v_cells))]) (vp_Si (fun r => r = o)) 0 0 (fun _ => False) := by
  unfold fX0_sectors at h
  refine dk_ofR (cc := cX0_sectors) (maxL := 1) (ret := (some .int)) (lv := [(0, .ref h0)]) (by decide) rfl (Nat.le_of_ble_eq_true rfl) rfl ?_
  intro p e s m below meth c C hK hN hP ls hl
  obtain ⟨hx, hb, hr, hml, hown, hts, hlocks⟩ := id C
  refine lv_aload_n hx hb dX0_sectors_0 rfl (lv_at hl 0 rfl) ?_
  refine va_get (D := D) (ci := 0) (v := .int v_sectors) (C := "ServiceDisk$Disk") (T := TX0) (N := 5) hx hb hts inX0 hown hK hP 0 rfl rfl 1 (by decide) (hts _ w_73) (fun _ h9 => h9) rfl dX0_sectors_1 ?_
  have h := dk_r h
  subst h
  exact dk_rri hx hb hr hlocks dX0_sectors_4 rfl
/-! ServiceDisk$Disk.tellCut(II)V: rw, frames 0, locals 0 -/
def fX0_tellCut (p1 : Int32) (p2 : Int32) : Option (Int32 × Int32 × Int32) :=
  some (1, p1, p2)
set_option maxHeartbeats 4000000 in
set_option maxRecDepth 100000 in
theorem mX0_tellCut (l : Launch) (D : va_G) (k : Nat → ClassId) (h0 a_cells : Nat) (sz : Nat) (v_sectors : Int32) (v_cutWaits : Int32) (v_writesBeforeCut : Int32) (v_bytesOfCut : Int32) (v_cells : Nat → Int32) (p1 : Int32) (p2 : Int32) (o : Int32 × Int32 × Int32) (h : fX0_tellCut p1 p2 = some o) : Met l yX0_tellCut wsX0_tellCut { frames := 0, cells := 0, slots := 0, locals := 0 } (dk_Pw D k [.ref h0, .int p1, .int p2] [(h0, .inr (0, [.ref a_cells, .int v_sectors, .int v_cutWaits, .int v_writesBeforeCut, .int v_bytesOfCut])), (a_cells, .inl ((k 0), 32768, .inl v_cells))] sz) (dk_Qv D [(h0, .inr (0, [.ref a_cells, .int v_sectors, .int o.1, .int o.2.1, .int o.2.2])), (a_cells, .inl ((k 0), 32768, .inl v_cells))] (va_A [(h0, .inr (0, [.ref a_cells, .int v_sectors, .int v_cutWaits, .int v_writesBeforeCut, .int v_bytesOfCut])), (a_cells, .inl ((k 0), 32768, .inl v_cells))] sz)) 0 0 (va_A [(h0, .inr (0, [.ref a_cells, .int v_sectors, .int v_cutWaits, .int v_writesBeforeCut, .int v_bytesOfCut])), (a_cells, .inl ((k 0), 32768, .inl v_cells))] sz) := by
  unfold fX0_tellCut at h
  refine dk_ofW (Qc := fun A => dk_Qv D [(h0, .inr (0, [.ref a_cells, .int v_sectors, .int o.1, .int o.2.1, .int o.2.2])), (a_cells, .inl ((k 0), 32768, .inl v_cells))] A) (cc := cX0_tellCut) (maxL := 3) (ret := none) (lv := [(0, .ref h0), (1, .int p1), (2, .int p2)]) (by decide) rfl (Nat.le_of_ble_eq_true rfl) rfl ?_
  intro p e s m below meth c C hK hN hP A hA hD hS ls hl
  obtain ⟨hx, hb, hr, hml, hown, hts, hlocks⟩ := id C
  refine lv_aload_n hx hb dX0_tellCut_0 rfl (lv_at hl 0 rfl) ?_
  refine lv_iconst (v := 1) hx hb dX0_tellCut_1 (by decide) ?_
  refine va_put (D := D) (ci := 0) (v := .int 1) (ty := .boolean) (C := "ServiceDisk$Disk") (T := TX0) (N := 5) hx hb hts inX0 tyX0 tyX0_ok nmX0 hown hK hP hD hS 0 rfl rfl 2 (by decide) (hts _ w_74) (fun _ h9 => h9) rfl (by decide +kernel) rfl rfl (Nat.le_of_ble_eq_true rfl) dX0_tellCut_2 (fun H locs hP hD hS => ?_)
  have hP : va_P D vwCl [(h0, .inr (0, [.ref a_cells, .int v_sectors, .int 1, .int v_writesBeforeCut, .int v_bytesOfCut])), (a_cells, .inl ((k 0), 32768, .inl v_cells))] H := hP
  have hD : va_D A [(h0, .inr (0, [.ref a_cells, .int v_sectors, .int 1, .int v_writesBeforeCut, .int v_bytesOfCut])), (a_cells, .inl ((k 0), 32768, .inl v_cells))] := hD
  refine lv_aload_n hx hb dX0_tellCut_5 rfl (lv_at hl 0 rfl) ?_
  refine lv_iload_n hx hb dX0_tellCut_6 rfl (lv_at hl 1 rfl) ?_
  refine va_put (D := D) (ci := 0) (v := .int p1) (ty := .int) (C := "ServiceDisk$Disk") (T := TX0) (N := 5) hx hb hts inX0 tyX0 tyX0_ok nmX0 hown hK hP hD hS 0 rfl rfl 3 (by decide) (hts _ w_75) (fun _ h9 => h9) rfl (by decide +kernel) rfl rfl (Nat.le_of_ble_eq_true rfl) dX0_tellCut_7 (fun H locs hP hD hS => ?_)
  have hP : va_P D vwCl [(h0, .inr (0, [.ref a_cells, .int v_sectors, .int 1, .int p1, .int v_bytesOfCut])), (a_cells, .inl ((k 0), 32768, .inl v_cells))] H := hP
  have hD : va_D A [(h0, .inr (0, [.ref a_cells, .int v_sectors, .int 1, .int p1, .int v_bytesOfCut])), (a_cells, .inl ((k 0), 32768, .inl v_cells))] := hD
  refine lv_aload_n hx hb dX0_tellCut_10 rfl (lv_at hl 0 rfl) ?_
  refine lv_iload_n hx hb dX0_tellCut_11 rfl (lv_at hl 2 rfl) ?_
  refine va_put (D := D) (ci := 0) (v := .int p2) (ty := .int) (C := "ServiceDisk$Disk") (T := TX0) (N := 5) hx hb hts inX0 tyX0 tyX0_ok nmX0 hown hK hP hD hS 0 rfl rfl 4 (by decide) (hts _ w_76) (fun _ h9 => h9) rfl (by decide +kernel) rfl rfl (Nat.le_of_ble_eq_true rfl) dX0_tellCut_12 (fun H locs hP hD hS => ?_)
  have hP : va_P D vwCl [(h0, .inr (0, [.ref a_cells, .int v_sectors, .int 1, .int p1, .int p2])), (a_cells, .inl ((k 0), 32768, .inl v_cells))] H := hP
  have hD : va_D A [(h0, .inr (0, [.ref a_cells, .int v_sectors, .int 1, .int p1, .int p2])), (a_cells, .inl ((k 0), 32768, .inl v_cells))] := hD
  have h := dk_r h
  subst h
  exact dk_rwv hx hb hr hlocks (hP.sub [0, 1] rfl) (hD.sub [0, 1] (by decide) rfl) hS dX0_tellCut_15
/-! ServiceDisk$Disk.forgetCut()V: rw, frames 0, locals 0 -/
def fX0_forgetCut  : Option (Int32) :=
  some 0
set_option maxHeartbeats 4000000 in
set_option maxRecDepth 100000 in
theorem mX0_forgetCut (l : Launch) (D : va_G) (k : Nat → ClassId) (h0 a_cells : Nat) (sz : Nat) (v_sectors : Int32) (v_cutWaits : Int32) (v_writesBeforeCut : Int32) (v_bytesOfCut : Int32) (v_cells : Nat → Int32) (o : Int32) (h : fX0_forgetCut  = some o) : Met l yX0_forgetCut wsX0_forgetCut { frames := 0, cells := 0, slots := 0, locals := 0 } (dk_Pw D k [.ref h0] [(h0, .inr (0, [.ref a_cells, .int v_sectors, .int v_cutWaits, .int v_writesBeforeCut, .int v_bytesOfCut])), (a_cells, .inl ((k 0), 32768, .inl v_cells))] sz) (dk_Qv D [(h0, .inr (0, [.ref a_cells, .int v_sectors, .int o, .int v_writesBeforeCut, .int v_bytesOfCut])), (a_cells, .inl ((k 0), 32768, .inl v_cells))] (va_A [(h0, .inr (0, [.ref a_cells, .int v_sectors, .int v_cutWaits, .int v_writesBeforeCut, .int v_bytesOfCut])), (a_cells, .inl ((k 0), 32768, .inl v_cells))] sz)) 0 0 (va_A [(h0, .inr (0, [.ref a_cells, .int v_sectors, .int v_cutWaits, .int v_writesBeforeCut, .int v_bytesOfCut])), (a_cells, .inl ((k 0), 32768, .inl v_cells))] sz) := by
  unfold fX0_forgetCut at h
  refine dk_ofW (Qc := fun A => dk_Qv D [(h0, .inr (0, [.ref a_cells, .int v_sectors, .int o, .int v_writesBeforeCut, .int v_bytesOfCut])), (a_cells, .inl ((k 0), 32768, .inl v_cells))] A) (cc := cX0_forgetCut) (maxL := 1) (ret := none) (lv := [(0, .ref h0)]) (by decide) rfl (Nat.le_of_ble_eq_true rfl) rfl ?_
  intro p e s m below meth c C hK hN hP A hA hD hS ls hl
  obtain ⟨hx, hb, hr, hml, hown, hts, hlocks⟩ := id C
  refine lv_aload_n hx hb dX0_forgetCut_0 rfl (lv_at hl 0 rfl) ?_
  refine lv_iconst (v := 0) hx hb dX0_forgetCut_1 (by decide) ?_
  refine va_put (D := D) (ci := 0) (v := .int 0) (ty := .boolean) (C := "ServiceDisk$Disk") (T := TX0) (N := 5) hx hb hts inX0 tyX0 tyX0_ok nmX0 hown hK hP hD hS 0 rfl rfl 2 (by decide) (hts _ w_74) (fun _ h9 => h9) rfl (by decide +kernel) rfl rfl (Nat.le_of_ble_eq_true rfl) dX0_forgetCut_2 (fun H locs hP hD hS => ?_)
  have hP : va_P D vwCl [(h0, .inr (0, [.ref a_cells, .int v_sectors, .int 0, .int v_writesBeforeCut, .int v_bytesOfCut])), (a_cells, .inl ((k 0), 32768, .inl v_cells))] H := hP
  have hD : va_D A [(h0, .inr (0, [.ref a_cells, .int v_sectors, .int 0, .int v_writesBeforeCut, .int v_bytesOfCut])), (a_cells, .inl ((k 0), 32768, .inl v_cells))] := hD
  have h := dk_r h
  subst h
  exact dk_rwv hx hb hr hlocks (hP.sub [0, 1] rfl) (hD.sub [0, 1] (by decide) rfl) hS dX0_forgetCut_5
/-! ServiceDisk$Disk.copyOver(II)V: rw, frames 1, locals 26 -/
def fX0_copyOver (v_cells : Nat → Int32) (p1 : Int32) (p2 : Int32) : Option ((Nat → Int32)) :=
  (fX0_firstCell p1 p2).bind fun o1 =>
  (fX0_firstCell (1 - p1) p2).bind fun o2 =>
  if o1 < 0 then
    some v_cells
  else
    if ((nI 32768) - 512) < o1 then
      some v_cells
    else
      if o2 < 0 then
        some v_cells
      else
        if ((nI 32768) - 512) < o2 then
          some v_cells
        else
          if dk_cp .byte v_cells o1 o2 512 32768 32768 then
          some (va_cpy v_cells v_cells o1.toNatClampNeg o2.toNatClampNeg (512 : Int32).toNatClampNeg)
          else none
set_option maxHeartbeats 4000000 in
set_option maxRecDepth 100000 in
theorem mX0_copyOver (l : Launch) (D : va_G) (k : Nat → ClassId) (h0 a_cells : Nat) (sz : Nat) (v_sectors : Int32) (v_cutWaits : Int32) (v_writesBeforeCut : Int32) (v_bytesOfCut : Int32) (v_cells : Nat → Int32) (p1 : Int32) (p2 : Int32) (o : (Nat → Int32)) (h : fX0_copyOver v_cells p1 p2 = some o) : Met l yX0_copyOver wsX0_copyOver { frames := 1, cells := 0, slots := 0, locals := 26 } (dk_Pw D k [.ref h0, .int p1, .int p2] [(h0, .inr (0, [.ref a_cells, .int v_sectors, .int v_cutWaits, .int v_writesBeforeCut, .int v_bytesOfCut])), (a_cells, .inl ((k 0), 32768, .inl v_cells))] sz) (dk_Qv D [(h0, .inr (0, [.ref a_cells, .int v_sectors, .int v_cutWaits, .int v_writesBeforeCut, .int v_bytesOfCut])), (a_cells, .inl ((k 0), 32768, .inl o))] (va_A [(h0, .inr (0, [.ref a_cells, .int v_sectors, .int v_cutWaits, .int v_writesBeforeCut, .int v_bytesOfCut])), (a_cells, .inl ((k 0), 32768, .inl v_cells))] sz)) 0 0 (va_A [(h0, .inr (0, [.ref a_cells, .int v_sectors, .int v_cutWaits, .int v_writesBeforeCut, .int v_bytesOfCut])), (a_cells, .inl ((k 0), 32768, .inl v_cells))] sz) := by
  unfold fX0_copyOver at h
  refine dk_ofW (Qc := fun A => dk_Qv D [(h0, .inr (0, [.ref a_cells, .int v_sectors, .int v_cutWaits, .int v_writesBeforeCut, .int v_bytesOfCut])), (a_cells, .inl ((k 0), 32768, .inl o))] A) (cc := cX0_copyOver) (maxL := 6) (ret := none) (lv := [(0, .ref h0), (1, .int p1), (2, .int p2)]) (by decide) rfl (Nat.le_of_ble_eq_true rfl) rfl ?_
  intro p e s m below meth c C hK hN hP A hA hD hS ls hl
  obtain ⟨hx, hb, hr, hml, hown, hts, hlocks⟩ := id C
  refine lv_aload_n hx hb dX0_copyOver_0 rfl (lv_at hl 0 rfl) ?_
  refine lv_iload_n hx hb dX0_copyOver_1 rfl (lv_at hl 1 rfl) ?_
  refine lv_iload_n hx hb dX0_copyOver_2 rfl (lv_at hl 2 rfl) ?_
  replace h := dk_b h
  obtain ⟨o1, e1, h⟩ := h
  refine dk_cri (va_runV (As := [.int p1, .int p2]) (rest := []) ⟨hx, hb, hml, hown, hts⟩ (mX0_firstCell l D k h0 a_cells v_sectors v_cutWaits v_writesBeforeCut v_bytesOfCut v_cells p1 p2 o1 e1) (cwV 2 hts (dk_gV w_466 w_468 w_6 w_41 w_469) rfl rfl rfl (by decide +kernel) ⟨Nat.le_of_ble_eq_true rfl, Nat.le_of_ble_eq_true rfl⟩) (dk_pvr hK hN hP [0, 1] rfl rfl rfl) rfl rfl hl.1 rfl (lv_room (Nat.le_of_ble_eq_true rfl)) dX0_copyOver_3 ⟨Nat.le_of_ble_eq_true rfl, Nat.le_of_ble_eq_true rfl⟩) ?_
  refine lv_istore_n (lv' := [(3, .int o1), (0, .ref h0), (1, .int p1), (2, .int p2)]) hx hb dX0_copyOver_6 rfl hl (by decide) rfl (fun ls hl => ?_)
  refine lv_aload_n hx hb dX0_copyOver_7 rfl (lv_at hl 1 rfl) ?_
  refine lv_iconst (v := 1) hx hb dX0_copyOver_8 (by decide) ?_
  refine lv_iload_n hx hb dX0_copyOver_9 rfl (lv_at hl 2 rfl) ?_
  refine lv_isub hx hb dX0_copyOver_10 ?_
  refine lv_iload_n hx hb dX0_copyOver_11 rfl (lv_at hl 3 rfl) ?_
  replace h := dk_b h
  obtain ⟨o2, e2, h⟩ := h
  refine dk_cri (va_runV (As := [.int (1 - p1), .int p2]) (rest := []) ⟨hx, hb, hml, hown, hts⟩ (mX0_firstCell l D k h0 a_cells v_sectors v_cutWaits v_writesBeforeCut v_bytesOfCut v_cells (1 - p1) p2 o2 e2) (cwV 2 hts (dk_gV w_466 w_468 w_6 w_41 w_469) rfl rfl rfl (by decide +kernel) ⟨Nat.le_of_ble_eq_true rfl, Nat.le_of_ble_eq_true rfl⟩) (dk_pvr hK hN hP [0, 1] rfl rfl rfl) rfl rfl hl.1 rfl (lv_room (Nat.le_of_ble_eq_true rfl)) dX0_copyOver_12 ⟨Nat.le_of_ble_eq_true rfl, Nat.le_of_ble_eq_true rfl⟩) ?_
  refine lv_istore (lv' := [(4, .int o2), (3, .int o1), (0, .ref h0), (1, .int p1), (2, .int p2)]) hx hb dX0_copyOver_15 hl (by decide) rfl (fun ls hl => ?_)
  refine lv_aload_n hx hb dX0_copyOver_17 rfl (lv_at hl 2 rfl) ?_
  refine va_get (D := D) (ci := 0) (v := .ref a_cells) (C := "ServiceDisk$Disk") (T := TX0) (N := 5) hx hb hts inX0 hown hK hP 0 rfl rfl 0 (by decide) (hts _ w_72) (fun _ h9 => h9) rfl dX0_copyOver_18 ?_
  refine va_alen hx hb hK hP 1 0 rfl rfl (v := (nI 32768)) rfl dX0_copyOver_21 ?_
  refine lv_sipush (v := 512) hx hb dX0_copyOver_22 (by decide) ?_
  refine lv_isub hx hb dX0_copyOver_25 ?_
  refine lv_istore (lv' := [(5, .int ((nI 32768) - 512)), (4, .int o2), (3, .int o1), (0, .ref h0), (1, .int p1), (2, .int p2)]) hx hb dX0_copyOver_26 hl (by decide) rfl (fun ls hl => ?_)
  refine lv_iload_n hx hb dX0_copyOver_28 rfl (lv_at hl 2 rfl) ?_
  refine lv_if_lt (tgt := 67) hx hb dX0_copyOver_29 (by decide) (fun q => ?_) (fun q => ?_)
  · replace h := dk_t q h
    have h := dk_r h
    subst h
    exact dk_rwv hx hb hr hlocks (hP.sub [0, 1] rfl) (hD.sub [0, 1] (by decide) rfl) hS dX0_copyOver_67
  · replace h := dk_f q h
    refine lv_iload_n hx hb dX0_copyOver_32 rfl (lv_at hl 2 rfl) ?_
    refine lv_iload hx hb dX0_copyOver_33 (lv_at hl 0 rfl) ?_
    refine lv_icmp_gt (tgt := 67) hx hb dX0_copyOver_35 (by decide) (fun q => ?_) (fun q => ?_)
    · replace h := dk_t q h
      have h := dk_r h
      subst h
      exact dk_rwv hx hb hr hlocks (hP.sub [0, 1] rfl) (hD.sub [0, 1] (by decide) rfl) hS dX0_copyOver_67
    · replace h := dk_f q h
      refine lv_iload hx hb dX0_copyOver_38 (lv_at hl 1 rfl) ?_
      refine lv_if_lt (tgt := 67) hx hb dX0_copyOver_40 (by decide) (fun q => ?_) (fun q => ?_)
      · replace h := dk_t q h
        have h := dk_r h
        subst h
        exact dk_rwv hx hb hr hlocks (hP.sub [0, 1] rfl) (hD.sub [0, 1] (by decide) rfl) hS dX0_copyOver_67
      · replace h := dk_f q h
        refine lv_iload hx hb dX0_copyOver_43 (lv_at hl 1 rfl) ?_
        refine lv_iload hx hb dX0_copyOver_45 (lv_at hl 0 rfl) ?_
        refine lv_icmp_gt (tgt := 67) hx hb dX0_copyOver_47 (by decide) (fun q => ?_) (fun q => ?_)
        · replace h := dk_t q h
          have h := dk_r h
          subst h
          exact dk_rwv hx hb hr hlocks (hP.sub [0, 1] rfl) (hD.sub [0, 1] (by decide) rfl) hS dX0_copyOver_67
        · replace h := dk_f q h
          refine lv_aload_n hx hb dX0_copyOver_50 rfl (lv_at hl 3 rfl) ?_
          refine va_get (D := D) (ci := 0) (v := .ref a_cells) (C := "ServiceDisk$Disk") (T := TX0) (N := 5) hx hb hts inX0 hown hK hP 0 rfl rfl 0 (by decide) (hts _ w_72) (fun _ h9 => h9) rfl dX0_copyOver_51 ?_
          refine lv_iload_n hx hb dX0_copyOver_54 rfl (lv_at hl 2 rfl) ?_
          refine lv_aload_n hx hb dX0_copyOver_55 rfl (lv_at hl 3 rfl) ?_
          refine va_get (D := D) (ci := 0) (v := .ref a_cells) (C := "ServiceDisk$Disk") (T := TX0) (N := 5) hx hb hts inX0 hown hK hP 0 rfl rfl 0 (by decide) (hts _ w_72) (fun _ h9 => h9) rfl dX0_copyOver_56 ?_
          refine lv_iload hx hb dX0_copyOver_59 (lv_at hl 1 rfl) ?_
          refine lv_sipush (v := 512) hx hb dX0_copyOver_61 (by decide) ?_
          obtain ⟨q, h⟩ := dk_g h
          refine va_copyi hx hb (hml.trans hl.1.symm) hown (hts _ w_560) (hts _ w_476) (hts _ w_475) (hts _ w_56) hK hP hD hS 1 1 0 0 (ty := .byte) rfl rfl rfl rfl rfl q.1 q.2.1 q.2.2.1 q.2.2.2.1 q.2.2.2.2.1 q.2.2.2.2.2 (Nat.le_of_ble_eq_true rfl) (Nat.le_of_ble_eq_true rfl) dX0_copyOver_64 (fun H locs hP hD hS => ?_)
          have hP : va_P D vwCl [(h0, .inr (0, [.ref a_cells, .int v_sectors, .int v_cutWaits, .int v_writesBeforeCut, .int v_bytesOfCut])), (a_cells, .inl ((k 0), 32768, .inl (va_cpy v_cells v_cells o1.toNatClampNeg o2.toNatClampNeg (512 : Int32).toNatClampNeg)))] H := hP
          have hD : va_D A [(h0, .inr (0, [.ref a_cells, .int v_sectors, .int v_cutWaits, .int v_writesBeforeCut, .int v_bytesOfCut])), (a_cells, .inl ((k 0), 32768, .inl (va_cpy v_cells v_cells o1.toNatClampNeg o2.toNatClampNeg (512 : Int32).toNatClampNeg)))] := hD
          have h := dk_r h
          subst h
          exact dk_rwv hx hb hr hlocks (hP.sub [0, 1] rfl) (hD.sub [0, 1] (by decide) rfl) hS dX0_copyOver_67
/-! ServiceDisk$Disk.flip(IIII)V: rw, frames 1, locals 22 -/
def fX0_flip (v_cells : Nat → Int32) (p1 : Int32) (p2 : Int32) (p3 : Int32) (p4 : Int32) : Option ((Nat → Int32)) :=
  (fX0_firstCell p1 p2).bind fun o1 =>
  if (o1 + p3) < 0 then
    some v_cells
  else
    if (nI 32768) ≤ (o1 + p3) then
      some v_cells
    else
      if dk_in (o1 + p3) 32768 then
      if dk_in (o1 + p3) 32768 then
      some (upd v_cells (o1 + p3).toNatClampNeg (vp_nar .byte (((v_cells (o1 + p3).toNatClampNeg) ^^^ p4).toInt8.toInt32)))
      else none
      else none
set_option maxHeartbeats 4000000 in
set_option maxRecDepth 100000 in
theorem mX0_flip (l : Launch) (D : va_G) (k : Nat → ClassId) (h0 a_cells : Nat) (sz : Nat) (v_sectors : Int32) (v_cutWaits : Int32) (v_writesBeforeCut : Int32) (v_bytesOfCut : Int32) (v_cells : Nat → Int32) (p1 : Int32) (p2 : Int32) (p3 : Int32) (p4 : Int32) (o : (Nat → Int32)) (h : fX0_flip v_cells p1 p2 p3 p4 = some o) : Met l yX0_flip wsX0_flip { frames := 1, cells := 0, slots := 0, locals := 22 } (dk_Pw D k [.ref h0, .int p1, .int p2, .int p3, .int p4] [(h0, .inr (0, [.ref a_cells, .int v_sectors, .int v_cutWaits, .int v_writesBeforeCut, .int v_bytesOfCut])), (a_cells, .inl ((k 0), 32768, .inl v_cells))] sz) (dk_Qv D [(h0, .inr (0, [.ref a_cells, .int v_sectors, .int v_cutWaits, .int v_writesBeforeCut, .int v_bytesOfCut])), (a_cells, .inl ((k 0), 32768, .inl o))] (va_A [(h0, .inr (0, [.ref a_cells, .int v_sectors, .int v_cutWaits, .int v_writesBeforeCut, .int v_bytesOfCut])), (a_cells, .inl ((k 0), 32768, .inl v_cells))] sz)) 0 0 (va_A [(h0, .inr (0, [.ref a_cells, .int v_sectors, .int v_cutWaits, .int v_writesBeforeCut, .int v_bytesOfCut])), (a_cells, .inl ((k 0), 32768, .inl v_cells))] sz) := by
  unfold fX0_flip at h
  refine dk_ofW (Qc := fun A => dk_Qv D [(h0, .inr (0, [.ref a_cells, .int v_sectors, .int v_cutWaits, .int v_writesBeforeCut, .int v_bytesOfCut])), (a_cells, .inl ((k 0), 32768, .inl o))] A) (cc := cX0_flip) (maxL := 6) (ret := none) (lv := [(0, .ref h0), (1, .int p1), (2, .int p2), (3, .int p3), (4, .int p4)]) (by decide) rfl (Nat.le_of_ble_eq_true rfl) rfl ?_
  intro p e s m below meth c C hK hN hP A hA hD hS ls hl
  obtain ⟨hx, hb, hr, hml, hown, hts, hlocks⟩ := id C
  refine lv_aload_n hx hb dX0_flip_0 rfl (lv_at hl 0 rfl) ?_
  refine lv_iload_n hx hb dX0_flip_1 rfl (lv_at hl 1 rfl) ?_
  refine lv_iload_n hx hb dX0_flip_2 rfl (lv_at hl 2 rfl) ?_
  replace h := dk_b h
  obtain ⟨o1, e1, h⟩ := h
  refine dk_cri (va_runV (As := [.int p1, .int p2]) (rest := []) ⟨hx, hb, hml, hown, hts⟩ (mX0_firstCell l D k h0 a_cells v_sectors v_cutWaits v_writesBeforeCut v_bytesOfCut v_cells p1 p2 o1 e1) (cwV 2 hts (dk_gV w_466 w_468 w_6 w_41 w_469) rfl rfl rfl (by decide +kernel) ⟨Nat.le_of_ble_eq_true rfl, Nat.le_of_ble_eq_true rfl⟩) (dk_pvr hK hN hP [0, 1] rfl rfl rfl) rfl rfl hl.1 rfl (lv_room (Nat.le_of_ble_eq_true rfl)) dX0_flip_3 ⟨Nat.le_of_ble_eq_true rfl, Nat.le_of_ble_eq_true rfl⟩) ?_
  refine lv_iload_n hx hb dX0_flip_6 rfl (lv_at hl 3 rfl) ?_
  refine lv_iadd hx hb dX0_flip_7 ?_
  refine lv_istore (lv' := [(5, .int (o1 + p3)), (0, .ref h0), (1, .int p1), (2, .int p2), (3, .int p3), (4, .int p4)]) hx hb dX0_flip_8 hl (by decide) rfl (fun ls hl => ?_)
  refine lv_iload hx hb dX0_flip_10 (lv_at hl 0 rfl) ?_
  refine lv_if_lt (tgt := 43) hx hb dX0_flip_12 (by decide) (fun q => ?_) (fun q => ?_)
  · replace h := dk_t q h
    have h := dk_r h
    subst h
    exact dk_rwv hx hb hr hlocks (hP.sub [0, 1] rfl) (hD.sub [0, 1] (by decide) rfl) hS dX0_flip_43
  · replace h := dk_f q h
    refine lv_iload hx hb dX0_flip_15 (lv_at hl 0 rfl) ?_
    refine lv_aload_n hx hb dX0_flip_17 rfl (lv_at hl 1 rfl) ?_
    refine va_get (D := D) (ci := 0) (v := .ref a_cells) (C := "ServiceDisk$Disk") (T := TX0) (N := 5) hx hb hts inX0 hown hK hP 0 rfl rfl 0 (by decide) (hts _ w_72) (fun _ h9 => h9) rfl dX0_flip_18 ?_
    refine va_alen hx hb hK hP 1 0 rfl rfl (v := (nI 32768)) rfl dX0_flip_21 ?_
    refine lv_icmp_ge (tgt := 43) hx hb dX0_flip_22 (by decide) (fun q => ?_) (fun q => ?_)
    · replace h := dk_t q h
      have h := dk_r h
      subst h
      exact dk_rwv hx hb hr hlocks (hP.sub [0, 1] rfl) (hD.sub [0, 1] (by decide) rfl) hS dX0_flip_43
    · replace h := dk_f q h
      refine lv_aload_n hx hb dX0_flip_25 rfl (lv_at hl 1 rfl) ?_
      refine va_get (D := D) (ci := 0) (v := .ref a_cells) (C := "ServiceDisk$Disk") (T := TX0) (N := 5) hx hb hts inX0 hown hK hP 0 rfl rfl 0 (by decide) (hts _ w_72) (fun _ h9 => h9) rfl dX0_flip_26 ?_
      refine lv_iload hx hb dX0_flip_29 (lv_at hl 0 rfl) ?_
      refine lv_aload_n hx hb dX0_flip_31 rfl (lv_at hl 1 rfl) ?_
      refine va_get (D := D) (ci := 0) (v := .ref a_cells) (C := "ServiceDisk$Disk") (T := TX0) (N := 5) hx hb hts inX0 hown hK hP 0 rfl rfl 0 (by decide) (hts _ w_72) (fun _ h9 => h9) rfl dX0_flip_32 ?_
      refine lv_iload hx hb dX0_flip_35 (lv_at hl 0 rfl) ?_
      obtain ⟨q, h⟩ := dk_g h
      refine va_bald hx hb hK hP 1 0 rfl rfl q dX0_flip_37 ?_
      refine lv_iload hx hb dX0_flip_38 (lv_at hl 5 rfl) ?_
      refine lv_ixor hx hb dX0_flip_40 ?_
      refine lv_i2b (v := ((v_cells (o1 + p3).toNatClampNeg) ^^^ p4).toInt8.toInt32) hx hb dX0_flip_41 rfl ?_
      obtain ⟨q, h⟩ := dk_g h
      refine va_bast hx hb hK hP hD hS 1 0 rfl rfl q dX0_flip_42 (fun H locs hP hD hS => ?_)
      have hP : va_P D vwCl [(h0, .inr (0, [.ref a_cells, .int v_sectors, .int v_cutWaits, .int v_writesBeforeCut, .int v_bytesOfCut])), (a_cells, .inl ((k 0), 32768, .inl (upd v_cells (o1 + p3).toNatClampNeg (vp_nar .byte (((v_cells (o1 + p3).toNatClampNeg) ^^^ p4).toInt8.toInt32)))))] H := hP
      have hD : va_D A [(h0, .inr (0, [.ref a_cells, .int v_sectors, .int v_cutWaits, .int v_writesBeforeCut, .int v_bytesOfCut])), (a_cells, .inl ((k 0), 32768, .inl (upd v_cells (o1 + p3).toNatClampNeg (vp_nar .byte (((v_cells (o1 + p3).toNatClampNeg) ^^^ p4).toInt8.toInt32)))))] := hD
      have h := dk_r h
      subst h
      exact dk_rwv hx hb hr hlocks (hP.sub [0, 1] rfl) (hD.sub [0, 1] (by decide) rfl) hS dX0_flip_43
