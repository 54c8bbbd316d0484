/-! METHODS THAT THROW -/
def dkEx : Nat → String := fun i => match i with
  | 0 => "java/lang/IllegalArgumentException"
  | 1 => "java/lang/IndexOutOfBoundsException"
  | 2 => "java/lang/IllegalStateException"
  | _ => "java/lang/UnsupportedOperationException"
def dkRt : MethodName := ⟨"java/lang/RuntimeException", "<init>", "(Ljava/lang/String;)V"⟩
def dkXc : MethodName := ⟨"java/lang/Exception", "<init>", "(Ljava/lang/String;)V"⟩
def dkTh : MethodName := ⟨"java/lang/Throwable", "<init>", "(Ljava/lang/String;)V"⟩
def dkD : List Cond := [.castable (dkEx 0) (dkEx 0), .castable (dkEx 1) (dkEx 1), .castable (dkEx 2) (dkEx 2), .castable (dkEx 3) (dkEx 3), .declares dkRt, .declares dkXc, .declares dkTh]
def dkS : List (Nat × String) := [(101, "no room for a new row"), (143, "no disk"), (167, "a byte below 0"), (189, "no such rows"), (197, "the line is so"), (209, "a gap below 0"), (217, "the line is down"), (227, "no such count"), (230, "a number outside its range"), (232, "an unknown number"), (234, "no power")]
def dkNC : List (Nat × Nat) := [(0, 1), (0, 2), (0, 3), (1, 0), (1, 2), (1, 3), (2, 0), (2, 1), (2, 3), (3, 0), (3, 1), (3, 2)]
def dk_T (sa : Nat → Nat) (U : State) : Prop := (∀ w ∈ dkD, va_Nw w U) ∧ (∀ q ∈ dkS, vk_R "ServiceDisk" q.1 q.2 (sa q.1) U) ∧ (∀ q ∈ dkNC, va_Nc (dkEx q.1) (dkEx q.2) U)
theorem dk_T.warm {sa : Nat → Nat} {s U : State} (hW : s.WarmedH U.vm) (h : dk_T sa s) : dk_T sa U := by
  obtain ⟨h1, h2, h3⟩ := h
  refine ⟨fun w hw => ?_, fun q hq => vk_R.warm hW (h2 q hq), fun q hq => (h3 q hq).moved hW.alike⟩
  have h0 := h1 w hw
  simp only [dkD, List.mem_cons, List.not_mem_nil, or_false] at hw
  rcases hw with rfl | rfl | rfl | rfl | rfl | rfl | rfl
  · exact va_Nw.warmC hW h0
  · exact va_Nw.warmC hW h0
  · exact va_Nw.warmC hW h0
  · exact va_Nw.warmC hW h0
  · exact va_Nw.warmD hW h0
  · exact va_Nw.warmD hW h0
  · exact va_Nw.warmD hW h0
theorem dk_T.same {sa : Nat → Nat} {u U : State} (h : u.vm = U.vm) (q : dk_T sa u) : dk_T sa U := dk_T.warm (by rw [← h]; exact State.WarmedH.refl u) q
def dk_E (sa : Nat → Nat) (A : Nat → Prop) (U : State) (H : Heap) : Prop := (vx_Zq Bundle.tN "UNASSIGNED_STACK" Bundle.steD A U H ∧ vx_Zq Bundle.tN "SUPPRESSED_SENTINEL" Bundle.listD A U H) ∧ dk_T sa U
theorem dk_E.to {sa : Nat → Nat} {A A1 : Nat → Prop} {s U : State} {H : Heap} {locs : List Loc} (hE : dk_E sa A s s.heap) (hS : va_S A s.heap H locs) (hF : ∀ q, A1 q → A q) (hU : U.heap = H) (hW : s.WarmedH U.vm) : dk_E sa A1 U U.heap := by
  rw [hU]
  exact ⟨⟨((hE.1.1.kept hS.2.1).narrow hF).moved hW.alike, ((hE.1.2.kept hS.2.1).narrow hF).moved hW.alike⟩, hE.2.warm hW⟩
def dk_Pt (D : va_G) (k sa : Nat → Nat) (av : List Value) (ws : va_W) (sz : Nat) : Array Value → State → Prop := va_Pc av (fun U => U.heap.size = sz ∧ va_P D vwCl ws U.heap ∧ (va_K D vwCl (dkT k) U ∧ dk_N U) ∧ va_D (fun _ => True) ws ∧ dk_E sa (va_A ws sz) U U.heap)
theorem dk_Pt_b {D : va_G} {k sa : Nat → Nat} {av : List Value} {ws : va_W} {sz : Nat} : FrameBlind (dk_Pt D k sa av ws sz) := fun a U g mk q => by
  obtain ⟨q0, q1, qP, ⟨qK, qN⟩, qD, ⟨qU, qS⟩, qT⟩ := q
  exact ⟨q0, q1, qP, ⟨va_K.moved (u := U) (U := U.calling g mk a) (Vm.Alike.refl U.vm) qK, dk_N.same rfl qN⟩, qD, ⟨vx_Zq.moved (u := U) (U := U.calling g mk a) (Vm.Alike.refl U.vm) qU, vx_Zq.moved (u := U) (U := U.calling g mk a) (Vm.Alike.refl U.vm) qS⟩, dk_T.same (u := U) (U := U.calling g mk a) rfl qT⟩
def dk_Xi (x : Int32 ⊕ Nat) (D : va_G) (w1 : va_W) (A : Nat → Prop) : Array Value → State → Outcome → State → Prop := va_Qi (fun r (_ : Unit) => x = .inl r) (fun _ t => va_P D vwCl w1 t.heap ∧ va_D A w1) A
def dk_Xl (x : Int64 ⊕ Nat) (D : va_G) (w1 : va_W) (A : Nat → Prop) : Array Value → State → Outcome → State → Prop := va_Ql (fun r (_ : Unit) => x = .inl r) (fun _ t => va_P D vwCl w1 t.heap ∧ va_D A w1) A
def dk_Xv (x : Unit ⊕ Nat) (D : va_G) (w1 : va_W) (A : Nat → Prop) : Array Value → State → Outcome → State → Prop := va_Qv (fun (_ : Unit) => x = .inl ()) (fun _ t => va_P D vwCl w1 t.heap ∧ va_D A w1) A
def dk_XC {α : Type} (x : α ⊕ Nat) (D : va_G) (w1 : va_W) (A : Nat → Prop) : String → State → State → Prop := vx_X (fun (_ : Unit) => True) (fun E _ t => (∃ i : Nat, x = .inr i ∧ dkEx i = E) ∧ va_P D vwCl w1 t.heap ∧ va_D A w1) A
theorem dk_ofX {l : Launch} {y : MethodName} {ws : List Cond} {rm : Room} {D : va_G} {k sa : Nat → Nat} {av : List Value} {wd : va_W} {sz : Nat} {Qc : (Nat → Prop) → Array Value → State → Outcome → State → Prop} {XC : (Nat → Prop) → String → State → State → Prop} {mc ms : Nat} {cc : ByteArray} {maxL : Nat} {ret : Option FieldType} {lv : List (Nat × Value)}
    (hy : plainName y.cls = true) (hw : ws = Cond.code y cc maxL ret :: dkB) (hn : (lg_sl av).length ≤ maxL) (hlv : lv_args 0 av = lv)
    (body : ∀ (p : Program) (e : Env) (s : State) (m : MethodId) (below : List Frame) (meth : Method) (c : Code), dk_Cx p s m meth c cc ret maxL y.cls dkB av.toArray → va_K D vwCl (dkT k) s → dk_N s → (∀ x ∈ c.exceptionTable.toList, False) → va_P D vwCl wd s.heap → ∀ A : Nat → Prop, (∀ q : Nat, s.heap.size ≤ q → A q) → dk_E sa A s s.heap → va_D A wd → va_S A s.heap s.heap [] → ∀ ls : Array Slot, lv_has ls maxL lv →
      W p l e rm s m av.toArray below meth c s.heap [] 0 0 (vx_MQ below (Qc A) (XC A) av.toArray s mc ms A) (F0 m 0 ls [])) : vx_Met l y ws rm (dk_Pt D k sa av wd sz) (Qc (va_A wd sz)) (XC (va_A wd sz)) mc ms (va_A wd sz) := by
  refine vx_ofW (cc := cc) (maxL := maxL) (ret := ret) hy hw ?_
  intro p e s m args below meth c s₁ B hml hT hv
  obtain ⟨rfl, hsz, hP, ⟨hK, hN⟩, hD0, hE⟩ := hv
  subst hsz
  subst hw
  have hts := atoms_spec (ws := Cond.code y cc maxL ret :: dkB) B.pre
  have hown : s.vm.findClass y.cls = some m.cls := findClass_of_methodNamed B.named
  have hl := lv_entry av (n := maxL) hn
  rw [lg_entry_eq]
  exact body p e s m below meth c ⟨B.exec, B.bytes, B.returns, hml, hown, fun w h => hts w (List.mem_cons_of_mem _ h), B.notSynchronized⟩ hK hN hT hP _ (fun q h => Or.inr h) hE (hD0.self (sz := s.heap.size)) va_S.rf _ (by rw [← hlv]; exact hl)
section DKX
variable {p : Program} {l : Launch} {e : Env} {R : Room} {s : State} {m : MethodId} {args : Array Value} {below : List Frame} {meth : Method} {c : Code} {H : Heap} {locs : List Loc} {cells slots mc ms : Nat} {Q : State → Prop} {D : va_G} {w1 : va_W} {A : Nat → Prop} {pc : Nat} {ls : Array Slot} {cc : ByteArray} {XC : String → State → State → Prop} {Qc : Array Value → State → Outcome → State → Prop}
theorem dk_rxi {v : Int32} {x : Int32 ⊕ Nat} (hx : p.tables.exec = Jvm.exec) (hb : c.code = cc) (hr : meth.sig.returnType = some .int) (hlocks : meth.locks = false) (hP : va_P D vwCl w1 H) (hD : va_D A w1) (hS : va_S A s.heap H locs) (hdg : decode cc pc = .ok (.ireturn, 1)) (hv : x = .inl v) (hc : cells ≤ mc) (hs : slots ≤ ms) :
    W p l e R s m args below meth c H locs cells slots (vx_MQ below (dk_Xi x D w1 A) XC args s mc ms A) (F0 m pc ls [.int v]) := W.widen hc hs (vx_ret (W.iret hx hb hr (fun _ ht _ => ⟨⟨v, (), rfl, hv, by rw [ht]; exact hP, hD⟩, hS.F ht⟩) hS.2.2 hdg hlocks))
theorem dk_rxl {v : Int64} {x : Int64 ⊕ Nat} (hx : p.tables.exec = Jvm.exec) (hb : c.code = cc) (hr : meth.sig.returnType = some .long) (hlocks : meth.locks = false) (hP : va_P D vwCl w1 H) (hD : va_D A w1) (hS : va_S A s.heap H locs) (hdg : decode cc pc = .ok (.lreturn, 1)) (hv : x = .inl v) (hc : cells ≤ mc) (hs : slots ≤ ms) :
    W p l e R s m args below meth c H locs cells slots (vx_MQ below (dk_Xl x D w1 A) XC args s mc ms A) (F0 m pc ls [.long v]) := W.widen hc hs (vx_ret (W.lret hx hb hr (fun _ ht _ => ⟨⟨v, (), rfl, hv, by rw [ht]; exact hP, hD⟩, hS.F ht⟩) hS.2.2 hdg hlocks))
theorem dk_rxv {x : Unit ⊕ Nat} (hx : p.tables.exec = Jvm.exec) (hb : c.code = cc) (hr : meth.sig.returnType = none) (hlocks : meth.locks = false) (hP : va_P D vwCl w1 H) (hD : va_D A w1) (hS : va_S A s.heap H locs) (hdg : decode cc pc = .ok (.return_, 1)) (hv : x = .inl ()) (hc : cells ≤ mc) (hs : slots ≤ ms) :
    W p l e R s m args below meth c H locs cells slots (vx_MQ below (dk_Xv x D w1 A) XC args s mc ms A) (F0 m pc ls []) := W.widen hc hs (vx_ret (W.vret hx hb hr (fun _ ht _ => ⟨⟨(), rfl, hv, by rw [ht]; exact hP, hD⟩, hS.F ht⟩) hS.2.2 hdg hlocks))
theorem dk_thr {α : Type} {x : α ⊕ Nat} (i : Nat) (hi : x = .inr i) (hP : va_P D vwCl w1 H) (hD : va_D A w1) (hS : va_S A s.heap H locs) : ∀ t : State, s.vm.Alike t.vm → H.size ≤ t.heap.size → (∀ q : Nat, q < H.size → t.heap[q]? = H[q]?) → dk_XC x D w1 A (dkEx i) s t := by
  intro t _ hz hq
  refine ⟨(), trivial, ⟨⟨i, hi, rfl⟩, fun k9 q9 h9 => (hP k9 q9 h9).kept (hq q9.1 (hP k9 q9 h9).lt), hD⟩, Nat.le_trans hS.1 hz, fun q h1 h2 => ?_⟩
  rw [hq q (Nat.lt_of_lt_of_le h1 hS.1)]
  exact hS.2.1 q h1 h2
theorem dk_prop {α : Type} {x : α ⊕ Nat} {i : Nat} {ce : Cell} {q9 : Addr} {rest : List Value} (hT : ∀ x ∈ c.exceptionTable.toList, False) (hlocks : meth.locks = false) (hcell : H[q9]? = some ce) (hv : ce.vm = .none) (hcl : s.vm.findClass (dkEx i) = some ce.cls) (hi : x = .inr i) (hP : va_P D vwCl w1 H) (hD : va_D A w1) (hS : va_S A s.heap H locs) (hc : cells ≤ mc) (hs : slots ≤ ms) :
    vx_W p l e R s m args below meth c H locs cells slots (vx_MQ below Qc (dk_XC x D w1 A) args s mc ms A) (F0 m pc ls rest) q9 :=
  vx_out (fun x9 h9 => (hT x9 h9).elim) hlocks hcell hv hcl (fun t ht _ => ⟨(), trivial, ⟨⟨i, hi, rfl⟩, by rw [ht]; exact hP, hD⟩, hS.F ht⟩) hS.2.2 hc hs
variable {k sa : Nat → Nat} {ws wc wr : va_W} {H0 : Heap} {st0 rest As : List Value} {b : Nat} {C : String} {T : u_T} {N ci : Nat} {fs : List Value} {a : Array Value}
theorem dk_pvx (hK : va_K D vwCl (dkT k) s) (hN : dk_N s) (hE : dk_E sa A s s.heap) (hP : va_P D vwCl ws H) (hD : va_D A ws) (hS : va_S A s.heap H locs) (hA : ∀ q, s.heap.size ≤ q → A q) (is : List Nat) (hn : va_nd is = true) (hs : is.map (fun i => ws[i]?) = wc.map some) (h0 : wc[0]? = some (b, .inr (ci, fs))) (hc : vwCl[ci]? = some (C, T, N)) (hP2 : va_P D vwCl wc H) : PreV s H C b (dk_Pt D k sa (.ref b :: As) wc H.size) As :=
  ⟨dk_Pt_b, va_recv hK hP2 (ci := ci) (q0 := 0) hc h0, fun U hU hW => ⟨rfl, by rw [hU], by rw [hU]; exact hP2, ⟨va_K.moved hW.alike hK, hN.warm hW⟩, (hD.sub is hn hs).weaken (fun _ _ _ _ => trivial), hE.to hS (va_free (wc := wc) hD hS hA is hs) hU hW⟩⟩
theorem dk_psx (hK : va_K D vwCl (dkT k) s) (hN : dk_N s) (hE : dk_E sa A s s.heap) (hP : va_P D vwCl ws H) (hD : va_D A ws) (hS : va_S A s.heap H locs) (hA : ∀ q, s.heap.size ≤ q → A q) (is : List Nat) (hn : va_nd is = true) (hs : is.map (fun i => ws[i]?) = wc.map some) (hP2 : va_P D vwCl wc H) : PreS s H (dk_Pt D k sa As wc H.size) As :=
  ⟨dk_Pt_b, fun U hU hW => ⟨rfl, by rw [hU], by rw [hU]; exact hP2, ⟨va_K.moved hW.alike hK, hN.warm hW⟩, (hD.sub is hn hs).weaken (fun _ _ _ _ => trivial), hE.to hS (va_free (wc := wc) hD hS hA is hs) hU hW⟩⟩
theorem dk_cxi {x : Int32 ⊕ Nat} {mc ms : Nat} (hr : vx_Run p l e R s m args below meth c H locs cells slots mc ms (F0 m pc ls st0) rest (dk_Xi x D w1 (va_A wc H.size) a) (dk_XC x D w1 (va_A wc H.size)) (va_A wc H.size))
    (hP : va_P D vwCl ws H) (hD : va_D A ws) (hS : va_S A H0 H locs) (hA : ∀ q, H0.size ≤ q → A q) (isC isR : List Nat) (hC : isC.map (fun i => ws[i]?) = wc.map some) (hR : isR.map (fun i => ws[i]?) = wr.map some) (hn : va_nd isR = true) (hdis : ∀ i ∈ isR, i ∉ isC)
    (kx : ∀ (i : Nat) (ce : Cell) (q9 : Addr) (H1 : Heap) (locs1 : List Loc), x = .inr i → va_P D vwCl (wr ++ w1) H1 → va_D A (wr ++ w1) → va_S A H0 H1 locs1 → H1[q9]? = some ce → ce.vm = .none → s.vm.findClass (dkEx i) = some ce.cls → vx_W p l e R s m args below meth c H1 locs1 (cells + mc) (slots + ms) Q (F0 m pc ls rest) q9)
    (kk : ∀ (r : Int32) (H1 : Heap) (locs1 : List Loc), x = .inl r → va_P D vwCl (wr ++ w1) H1 → va_D A (wr ++ w1) → va_S A H0 H1 locs1 → W p l e R s m args below meth c H1 locs1 (cells + mc) (slots + ms) Q (F0 m (pc + 3) ls (.int r :: rest))) : W p l e R s m args below meth c H locs cells slots Q (F0 m pc ls st0) := by
  have hF := va_free (wc := wc) hD hS hA isC hC
  refine vx_calli hr hS (fun q _ h => hF q h) hF (fun q _ h => hF q h) (fun E ce q9 u t H1 locs1 ht hvm hw hB hz1 hk1 hS1 h1 h2 h3 => ?_) (fun r u t H1 locs1 ht hvm hw hB hz1 hk1 hS1 => ?_)
  · obtain ⟨⟨i, hi, rfl⟩, hP1, hD1⟩ := hB
    rw [ht] at hP1
    obtain ⟨hP2, hD2⟩ := va_join hP hD isC isR hC hR hn hdis hk1 hF hP1 hD1
    exact kx i ce q9 H1 locs1 hi hP2 hD2 hS1 h1 h2 h3
  · obtain ⟨hP1, hD1⟩ := hB
    rw [ht] at hP1
    obtain ⟨hP2, hD2⟩ := va_join hP hD isC isR hC hR hn hdis hk1 hF hP1 hD1
    exact kk r H1 locs1 hw hP2 hD2 hS1
theorem dk_cxl {x : Int64 ⊕ Nat} {mc ms : Nat} (hr : vx_Run p l e R s m args below meth c H locs cells slots mc ms (F0 m pc ls st0) rest (dk_Xl x D w1 (va_A wc H.size) a) (dk_XC x D w1 (va_A wc H.size)) (va_A wc H.size))
    (hP : va_P D vwCl ws H) (hD : va_D A ws) (hS : va_S A H0 H locs) (hA : ∀ q, H0.size ≤ q → A q) (isC isR : List Nat) (hC : isC.map (fun i => ws[i]?) = wc.map some) (hR : isR.map (fun i => ws[i]?) = wr.map some) (hn : va_nd isR = true) (hdis : ∀ i ∈ isR, i ∉ isC)
    (kx : ∀ (i : Nat) (ce : Cell) (q9 : Addr) (H1 : Heap) (locs1 : List Loc), x = .inr i → va_P D vwCl (wr ++ w1) H1 → va_D A (wr ++ w1) → va_S A H0 H1 locs1 → H1[q9]? = some ce → ce.vm = .none → s.vm.findClass (dkEx i) = some ce.cls → vx_W p l e R s m args below meth c H1 locs1 (cells + mc) (slots + ms) Q (F0 m pc ls rest) q9)
    (kk : ∀ (r : Int64) (H1 : Heap) (locs1 : List Loc), x = .inl r → va_P D vwCl (wr ++ w1) H1 → va_D A (wr ++ w1) → va_S A H0 H1 locs1 → W p l e R s m args below meth c H1 locs1 (cells + mc) (slots + ms) Q (F0 m (pc + 3) ls (.long r :: rest))) : W p l e R s m args below meth c H locs cells slots Q (F0 m pc ls st0) := by
  have hF := va_free (wc := wc) hD hS hA isC hC
  refine vx_calll hr hS (fun q _ h => hF q h) hF (fun q _ h => hF q h) (fun E ce q9 u t H1 locs1 ht hvm hw hB hz1 hk1 hS1 h1 h2 h3 => ?_) (fun r u t H1 locs1 ht hvm hw hB hz1 hk1 hS1 => ?_)
  · obtain ⟨⟨i, hi, rfl⟩, hP1, hD1⟩ := hB
    rw [ht] at hP1
    obtain ⟨hP2, hD2⟩ := va_join hP hD isC isR hC hR hn hdis hk1 hF hP1 hD1
    exact kx i ce q9 H1 locs1 hi hP2 hD2 hS1 h1 h2 h3
  · obtain ⟨hP1, hD1⟩ := hB
    rw [ht] at hP1
    obtain ⟨hP2, hD2⟩ := va_join hP hD isC isR hC hR hn hdis hk1 hF hP1 hD1
    exact kk r H1 locs1 hw hP2 hD2 hS1
theorem dk_cxv {x : Unit ⊕ Nat} {mc ms : Nat} (hr : vx_Run p l e R s m args below meth c H locs cells slots mc ms (F0 m pc ls st0) rest (dk_Xv x D w1 (va_A wc H.size) a) (dk_XC x D w1 (va_A wc H.size)) (va_A wc H.size))
    (hP : va_P D vwCl ws H) (hD : va_D A ws) (hS : va_S A H0 H locs) (hA : ∀ q, H0.size ≤ q → A q) (isC isR : List Nat) (hC : isC.map (fun i => ws[i]?) = wc.map some) (hR : isR.map (fun i => ws[i]?) = wr.map some) (hn : va_nd isR = true) (hdis : ∀ i ∈ isR, i ∉ isC)
    (kx : ∀ (i : Nat) (ce : Cell) (q9 : Addr) (H1 : Heap) (locs1 : List Loc), x = .inr i → va_P D vwCl (wr ++ w1) H1 → va_D A (wr ++ w1) → va_S A H0 H1 locs1 → H1[q9]? = some ce → ce.vm = .none → s.vm.findClass (dkEx i) = some ce.cls → vx_W p l e R s m args below meth c H1 locs1 (cells + mc) (slots + ms) Q (F0 m pc ls rest) q9)
    (kk : ∀ (H1 : Heap) (locs1 : List Loc), x = .inl () → va_P D vwCl (wr ++ w1) H1 → va_D A (wr ++ w1) → va_S A H0 H1 locs1 → W p l e R s m args below meth c H1 locs1 (cells + mc) (slots + ms) Q (F0 m (pc + 3) ls rest)) : W p l e R s m args below meth c H locs cells slots Q (F0 m pc ls st0) := by
  have hF := va_free (wc := wc) hD hS hA isC hC
  refine vx_callv hr hS (fun q _ h => hF q h) hF (fun q _ h => hF q h) (fun E ce q9 u t H1 locs1 ht hvm hw hB hz1 hk1 hS1 h1 h2 h3 => ?_) (fun u t H1 locs1 ht hvm hw hB hz1 hk1 hS1 => ?_)
  · obtain ⟨⟨i, hi, rfl⟩, hP1, hD1⟩ := hB
    rw [ht] at hP1
    obtain ⟨hP2, hD2⟩ := va_join hP hD isC isR hC hR hn hdis hk1 hF hP1 hD1
    exact kx i ce q9 H1 locs1 hi hP2 hD2 hS1 h1 h2 h3
  · obtain ⟨hP1, hD1⟩ := hB
    rw [ht] at hP1
    obtain ⟨hP2, hD2⟩ := va_join hP hD isC isR hC hR hn hdis hk1 hF hP1 hD1
    exact kk H1 locs1 hw hP2 hD2 hS1
end DKX
/-! THE WORDS OF EACH THROW -/
abbrev dkNm : List String := ["java/lang/RuntimeException", "java/lang/Exception"]
theorem dkA0_g : ∀ w ∈ (vx_atS "ServiceDisk" 229 (dkEx 0) dkNm).filter goodWord, w ∈ lw_tbl := by decide +kernel
theorem dkA0 {args : Array Value} {s : State} {sa : Nat → Nat} (hts : ∀ w ∈ dkB, w.before args s = true) (hT : dk_T sa s) : ∀ w ∈ vx_atS "ServiceDisk" 229 (dkEx 0) dkNm, w.before args s = true := vx_hat (L := vx_atS "ServiceDisk" 229 (dkEx 0) dkNm) (B := [.castable (dkEx 0) (dkEx 0), .declares dkRt, .declares dkXc, .declares dkTh]) (fun w hw => hts w (List.mem_filter.mpr ⟨dkA0_g w hw, (List.mem_filter.mp hw).2⟩)) (by decide +kernel) (vx_c (va_Nw.use rfl (hT.1 _ (List.mem_of_getElem? (i := 0) rfl))) (vx_c (va_Nw.use rfl (hT.1 _ (List.mem_of_getElem? (i := 4) rfl))) (vx_c (va_Nw.use rfl (hT.1 _ (List.mem_of_getElem? (i := 5) rfl))) (vx_c (va_Nw.use rfl (hT.1 _ (List.mem_of_getElem? (i := 6) rfl))) vx_n))))
theorem dkG0 : ∀ w ∈ Cond.classLink "ServiceDisk" 225 (dkEx 0) :: Cond.initialized (dkEx 0) :: vx_atS "ServiceDisk" 229 (dkEx 0) dkNm, vx_ot w = true := by decide +kernel
theorem dkA1_g : ∀ w ∈ (vx_atS "ServiceDisk" 169 (dkEx 1) dkNm).filter goodWord, w ∈ lw_tbl := by decide +kernel
theorem dkA1 {args : Array Value} {s : State} {sa : Nat → Nat} (hts : ∀ w ∈ dkB, w.before args s = true) (hT : dk_T sa s) : ∀ w ∈ vx_atS "ServiceDisk" 169 (dkEx 1) dkNm, w.before args s = true := vx_hat (L := vx_atS "ServiceDisk" 169 (dkEx 1) dkNm) (B := [.castable (dkEx 1) (dkEx 1), .declares dkRt, .declares dkXc, .declares dkTh]) (fun w hw => hts w (List.mem_filter.mpr ⟨dkA1_g w hw, (List.mem_filter.mp hw).2⟩)) (by decide +kernel) (vx_c (va_Nw.use rfl (hT.1 _ (List.mem_of_getElem? (i := 1) rfl))) (vx_c (va_Nw.use rfl (hT.1 _ (List.mem_of_getElem? (i := 4) rfl))) (vx_c (va_Nw.use rfl (hT.1 _ (List.mem_of_getElem? (i := 5) rfl))) (vx_c (va_Nw.use rfl (hT.1 _ (List.mem_of_getElem? (i := 6) rfl))) vx_n))))
theorem dkG1 : ∀ w ∈ Cond.classLink "ServiceDisk" 165 (dkEx 1) :: Cond.initialized (dkEx 1) :: vx_atS "ServiceDisk" 169 (dkEx 1) dkNm, vx_ot w = true := by decide +kernel
theorem dkA2_g : ∀ w ∈ (vx_atS "ServiceDisk" 145 (dkEx 2) dkNm).filter goodWord, w ∈ lw_tbl := by decide +kernel
theorem dkA2 {args : Array Value} {s : State} {sa : Nat → Nat} (hts : ∀ w ∈ dkB, w.before args s = true) (hT : dk_T sa s) : ∀ w ∈ vx_atS "ServiceDisk" 145 (dkEx 2) dkNm, w.before args s = true := vx_hat (L := vx_atS "ServiceDisk" 145 (dkEx 2) dkNm) (B := [.castable (dkEx 2) (dkEx 2), .declares dkRt, .declares dkXc, .declares dkTh]) (fun w hw => hts w (List.mem_filter.mpr ⟨dkA2_g w hw, (List.mem_filter.mp hw).2⟩)) (by decide +kernel) (vx_c (va_Nw.use rfl (hT.1 _ (List.mem_of_getElem? (i := 2) rfl))) (vx_c (va_Nw.use rfl (hT.1 _ (List.mem_of_getElem? (i := 4) rfl))) (vx_c (va_Nw.use rfl (hT.1 _ (List.mem_of_getElem? (i := 5) rfl))) (vx_c (va_Nw.use rfl (hT.1 _ (List.mem_of_getElem? (i := 6) rfl))) vx_n))))
theorem dkG2 : ∀ w ∈ Cond.classLink "ServiceDisk" 141 (dkEx 2) :: Cond.initialized (dkEx 2) :: vx_atS "ServiceDisk" 145 (dkEx 2) dkNm, vx_ot w = true := by decide +kernel
theorem dkA3_g : ∀ w ∈ (vx_atS "ServiceDisk" 103 (dkEx 3) dkNm).filter goodWord, w ∈ lw_tbl := by decide +kernel
theorem dkA3 {args : Array Value} {s : State} {sa : Nat → Nat} (hts : ∀ w ∈ dkB, w.before args s = true) (hT : dk_T sa s) : ∀ w ∈ vx_atS "ServiceDisk" 103 (dkEx 3) dkNm, w.before args s = true := vx_hat (L := vx_atS "ServiceDisk" 103 (dkEx 3) dkNm) (B := [.castable (dkEx 3) (dkEx 3), .declares dkRt, .declares dkXc, .declares dkTh]) (fun w hw => hts w (List.mem_filter.mpr ⟨dkA3_g w hw, (List.mem_filter.mp hw).2⟩)) (by decide +kernel) (vx_c (va_Nw.use rfl (hT.1 _ (List.mem_of_getElem? (i := 3) rfl))) (vx_c (va_Nw.use rfl (hT.1 _ (List.mem_of_getElem? (i := 4) rfl))) (vx_c (va_Nw.use rfl (hT.1 _ (List.mem_of_getElem? (i := 5) rfl))) (vx_c (va_Nw.use rfl (hT.1 _ (List.mem_of_getElem? (i := 6) rfl))) vx_n))))
theorem dkG3 : ∀ w ∈ Cond.classLink "ServiceDisk" 99 (dkEx 3) :: Cond.initialized (dkEx 3) :: vx_atS "ServiceDisk" 103 (dkEx 3) dkNm, vx_ot w = true := by decide +kernel
