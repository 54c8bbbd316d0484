/-! THE OPTION LAWS: a method's own function, followed instruction by instruction -/
theorem dk_t {α : Type} {c : Prop} [Decidable c] {A B : Option α} {o : α} (q : c) (h : (if c then A else B) = some o) : A = some o := by rw [if_pos q] at h; exact h
theorem dk_f {α : Type} {c : Prop} [Decidable c] {A B : Option α} {o : α} (q : ¬ c) (h : (if c then A else B) = some o) : B = some o := by rw [if_neg q] at h; exact h
theorem dk_g {α : Type} {c : Prop} [Decidable c] {A : Option α} {o : α} (h : (if c then A else none) = some o) : c ∧ A = some o := by
  by_cases q : c
  · rw [if_pos q] at h; exact ⟨q, h⟩
  · rw [if_neg q] at h; cases h
theorem dk_b {α β : Type} {x : Option β} {k : β → Option α} {o : α} (h : x.bind k = some o) : ∃ y, x = some y ∧ k y = some o := by
  cases x with
  | none => cases h
  | some y => exact ⟨y, rfl, h⟩
theorem dk_r {α : Type} {a o : α} (h : some a = some o) : a = o := Option.some.inj h
theorem dk_n {α : Type} {P : Prop} {o : α} (h : (none : Option α) = some o) : P := by cases h
theorem dk_sl {α β γ : Type} {f : α → Option γ} {g : β → Option γ} {x : α ⊕ β} {r : α} {o : γ} (hw : x = Sum.inl r) (h : Sum.elim f g x = some o) : f r = some o := by subst hw; exact h
theorem dk_sr {α β γ : Type} {f : α → Option γ} {g : β → Option γ} {x : α ⊕ β} {r : β} {o : γ} (hw : x = Sum.inr r) (h : Sum.elim f g x = some o) : g r = some o := by subst hw; exact h
/-- how long a loop may go, far above what any run needs -/
def dkF : Nat := 1000000
abbrev dk_in (i : Int32) (n : Nat) : Prop := ¬ (i < 0 ∨ n ≤ i.toNatClampNeg)
abbrev dk_01 (v : Int32) : Prop := v = 0 ∨ v = 1
theorem dk_nz {v : Int32} (h : dk_01 v) : narrow .boolean (.int v) = .int v := by rcases h with h | h <;> rw [h] <;> rfl
theorem dk_fz {v : Int32} (h : dk_01 v) : fits .boolean (.int v) = true := by rcases h with h | h <;> rw [h] <;> rfl
abbrev dk_iushr (x y : Int32) : Int32 := (x.toUInt32 >>> (y.toUInt32 &&& Int32.toUInt32 31)).toInt32
abbrev dk_lushr (x : Int64) (y : Int32) : Int64 := (x.toUInt64 >>> (y.toInt64.toUInt64 &&& Int64.toUInt64 63)).toInt64
abbrev dk_lshl (x : Int64) (y : Int32) : Int64 := x <<< (y.toInt64 &&& 63)
abbrev dk_lshr (x : Int64) (y : Int32) : Int64 := x >>> (y.toInt64 &&& 63)
abbrev dk_cp (ty : FieldType) (f : Nat → Int32) (sp dp n : Int32) (n0 n1 : Nat) : Prop := ¬ sp < 0 ∧ ¬ dp < 0 ∧ ¬ n < 0 ∧ sp.toNatClampNeg + n.toNatClampNeg ≤ n0 ∧ dp.toNatClampNeg + n.toNatClampNeg ≤ n1 ∧ ∀ i, i < n.toNatClampNeg → fits ty (.int (f (sp.toNatClampNeg + i))) = true
/-! THE WORDS OF A CALL -/
theorem dk_good {w : Cond} (h : w ∈ dkB) : w ∈ dkB ∧ ((w.onTables && w.keeps) = true ∨ ∃ ty, w = .arrayClass ty) := ⟨h, good_of_word (List.mem_filter.mp h).2⟩
theorem dk_gC {y : MethodName} {bytes : ByteArray} {maxL : Nat} {ret : Option FieldType} (h : Cond.code y bytes maxL ret ∈ dkB) : GoodIn dkB (.code y bytes maxL ret :: dkB) := fun w hw => by
  rcases List.mem_cons.mp hw with rfl | hw
  · exact dk_good h
  · exact dk_good hw
theorem dk_gV {own C : String} {idx : Nat} {y : MethodName} {bytes : ByteArray} {maxL : Nat} {ret : Option FieldType} (h1 : Cond.methodLink own idx y ∈ dkB) (h2 : Cond.instanceMethod y ∈ dkB) (h3 : Cond.selects C y y ∈ dkB) (h4 : Cond.initialized C ∈ dkB) (h5 : Cond.code y bytes maxL ret ∈ dkB) : GoodIn dkB (wsV own idx C y (.code y bytes maxL ret :: dkB)) := fun w hw => by
  simp only [wsV, List.cons_append, List.nil_append, List.mem_cons] at hw
  rcases hw with rfl | rfl | rfl | rfl | rfl | hw
  · exact dk_good h1
  · exact dk_good h2
  · exact dk_good h3
  · exact dk_good h4
  · exact dk_good h5
  · exact dk_good hw
theorem dk_gS {own : String} {idx : Nat} {y : MethodName} {bytes : ByteArray} {maxL : Nat} {ret : Option FieldType} (h1 : Cond.methodLink own idx y ∈ dkB) (h2 : Cond.static y ∈ dkB) (h4 : Cond.initialized y.cls ∈ dkB) (h5 : Cond.code y bytes maxL ret ∈ dkB) : GoodIn dkB (va_wsS own idx y (.code y bytes maxL ret :: dkB)) := fun w hw => by
  simp only [va_wsS, List.cons_append, List.nil_append, List.mem_cons] at hw
  rcases hw with rfl | rfl | rfl | rfl | hw
  · exact dk_good h1
  · exact dk_good h2
  · exact dk_good h4
  · exact dk_good h5
  · exact dk_good hw
/-! THE WORLDS -/
abbrev dkT (k : Nat → ClassId) : List (ClassId × FieldType) := [(k 0, .byte), (k 1, .boolean), (k 2, .int), (k 3, .long)]
def dk_N (U : State) : Prop := va_Nw dkN0 U ∧ va_Nw dkN1 U
theorem dk_N.same {u U : State} (h : u.vm = U.vm) (q : dk_N u) : dk_N U := ⟨va_Nw.same rfl h q.1, va_Nw.same rfl h q.2⟩
theorem dk_N.warm {s U : State} (hW : s.WarmedH U.vm) (q : dk_N s) : dk_N U := ⟨va_Nw.warmM hW q.1, va_Nw.warmM hW q.2⟩
def dk_Pr (D : va_G) (k : Nat → ClassId) (av : List Value) (ws : va_W) : Array Value → State → Prop := va_Pc av (fun U => va_P D vwCl ws U.heap ∧ va_K D vwCl (dkT k) U ∧ dk_N U)
def dk_Pw (D : va_G) (k : Nat → ClassId) (av : List Value) (ws : va_W) (sz : Nat) : Array Value → State → Prop := va_Pc av (fun U => U.heap.size = sz ∧ va_P D vwCl ws U.heap ∧ (va_K D vwCl (dkT k) U ∧ dk_N U) ∧ va_D (fun _ => True) ws)
theorem dk_Pr_b {D : va_G} {k : Nat → ClassId} {av : List Value} {ws : va_W} : FrameBlind (dk_Pr D k av ws) := fun a U g mk q => by
  obtain ⟨q0, qP, qK, qN⟩ := q
  exact ⟨q0, qP, va_K.moved (u := U) (U := U.calling g mk a) (Vm.Alike.refl U.vm) qK, dk_N.same rfl qN⟩
theorem dk_Pw_b {D : va_G} {k : Nat → ClassId} {av : List Value} {ws : va_W} {sz : Nat} : FrameBlind (dk_Pw D k av ws sz) := fun a U g mk q => by
  obtain ⟨q0, q1, qP, ⟨qK, qN⟩, qD⟩ := q
  exact ⟨q0, q1, qP, ⟨va_K.moved (u := U) (U := U.calling g mk a) (Vm.Alike.refl U.vm) qK, dk_N.same rfl qN⟩, qD⟩
def dk_Qi (r0 : Int32) (D : va_G) (w1 : va_W) (A : Nat → Prop) : Array Value → State → Outcome → State → Prop := va_Qi (fun r (_ : Unit) => r = r0) (fun _ t => va_P D vwCl w1 t.heap ∧ va_D A w1) A
def dk_Ql (r0 : Int64) (D : va_G) (w1 : va_W) (A : Nat → Prop) : Array Value → State → Outcome → State → Prop := va_Ql (fun r (_ : Unit) => r = r0) (fun _ t => va_P D vwCl w1 t.heap ∧ va_D A w1) A
def dk_Qv (D : va_G) (w1 : va_W) (A : Nat → Prop) : Array Value → State → Outcome → State → Prop := va_Qv (fun (_ : Unit) => True) (fun _ t => va_P D vwCl w1 t.heap ∧ va_D A w1) A
/-- what a method's body stands on -/
abbrev dk_Cx (p : Program) (s : State) (m : MethodId) (meth : Method) (c : Code) (cc : ByteArray) (ret : Option FieldType) (nL : Nat) (own : String) (Ts : List Cond) (args : Array Value) : Prop :=
  p.tables.exec = Jvm.exec ∧ c.code = cc ∧ meth.sig.returnType = ret ∧ c.maxLocals = nL ∧ s.vm.findClass own = some m.cls ∧ (∀ w ∈ Ts, w.before args s = true) ∧ meth.locks = false
theorem dk_ofR {l : Launch} {y : MethodName} {ws : List Cond} {rm : Room} {D : va_G} {k : Nat → ClassId} {av : List Value} {wd : va_W} {Qc : Array Value → State → Outcome → State → Prop} {cc : ByteArray} {maxL : Nat} {ret : Option FieldType} {lv : List (Nat × Value)}
    (hy : plainName y.cls = true) (hw : ws = Cond.code y cc maxL ret :: dkB) (hn : (lg_sl av).length ≤ maxL) (hlv : lv_args 0 av = lv)
    (body : ∀ (p : Program) (e : Env) (s : State) (m : MethodId) (below : List Frame) (meth : Method) (c : Code), dk_Cx p s m meth c cc ret maxL y.cls dkB av.toArray → va_K D vwCl (dkT k) s → dk_N s → va_P D vwCl wd s.heap → ∀ ls : Array Slot, lv_has ls maxL lv →
      W p l e rm s m av.toArray below meth c s.heap [] 0 0 (MQ below Qc av.toArray s 0 0 (fun _ => False)) (F0 m 0 ls [])) : Met l y ws rm (dk_Pr D k av wd) Qc 0 0 (fun _ => False) := by
  refine Met.ofW (cc := cc) (maxL := maxL) (ret := ret) hy hw ?_
  intro p e s m args below meth c s₁ B hml hv
  obtain ⟨rfl, hP, hK, hN⟩ := hv
  subst hw
  have hts := atoms_spec (ws := Cond.code y cc maxL ret :: dkB) B.pre
  have hown : s.vm.findClass y.cls = some m.cls := findClass_of_methodNamed B.named
  have hl := lv_entry av (n := maxL) hn
  rw [lg_entry_eq]
  exact body p e s m below meth c ⟨B.exec, B.bytes, B.returns, hml, hown, fun w h => hts w (List.mem_cons_of_mem _ h), B.notSynchronized⟩ hK hN hP _ (by rw [← hlv]; exact hl)
theorem dk_ofW {l : Launch} {y : MethodName} {ws : List Cond} {rm : Room} {D : va_G} {k : Nat → ClassId} {av : List Value} {wd : va_W} {sz : Nat} {Qc : (Nat → Prop) → Array Value → State → Outcome → State → Prop} {mc ms : Nat} {cc : ByteArray} {maxL : Nat} {ret : Option FieldType} {lv : List (Nat × Value)}
    (hy : plainName y.cls = true) (hw : ws = Cond.code y cc maxL ret :: dkB) (hn : (lg_sl av).length ≤ maxL) (hlv : lv_args 0 av = lv)
    (body : ∀ (p : Program) (e : Env) (s : State) (m : MethodId) (below : List Frame) (meth : Method) (c : Code), dk_Cx p s m meth c cc ret maxL y.cls dkB av.toArray → va_K D vwCl (dkT k) s → dk_N s → va_P D vwCl wd s.heap → ∀ A : Nat → Prop, (∀ q : Nat, s.heap.size ≤ q → A q) → va_D A wd → va_S A s.heap s.heap [] → ∀ ls : Array Slot, lv_has ls maxL lv →
      W p l e rm s m av.toArray below meth c s.heap [] 0 0 (MQ below (Qc A) av.toArray s mc ms A) (F0 m 0 ls [])) : Met l y ws rm (dk_Pw D k av wd sz) (Qc (va_A wd sz)) mc ms (va_A wd sz) := by
  refine Met.ofW (cc := cc) (maxL := maxL) (ret := ret) hy hw ?_
  intro p e s m args below meth c s₁ B hml hv
  obtain ⟨rfl, hsz, hP, ⟨hK, hN⟩, hD0⟩ := hv
  subst hsz
  subst hw
  have hts := atoms_spec (ws := Cond.code y cc maxL ret :: dkB) B.pre
  have hown : s.vm.findClass y.cls = some m.cls := findClass_of_methodNamed B.named
  have hl := lv_entry av (n := maxL) hn
  rw [lg_entry_eq]
  exact body p e s m below meth c ⟨B.exec, B.bytes, B.returns, hml, hown, fun w h => hts w (List.mem_cons_of_mem _ h), B.notSynchronized⟩ hK hN hP _ (fun q h => Or.inr h) (hD0.self (sz := s.heap.size)) va_S.rf _ (by rw [← hlv]; exact hl)
section DKR
variable {p : Program} {l : Launch} {e : Env} {R : Room} {s : State} {m : MethodId} {args : Array Value} {below : List Frame} {meth : Method} {c : Code} {H : Heap} {locs : List Loc} {cells slots : Nat} {Q : State → Prop} {D : va_G} {w1 : va_W} {A : Nat → Prop} {pc : Nat} {ls : Array Slot} {cc : ByteArray}
theorem dk_rri {v r0 : Int32} (hx : p.tables.exec = Jvm.exec) (hb : c.code = cc) (hr : meth.sig.returnType = some .int) (hlocks : meth.locks = false) (hdg : decode cc pc = .ok (.ireturn, 1)) (hv : v = r0) :
    W p l e R s m args below meth c s.heap [] 0 0 (MQ below (vp_Si (fun r => r = r0)) args s 0 0 (fun _ => False)) (F0 m pc ls [.int v]) := W.iret hx hb hr (fun _ ht _ => ⟨v, rfl, hv, ht⟩) (fun _ h => nomatch h) hdg hlocks
theorem dk_rrz {v r0 : Int32} (hx : p.tables.exec = Jvm.exec) (hb : c.code = cc) (hr : meth.sig.returnType = some .boolean) (hn : dk_01 v) (hlocks : meth.locks = false) (hdg : decode cc pc = .ok (.ireturn, 1)) (hv : v = r0) :
    W p l e R s m args below meth c s.heap [] 0 0 (MQ below (vp_Si (fun r => r = r0)) args s 0 0 (fun _ => False)) (F0 m pc ls [.int v]) := W.zret hx hb hr (dk_nz hn) (fun _ ht _ => ⟨v, rfl, hv, ht⟩) (fun _ h => nomatch h) hdg hlocks
theorem dk_rrl {v r0 : Int64} (hx : p.tables.exec = Jvm.exec) (hb : c.code = cc) (hr : meth.sig.returnType = some .long) (hlocks : meth.locks = false) (hdg : decode cc pc = .ok (.lreturn, 1)) (hv : v = r0) :
    W p l e R s m args below meth c s.heap [] 0 0 (MQ below (vp_Sl (fun r => r = r0)) args s 0 0 (fun _ => False)) (F0 m pc ls [.long v]) := W.lret hx hb hr (fun _ ht _ => ⟨v, rfl, hv, ht⟩) (fun _ h => nomatch h) hdg hlocks
theorem dk_rwi {v r0 : Int32} (hx : p.tables.exec = Jvm.exec) (hb : c.code = cc) (hr : meth.sig.returnType = some .int) (hlocks : meth.locks = false) (hP : va_P D vwCl w1 H) (hD : va_D A w1) (hS : va_S A s.heap H locs) (hdg : decode cc pc = .ok (.ireturn, 1)) (hv : v = r0) :
    W p l e R s m args below meth c H locs cells slots (MQ below (dk_Qi r0 D w1 A) args s cells slots A) (F0 m pc ls [.int v]) := W.iret hx hb hr (fun _ ht _ => ⟨⟨v, (), rfl, hv, by rw [ht]; exact hP, hD⟩, hS.F ht⟩) hS.2.2 hdg hlocks
theorem dk_rwz {v r0 : Int32} (hx : p.tables.exec = Jvm.exec) (hb : c.code = cc) (hr : meth.sig.returnType = some .boolean) (hn : dk_01 v) (hlocks : meth.locks = false) (hP : va_P D vwCl w1 H) (hD : va_D A w1) (hS : va_S A s.heap H locs) (hdg : decode cc pc = .ok (.ireturn, 1)) (hv : v = r0) :
    W p l e R s m args below meth c H locs cells slots (MQ below (dk_Qi r0 D w1 A) args s cells slots A) (F0 m pc ls [.int v]) := W.zret hx hb hr (dk_nz hn) (fun _ ht _ => ⟨⟨v, (), rfl, hv, by rw [ht]; exact hP, hD⟩, hS.F ht⟩) hS.2.2 hdg hlocks
theorem dk_rwl {v r0 : Int64} (hx : p.tables.exec = Jvm.exec) (hb : c.code = cc) (hr : meth.sig.returnType = some .long) (hlocks : meth.locks = false) (hP : va_P D vwCl w1 H) (hD : va_D A w1) (hS : va_S A s.heap H locs) (hdg : decode cc pc = .ok (.lreturn, 1)) (hv : v = r0) :
    W p l e R s m args below meth c H locs cells slots (MQ below (dk_Ql r0 D w1 A) args s cells slots A) (F0 m pc ls [.long v]) := W.lret hx hb hr (fun _ ht _ => ⟨⟨v, (), rfl, hv, by rw [ht]; exact hP, hD⟩, hS.F ht⟩) hS.2.2 hdg hlocks
theorem dk_rwv (hx : p.tables.exec = Jvm.exec) (hb : c.code = cc) (hr : meth.sig.returnType = none) (hlocks : meth.locks = false) (hP : va_P D vwCl w1 H) (hD : va_D A w1) (hS : va_S A s.heap H locs) (hdg : decode cc pc = .ok (.return_, 1)) :
    W p l e R s m args below meth c H locs cells slots (MQ below (dk_Qv D w1 A) args s cells slots A) (F0 m pc ls []) := W.vret hx hb hr (fun _ ht _ => ⟨⟨(), rfl, trivial, by rw [ht]; exact hP, hD⟩, hS.F ht⟩) hS.2.2 hdg hlocks
/-- two roads that meet -/
theorem dk_jn {g1 : JFrame} (g2 : JFrame) (B : W p l e R s m args below meth c H locs cells slots Q g2 → W p l e R s m args below meth c H locs cells slots Q g1) (K : W p l e R s m args below meth c H locs cells slots Q g2) : W p l e R s m args below meth c H locs cells slots Q g1 := B K
/-! CALLS: what a callee must find -/
variable {k : Nat → ClassId} {ws wc wr : va_W} {H0 : Heap} {st0 rest As : List Value} {b : Nat} {C : String} {T : u_T} {N ci : Nat} {fs : List Value} {a : Array Value}
theorem dk_pvr (hK : va_K D vwCl (dkT k) s) (hN : dk_N s) (hP : va_P D vwCl ws H) (is : List Nat) (hs : is.filterMap (fun i => ws[i]?) = wc) (h0 : wc[0]? = some (b, .inr (ci, fs))) (hc : vwCl[ci]? = some (C, T, N)) : PreV s H C b (dk_Pr D k (.ref b :: As) wc) As :=
  ⟨dk_Pr_b, va_recv hK (hP.sub is hs) (ci := ci) (q0 := 0) hc h0, fun U hU hW => ⟨rfl, by rw [hU]; exact hP.sub is hs, va_K.moved hW.alike hK, hN.warm hW⟩⟩
theorem dk_psr (hK : va_K D vwCl (dkT k) s) (hN : dk_N s) (hP : va_P D vwCl ws H) (is : List Nat) (hs : is.filterMap (fun i => ws[i]?) = wc) : PreS s H (dk_Pr D k As wc) As :=
  ⟨dk_Pr_b, fun U hU hW => ⟨rfl, by rw [hU]; exact hP.sub is hs, va_K.moved hW.alike hK, hN.warm hW⟩⟩
theorem dk_pvw (hK : va_K D vwCl (dkT k) s) (hN : dk_N s) (hP : va_P D vwCl ws H) (hD : va_D A ws) (is : List Nat) (hn : va_nd is = true) (hs : is.map (fun i => ws[i]?) = wc.map some) (h0 : wc[0]? = some (b, .inr (ci, fs))) (hc : vwCl[ci]? = some (C, T, N)) (hP2 : va_P D vwCl wc H) : PreV s H C b (dk_Pw D k (.ref b :: As) wc H.size) As :=
  ⟨dk_Pw_b, va_recv hK hP2 (ci := ci) (q0 := 0) hc h0, fun U hU hW => ⟨rfl, by rw [hU], by rw [hU]; exact hP2, ⟨va_K.moved hW.alike hK, hN.warm hW⟩, (hD.sub is hn hs).weaken (fun _ _ _ _ => trivial)⟩⟩
theorem dk_psw (hK : va_K D vwCl (dkT k) s) (hN : dk_N s) (hP : va_P D vwCl ws H) (hD : va_D A ws) (is : List Nat) (hn : va_nd is = true) (hs : is.map (fun i => ws[i]?) = wc.map some) (hP2 : va_P D vwCl wc H) : PreS s H (dk_Pw D k As wc H.size) As :=
  ⟨dk_Pw_b, fun U hU hW => ⟨rfl, by rw [hU], by rw [hU]; exact hP2, ⟨va_K.moved hW.alike hK, hN.warm hW⟩, (hD.sub is hn hs).weaken (fun _ _ _ _ => trivial)⟩⟩
/-! CALLS: behind them -/
theorem dk_cri {r0 : Int32} (hr : va_Run p l e R s m args below meth c H locs cells slots 0 0 (F0 m pc ls st0) rest (vp_Si (fun r => r = r0) a) (fun _ => False))
    (kk : W p l e R s m args below meth c H locs cells slots Q (F0 m (pc + 3) ls (.int r0 :: rest))) : W p l e R s m args below meth c H locs cells slots Q (F0 m pc ls st0) := by
  intro T hT X
  obtain ⟨v, st₀, t, T', L, h0, X', hL, e1, e2, ⟨r, hv, hp, hh⟩, st⟩ := hr T hT X
  cases hv
  subst hp
  obtain ⟨t2, a1, b1⟩ := kk T' (by rw [e1, hh, h0]) (Stand.forget X' (fun q h => (hL q h).elim))
  exact ⟨t2, st t2 a1, b1⟩
theorem dk_crl {r0 : Int64} (hr : va_Run p l e R s m args below meth c H locs cells slots 0 0 (F0 m pc ls st0) rest (vp_Sl (fun r => r = r0) a) (fun _ => False))
    (kk : W p l e R s m args below meth c H locs cells slots Q (F0 m (pc + 3) ls (.long r0 :: rest))) : W p l e R s m args below meth c H locs cells slots Q (F0 m pc ls st0) := by
  intro T hT X
  obtain ⟨v, st₀, t, T', L, h0, X', hL, e1, e2, ⟨r, hv, hp, hh⟩, st⟩ := hr T hT X
  cases hv
  subst hp
  obtain ⟨t2, a1, b1⟩ := kk T' (by rw [e1, hh, h0]) (Stand.forget X' (fun q h => (hL q h).elim))
  exact ⟨t2, st t2 a1, b1⟩
theorem dk_cwi {r0 : Int32} {mc ms : Nat} (hr : va_Run p l e R s m args below meth c H locs cells slots mc ms (F0 m pc ls st0) rest (dk_Qi r0 D w1 (va_A wc H.size) a) (va_A wc H.size))
    (hP : va_P D vwCl ws H) (hD : va_D A ws) (hS : va_S A H0 H locs) (hA : ∀ q, H0.size ≤ q → A q) (isC isR : List Nat) (hC : isC.map (fun i => ws[i]?) = wc.map some) (hR : isR.map (fun i => ws[i]?) = wr.map some) (hn : va_nd isR = true) (hdis : ∀ i ∈ isR, i ∉ isC)
    (kk : ∀ (H1 : Heap) (locs1 : List Loc), va_P D vwCl (wr ++ w1) H1 → va_D A (wr ++ w1) → va_S A H0 H1 locs1 → W p l e R s m args below meth c H1 locs1 (cells + mc) (slots + ms) Q (F0 m (pc + 3) ls (.int r0 :: rest))) : W p l e R s m args below meth c H locs cells slots Q (F0 m pc ls st0) := by
  have hF := va_free (wc := wc) hD hS hA isC hC
  refine va_calli hr hS (fun q _ h => hF q h) hF (fun r u t H1 locs1 ht hvm hw hB hz1 hk1 hS1 => ?_)
  subst hw
  obtain ⟨hP1, hD1⟩ := hB
  rw [ht] at hP1
  obtain ⟨hP2, hD2⟩ := va_join hP hD isC isR hC hR hn hdis hk1 hF hP1 hD1
  exact kk H1 locs1 hP2 hD2 hS1
theorem dk_cwl {r0 : Int64} {mc ms : Nat} (hr : va_Run p l e R s m args below meth c H locs cells slots mc ms (F0 m pc ls st0) rest (dk_Ql r0 D w1 (va_A wc H.size) a) (va_A wc H.size))
    (hP : va_P D vwCl ws H) (hD : va_D A ws) (hS : va_S A H0 H locs) (hA : ∀ q, H0.size ≤ q → A q) (isC isR : List Nat) (hC : isC.map (fun i => ws[i]?) = wc.map some) (hR : isR.map (fun i => ws[i]?) = wr.map some) (hn : va_nd isR = true) (hdis : ∀ i ∈ isR, i ∉ isC)
    (kk : ∀ (H1 : Heap) (locs1 : List Loc), va_P D vwCl (wr ++ w1) H1 → va_D A (wr ++ w1) → va_S A H0 H1 locs1 → W p l e R s m args below meth c H1 locs1 (cells + mc) (slots + ms) Q (F0 m (pc + 3) ls (.long r0 :: rest))) : W p l e R s m args below meth c H locs cells slots Q (F0 m pc ls st0) := by
  have hF := va_free (wc := wc) hD hS hA isC hC
  refine va_calll hr hS (fun q _ h => hF q h) hF (fun r u t H1 locs1 ht hvm hw hB hz1 hk1 hS1 => ?_)
  subst hw
  obtain ⟨hP1, hD1⟩ := hB
  rw [ht] at hP1
  obtain ⟨hP2, hD2⟩ := va_join hP hD isC isR hC hR hn hdis hk1 hF hP1 hD1
  exact kk H1 locs1 hP2 hD2 hS1
theorem dk_cwv {mc ms : Nat} (hr : va_Run p l e R s m args below meth c H locs cells slots mc ms (F0 m pc ls st0) rest (dk_Qv D w1 (va_A wc H.size) a) (va_A wc H.size))
    (hP : va_P D vwCl ws H) (hD : va_D A ws) (hS : va_S A H0 H locs) (hA : ∀ q, H0.size ≤ q → A q) (isC isR : List Nat) (hC : isC.map (fun i => ws[i]?) = wc.map some) (hR : isR.map (fun i => ws[i]?) = wr.map some) (hn : va_nd isR = true) (hdis : ∀ i ∈ isR, i ∉ isC)
    (kk : ∀ (H1 : Heap) (locs1 : List Loc), va_P D vwCl (wr ++ w1) H1 → va_D A (wr ++ w1) → va_S A H0 H1 locs1 → W p l e R s m args below meth c H1 locs1 (cells + mc) (slots + ms) Q (F0 m (pc + 3) ls rest)) : W p l e R s m args below meth c H locs cells slots Q (F0 m pc ls st0) := by
  have hF := va_free (wc := wc) hD hS hA isC hC
  refine va_callv hr hS (fun q _ h => hF q h) hF (fun u t H1 locs1 ht hvm hw hB hz1 hk1 hS1 => ?_)
  obtain ⟨hP1, hD1⟩ := hB
  rw [ht] at hP1
  obtain ⟨hP2, hD2⟩ := va_join hP hD isC isR hC hR hn hdis hk1 hF hP1 hD1
  exact kk H1 locs1 hP2 hD2 hS1
end DKR
