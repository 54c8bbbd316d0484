abbrev wsL_format : List Cond := .codeWith yL_format cL_format 3 (some .int) [(0, 5, 8, 13)] :: dkB
abbrev wsL_reserve : List Cond := .codeWith yL_reserve cL_reserve 3 (some .int) [(0, 5, 8, 13), (0, 5, 11, 18)] :: dkB
abbrev wsL_row : List Cond := .codeWith yL_row cL_row 7 (some .int) [(0, 13, 16, 24), (0, 13, 20, 13), (0, 13, 24, 18), (0, 13, 28, 26)] :: dkB
abbrev wsL_sync : List Cond := .codeWith yL_sync cL_sync 3 (some .int) [(0, 8, 11, 18)] :: dkB
abbrev wsL_save : List Cond := .codeWith yL_save cL_save 5 (some .int) [(0, 9, 12, 18)] :: dkB
abbrev wsL_state : List Cond := .codeWith yL_state cL_state 3 (some .int) [(0, 7, 10, 18)] :: dkB
abbrev wsL_cut : List Cond := .codeWith yL_cut cL_cut 4 (some .int) [(0, 6, 9, 13), (0, 6, 12, 18)] :: dkB
abbrev wsL_start : List Cond := .codeWith yL_start cL_start 3 (some .int) [(0, 8, 11, 18)] :: dkB
abbrev wsL_alter : List Cond := .codeWith yL_alter cL_alter 6 (some .int) [(0, 9, 12, 24), (0, 9, 16, 13), (0, 9, 20, 18)] :: dkB
abbrev wsL_read : List Cond := .codeWith yL_read cL_read 5 (some .int) [(0, 10, 13, 24), (0, 10, 17, 13), (0, 10, 21, 18)] :: dkB
abbrev wsL_kind : List Cond := .codeWith yL_kind cL_kind 4 (some .int) [(0, 9, 12, 24), (0, 9, 15, 18)] :: dkB
abbrev wsL_extract : List Cond := .codeWith yL_extract cL_extract 5 (some .int) [(0, 10, 13, 13), (0, 10, 17, 18)] :: dkB
abbrev wsL_line : List Cond := .codeWith yL_line cL_line 3 (some .int) [(0, 5, 8, 18)] :: dkB
abbrev wsL_send : List Cond := .codeWith yL_send cL_send 4 (some .int) [(0, 9, 12, 13), (0, 9, 15, 18)] :: dkB
abbrev wsL_gap : List Cond := .codeWith yL_gap cL_gap 4 (some .int) [(0, 9, 12, 13), (0, 9, 15, 18)] :: dkB
abbrev wsL_fill : List Cond := .codeWith yL_fill cL_fill 4 (some .int) [(0, 9, 12, 13), (0, 9, 15, 18)] :: dkB
abbrev wsL_count : List Cond := .codeWith yL_count cL_count 4 (some .int) [(0, 9, 12, 24), (0, 9, 15, 18)] :: dkB
/-! CONSTRUCTORS -/
def dk_Qu {S : Type} (D : va_G) (w1 : S → va_W) (A : Nat → Prop) : Array Value → State → Outcome → State → Prop := va_Qv (fun (_ : S) => True) (fun u t => va_P D vwCl (w1 u) t.heap ∧ va_D A (w1 u)) A
theorem dk_ofI {l : Launch} {y : MethodName} {ws : List Cond} {rm : Room} {D : va_G} {k : Nat → ClassId} {av : List Value} {wd : va_W} {sz : Nat} {Qc : (Nat → Prop) → Array Value → State → Outcome → State → Prop} {mc ms : Nat} {cc : ByteArray} {maxL : Nat} {ret : Option FieldType} {lv : List (Nat × Value)}
    (hy : plainName y.cls = true) (hw : ws = Cond.code y cc maxL ret :: dkB) (hn : (lg_sl av).length ≤ maxL) (hlv : lv_args 0 av = lv)
    (body : ∀ (p : Program) (e : Env) (s : State) (m : MethodId) (below : List Frame) (meth : Method) (c : Code), meth.name = y.name → dk_Cx p s m meth c cc ret maxL y.cls dkB av.toArray → va_K D vwCl (dkT k) s → dk_N s → va_P D vwCl wd s.heap → ∀ A : Nat → Prop, (∀ q : Nat, s.heap.size ≤ q → A q) → va_D A wd → va_S A s.heap s.heap [] → ∀ ls : Array Slot, lv_has ls maxL lv →
      W p l e rm s m av.toArray below meth c s.heap [] 0 0 (MQ below (Qc A) av.toArray s mc ms A) (F0 m 0 ls [])) : Met l y ws rm (dk_Pw D k av wd sz) (Qc (va_A wd sz)) mc ms (va_A wd sz) := by
  refine Met.ofW (cc := cc) (maxL := maxL) (ret := ret) hy hw ?_
  intro p e s m args below meth c s₁ B hml hv
  obtain ⟨rfl, hsz, hP, ⟨hK, hN⟩, hD0⟩ := hv
  subst hsz
  subst hw
  have hts := atoms_spec (ws := Cond.code y cc maxL ret :: dkB) B.pre
  have hown : s.vm.findClass y.cls = some m.cls := findClass_of_methodNamed B.named
  have hl := lv_entry av (n := maxL) hn
  rw [lg_entry_eq]
  exact body p e s m below meth c (name_of_methodNamed B.named B.method).1 ⟨B.exec, B.bytes, B.returns, hml, hown, fun w h => hts w (List.mem_cons_of_mem _ h), B.notSynchronized⟩ hK hN hP _ (fun q h => Or.inr h) (hD0.self (sz := s.heap.size)) va_S.rf _ (by rw [← hlv]; exact hl)
theorem dk_z0 {cA : ClassId} {n : Nat} {ty : FieldType} (h : defaultValue ty = .int 0) : vp_cell cA (n, .inl (fun _ => 0)) = arrV cA n (fun _ => defaultValue ty) := by rw [h]; rfl
theorem dk_z1 {cA : ClassId} {n : Nat} {ty : FieldType} (h : defaultValue ty = .long 0) : vp_cell cA (n, .inr (.inl (fun _ => 0))) = arrV cA n (fun _ => defaultValue ty) := by rw [h]; rfl
section DKI
variable {p : Program} {l : Launch} {e : Env} {R : Room} {s : State} {m : MethodId} {args : Array Value} {below : List Frame} {meth : Method} {c : Code} {H : Heap} {locs : List Loc} {cells slots mc ms : Nat} {Q : State → Prop} {D : va_G} {A : Nat → Prop} {pc : Nat} {ls : Array Slot} {cc : ByteArray} {k : Nat → ClassId} {ws wc wr : va_W} {H0 : Heap} {st0 rest : List Value} {a : Array Value}
theorem dk_newa (t0 : Nat) {nm : String} {ty : FieldType} (hx : p.tables.exec = Jvm.exec) (hb : c.code = cc) {atype : ArrayType} (harr : (Cond.arrayClass (newarray.typeOf atype)).before args s = true) (hty : newarray.typeOf atype = ty) (hra : ∀ cA : ClassId, va_RA s cA ty → s.vm.findClass nm = some cA) (hK : va_K D vwCl (dkT k) s) (ht : (dkT k)[t0]? = some (k t0, ty)) (hP : va_P D vwCl ws H) (hD : va_D A ws) (hS : va_S A H0 H locs) (hA : ∀ q, H0.size ≤ q → A q)
    {n : Int32} {N' : Nat} {a0 : vp_A} (ha : ∀ cA : ClassId, vp_cell cA a0 = arrV cA N' (fun _ => defaultValue ty)) (hn : ¬ n < 0) (hN : n.toNatClampNeg = N') (hbytes : N' * componentBytes ty ≤ 536870912) (hcells : cells + 1 ≤ R.cells) (hslots : slots + N' ≤ R.slots) (hdg : decode cc pc = .ok (.newarray atype, 2))
    (kk : ∀ (q : Nat) (H1 : Heap), va_P D vwCl (ws ++ [(q, .inl (k t0, a0))]) H1 → va_D A (ws ++ [(q, .inl (k t0, a0))]) → va_S A H0 H1 locs → W p l e R s m args below meth c H1 locs (cells + 1) (slots + N') Q (F0 m (pc + 2) ls (.ref q :: rest))) : W p l e R s m args below meth c H locs cells slots Q (F0 m pc ls (.int n :: rest)) := by
  refine va_newa hx hb harr hty hK hP hD hS hA ha hn hN hbytes hcells hslots hdg (fun q cA H1 hK1 hP1 hD1 hS1 => ?_)
  have h1 := hra _ (hK.2 t0 _ ht).2
  have h2 := hra _ (hK1.2 4 (cA, ty) rfl).2
  have h3 : k t0 = cA := Option.some.inj (h1.symm.trans h2)
  subst h3
  exact kk q H1 hP1 hD1 hS1
theorem dk_cu {S : Type} {w1 : S → va_W} (hr : va_Run p l e R s m args below meth c H locs cells slots mc ms (F0 m pc ls st0) rest (dk_Qu D w1 (va_A wc H.size) a) (va_A wc H.size))
    (hP : va_P D vwCl ws H) (hD : va_D A ws) (hS : va_S A H0 H locs) (hA : ∀ q, H0.size ≤ q → A q) (isC isR : List Nat) (hC : isC.map (fun i => ws[i]?) = wc.map some) (hR : isR.map (fun i => ws[i]?) = wr.map some) (hn : va_nd isR = true) (hdis : ∀ i ∈ isR, i ∉ isC)
    (kk : ∀ (u : S) (H1 : Heap) (locs1 : List Loc), va_P D vwCl (wr ++ w1 u) H1 → va_D A (wr ++ w1 u) → va_S A H0 H1 locs1 → W p l e R s m args below meth c H1 locs1 (cells + mc) (slots + ms) Q (F0 m (pc + 3) ls rest)) : W p l e R s m args below meth c H locs cells slots Q (F0 m pc ls st0) := by
  have hF := va_free (wc := wc) hD hS hA isC hC
  refine va_callv hr hS (fun q _ h => hF q h) hF (fun u t H1 locs1 ht hvm hw hB hz1 hk1 hS1 => ?_)
  obtain ⟨hP1, hD1⟩ := hB
  rw [ht] at hP1
  obtain ⟨hP2, hD2⟩ := va_join hP hD isC isR hC hR hn hdis hk1 hF hP1 hD1
  exact kk u H1 locs1 hP2 hD2 hS1
theorem dk_ru {S : Type} {w1 : S → va_W} (u : S) (hx : p.tables.exec = Jvm.exec) (hb : c.code = cc) (hr : meth.sig.returnType = none) (hlocks : meth.locks = false) (hP : va_P D vwCl (w1 u) H) (hD : va_D A (w1 u)) (hS : va_S A s.heap H locs) (hdg : decode cc pc = .ok (.return_, 1)) (hc : cells ≤ mc) (hs : slots ≤ ms) :
    W p l e R s m args below meth c H locs cells slots (MQ below (dk_Qu D w1 A) args s mc ms A) (F0 m pc ls []) := W.widen hc hs (W.vret hx hb hr (fun _ ht _ => ⟨⟨u, rfl, trivial, by rw [ht]; exact hP, hD⟩, hS.F ht⟩) hS.2.2 hdg hlocks)
/-! METHODS THAT CATCH -/
theorem dk_rhi {w1 : va_W} {v r0 : Int32} (hx : p.tables.exec = Jvm.exec) (hb : c.code = cc) (hr : meth.sig.returnType = some .int) (hlocks : meth.locks = false) (hP : va_P D vwCl w1 H) (hD : va_D A w1) (hS : va_S A s.heap H locs) (hdg : decode cc pc = .ok (.ireturn, 1)) (hv : v = r0) (hc : cells ≤ mc) (hs : slots ≤ ms) :
    W p l e R s m args below meth c H locs cells slots (MQ below (dk_Qi r0 D w1 A) args s mc ms A) (F0 m pc ls [.int v]) := W.widen hc hs (dk_rwi hx hb hr hlocks hP hD hS hdg hv)
end DKI
theorem dk_ofH {l : Launch} {y : MethodName} {ws : List Cond} {rm : Room} {D : va_G} {k sa : Nat → Nat} {av : List Value} {wd : va_W} {sz : Nat} {Qc : (Nat → Prop) → Array Value → State → Outcome → State → Prop} {mc ms : Nat} {cc : ByteArray} {maxL : Nat} {ret : Option FieldType} {hh : List (Nat × Nat × Nat × Nat)} {lv : List (Nat × Value)}
    (hy : plainName y.cls = true) (hw : ws = Cond.codeWith y cc maxL ret hh :: dkB) (hn : (lg_sl av).length ≤ maxL) (hlv : lv_args 0 av = lv)
    (body : ∀ (p : Program) (e : Env) (s : State) (m : MethodId) (below : List Frame) (meth : Method) (c : Code), dk_Cx p s m meth c cc ret maxL y.cls dkB av.toArray → va_K D vwCl (dkT k) s → dk_N s → c.exceptionTable.toList = hh.map (fun q => (⟨q.1, q.2.1, q.2.2.1, q.2.2.2⟩ : ExceptionTableEntry)) → va_P D vwCl wd s.heap → ∀ A : Nat → Prop, (∀ q : Nat, s.heap.size ≤ q → A q) → dk_E sa A s s.heap → va_D A wd → va_S A s.heap s.heap [] → ∀ ls : Array Slot, lv_has ls maxL lv →
      W p l e rm s m av.toArray below meth c s.heap [] 0 0 (MQ below (Qc A) av.toArray s mc ms A) (F0 m 0 ls [])) : Met l y ws rm (dk_Pt D k sa av wd sz) (Qc (va_A wd sz)) mc ms (va_A wd sz) := by
  refine va_MetW (cc := cc) (maxL := maxL) (ret := ret) (hh := hh) hy hw ?_
  intro p e s m args below meth c s₁ B hml hv
  obtain ⟨rfl, hsz, hP, ⟨hK, hN⟩, hD0, hE⟩ := hv
  subst hsz
  subst hw
  have hts := atoms_spec (ws := Cond.codeWith y cc maxL ret hh :: dkB) B.pre
  have hown : s.vm.findClass y.cls = some m.cls := findClass_of_methodNamed B.named
  have hTab := vx_table (x := y) B (hts (.codeWith y cc maxL ret hh) List.mem_cons_self)
  have hl := lv_entry av (n := maxL) hn
  rw [lg_entry_eq]
  exact body p e s m below meth c ⟨B.exec, B.bytes, B.returns, hml, hown, fun w h => hts w (List.mem_cons_of_mem _ h), B.notSynchronized⟩ hK hN hTab hP _ (fun q h => Or.inr h) hE (hD0.self (sz := s.heap.size)) va_S.rf _ (by rw [← hlv]; exact hl)
theorem dk_gSW {own : String} {idx : Nat} {y : MethodName} {bytes : ByteArray} {maxL : Nat} {ret : Option FieldType} {hh : List (Nat × Nat × Nat × Nat)} (h1 : Cond.methodLink own idx y ∈ dkB) (h2 : Cond.static y ∈ dkB) (h4 : Cond.initialized y.cls ∈ dkB) (h5 : Cond.codeWith y bytes maxL ret hh ∈ dkB) : GoodIn dkB (va_wsS own idx y (.codeWith y bytes maxL ret hh :: dkB)) := fun w hw => by
  simp only [va_wsS, List.cons_append, List.nil_append, List.mem_cons] at hw
  rcases hw with rfl | rfl | rfl | rfl | hw
  · exact dk_good h1
  · exact dk_good h2
  · exact dk_good h4
  · exact dk_good h5
  · exact dk_good hw
