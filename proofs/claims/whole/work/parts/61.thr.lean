theorem zgT {c0 c1 : Cond} {own : String} {idx : Nat} {y : MethodName} (h1 : Cond.methodLink own idx y ∈ zt) (h2 : Cond.static y ∈ zt) (h4 : Cond.initialized y.cls ∈ zt) (h5 : c1 ∈ zt) : GoodIn (c0 :: zt) (va_wsS own idx y (c1 :: zt)) := by
  have k : ∀ w ∈ va_wsS own idx y (c1 :: zt), w ∈ zt := by
    intro w hw
    simp only [va_wsS, List.mem_append, List.mem_cons, List.not_mem_nil, or_false] at hw
    rcases hw with (rfl | rfl | rfl) | rfl | hw <;> assumption
  exact fun w hw => ⟨List.mem_cons_of_mem _ (k w hw), zt_good (k w hw)⟩
/-- a throwing end: the exception is a new object of its class, nothing old has moved -/
def zxE (st : State) (o : Outcome) (t : State) : Prop := (st.WarmedH t.vm ∧ st.sameButNew ({ t with vm := st.vm } : State) [] 1 6) ∧ ∃ (x : Addr) (ce : Cell), o = .threw x ∧ t.heap[x]? = some ce ∧ st.vm.findClass xN = some ce.cls ∧ ce.vm.isStatics = false
def zxM (below : List Frame) (s : State) : State → Prop := fun t => ∃ o, t.status = .running ∧ Ended t below o ∧ zxE s o t
def zxP (D : va_G) (cl : List vw_C) (tys : List (ClassId × FieldType)) (N : Nat) (lay : Nat → (Nat → Int) → va_E) (a : Nat → Nat) (av : List Value) (σ : Zt) (sz : Nat) : Array Value → State → Prop :=
  va_Pc av (fun U => U.heap.size = sz ∧ va_P D cl (zw N lay a σ) U.heap ∧ va_K D cl tys U ∧ va_D (fun _ => True) (zw N lay a σ) ∧ zst U)
/-- a contract of a method that throws -/
def zxt (l : Launch) (D : va_G) (cl : List vw_C) (tys : List (ClassId × FieldType)) (N : Nat) (lay : Nat → (Nat → Int) → va_E) (a : Nat → Nat) (y : MethodName) (ws : List Cond) (rm : Room) (av : List Value) (σ : Zt) : Prop :=
  ∀ sz : Nat, MetFree l y (headSpec ws rm) (zxP D cl tys N lay a av σ sz) (fun _ _ _ _ _ => True) (fun _ st o t => zxE st o t)
section ZXE
variable {l : Launch} {D : va_G} {cl : List vw_C} {tys : List (ClassId × FieldType)} {a : Nat → Nat} {N : Nat} {lay : Nat → (Nat → Int) → va_E} {σ : Zt} {y : MethodName} {ws ws' : List Cond} {rm : Room} {av : List Value}
theorem zxt_of {cc : ByteArray} {maxL : Nat} {ret : Option FieldType} {own : String} (hy : plainName y.cls = true) (hw : ws = Cond.code y cc maxL ret :: ws') (ho : y.cls = own) (hlen : (lg_sl av).length ≤ maxL) {lv : List (Nat × Value)} (hlv : lv_args 0 av = lv)
    (body : ∀ (p : Program) (e : Env) (s : State) (m : MethodId) (below : List Frame) (meth : Method) (c : Code) (A : Nat → Prop) (ls : Array Slot), zk p s m av.toArray meth c cc maxL ret ws own → zx D cl tys A a N s → va_P D cl (zw N lay a σ) s.heap → zst s → (∀ (q : Nat), ∀ x ∈ c.exceptionTable.toList, covers x q = false) → lv_has ls maxL lv →
      W p l e rm s m av.toArray below meth c s.heap [] 0 0 (zxM below s) (F0 m 0 ls [])) : zxt l D cl tys N lay a y ws rm av σ := by
  intro sz
  have hc : ∀ (args : Array Value) (s : State), (headSpec ws rm).pre.before args s = true → (Cond.code y cc maxL ret).before args s = true := fun args s h => atoms_spec (ws := ws) h _ (by rw [hw]; exact List.mem_cons_self)
  refine MetFree.of_bodyS (code := cc) (maxLocals := maxL) (ret := ret) hy ?_ ?_
  · intro args s m h hn
    obtain ⟨meth, c, h1, h2, h3, h4, h5, h6, -, -⟩ := Cond.code_spec hn (hc args s h)
    exact ⟨meth, c, h1, h2, h3, h4, h5, h6⟩
  · intro p e s m args below meth c s₁ B hml hP _
    obtain ⟨rfl, hsz, hP, hK, hD0, hz⟩ := hP
    have hh0 : s₁.heap = s.heap := by rw [B.state]; rfl
    have hown : s.vm.findClass own = some m.cls := by rw [← ho]; exact findClass_of_methodNamed B.named
    have hl := lv_entry av (n := maxL) hlen
    have key : W p l e rm s m av.toArray below meth c s.heap [] 0 0 (zxM below s) (entryFrame m av.toArray maxL) := by
      rw [lg_entry_eq]
      generalize (lg_sl av ++ List.replicate (maxL - (lg_sl av).length) Slot.unset).toArray = ls at hl ⊢
      rw [hlv] at hl
      exact body p e s m below meth c _ ls ⟨⟨B.exec, B.bytes, hml, hown, atoms_spec (ws := ws) B.pre⟩, B.returns, B.notSynchronized⟩ (zx_of hK hD0) hP hz (fun q => covers_of_empty (B.noHandlers (hc _ _ B.pre)) q) hl
    obtain ⟨t, a1, o, b1, b2, b3⟩ := key s₁ hh0 (Stand.of_body B)
    exact ⟨t, o, a1, b1, b2, b3⟩
end ZXE
theorem own_words : ∀ w ∈ Bundle.ownAtoms "SignRow" 132 xN xUp, w ∈ zt ∨ w ∈ zsw := by decide +kernel
section ZXT
variable {p : Program} {l : Launch} {e : Env} {R : Room} {s : State} {m : MethodId} {args : Array Value} {below : List Frame} {meth : Method} {c : Code}
variable {cc : ByteArray} {pc : Nat} {ls : Array Slot} {nL : Nat} {ret : Option FieldType} {c0 : Cond}
theorem zx_throw {idx : Nat} {text : String} (hl : l.stackTraces = false) (C : zk p s m args meth c cc nL ret (c0 :: zt) "SignRow") (hz : zst s) (hs : Cond.stringRef "SignRow" idx text ∈ zsw) (hcov : ∀ (q : Nat), ∀ x ∈ c.exceptionTable.toList, covers x q = false)
    (hnew : Cond.classLink "SignRow" 128 xN ∈ zt) (hini : Cond.initialized xN ∈ zt)
    (d0 : decode cc pc = .ok (.new 128, 3)) (d3 : decode cc (pc + 3) = .ok (.dup, 1)) (d4 : decode cc (pc + 4) = .ok (.ldc idx, 2)) (d6 : decode cc (pc + 6) = .ok (.invokespecial 132, 3)) (d9 : decode cc (pc + 9) = .ok (.athrow, 1))
    (hsize : ls.size = nL) (hc1 : 1 ≤ R.cells) (hs1 : 6 ≤ R.slots) (hf : 5 < R.frames) (hlo : 82 ≤ R.locals) : W p l e R s m args below meth c s.heap [] 0 0 (zxM below s) (F0 m pc ls []) := by
  intro T hT X
  have hw : ∀ w ∈ Bundle.ownAtoms "SignRow" 132 xN xUp, w.before args s = true := fun w h => (own_words w h).elim (fun q => C.tb q) (fun q => hz w q args)
  have htr : e.platform.stackTraces = false := by rw [Jvm.Example.NoTraceControls.admits_follows X.admits]; exact hl
  have hexec := C.1.1
  have hb : c.code = cc := C.1.2.1
  have hown := C.1.2.2.2.1
  obtain ⟨vm₁, cX, kX, hfX, hkX, -, -, X₁, st1⟩ := X.newCold hexec (own := "SignRow") (C := xN) (index := 128) (n := 6) hown (C.tb hnew) (hw (.instantiable xN 6) (by decide +kernel)) (C.tb hini)
    (g := F0 m pc ls []) rfl (by rw [hb]; exact d0) (by omega) (by omega)
  generalize hT1 : (T.setVm vm₁).pushCell { cls := cX, slots := kX.instanceTypes.map defaultValue, vm := .none } = T1 at X₁ st1
  have hcellA : T1.heap[T.heap.size]? = some (freshCell cX kX) := by rw [← hT1]; exact State.heap_pushCell_size _ _
  have hconst := hz _ hs args
  obtain ⟨-, -, -, sa, -, -, -, -, -, hev⟩ := Cond.stringRef_spec hown hconst
  obtain ⟨U, hsteps, hrun, hend, hW, hsame, ce, hce, K⟩ := X₁.ctorThrowS hexec htr (own := "SignRow") (cls := xN) (names := xUp) (ic := 132) hown (by decide +kernel) (by decide +kernel)
    hw (fun y hy => by cases hy) hfX hkX hcellA (by rw [hT]; exact Nat.le_refl _) (msg := .ref sa) rfl
    (g := F0 m (pc + 6) ls [.ref sa, .ref T.heap.size, .ref T.heap.size]) rfl (hsize.trans C.1.2.2.1.symm) rfl rfl (rest := []) rfl
    (by rw [hb]; exact d6) (by rw [hb]; exact d9) (hcov _) (by simpa [xUp] using hf) (by simp [xUp, Value.category, JFrame.monitorRoom]; omega) C.2.2
  refine ⟨U, ?_, .threw T.heap.size, hrun, hend, ⟨hW, by simpa using hsame⟩, _, ce, rfl, hce, K.cls, by rw [K.vm]; rfl⟩
  refine st1 _ ?_
  show Steps p.tables e below (T1.setTop (F0 m (pc + 3) ls [.ref T.heap.size])) _
  jvm_step X₁.here [X₁.here.top, hexec, hb, d3, Value.category]
  exact X₁.ldcString hexec (own := "SignRow") (text := text) (index := idx) (a := sa) hown hconst hev (g := F0 m (pc + 4) ls [.ref T.heap.size, .ref T.heap.size]) rfl (by rw [hb]; exact d4) _ hsteps
end ZXT
section ZXC
variable {p : Program} {l : Launch} {e : Env} {R : Room} {s : State} {m : MethodId} {args : Array Value} {below : List Frame} {meth : Method} {c : Code}
variable {cc : ByteArray} {pc : Nat} {ls : Array Slot} {rest st0 : List Value} {nL : Nat} {ret : Option FieldType} {Ts : List Cond} {own : String}
variable {D : va_G} {cl : List vw_C} {tys : List (ClassId × FieldType)} {A : Nat → Prop} {a : Nat → Nat} {N : Nat} {lay : Nat → (Nat → Int) → va_E} {σ : Zt}
variable {y : MethodName} {bytes : ByteArray} {maxL n index : Nat} {ret' : Option FieldType} {ws : List Cond} {rm : Room} {As : List Value} {Cn : String}
theorem zxP_blind {sz : Nat} {av : List Value} : FrameBlind (zxP D cl tys N lay a av σ sz) := fun b U g mk q => by
  obtain ⟨q0, q1, qP, qK, qD, qz⟩ := q
  exact ⟨q0, q1, qP, va_K.moved (u := U) (U := U.calling g mk b) (Vm.Alike.refl U.vm) qK, qD, zst_mv (s := U) (U := U.calling g mk b) (State.WarmedH.refl U) (fun _ _ h => h) qz⟩
/-- the callee's own run, seen from the caller: it comes back throwing, no old cell has moved -/
theorem zx_step {P : Array Value → State → Prop} {T : State} {g : JFrame} {ig : Instr} {len : Nat} {mk : MethodId} {b : Array Value} (X : Stand p l e R s m args below meth c T [] 0 0) (hM : MetFree l y (headSpec ws rm) P (fun _ _ _ _ _ => True) (fun _ st o t => zxE st o t)) (cb : CallB R s args own index y bytes maxL ret' ws rm 1 6 n)
    (hg : g.method = m) (hsize : g.locals.size = c.maxLocals) (hdg : decode c.code g.pc = .ok (ig, len)) (hW : 2 * g.monitorRoom + (g.stack.map fun v => v.category).sum ≤ 8) (hnamed : T.methodNamed? y = some mk) (hP : P b (T.calling g mk b)) (hR : 1 ≤ R.cells ∧ 6 ≤ R.slots) :
    ∃ (x : Addr) (B : State) (ce : Cell), Stand p l e R s m args below meth c B [] 1 6 ∧ B.heap[x]? = some ce ∧ T.vm.findClass xN = some ce.cls ∧ ce.vm.isStatics = false ∧ (∀ (q : Nat) (cell : Cell), T.heap[q]? = some cell → B.heap[q]? = some cell) ∧
      Steps p.tables e below (doInvoke e (T.setTop g) [] mk b).1 ((B.setTop g).pushFrame (.throwing x)) := by
  obtain ⟨hrc, hrs, hfr, hlo, hws, hcw, -, hini, -⟩ := cb
  subst hg
  have h := X.here
  have hcd : (Cond.code y bytes maxL ret').before b T = true := hws _ hcw b T X.warmed
  have hin : (Cond.initialized y.cls).before b T = true := word_at X.warmed (Or.inl (by first | rfl | simp [Cond.onTables, Cond.keeps, Cond.steady])) hini
  obtain ⟨methY, cY, hmY, hcY, -, hlY, -, -, -, -⟩ := Cond.code_spec hnamed hcd
  obtain ⟨kY, hkY, -⟩ := className_of_methodNamed hnamed
  have hkI : kY.init = .initialized := Cond.initialized_spec (findClass_of_methodNamed hnamed) hkY hin
  have happ : (headSpec ws rm).appliesLoose y e.platform (T.calling g mk b) = true :=
    Spec.appliesLoose_calling (g := g) h hdg hnamed hkY hkI (X.room_calling (g := g) (R' := rm) hsize hmY hcY hfr (by rw [hlY]; omega) (by rw [hrc]; omega) (by rw [hrs]; omega)) (atoms_intro fun w hw => hws w hw b T X.warmed)
  obtain ⟨g₀, hfr0⟩ := X.frames_eq
  have hfs : (T.setTop g).frames = .java g :: below := State.frames_setTop _ hfr0
  obtain ⟨o, t, hsteps, -, hend, ⟨hWt, hsame⟩, x, ce, rfl, h1, h2, h3⟩ := Steps.callFree hM p X.admits X.cas X.clock (acts := []) (mid := [.java g]) (below := below) hfs happ hP trivial
  rw [hfs] at hend
  have hft : t.frames = .throwing x :: .java g :: below := hend
  have hsame1 : (T.calling g mk b).sameButNew ({ t with vm := (T.calling g mk b).vm } : State) [] 1 6 := hsame
  have e2 := hsame1.1
  have hte : t = (({ T with heap := t.heap, slotsUsed := t.slotsUsed } : State).setVm t.vm).setFrames (.throwing x :: .java g :: below) := by
    have e3 : t = ({ t with vm := (T.calling g mk b).vm } : State).setVm t.vm := rfl
    rw [e2] at e3
    refine e3.trans ?_
    rw [← hft]
    show (({ (T.calling g mk b).setFrames t.frames with heap := t.heap, slotsUsed := t.slotsUsed } : State)).setVm t.vm = _
    rw [State.calling_eq h.top, State.setFrames_setFrames]
    rfl
  have hWT : T.WarmedH t.vm := hWt
  have hsm : T.sameButNew ({ T with heap := t.heap, slotsUsed := t.slotsUsed } : State) [] 1 6 := by
    refine ⟨?_, hsame.2⟩
    obtain ⟨tt, ht, -⟩ := State.frames_cons hfr0
    show ({ T with heap := t.heap, slotsUsed := t.slotsUsed } : State) = { T.setFrames T.frames with heap := t.heap, slotsUsed := t.slotsUsed }
    rw [State.setFrames_self ht]
  have XB : Stand p l e R s g.method args below meth c (({ T with heap := t.heap, slotsUsed := t.slotsUsed } : State).setVm t.vm) [] 1 6 := by
    have hs2 := X.same.trans (hsm.setVm s.vm)
    exact ⟨X.admits, X.cas, X.clock, X.frames, X.room, X.hears, X.method, X.code, (X.here.setHeapUsed t.heap t.slotsUsed).setVm hWT.alike, X.tail, State.WarmedH.trans X.warmed hWT, X.limits, X.bytes, hs2⟩
  refine ⟨x, _, ce, XB, h1, h2, h3, fun q cell hq => State.sameButNew.kept_nil hsame hq, ?_⟩
  have hfrB : (({ T with heap := t.heap, slotsUsed := t.slotsUsed } : State).setVm t.vm).frames = .java g₀ :: below := hfr0
  rw [State.pushFrame, State.frames_setTop _ hfrB, State.setTop_of_frames _ hfrB, State.setFrames_setFrames, ← hte]
  exact hsteps
theorem zx_runT {k ci : Nat} {fs : List Value} {q : vw_C} (C : zk p s m args meth c cc nL ret Ts own) (X0 : zx D cl tys A a N s) (hP : va_P D cl (zw N lay a σ) s.heap) (hz : zst s) (hM : zxt l D cl tys N lay a y ws rm (.ref (a k) :: As) σ)
    (cw : CallW R s args own Cn index y bytes maxL ret' ws rm 1 6 n) (hk : k < N) (hlay : lay k (σ k) = .inr (ci, fs)) (hc : cl[ci]? = some q) (hq : q.1 = Cn) (hn : As.length = n) (hsize : ls.size = nL) (hst : st0 = As.reverse ++ .ref (a k) :: rest) (hW : (rest.map fun v => v.category).sum ≤ 8) (hdg : decode cc pc = .ok (.invokevirtual index, 3)) (hR : 1 ≤ R.cells ∧ 6 ≤ R.slots) :
    ∀ T : State, T.heap = s.heap → Stand p l e R s m args below meth c T [] 0 0 → ∃ (x : Addr) (B : State) (ce : Cell), Stand p l e R s m args below meth c B [] 1 6 ∧ B.heap[x]? = some ce ∧ s.vm.findClass xN = some ce.cls ∧ ce.vm.isStatics = false ∧ (∀ (q : Nat) (cell : Cell), s.heap[q]? = some cell → B.heap[q]? = some cell) ∧
      Steps p.tables e below (T.setTop (F0 m pc ls st0)) ((B.setTop (F0 m pc ls rest)).pushFrame (.throwing x)) := by
  have cb := cw.1
  obtain ⟨⟨-, -, -, -, -, -, hcode, -, hy, hlen, hl⟩, hin, hse⟩ := cw
  obtain ⟨hx, hb, hml, ho, -⟩ := C.1
  obtain ⟨cellB, hcB, hoB, hclB⟩ := va_recv X0.1 hP hc (by rw [zw_get hk, hlay])
  rw [hq] at hclB
  intro T hT X
  obtain ⟨mk, methM, hnamed, hmethM, hstM, habM⟩ := Cond.instanceMethod_spec hin
  obtain ⟨methM', cM, hmethM', -, -, -, -, -, -, hsigM⟩ := Cond.code_spec hnamed hcode
  cases hmethM.symm.trans hmethM'
  obtain ⟨c2, r2, m2, q1, q2, q3, q4, kP, hkP, hkPi⟩ := Cond.selects_spec hse
  cases hclB.symm.trans q1
  cases (State.methodFound?_of_named hnamed hy).symm.trans q2
  cases hnamed.symm.trans q3
  have hselP : selectMethod e.platform s.vm cellB.cls mk = .method mk := by rw [Launch.admits_selectMethod X.admits]; exact q4
  obtain ⟨vm₁, X₁, hstep₁⟩ := X.invokevirtual hx ho hl hnamed hmethM hstM hkP hkPi hy (a := a k) (cell := cellB) (by rw [hT]; exact hcB)
    (fun z h => by rw [h] at hoB; cases hoB) hselP hmethM habM hkP hkPi (g := F0 m pc ls st0) rfl (argsL := As) (rest := rest) (hn.trans (hlen _ hsigM)) hst (by rw [hb]; exact hdg)
  obtain ⟨x, B, ce, X', b5, b6, b7, b4, hsteps⟩ := zx_step (g := F0 m pc ls rest) (ig := .invokevirtual index) (len := 3) (b := (Value.ref (a k) :: As).toArray) X₁ (hM s.heap.size) cb rfl (hsize.trans hml.symm) (by rw [hb]; exact hdg) (lv_room hW) (X₁.named hnamed)
    (zxP_blind _ _ _ _ ⟨rfl, by show T.heap.size = _; rw [hT], by show va_P D cl _ T.heap; rw [hT]; exact hP, va_K.moved X₁.warmed.alike X0.1, zw_D X0.2.1 (fun _ _ => trivial), zst_mv (s := s) (U := T.setVm vm₁) X₁.warmed (fun _ _ h => by show T.heap[_]? = _; rw [hT]; exact h) hz⟩) hR
  refine ⟨x, B, ce, X', b5, ?_, b7, fun q cell h => b4 q cell (by show T.heap[q]? = _; rw [hT]; exact h), hstep₁ _ fun acts => by rw [doInvoke_state]; exact hsteps⟩
  rw [← X₁.warmed.alike.findClass]
  exact b6
theorem zx_callT {k ci : Nat} {fs : List Value} {q : vw_C} (C : zk p s m args meth c cc nL ret Ts own) (X0 : zx D cl tys A a N s) (hP : va_P D cl (zw N lay a σ) s.heap) (hz : zst s) (hcov : ∀ (q : Nat), ∀ x ∈ c.exceptionTable.toList, covers x q = false) (hM : zxt l D cl tys N lay a y ws rm (.ref (a k) :: As) σ)
    (cw : CallW R s args own Cn index y bytes maxL ret' ws rm 1 6 n) (hk : k < N) (hlay : lay k (σ k) = .inr (ci, fs)) (hc : cl[ci]? = some q) (hq : q.1 = Cn) (hn : As.length = n) (hsize : ls.size = nL) (hst : st0 = As.reverse ++ .ref (a k) :: rest) (hW : (rest.map fun v => v.category).sum ≤ 8) (hdg : decode cc pc = .ok (.invokevirtual index, 3)) (hR : 1 ≤ R.cells ∧ 6 ≤ R.slots) :
    W p l e R s m args below meth c s.heap [] 0 0 (zxM below s) (F0 m pc ls st0) := by
  intro T hT X
  obtain ⟨x, B, ce, XB, h1, h2, h3, h4, st⟩ := zx_runT C X0 hP hz hM cw hk hlay hc hq hn hsize hst hW hdg hR T hT X
  obtain ⟨st2, hrun, hend, hW2, hsame⟩ := XB.leaveThrown x (g := F0 m pc ls rest) rfl rfl rfl (hcov pc) C.2.2
  exact ⟨_, st.trans st2, .threw x, hrun, hend, ⟨hW2, hsame⟩, x, ce, rfl, h1, h2, h3⟩
end ZXC
