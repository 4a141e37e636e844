/-! THE LAW'S sign, path AND kinds: they put the answer into a cell, or catch what is thrown -/
abbrev zO (cJ : ClassId) (v : Int) : va_E := .inl (cJ, 1, .inr (.inl (fun _ => jL v)))
def zsA (a : Nat → Nat) (N sz o : Nat) : Nat → Prop := fun q => q = o ∨ (∃ k, k < N ∧ q = a k) ∨ sz ≤ q
def zsQ (D : va_G) (cl : List vw_C) (N : Nat) (lay : Nat → (Nat → Int) → va_E) (a : Nat → Nat) (o : Nat) (cJ : ClassId) (fin : Int → Zt → Int → Prop) (A : Nat → Prop) : Array Value → State → Outcome → State → Prop := fun _ st oc t =>
  (∃ (r : Int) (u : Zt) (v : Int), oc = .returned (some (.int (jI r))) ∧ fin r u v ∧ va_P D cl (zw N lay a u) t.heap ∧ va_at D cl (o, zO cJ v) t.heap) ∧ va_F A st t
def zsP (D : va_G) (cl : List vw_C) (tys : List (ClassId × FieldType)) (N : Nat) (lay : Nat → (Nat → Int) → va_E) (a : Nat → Nat) (o : Nat) (cJ : ClassId) (σ : Zt) (v0 : Int) (sz : Nat) (av : List Value) : Array Value → State → Prop :=
  va_Pc av (fun U => U.heap.size = sz ∧ va_P D cl (zw N lay a σ) U.heap ∧ va_at D cl (o, zO cJ v0) U.heap ∧ (va_K D cl tys U ∧ va_K D cl [(cJ, .long)] U) ∧ va_D (fun _ => True) (zw N lay a σ) ∧ (∀ i, i < N → a i ≠ o) ∧ zst U)
/-- the contract of such a method -/
def zs (l : Launch) (D : va_G) (cl : List vw_C) (tys : List (ClassId × FieldType)) (N : Nat) (lay : Nat → (Nat → Int) → va_E) (a : Nat → Nat) (o : Nat) (cJ : ClassId) (y : MethodName) (ws : List Cond) (rm : Room) (av : List Value) (σ : Zt) (v0 : Int) (fin : Int → Zt → Int → Prop) : Prop :=
  ∀ sz : Nat, Met l y ws rm (zsP D cl tys N lay a o cJ σ v0 sz av) (zsQ D cl N lay a o cJ fin (zsA a N sz o)) 1 6 (zsA a N sz o)
theorem zO_cell {cJ : ClassId} {f g : Nat → Int64} (h : f 0 = g 0) : vp_cell cJ (1, .inr (.inl f)) = vp_cell cJ (1, .inr (.inl g)) := by
  rw [vp_cell_l, vp_cell_l]
  unfold arrV
  congr 1
  apply Array.ext
  · simp
  · intro i h3 h4
    simp at h3 ⊢
    subst h3
    exact h
/-- a table with one entry that covers the place: its handler is found, its class's entry noted -/
theorem zx_find {e : Env} {s : State} {f : JFrame} {a : Addr} {meth : Method} {code : Code} {x : ExceptionTableEntry} {cT : ClassId} {cell : Cell} (hm : s.vm.method? f.method = some meth) (hc : meth.code = some code) (hs : code.exceptionTable.toList = [x]) (hx : covers x f.pc = true) (h0 : x.catchType ≠ 0)
    (hl : s.vm.ClassLinks e.platform f.method.cls x.catchType cT) (hcell : s.heap[a]? = some cell) (hobj : ∀ k, cell.vm ≠ .statics k) (hk : ∃ k, s.vm.classes[cell.cls]? = some k) (hcl : ∃ k, s.vm.classes[cT]? = some k) (hfit : s.vm.assignable cell.cls cT = true) (Q : Handler → Pre) (E : CtlPost) (d : Bool) (acts : List Action) :
    wp (findHandler f a) Q E e d acts s ↔ Q (.found x.handlerPc) d acts (s.setVm (s.vm.noted f.method.cls x.catchType (.cls cT))) := by
  rw [Jvm.W.findHandler_eq hm hc, hs]
  have hx2 := hx
  simp only [covers] at hx2
  obtain ⟨ra, rt⟩ := (resolveClass_links e.toSetting hl).op (op := VmOp.resolveClass f.method.cls x.catchType) rfl
  have hal := (Vm.Alike.refl s.vm).noted f.method.cls x.catchType (.cls cT)
  obtain ⟨k1, g1⟩ := hk
  obtain ⟨k2, g2⟩ := hcl
  obtain ⟨j1, y1, -⟩ := hal.2.2 _ _ g1
  obtain ⟨j2, y2, -⟩ := hal.2.2 _ _ g2
  have hfit2 : (s.vm.noted f.method.cls x.catchType (.cls cT)).assignable cell.cls cT = true := by rw [hal.assignable]; exact hfit
  simp [findHandler.go, hx2, h0, ra, rt, hcell, hobj, y1, y2, hfit2, VmOp.dirties, VmOp.acts]
/-- the exception is caught in the method's own frame -/
theorem zx_caught {p : Program} {l : Launch} {e : Env} {R : Room} {s : State} {m : MethodId} {args : Array Value} {below : List Frame} {meth : Method} {c : Code} {T : State} {locs : List Loc} {cells slots : Nat} (X : Stand p l e R s m args below meth c T locs cells slots) {a : Addr} {g : JFrame} (hg : g.method = m) {own name : String} (hown : s.vm.findClass own = some m.cls)
    {x : ExceptionTableEntry} (hs : c.exceptionTable.toList = [x]) (hx : covers x g.pc = true) (h0 : x.catchType ≠ 0) (hlink : (Cond.classLink own x.catchType name).before args s = true) {cT : ClassId} {cell : Cell} (hcT : s.vm.findClass name = some cT) (hcell : T.heap[a]? = some cell) (hobj : cell.vm.isStatics = false) (hfit : s.vm.assignable cell.cls cT = true) :
    ∃ vm', Stand p l e R s m args below meth c (T.setVm vm') locs cells slots ∧ ∀ target, Steps p.tables e below ((T.setVm vm').setTop { g with pc := x.handlerPc, stack := [.ref a] }) target → Steps p.tables e below ((T.setTop g).pushFrame (.throwing a)) target := by
  have hpl : e.platform.magicAccessors = ({} : Platform).magicAccessors := by rw [X.admits.platform]
  obtain ⟨c1, hc1, hcl⟩ := Cond.classLink_spec hown hlink e.platform hpl
  cases hcT.symm.trans hc1
  obtain ⟨dk, _, _, kt, hd, _, _, _, _, hkt, _, hopen⟩ := hcl.here
  have hclT := X.warmed.classLinks hcl
  have hW1 : s.WarmedH (T.vm.noted m.cls x.catchType (.cls cT)) := X.warmed.noted hd hopen (State.rightAt_cls hcl)
  obtain ⟨kt1, hkt1, -⟩ := X.warmed.alike.2.2 _ _ hkt
  have hfit1 : T.vm.assignable cell.cls cT = true := by rw [X.warmed.alike.assignable]; exact hfit
  subst hg
  refine ⟨_, X.noted hW1, fun target hrest => ?_⟩
  have h := X.here
  obtain ⟨hgo, hw⟩ := h.throwing a
  refine Steps.head hgo hw ?_
  have hfind := zx_find (e := e) (s := (T.setTop g).pushFrame (.throwing a)) (f := g) (a := a) (cell := cell) X.method' X.code hs hx h0 hclT hcell (VmData.ne_statics_of hobj) (Vm.classAt_of_assignable hfit1 ⟨kt1, hkt1⟩) ⟨kt1, hkt1⟩ hfit1
  obtain ⟨g₀, hfr⟩ := X.frames_eq
  have hst : (stepThrowing e ((T.setTop g).pushFrame (.throwing a)) a (.java g :: below)).Is ((((T.setTop g).pushFrame (.throwing a)).setVm (T.vm.noted g.method.cls x.catchType (.cls cT))).setFrames (.java { g with pc := x.handlerPc, stack := [.ref a] } :: below)) [] := by
    simp only [stepThrowing, searchFrame, vmDo]
    generalize hr : Sem.go _ e false [] ((T.setTop g).pushFrame (.throwing a)) = res
    obtain ⟨as, rfl, ha⟩ := Sem.eq_ok_of hr (a := Handler.found x.handlerPc) (s' := ((T.setTop g).pushFrame (.throwing a)).setVm (T.vm.noted g.method.cls x.catchType (.cls cT))) (acts' := []) (by simp [hfind _ _ _ _]; rfl)
    exact ⟨rfl, ha⟩
  have hen : ((T.setTop g).pushFrame (.throwing a)).frames = .throwing a :: .java g :: below := by rw [frames_entered h.top, hfr]; rfl
  rw [stepThread_throwing hen, hst.1]
  have hfr1 : (T.setVm (T.vm.noted g.method.cls x.catchType (.cls cT))).frames = .java g₀ :: below := hfr
  rw [State.setTop_of_frames _ hfr1] at hrest
  have hfin : (((T.setTop g).pushFrame (.throwing a)).setVm (T.vm.noted g.method.cls x.catchType (.cls cT))).setFrames (.java { g with pc := x.handlerPc, stack := [.ref a] } :: below) = (T.setVm (T.vm.noted g.method.cls x.catchType (.cls cT))).setFrames (.java { g with pc := x.handlerPc, stack := [.ref a] } :: below) := by
    rw [State.pushFrame, State.setTop_of_frames _ hfr, State.setFrames_setFrames]
    show ((T.setVm (T.vm.noted g.method.cls x.catchType (.cls cT))).setFrames _).setFrames _ = _
    rw [State.setFrames_setFrames]
  rw [hfin]
  exact hrest
section ZS
variable {p : Program} {l : Launch} {e : Env} {R : Room} {s : State} {m : MethodId} {args : Array Value} {below : List Frame} {meth : Method} {c : Code}
variable {cc : ByteArray} {pc : Nat} {ls : Array Slot} {st0 : List Value} {nL : Nat} {c0 : Cond} {own : String}
variable {D : va_G} {cl : List vw_C} {tys : List (ClassId × FieldType)} {a : Nat → Nat} {N : Nat} {lay : Nat → (Nat → Int) → va_E} {σ : Zt} {o : Nat} {cJ : ClassId} {v0 : Int} {fin : Int → Zt → Int → Prop}
variable {y : MethodName} {bytes : ByteArray} {maxL n index : Nat} {ret' : Option FieldType} {ws : List Cond} {rm : Room} {As : List Value} {Cn : String}
theorem zs_ok {k ci : Nat} {fs : List Value} {q : vw_C} {post : Int32 → Zt → Prop} (C : zk p s m args meth c cc nL (some .int) (c0 :: zt) own) (X : zx D cl tys (zsA a N s.heap.size o) a N s) (K2 : va_K D cl [(cJ, .long)] s) (hP : va_P D cl (zw N lay a σ) s.heap) (hO : va_at D cl (o, zO cJ v0) s.heap) (ho : ∀ i, i < N → a i ≠ o) (hM : zc l D cl tys N lay a y ws rm (.ref (a k) :: As) σ post)
    (cw : CallW R s args own Cn index y bytes maxL ret' ws rm 0 0 n) (hk : k < N) (hlay : lay k (σ k) = .inr (ci, fs)) (hc : cl[ci]? = some q) (hq : q.1 = Cn) (hn : As.length = n) (hsize : ls.size = nL) (hst : st0 = As.reverse ++ .ref (a k) :: .int (jI 0) :: .ref o :: []) (hf : 1 ≤ R.cells ∧ 6 ≤ R.slots)
    (d0 : decode cc pc = .ok (.invokevirtual index, 3)) (d3 : decode cc (pc + 3) = .ok (.i2l, 1)) (d4 : decode cc (pc + 4) = .ok (.lastore, 1)) (d5 : decode cc (pc + 5) = .ok (.goto 7, 3)) (d12 : decode cc (pc + 12) = .ok (.iconst 0, 1)) (d13 : decode cc (pc + 13) = .ok (.ireturn, 1))
    (hpost : ∀ r u, post r u → ∃ v : Int, r = jI v ∧ -2147483648 ≤ v ∧ v < 2147483648 ∧ fin 0 u v) :
    W p l e R s m args below meth c s.heap [] 0 0 (MQ below (zsQ D cl N lay a o cJ fin (zsA a N s.heap.size o)) args s 1 6 (zsA a N s.heap.size o)) (F0 m pc ls st0) := by
  refine zj_callV (N2 := 0) (lay2 := lay) (a2 := a) (σ2 := σ) C X hP (fun k q h => by simp [zw] at h) hO va_S.rf (fun _ _ _ h => absurd h (Nat.not_lt_zero _)) ho hM cw hk hlay hc hq hn hsize hst (by simp [Value.category]) d0 ⟨Nat.zero_le _, Nat.zero_le _⟩ (fun r u H locs hp hP _ hO hS => ?_)
  obtain ⟨v, rfl, v1, v2, hfin⟩ := hpost r u hp
  refine zg_i2l C v1 v2 d3 ?_
  have hJ : va_P D cl (zw N lay a u ++ [(o, zO cJ v0)]) H := hP.app (fun k q h => by
    have hz : k < 1 := (List.getElem?_eq_some_iff.mp h).1
    rw [show k = 0 by omega] at h
    cases h
    exact hO)
  have hD : va_D (zsA a N s.heap.size o) (zw N lay a u ++ [(o, zO cJ v0)]) := by
    refine va_D.app (X.D u) ⟨fun i j p q hi hj _ => ?_, fun i q hi => ?_⟩ (fun i j p q hi hj => ?_)
    · have h1 := (List.getElem?_eq_some_iff.mp hi).1
      have h2 := (List.getElem?_eq_some_iff.mp hj).1
      simp at h1 h2
      omega
    · have h1 : i < 1 := (List.getElem?_eq_some_iff.mp hi).1
      rw [show i = 0 by omega] at hi
      cases hi
      exact Or.inl rfl
    · obtain ⟨i1, rfl⟩ := zw_inv hi
      have h1 : j < 1 := (List.getElem?_eq_some_iff.mp hj).1
      rw [show j = 0 by omega] at hj
      cases hj
      exact ho i i1
  refine va_last C.1.1 C.1.2.1 K2 hJ hD hS N 0 (cA := cJ) (n := 1) (f := fun _ => jL v0) (by rw [List.getElem?_append_right (by rw [zw_len]; exact Nat.le_refl _), zw_len, Nat.sub_self]; rfl) rfl (jI_in (by omega) (by omega) (by omega)) d4 (fun H1 locs1 hP1 _ hS1 => ?_)
  have hPu : va_P D cl (zw N lay a u) H1 := fun k q h => by
    have hk1 : k < N := (zw_inv h).1
    refine hP1 k q ?_
    rw [List.getElem?_set_ne (by omega), List.getElem?_append_left (by rw [zw_len]; exact hk1)]
    exact h
  have hO1 : va_at D cl (o, zO cJ v) H1 := by
    have h1 := hP1 N (o, .inl (cJ, 1, .inr (.inl (vp_updL (fun _ => jL v0) (jI 0).toNatClampNeg (jL v))))) (by rw [List.getElem?_set_self (by rw [List.length_append, zw_len]; exact Nat.lt_succ_self N)])
    have h2 : H1[o]? = some (vp_cell cJ (1, .inr (.inl (vp_updL (fun _ => jL v0) (jI 0).toNatClampNeg (jL v))))) := h1
    show H1[o]? = some (vp_cell cJ (1, .inr (.inl (fun _ => jL v))))
    rw [h2]
    exact congrArg some (zO_cell (by simp [vp_updL, jI_0]))
  refine zg_goto (tgt := pc + 12) C d5 (by omega) ?_
  refine zg_iconst C d12 ?_
  refine W.widen (k := 1) (n := 6) (by omega) (by omega) ?_
  exact W.iret C.1.1 C.1.2.1 C.2.1 (fun t ht hW => ⟨⟨0, u, v, rfl, hfin, by rw [ht]; exact hPu, by rw [ht]; exact hO1⟩, hS1.F ht⟩) hS1.2.2 d13 C.2.2
theorem zs_thr {k ci : Nat} {fs : List Value} {q : vw_C} {nh : Nat} {lv : List (Nat × Value)} (C : zk p s m args meth c cc nL (some .int) (c0 :: zt) own) (X : zx D cl tys (zsA a N s.heap.size o) a N s) (hP : va_P D cl (zw N lay a σ) s.heap) (hO : va_at D cl (o, zO cJ v0) s.heap) (hz : zst s) (hM : zxt l D cl tys N lay a y ws rm (.ref (a k) :: As) σ)
    (cw : CallW R s args own Cn index y bytes maxL ret' ws rm 1 6 n) (hk : k < N) (hlay : lay k (σ k) = .inr (ci, fs)) (hc : cl[ci]? = some q) (hq : q.1 = Cn) (hn : As.length = n) (hl : lv_has ls nL lv) (hnh : nh < nL) (hst : st0 = As.reverse ++ .ref (a k) :: .int (jI 0) :: .ref o :: []) (hf : 1 ≤ R.cells ∧ 6 ≤ R.slots)
    (hex : c.exceptionTable.toList.map (fun h => (h.startPc, h.endPc, h.handlerPc, h.catchType)) = [(0, pc + 5, pc + 8, 13)]) (hcl : Cond.classLink own 13 xN ∈ zt)
    (d0 : decode cc pc = .ok (.invokevirtual index, 3)) (d8 : decode cc (pc + 8) = .ok (.astore nh, 2)) (d10 : decode cc (pc + 10) = .ok (.iconst 1, 1)) (d11 : decode cc (pc + 11) = .ok (.ireturn, 1)) (hfin : fin 1 σ v0) :
    W p l e R s m args below meth c s.heap [] 0 0 (MQ below (zsQ D cl N lay a o cJ fin (zsA a N s.heap.size o)) args s 1 6 (zsA a N s.heap.size o)) (F0 m pc ls st0) := by
  intro T hT XT
  obtain ⟨x, B, ce, XB, h1, h2, h3, h4, st⟩ := zx_runT C X hP hz hM cw hk hlay hc hq hn hl.1 hst (by simp [Value.category]) d0 hf T hT XT
  obtain ⟨xe, hxe, e1, e2, e3, e4⟩ : ∃ xe : ExceptionTableEntry, c.exceptionTable.toList = [xe] ∧ xe.startPc = 0 ∧ xe.endPc = pc + 5 ∧ xe.handlerPc = pc + 8 ∧ xe.catchType = 13 := by
    generalize c.exceptionTable.toList = L at hex
    match L, hex with
    | [], hex => simp at hex
    | _ :: _ :: _, hex => simp at hex
    | [x], hex => simp at hex; exact ⟨x, rfl, hex.1, hex.2.1, hex.2.2.1, hex.2.2.2⟩
  have hself : s.vm.assignable ce.cls ce.cls = true := by
    have hcast := hz (.castable xN xN) (by simp [zsw]) #[]
    obtain ⟨c1, c2, g1, g2, g3⟩ := Cond.castable_spec hcast
    cases h2.symm.trans g1
    cases h2.symm.trans g2
    exact g3
  obtain ⟨vm', XV, stV⟩ := zx_caught XB (a := x) (g := F0 m pc ls [.int (jI 0), .ref o]) rfl (own := own) (name := xN) C.1.2.2.2.1 (x := xe) hxe (by simp [covers, e1, e2]) (by rw [e4]; decide) (by rw [e4]; exact C.tb hcl) h2 h1 h3 hself
  have hsz : s.heap.size ≤ B.heap.size := XB.same.2.1
  have hkq : ∀ q : Nat, q < s.heap.size → B.heap[q]? = s.heap[q]? := fun q hq => by rw [h4 q _ (Array.getElem?_eq_getElem hq), Array.getElem?_eq_getElem hq]
  have hS : va_S (zsA a N s.heap.size o) s.heap B.heap [] := ⟨hsz, fun q h5 _ => hkq q h5, fun _ h => by cases h⟩
  have hPB : va_P D cl (zw N lay a σ) B.heap := hP.kept (fun k q h => hkq _ (hP k q h).lt)
  have hOB : va_at D cl (o, zO cJ v0) B.heap := hO.kept (hkq _ hO.lt)
  have key : W p l e R s m args below meth c B.heap [] 1 6 (MQ below (zsQ D cl N lay a o cJ fin (zsA a N s.heap.size o)) args s 1 6 (zsA a N s.heap.size o)) (F0 m (pc + 8) ls [.ref x]) := by
    refine zg_astore (lv' := [(nh, .ref x)]) C d8 (lv_sub hl [] rfl) hnh rfl (fun ls hl => ?_)
    refine zg_iconst C d10 ?_
    exact W.iret C.1.1 C.1.2.1 C.2.1 (fun t ht hW => ⟨⟨1, σ, v0, rfl, hfin, by rw [ht]; exact hPB, by rw [ht]; exact hOB⟩, hS.F ht⟩) hS.2.2 d11 C.2.2
  obtain ⟨t, s1, q1⟩ := key (B.setVm vm') rfl XV
  refine ⟨t, ?_, q1⟩
  refine st.trans ?_
  refine stV t ?_
  rw [e3]
  exact s1
end ZS
