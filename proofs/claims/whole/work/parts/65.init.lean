/-! CONSTRUCTORS: cells one after the other, up to the heap's end -/
def zl : Nat → List va_E → va_W
  | _, [] => []
  | d, e :: es => (d, e) :: zl (d + 1) es
theorem zl_get : ∀ {es : List va_E} {d k : Nat} {e : va_E}, es[k]? = some e → (zl d es)[k]? = some (d + k, e) := by
  intro es
  induction es with
  | nil => intro d k e h; simp at h
  | cons x es ih =>
    intro d k e h
    cases k with
    | zero => simp at h; subst h; simp [zl]
    | succ k =>
      simp only [List.getElem?_cons_succ] at h
      simp only [zl, List.getElem?_cons_succ]
      rw [ih h, show d + 1 + k = d + (k + 1) by omega]
theorem zl_inv : ∀ {es : List va_E} {d k : Nat} {q : Nat × va_E}, (zl d es)[k]? = some q → ∃ e, es[k]? = some e ∧ q = (d + k, e) := by
  intro es
  induction es with
  | nil => intro d k q h; simp [zl] at h
  | cons x es ih =>
    intro d k q h
    cases k with
    | zero => simp [zl] at h; exact ⟨x, by simp, by rw [← h]; rfl⟩
    | succ k =>
      simp only [zl, List.getElem?_cons_succ] at h
      obtain ⟨e, h1, h2⟩ := ih h
      exact ⟨e, by simpa using h1, by rw [h2, show d + 1 + k = d + (k + 1) by omega]⟩
theorem zl_set : ∀ {es : List va_E} {d k : Nat} {e : va_E}, (zl d es).set k (d + k, e) = zl d (es.set k e) := by
  intro es
  induction es with
  | nil => intros; rfl
  | cons x es ih =>
    intro d k e
    cases k with
    | zero => rfl
    | succ k =>
      show (d, x) :: (zl (d + 1) es).set k (d + (k + 1), e) = (d, x) :: zl (d + 1) (es.set k e)
      rw [show d + (k + 1) = d + 1 + k by omega, ih]
theorem zl_app : ∀ {es fs : List va_E} {d : Nat}, zl d (es ++ fs) = zl d es ++ zl (d + es.length) fs := by
  intro es
  induction es with
  | nil => intro fs d; rfl
  | cons x es ih =>
    intro fs d
    show (d, x) :: zl (d + 1) (es ++ fs) = (d, x) :: (zl (d + 1) es ++ zl (d + (es.length + 1)) fs)
    rw [ih, show d + 1 + es.length = d + (es.length + 1) by omega]
theorem zl_D {A : Nat → Prop} {d : Nat} {es : List va_E} (h : ∀ q, d ≤ q → A q) : va_D A (zl d es) := by
  refine ⟨fun i j p q hi hj e => ?_, fun k q hk => ?_⟩
  · obtain ⟨_, _, rfl⟩ := zl_inv hi
    obtain ⟨_, _, rfl⟩ := zl_inv hj
    simp at e
    omega
  · obtain ⟨_, _, rfl⟩ := zl_inv hk
    exact h _ (Nat.le_add_right _ _)
/-- the cells from d on are these, and no more -/
def zn (D : va_G) (cl : List vw_C) (d : Nat) (es : List va_E) (H : Heap) : Prop := H.size = d + es.length ∧ va_P D cl (zl d es) H
theorem zn_lt {D : va_G} {cl : List vw_C} {d : Nat} {es : List va_E} {H : Heap} (hP : va_P D cl (zl d es) H) (h0 : 0 < es.length) : d + es.length ≤ H.size := by
  have h1 : es[es.length - 1]? = some es[es.length - 1] := List.getElem?_eq_getElem (by omega)
  have := (hP _ _ (zl_get (d := d) h1)).lt
  simp at this
  omega
theorem zn_cong {D : va_G} {cl : List vw_C} {d k n : Nat} {es : List va_E} {H : Heap} {cA : ClassId} {f g : Nat → Int32} (hZ : zn D cl d es H) (he : es[k]? = some (.inl (cA, n, .inl f))) (hfg : ∀ j, j < n → f j = g j) : zn D cl d (es.set k (.inl (cA, n, .inl g))) H := by
  refine ⟨by rw [List.length_set]; exact hZ.1, fun j q hj => ?_⟩
  obtain ⟨e, h1, rfl⟩ := zl_inv hj
  by_cases hjk : k = j
  · subst hjk
    rw [List.getElem?_set_self (List.getElem?_eq_some_iff.mp he).1] at h1
    cases h1
    have h2 : H[d + k]? = some (vp_cell cA (n, .inl f)) := hZ.2 _ _ (zl_get he)
    show H[d + k]? = some (vp_cell cA (n, .inl g))
    rw [h2, vp_cell_i, vp_cell_i]
    congr 1
    unfold arrV
    congr 1
    apply Array.ext
    · simp
    · intro i h3 h4
      simp at h3 ⊢
      exact hfg i h3
  · rw [List.getElem?_set_ne hjk] at h1
    exact hZ.2 _ _ (zl_get h1)
abbrev aI (c : ClassId) (n : Nat) : va_E := .inl (c, n, .inl (fun _ => 0))
theorem zn_congq {D : va_G} {cl : List vw_C} {d k n : Nat} {es : List va_E} {H : Heap} {cA : ClassId} {f g : Nat → Option Nat} (hZ : zn D cl d es H) (he : es[k]? = some (.inl (cA, n, .inr (.inr (.inr (.inr f)))))) (hfg : ∀ j, j < n → f j = g j) : zn D cl d (es.set k (.inl (cA, n, .inr (.inr (.inr (.inr g)))))) H := by
  refine ⟨by rw [List.length_set]; exact hZ.1, fun j q hj => ?_⟩
  obtain ⟨e, h1, rfl⟩ := zl_inv hj
  by_cases hjk : k = j
  · subst hjk
    rw [List.getElem?_set_self (List.getElem?_eq_some_iff.mp he).1] at h1
    cases h1
    have h2 : H[d + k]? = some (vp_cell cA (n, .inr (.inr (.inr (.inr f))))) := hZ.2 _ _ (zl_get he)
    show H[d + k]? = some (vp_cell cA (n, .inr (.inr (.inr (.inr g)))))
    rw [h2, vp_cell_q, vp_cell_q]
    congr 1
    unfold arrV
    congr 1
    apply Array.ext
    · simp
    · intro i h3 h4
      simp at h3 ⊢
      rw [hfg i h3]
  · rw [List.getElem?_set_ne hjk] at h1
    exact hZ.2 _ _ (zl_get h1)
/-- a constructor's contract -/
def zi (l : Launch) (D : va_G) (cl : List vw_C) (tys : List (ClassId × FieldType)) (y : MethodName) (ws : List Cond) (rm : Room) (mc ms d : Nat) (As : List Value) (ci : Nat) (fs : List Value) (es : List va_E) (E : State → Prop) : Prop :=
  Met l y ws rm (va_Pc (.ref d :: As) (fun U => U.heap.size = d + 1 ∧ va_at D cl (d, .inr (ci, fs)) U.heap ∧ va_K D cl tys U ∧ E U))
    (fun _ st o t => o = .returned none ∧ zn D cl d es t.heap ∧ ∀ q : Nat, q < d → t.heap[q]? = st.heap[q]?) mc ms (fun q => d ≤ q)
theorem zi_of {l : Launch} {D : va_G} {cl : List vw_C} {tys : List (ClassId × FieldType)} {y : MethodName} {ws ws' : List Cond} {rm : Room} {mc ms d : Nat} {As : List Value} {ci : Nat} {fs : List Value} {es : List va_E} {E : State → Prop}
    {cc : ByteArray} {maxL : Nat} {own : String} (hy : plainName y.cls = true) (hy2 : y.name = "<init>") (hw : ws = Cond.code y cc maxL none :: ws') (ho : y.cls = own) (hlen : (lg_sl (.ref d :: As)).length ≤ maxL) {lv : List (Nat × Value)} (hlv : lv_args 0 (.ref d :: As) = lv)
    (body : ∀ (p : Program) (e : Env) (s : State) (m : MethodId) (below : List Frame) (meth : Method) (c : Code) (ls : Array Slot), zk p s m (.ref d :: As : List Value).toArray meth c cc maxL none ws own → meth.name = "<init>" → va_K D cl tys s → E s → s.heap.size = d + 1 → zn D cl d [.inr (ci, fs)] s.heap → va_S (fun q => d ≤ q) s.heap s.heap [] → lv_has ls maxL lv →
      W p l e rm s m (.ref d :: As : List Value).toArray below meth c s.heap [] 0 0 (MQ below (fun _ st o t => o = .returned none ∧ zn D cl d es t.heap ∧ ∀ q : Nat, q < d → t.heap[q]? = st.heap[q]?) (.ref d :: As : List Value).toArray s mc ms (fun q => d ≤ q)) (F0 m 0 ls [])) : zi l D cl tys y ws rm mc ms d As ci fs es E := by
  refine Met.ofW (cc := cc) (maxL := maxL) (ret := none) hy hw ?_
  intro p e s m args below meth c s₁ B hml hv
  obtain ⟨rfl, hsz, hat, hK, hE⟩ := hv
  have hown : s.vm.findClass own = some m.cls := by rw [← ho]; exact findClass_of_methodNamed B.named
  have hl := lv_entry (.ref d :: As) (n := maxL) hlen
  rw [lg_entry_eq]
  generalize (lg_sl (.ref d :: As) ++ List.replicate (maxL - (lg_sl (.ref d :: As)).length) Slot.unset).toArray = ls at hl ⊢
  rw [hlv] at hl
  refine body p e s m below meth c ls ⟨⟨B.exec, B.bytes, hml, hown, atoms_spec (ws := ws) B.pre⟩, B.returns, B.notSynchronized⟩ (((name_of_methodNamed B.named B.method).1).trans hy2) hK hE hsz ⟨hsz, fun k q hk => ?_⟩ va_S.rf hl
  obtain ⟨e1, h1, rfl⟩ := zl_inv hk
  have hk0 : k = 0 := by have := (List.getElem?_eq_some_iff.mp h1).1; simp at this; exact this
  subst hk0
  simp at h1
  subst h1
  exact hat
section ZN
variable {p : Program} {l : Launch} {e : Env} {R : Room} {s : State} {m : MethodId} {args : Array Value} {below : List Frame} {meth : Method} {c : Code} {H : Heap} {locs : List Loc} {cells slots : Nat} {Q : State → Prop}
variable {cc : ByteArray} {pc : Nat} {ls : Array Slot} {rest st0 : List Value} {nL : Nat} {ret : Option FieldType} {c0 : Cond} {own : String}
variable {D : va_G} {cl : List vw_C} {tys : List (ClassId × FieldType)} {d : Nat} {es : List va_E}
theorem zn_sz {g : JFrame} (k : H.size ≤ s.heap.size + cells → W p l e R s m args below meth c H locs cells slots Q g) : W p l e R s m args below meth c H locs cells slots Q g := fun T hT X => k (by rw [← hT]; exact X.same.2.2.1) T hT X
theorem zn_obj {idx : Nat} {v : Nat} (C : zk p s m args meth c cc nL ret (c0 :: zt) own) (h1 : Cond.methodLink own idx Lib.objectInit ∈ zt) (h2 : Cond.instanceMethod Lib.objectInit ∈ zt) (h3 : Cond.code Lib.objectInit ⟨#[0xb1]⟩ 1 none ∈ zt) (hsize : ls.size = nL) (hdg : decode cc pc = .ok (.invokespecial idx, 3)) (hf : 1 ≤ R.frames) (hlo : 12 ≤ R.locals)
    (kk : W p l e R s m args below meth c H locs cells slots Q (F0 m (pc + 3) ls [])) : W p l e R s m args below meth c H locs cells slots Q (F0 m pc ls [.ref v]) :=
  W.objInit C.1.1 C.1.2.1 C.1.2.2.2.1 (C.tb h1) (C.tb h2) (C.tb h3) rfl (hsize.trans C.1.2.2.1.symm) rfl hdg hf (by simpa [JFrame.monitorRoom] using hlo) kk
theorem zn_newa {atype : ArrayType} {ty : FieldType} {n t0 : Nat} {v : Int32} {cA : ClassId} {a0 : vp_A} (C : zk p s m args meth c cc nL ret (c0 :: zt) own) (K : va_K D cl tys s) (hZ : zn D cl d es H) (hS : va_S (fun q => d ≤ q) s.heap H locs) (harr : Cond.arrayClass ty ∈ zt) (hty : newarray.typeOf atype = ty) (ht : tys[t0]? = some (cA, ty)) (hra : va_RA s cA ty → s.vm.findClass ("[" ++ ty.toString) = some cA)
    (hv : v = jI n) (hn : n < 2147483648) (hbytes : n * componentBytes ty ≤ 536870912) (hcells : cells + 1 ≤ R.cells) (hslots : slots + n ≤ R.slots) (ha : vp_cell cA a0 = arrV cA n (fun _ => defaultValue ty)) (hdg : decode cc pc = .ok (.newarray atype, 2))
    (kk : ∀ H1 : Heap, zn D cl d (es ++ [.inl (cA, a0)]) H1 → va_S (fun q => d ≤ q) s.heap H1 locs → W p l e R s m args below meth c H1 locs (cells + 1) (slots + n) Q (F0 m (pc + 2) ls (.ref (d + es.length) :: rest))) : W p l e R s m args below meth c H locs cells slots Q (F0 m pc ls (.int v :: rest)) := by
  subst hty
  subst hv
  refine va_newaK (N := n) C.1.1 C.1.2.1 (C.tb harr) rfl hdg rfl (fun h => ?_) (by rw [jI_clamp (by omega) (by omega)]; simp) hbytes hcells hslots hZ.1 (fun H1 cA' e1 z1 o1 hAr hNm => ?_)
  · rw [← jI_0, jI_lt (by omega) (by omega) (by omega) (by omega)] at h
    omega
  · have hc : cA' = cA := Option.some.inj (hNm.symm.trans (hra (K.2 t0 _ ht).2))
    subst hc
    refine kk H1 ⟨by rw [z1, List.length_append]; rfl, ?_⟩ ⟨Nat.le_trans hS.1 (by have := hZ.1; omega), fun q h1 h2 => (o1 q (by have := hS.1; have := hZ.1; omega)).trans (hS.2.1 q h1 h2), hS.2.2⟩
    rw [zl_app]
    refine (hZ.2.kept (fun k x hx => o1 x.1 (by have := (hZ.2 k x hx).lt; have := hZ.1; omega))).app (fun k x hx => ?_)
    obtain ⟨e2, h1, rfl⟩ := zl_inv hx
    have hk0 : k = 0 := by have := (List.getElem?_eq_some_iff.mp h1).1; simp at this; exact this
    subst hk0
    simp at h1
    subst h1
    show H1[d + es.length + 0]? = some (vp_cell _ _)
    rw [ha]
    exact e1
theorem zn_newo {Cn : String} {T : u_T} {N0 ci index : Nat} {fs : List Value} (C : zk p s m args meth c cc nL ret (c0 :: zt) own) (K : va_K D cl tys s) (hZ : zn D cl d es H) (hS : va_S (fun q => d ≤ q) s.heap H locs) (hin : ∀ w ∈ u_ws Cn T N0, w ∈ c0 :: zt) (ty : Nat → FieldType) (hty : ∀ k, k < N0 → parseFieldDescriptor (T k).2.2.1 = some (ty k)) (hcl : Cond.classLink own index Cn ∈ zt) (hins : Cond.instantiable Cn N0 ∈ zt) (hini : Cond.initialized Cn ∈ zt)
    (hc : cl[ci]? = some (Cn, T, N0)) (hfs : ∀ j, j < N0 → defaultValue (ty j) = vp_V fs j) (hcells : cells + 1 ≤ R.cells) (hslots : slots + N0 ≤ R.slots) (hdg : decode cc pc = .ok (.new index, 3))
    (kk : ∀ H1 : Heap, zn D cl d (es ++ [.inr (ci, fs)]) H1 → va_S (fun q => d ≤ q) s.heap H1 locs → W p l e R s m args below meth c H1 locs (cells + 1) (slots + N0) Q (F0 m (pc + 3) ls (.ref (d + es.length) :: rest))) : W p l e R s m args below meth c H locs cells slots Q (F0 m pc ls rest) := by
  have hKn := K.1 ci _ hc
  refine W.newcK C.1.1 C.1.2.1 C.1.2.2.2.1 (C.tb hcl) (C.tb hins) (C.tb hini) rfl hdg hcells hslots hKn.2.1 hZ.1 fun H1 kC hkC e1 z1 o1 => ?_
  refine kk H1 ⟨by rw [z1, List.length_append]; rfl, ?_⟩ ⟨Nat.le_trans hS.1 (by have := hZ.1; omega), fun q h1 h2 => (o1 q (by have := hS.1; have := hZ.1; omega)).trans (hS.2.1 q h1 h2), hS.2.2⟩
  rw [zl_app]
  refine (hZ.2.kept (fun k x hx => o1 x.1 (by have := (hZ.2 k x hx).lt; have := hZ.1; omega))).app (fun k x hx => ?_)
  obtain ⟨e2, h1, rfl⟩ := zl_inv hx
  have hk0 : k = 0 := by have := (List.getElem?_eq_some_iff.mp h1).1; simp at this; exact this
  subst hk0
  simp at h1
  subst h1
  exact ⟨_, hc, (u_born ty C.ts hin hKn hkC e1 hty).to hfs⟩
theorem zn_newq {Cn : String} {index n t0 : Nat} {v : Int32} {cA : ClassId} (C : zk p s m args meth c cc nL ret (c0 :: zt) own) (K : va_K D cl tys s) (hZ : zn D cl d es H) (hS : va_S (fun q => d ≤ q) s.heap H locs) (hcl : Cond.classLink own index Cn ∈ zt) (hover : va_AO Cn s) (ht : tys[t0]? = some (cA, .object Cn))
    (hv : v = jI n) (hn : n < 2147483648) (hbytes : n * 4 ≤ 536870912) (hcells : cells + 1 ≤ R.cells) (hslots : slots + n ≤ R.slots) (hdg : decode cc pc = .ok (.anewarray index, 3))
    (kk : ∀ H1 : Heap, zn D cl d (es ++ [.inl (cA, n, .inr (.inr (.inr (.inr (fun _ => none)))))]) H1 → va_S (fun q => d ≤ q) s.heap H1 locs → W p l e R s m args below meth c H1 locs (cells + 1) (slots + n) Q (F0 m (pc + 3) ls (.ref (d + es.length) :: rest))) : W p l e R s m args below meth c H locs cells slots Q (F0 m pc ls (.int v :: rest)) := by
  subst hv
  have hN : (jI (n : Int)).toNatClampNeg = n := by rw [jI_clamp (by omega) (by omega)]; simp
  refine W.anew C.1.1 C.1.2.1 C.1.2.2.2.1 (C.tb hcl) (va_AO.use hover) rfl hdg rfl (fun h => ?_) (by rw [hN]; exact hbytes) hcells (by rw [hN]; exact hslots) fun cA' kA comp f1 f2 f3 f4 => ?_
  · rw [← jI_0, jI_lt (by omega) (by omega) (by omega) (by omega)] at h
    omega
  · rw [hN]
    obtain ⟨_, _, -, -, -, hnm⟩ := (K.2 t0 _ ht).2
    have hc : cA' = cA := Option.some.inj (f1.symm.trans hnm)
    subst hc
    generalize hH1 : H.push ({ cls := cA', slots := Array.replicate n .null, vm := .none } : Cell) = H1
    have z1 : H1.size = H.size + 1 := by rw [← hH1, Array.size_push]
    have e1 : H1[H.size]? = some (arrV cA' n (fun _ => .null)) := by rw [← hH1, Array.getElem?_push_size, ← arrV_new]
    have o1 : ∀ q : Nat, q < H.size → H1[q]? = H[q]? := fun q hq => by rw [← hH1, Array.getElem?_push, if_neg (Nat.ne_of_lt hq)]
    rw [show (F0 m pc ls (.int (jI (n : Int)) :: rest)).pc + 3 = pc + 3 from rfl, hZ.1]
    refine kk H1 ⟨by rw [z1, List.length_append, hZ.1]; rfl, ?_⟩ ⟨Nat.le_trans hS.1 (by omega), fun q h1 h2 => (o1 q (by have := hS.1; omega)).trans (hS.2.1 q h1 h2), hS.2.2⟩
    rw [zl_app]
    refine (hZ.2.kept (fun k x hx => o1 x.1 ((hZ.2 k x hx).lt))).app (fun k x hx => ?_)
    obtain ⟨e2, h1, rfl⟩ := zl_inv hx
    have hk0 : k = 0 := by have := (List.getElem?_eq_some_iff.mp h1).1; simp at this; exact this
    subst hk0
    simp at h1
    subst h1
    show H1[d + es.length + 0]? = some (vp_cell _ _)
    rw [vp_cell_q, Nat.add_zero, ← hZ.1]
    exact e1
/-- a field is set: a final one, another -/
theorem zn_putF {k j idx ci N0 : Nat} {Cn : String} {T : u_T} {fs : List Value} {v : Value} {ty : FieldType} (C : zk p s m args meth c cc nL ret (c0 :: zt) own) (hin2 : meth.name = "<init>") (K : va_K D cl tys s) (hZ : zn D cl d es H) (hS : va_S (fun q => d ≤ q) s.heap H locs) (hx : s.heap.size + cells ≤ d + es.length) (he : es[k]? = some (.inr (ci, fs))) (hc : cl[ci]? = some (Cn, T, N0)) (hin : ∀ w ∈ u_ws Cn T N0, w ∈ c0 :: zt) (ty0 : Nat → FieldType) (hty : ∀ k, k < N0 → parseFieldDescriptor (T k).2.2.1 = some (ty0 k)) (hnm : ∀ a, a < N0 → ∀ b, b < N0 → a ≠ b → (T a).2.1 ≠ (T b).2.1)
    (hj : j < N0) (hlink : (Cond.fieldLink own idx own (T j).2.1 (T j).2.2.1).before args s = true) (hfin : (T j).2.2.2 = true) (hdecl : (T j).1 = own) (hd : parseFieldDescriptor (T j).2.2.1 = some ty) (hn : narrow ty v = v) (hfit : fits ty v = true) (hl : j < fs.length) (hdg : decode cc pc = .ok (.putfield idx, 3))
    (kk : ∀ (H1 : Heap) (locs1 : List Loc), zn D cl d (es.set k (.inr (ci, fs.set j v))) H1 → va_S (fun q => d ≤ q) s.heap H1 locs1 → W p l e R s m args below meth c H1 locs1 cells slots Q (F0 m (pc + 3) ls rest)) : W p l e R s m args below meth c H locs cells slots Q (F0 m pc ls (v :: .ref (d + k) :: rest)) := by
  refine va_putF C.1.1 C.1.2.1 C.ts hin ty0 hty hnm C.1.2.2.2.1 K hZ.2 (zl_D fun _ h => h) hS k (zl_get he) hc j hj hlink (fun x hx => by rw [hdecl] at hx; exact hx) hfin hin2 hdecl hd hn hfit hl hdg (fun H1 locs1 hP1 _ hS1 => ?_)
  rw [zl_set] at hP1
  refine zn_sz (fun hz => kk H1 locs1 ⟨?_, hP1⟩ hS1)
  have h0 : 0 < es.length := by have := (List.getElem?_eq_some_iff.mp he).1; omega
  have := zn_lt hP1 (by rw [List.length_set]; exact h0)
  rw [List.length_set] at this ⊢
  omega
theorem zn_put {k j idx ci N0 : Nat} {Cn : String} {T : u_T} {fs : List Value} {v : Value} {ty : FieldType} (C : zk p s m args meth c cc nL ret (c0 :: zt) own) (K : va_K D cl tys s) (hZ : zn D cl d es H) (hS : va_S (fun q => d ≤ q) s.heap H locs) (hx : s.heap.size + cells ≤ d + es.length) (he : es[k]? = some (.inr (ci, fs))) (hc : cl[ci]? = some (Cn, T, N0)) (hin : ∀ w ∈ u_ws Cn T N0, w ∈ c0 :: zt) (ty0 : Nat → FieldType) (hty : ∀ k, k < N0 → parseFieldDescriptor (T k).2.2.1 = some (ty0 k)) (hnm : ∀ a, a < N0 → ∀ b, b < N0 → a ≠ b → (T a).2.1 ≠ (T b).2.1)
    (hj : j < N0) (hlink : (Cond.fieldLink own idx own (T j).2.1 (T j).2.2.1).before args s = true) (hfin : (T j).2.2.2 = false) (hdecl : (T j).1 = own) (hd : parseFieldDescriptor (T j).2.2.1 = some ty) (hn : narrow ty v = v) (hfit : fits ty v = true) (hl : j < fs.length) (hdg : decode cc pc = .ok (.putfield idx, 3))
    (kk : ∀ (H1 : Heap) (locs1 : List Loc), zn D cl d (es.set k (.inr (ci, fs.set j v))) H1 → va_S (fun q => d ≤ q) s.heap H1 locs1 → W p l e R s m args below meth c H1 locs1 cells slots Q (F0 m (pc + 3) ls rest)) : W p l e R s m args below meth c H locs cells slots Q (F0 m pc ls (v :: .ref (d + k) :: rest)) := by
  refine va_put C.1.1 C.1.2.1 C.ts hin ty0 hty hnm C.1.2.2.2.1 K hZ.2 (zl_D fun _ h => h) hS k (zl_get he) hc j hj hlink (fun x hx => by rw [hdecl] at hx; exact hx) hfin hd hn hfit hl hdg (fun H1 locs1 hP1 _ hS1 => ?_)
  rw [zl_set] at hP1
  refine zn_sz (fun hz => kk H1 locs1 ⟨?_, hP1⟩ hS1)
  have h0 : 0 < es.length := by have := (List.getElem?_eq_some_iff.mp he).1; omega
  have := zn_lt hP1 (by rw [List.length_set]; exact h0)
  rw [List.length_set] at this ⊢
  omega
theorem zn_get {k j idx ci N0 : Nat} {Cn : String} {T : u_T} {fs : List Value} {v : Value} (C : zk p s m args meth c cc nL ret (c0 :: zt) own) (K : va_K D cl tys s) (hZ : zn D cl d es H) (he : es[k]? = some (.inr (ci, fs))) (hc : cl[ci]? = some (Cn, T, N0)) (hin : ∀ w ∈ u_ws Cn T N0, w ∈ c0 :: zt) (hj : j < N0) (hlink : (Cond.fieldLink own idx own (T j).2.1 (T j).2.2.1).before args s = true) (hdecl : (T j).1 = own) (hv : fs[j]? = some v) (hdg : decode cc pc = .ok (.getfield idx, 3))
    (kk : W p l e R s m args below meth c H locs cells slots Q (F0 m (pc + 3) ls (v :: rest))) : W p l e R s m args below meth c H locs cells slots Q (F0 m pc ls (.ref (d + k) :: rest)) :=
  va_get C.1.1 C.1.2.1 C.ts hin C.1.2.2.2.1 K hZ.2 k (zl_get he) hc j hj hlink (fun x hx => by rw [hdecl] at hx; exact hx) hv hdg kk
theorem zn_iast {k n t0 : Nat} {cA : ClassId} {f : Nat → Int32} {i v : Int} (C : zk p s m args meth c cc nL ret (c0 :: zt) own) (K : va_K D cl tys s) (hZ : zn D cl d es H) (hS : va_S (fun q => d ≤ q) s.heap H locs) (hx : s.heap.size + cells ≤ d + es.length) (he : es[k]? = some (.inl (cA, n, .inl f))) (ht : tys[t0]? = some (cA, .int)) (hn : n < 2147483648) (i0 : 0 ≤ i) (i1 : i < n) (hdg : decode cc pc = .ok (.iastore, 1))
    (kk : ∀ (H1 : Heap) (locs1 : List Loc), zn D cl d (es.set k (.inl (cA, n, .inl (fun j => if j = i.toNat then jI v else f j)))) H1 → va_S (fun q => d ≤ q) s.heap H1 locs1 → W p l e R s m args below meth c H1 locs1 cells slots Q (F0 m (pc + 1) ls rest)) : W p l e R s m args below meth c H locs cells slots Q (F0 m pc ls (.int (jI v) :: .int (jI i) :: .ref (d + k) :: rest)) := by
  refine va_iast C.1.1 C.1.2.1 K hZ.2 (zl_D fun _ h => h) hS k t0 (zl_get he) ht (jI_in i0 i1 hn) hdg (fun H1 locs1 hP1 _ hS1 => ?_)
  rw [jI_clamp i0 (by omega), zl_set] at hP1
  have hu : upd f i.toNat (jI v) = (fun j => if j = i.toNat then jI v else f j) := by funext j; simp [upd]
  rw [hu] at hP1
  refine zn_sz (fun hz => kk H1 locs1 ⟨?_, hP1⟩ hS1)
  have h0 : 0 < es.length := by have := (List.getElem?_eq_some_iff.mp he).1; omega
  have := zn_lt hP1 (by rw [List.length_set]; exact h0)
  rw [List.length_set] at this ⊢
  omega
theorem zn_astq {k kv ci n t0 : Nat} {cA : ClassId} {r : vw_C} {vs : List Value} {f : Nat → Option Nat} {i : Int} (C : zk p s m args meth c cc nL ret (c0 :: zt) own) (K : va_K D cl tys s) (hZ : zn D cl d es H) (hS : va_S (fun q => d ≤ q) s.heap H locs) (hx : s.heap.size + cells ≤ d + es.length) (he : es[k]? = some (.inl (cA, n, .inr (.inr (.inr (.inr f)))))) (hv : es[kv]? = some (.inr (ci, vs))) (hc : cl[ci]? = some r) (ht : tys[t0]? = some (cA, .object r.1)) (hn : n < 2147483648) (i0 : 0 ≤ i) (i1 : i < n) (hdg : decode cc pc = .ok (.aastore, 1))
    (kk : ∀ (H1 : Heap) (locs1 : List Loc), zn D cl d (es.set k (.inl (cA, n, .inr (.inr (.inr (.inr (fun j => if j = i.toNat then some (d + kv) else f j))))))) H1 → va_S (fun q => d ≤ q) s.heap H1 locs1 → W p l e R s m args below meth c H1 locs1 cells slots Q (F0 m (pc + 1) ls rest)) : W p l e R s m args below meth c H locs cells slots Q (F0 m pc ls (.ref (d + kv) :: .int (jI i) :: .ref (d + k) :: rest)) := by
  refine va_astq C.1.1 C.1.2.1 K hZ.2 (zl_D fun _ h => h) hS k t0 kv ci (zl_get he) ht (zl_get hv) hc (jI_in i0 i1 hn) hdg (fun H1 locs1 hP1 _ hS1 => ?_)
  rw [jI_clamp i0 (by omega), zl_set] at hP1
  have hu : va_up f i.toNat (some (d + kv)) = (fun j => if j = i.toNat then some (d + kv) else f j) := by funext j; simp [va_up]
  rw [hu] at hP1
  refine zn_sz (fun hz => kk H1 locs1 ⟨?_, hP1⟩ hS1)
  have h0 : 0 < es.length := by have := (List.getElem?_eq_some_iff.mp he).1; omega
  have := zn_lt hP1 (by rw [List.length_set]; exact h0)
  rw [List.length_set] at this ⊢
  omega
theorem zn_ret {mc ms : Nat} {es' : List va_E} (C : zk p s m args meth c cc nL none (c0 :: zt) own) (h0 : s.heap.size = d + 1) (hZ : zn D cl d es H) (hS : va_S (fun q => d ≤ q) s.heap H locs) (he : es = es') (hdg : decode cc pc = .ok (.return_, 1)) :
    W p l e R s m args below meth c H locs mc ms (MQ below (fun _ st o t => o = .returned none ∧ zn D cl d es' t.heap ∧ ∀ q : Nat, q < d → t.heap[q]? = st.heap[q]?) args s mc ms (fun q => d ≤ q)) (F0 m pc ls []) := by
  subst he
  exact W.vret C.1.1 C.1.2.1 C.2.1 (fun t ht hW => ⟨rfl, by rw [ht]; exact hZ, fun q hq => by rw [ht]; exact hS.2.1 q (by omega) (by omega)⟩) hS.2.2 hdg C.2.2
/-- behind a constructor's call -/
theorem zn_cont {mc ms ci b : Nat} {fs : List Value} {es1 : List va_E} {av : Array Value} (hb : b = d + es.length) (hZ : zn D cl d (es ++ [.inr (ci, fs)]) H) (hS : va_S (fun q => d ≤ q) s.heap H locs) (h1 : 0 < es1.length)
    (hr : va_Run p l e R s m args below meth c H locs cells slots mc ms (F0 m pc ls st0) rest ((fun _ st o t => o = .returned none ∧ zn D cl b es1 t.heap ∧ ∀ q : Nat, q < b → t.heap[q]? = st.heap[q]? : Array Value → State → Outcome → State → Prop) av) (fun q => b ≤ q))
    (kk : ∀ (H1 : Heap) (locs1 : List Loc), zn D cl d (es ++ es1) H1 → va_S (fun q => d ≤ q) s.heap H1 locs1 → W p l e R s m args below meth c H1 locs1 (cells + mc) (slots + ms) Q (F0 m (pc + 3) ls rest)) : W p l e R s m args below meth c H locs cells slots Q (F0 m pc ls st0) := by
  subst hb
  intro T hT X
  obtain ⟨v, st₀, t, T', L, g0, X', hL, e1, e2, ⟨hv, hz1, hk1⟩, st⟩ := hr T hT X
  have hv2 : v = none := Outcome.returned.inj hv
  subst hv2
  rw [g0] at hk1
  have hs := hZ.1
  rw [List.length_append] at hs
  have hs2 : H.size = d + es.length + 1 := by rw [hs]; rfl
  obtain ⟨t2, a1, b1⟩ := kk T'.heap (locs ++ L) ⟨by rw [e1, hz1.1, List.length_append]; omega, by
      rw [e1, zl_app]
      refine va_P.app (fun k q hq => ?_) hz1.2
      obtain ⟨e3, h2, rfl⟩ := zl_inv hq
      have hk : k < es.length := (List.getElem?_eq_some_iff.mp h2).1
      have h3 := hZ.2 k (d + k, e3) (zl_get (by rw [List.getElem?_append_left hk]; exact h2))
      exact h3.kept (hk1 (d + k) (by omega))⟩
    ⟨by rw [e1, hz1.1]; have := hS.1; omega, fun q h3 h4 => by rw [e1, hk1 q (by omega)]; exact hS.2.1 q h3 h4, fun q hq => by
      rcases List.mem_append.mp hq with h | h
      · exact hS.2.2 q h
      · have := hL q h; show d ≤ q.base; omega⟩ T' rfl X'
  exact ⟨t2, st t2 a1, b1⟩
/-- at a constructor's call: what its contract asks -/
theorem zn_pre {ci b : Nat} {fs : List Value} {As : List Value} {E : State → Prop} (hb0 : b = d + es.length) (K : va_K D cl tys s) (hZ : zn D cl d (es ++ [.inr (ci, fs)]) H) (hE : ∀ U : State, s.WarmedH U.vm → E U) (hb : ∀ (U : State) (g : JFrame) (mk : MethodId) (b : Array Value), E U → E (U.calling g mk b)) :
    PreS s H (va_Pc (.ref b :: As) (fun U => U.heap.size = b + 1 ∧ va_at D cl (b, .inr (ci, fs)) U.heap ∧ va_K D cl tys U ∧ E U)) (.ref b :: As) := by
  subst hb0
  refine ⟨fun b U g mk q => ?_, fun U hU hW => ⟨rfl, ?_, ?_, va_K.moved hW.alike K, hE U hW⟩⟩
  · obtain ⟨q0, q1, q2, q3, q4⟩ := q
    exact ⟨q0, q1, q2, va_K.moved (u := U) (U := U.calling g mk b) (Vm.Alike.refl U.vm) q3, hb U g mk b q4⟩
  · rw [hU, hZ.1, List.length_append]; rfl
  · rw [hU]
    exact hZ.2 es.length _ (zl_get (by simp))
end ZN
