/-! METHODS THAT WRITE NOTHING, AND METHODS THAT THROW -/
/-- an int comes back, the heap is as it was -/
def zrQ (post : Int32 → Prop) : Array Value → State → Outcome → State → Prop := fun _ st o t => (∃ r : Int32, o = .returned (some (.int r)) ∧ post r) ∧ t.heap = st.heap
def zr (l : Launch) (D : va_G) (cl : List vw_C) (tys : List (ClassId × FieldType)) (N : Nat) (lay : Nat → (Nat → Int) → va_E) (a : Nat → Nat) (y : MethodName) (ws : List Cond) (rm : Room) (av : List Value) (σ : Zt) (post : Int32 → Prop) : Prop :=
  ∀ sz : Nat, Met l y ws rm (va_Pc av (fun U => U.heap.size = sz ∧ va_P D cl (zw N lay a σ) U.heap ∧ va_K D cl tys U ∧ va_D (fun _ => True) (zw N lay a σ))) (zrQ post) 0 0 (fun _ => False)
section ZRE
variable {l : Launch} {D : va_G} {cl : List vw_C} {tys : List (ClassId × FieldType)} {a : Nat → Nat} {N : Nat} {lay : Nat → (Nat → Int) → va_E} {σ : Zt} {y : MethodName} {ws ws' : List Cond} {rm : Room} {av : List Value}
theorem zr_of {post : Int32 → Prop} {cc : ByteArray} {maxL : Nat} {ret : Option FieldType} {own : String} (hy : plainName y.cls = true) (hw : ws = Cond.code y cc maxL ret :: ws') (ho : y.cls = own) (hlen : (lg_sl av).length ≤ maxL) {lv : List (Nat × Value)} (hlv : lv_args 0 av = lv)
    (body : ∀ (p : Program) (e : Env) (s : State) (m : MethodId) (below : List Frame) (meth : Method) (c : Code) (A : Nat → Prop) (ls : Array Slot), zk p s m av.toArray meth c cc maxL ret ws own → zx D cl tys A a N s → va_P D cl (zw N lay a σ) s.heap → lv_has ls maxL lv →
      W p l e rm s m av.toArray below meth c s.heap [] 0 0 (MQ below (zrQ post) av.toArray s 0 0 (fun _ => False)) (F0 m 0 ls [])) : zr l D cl tys N lay a y ws rm av σ post := by
  intro sz
  refine Met.ofW (cc := cc) (maxL := maxL) (ret := ret) hy hw ?_
  intro p e s m args below meth c s₁ B hml hv
  obtain ⟨rfl, hsz, hP, hK, hD0⟩ := hv
  subst hsz
  have hown : s.vm.findClass own = some m.cls := by rw [← ho]; exact findClass_of_methodNamed B.named
  have hl := lv_entry av (n := maxL) hlen
  rw [lg_entry_eq]
  generalize (lg_sl av ++ List.replicate (maxL - (lg_sl av).length) Slot.unset).toArray = ls at hl ⊢
  rw [hlv] at hl
  exact body p e s m below meth c _ ls ⟨⟨B.exec, B.bytes, hml, hown, atoms_spec (ws := ws) B.pre⟩, B.returns, B.notSynchronized⟩ (zx_of hK hD0) hP hl
end ZRE
section ZR
variable {p : Program} {l : Launch} {e : Env} {R : Room} {s : State} {m : MethodId} {args : Array Value} {below : List Frame} {meth : Method} {c : Code} {H : Heap} {locs : List Loc} {cells slots : Nat} {Q : State → Prop}
variable {cc : ByteArray} {pc : Nat} {ls : Array Slot} {rest st0 : List Value} {nL : Nat} {ret : Option FieldType} {Ts : List Cond} {own : String}
variable {D : va_G} {cl : List vw_C} {tys : List (ClassId × FieldType)} {A : Nat → Prop} {a : Nat → Nat} {N : Nat} {lay : Nat → (Nat → Int) → va_E} {σ : Zt}
variable {y : MethodName} {bytes : ByteArray} {maxL n index : Nat} {ret' : Option FieldType} {ws : List Cond} {rm : Room} {As : List Value} {Cn : String}
theorem zr_iret {r : Int32} {post : Int32 → Prop} (C : zk p s m args meth c cc nL (some .int) Ts own) (hdg : decode cc pc = .ok (.ireturn, 1)) (hq : post r) :
    W p l e R s m args below meth c s.heap [] 0 0 (MQ below (zrQ post) args s 0 0 (fun _ => False)) (F0 m pc ls [.int r]) :=
  W.iret C.1.1 C.1.2.1 C.2.1 (fun t ht hW => ⟨⟨r, rfl, hq⟩, ht⟩) (fun q h => by cases h) hdg C.2.2
theorem zr_zret {b : Bool} {post : Int32 → Prop} (C : zk p s m args meth c cc nL (some .boolean) Ts own) (hdg : decode cc pc = .ok (.ireturn, 1)) (hq : post (jI (bI b))) :
    W p l e R s m args below meth c s.heap [] 0 0 (MQ below (zrQ post) args s 0 0 (fun _ => False)) (F0 m pc ls [.int (jI (bI b))]) :=
  W.zret C.1.1 C.1.2.1 C.2.1 (jb_nar b) (fun t ht hW => ⟨⟨_, rfl, hq⟩, ht⟩) (fun q h => by cases h) hdg C.2.2
theorem zr_cont {post : Int32 → Prop} {av : Array Value} (hr : va_Run p l e R s m args below meth c H locs cells slots 0 0 (F0 m pc ls st0) rest (zrQ post av) (fun _ => False))
    (kk : ∀ r : Int32, post r → W p l e R s m args below meth c H locs cells slots Q (F0 m (pc + 3) ls (.int r :: rest))) : W p l e R s m args below meth c H locs cells slots Q (F0 m pc ls st0) := by
  intro T hT X
  obtain ⟨v, st₀, t, T', L, h1, X', hL, e1, e2, ⟨⟨r, hv, hp⟩, hh⟩, go⟩ := hr T hT X
  have hL0 : L = [] := by
    cases L with
    | nil => rfl
    | cons q _ => exact (hL q List.mem_cons_self).elim
  subst hL0
  cases hv
  obtain ⟨t2, s2, q2⟩ := kk r hp T' (by rw [e1, hh, h1]) (by simpa using X')
  exact ⟨t2, go t2 s2, q2⟩
theorem zr_callV {k ci : Nat} {fs : List Value} {q : vw_C} {post : Int32 → Prop} (C : zk p s m args meth c cc nL ret Ts own) (X : zx D cl tys A a N s) (hP : va_P D cl (zw N lay a σ) H) (hM : zr l D cl tys N lay a y ws rm (.ref (a k) :: As) σ post)
    (cw : CallW R s args own Cn index y bytes maxL ret' ws rm 0 0 n) (hk : k < N) (hlay : lay k (σ k) = .inr (ci, fs)) (hc : cl[ci]? = some q) (hq : q.1 = Cn) (hn : As.length = n) (hsize : ls.size = nL) (hst : st0 = As.reverse ++ .ref (a k) :: rest) (hW : (rest.map fun v => v.category).sum ≤ 8) (hdg : decode cc pc = .ok (.invokevirtual index, 3)) (hf : cells ≤ R.cells ∧ slots ≤ R.slots)
    (kk : ∀ (r : Int32), post r → W p l e R s m args below meth c H locs cells slots Q (F0 m (pc + 3) ls (.int r :: rest))) : W p l e R s m args below meth c H locs cells slots Q (F0 m pc ls st0) :=
  zr_cont (va_runV C.1 (hM H.size) cw ⟨zpre, by rw [← hq]; exact va_recv X.1 hP hc (by rw [zw_get hk, hlay]), zstart X hP⟩ rfl hn hsize hst (lv_room hW) hdg hf) kk
theorem zr_callS {post : Int32 → Prop} (C : zk p s m args meth c cc nL ret Ts own) (X : zx D cl tys A a N s) (hP : va_P D cl (zw N lay a σ) H) (hM : zr l D cl tys N lay a y ws rm As σ post)
    (cw : CallB R s args own index y bytes maxL ret' ws rm 0 0 n ∧ (Cond.static y).before args s = true) (hn : As.length = n) (hsize : ls.size = nL) (hst : st0 = As.reverse ++ rest) (hW : (rest.map fun v => v.category).sum ≤ 8) (hdg : decode cc pc = .ok (.invokestatic index, 3)) (hf : cells ≤ R.cells ∧ slots ≤ R.slots)
    (kk : ∀ (r : Int32), post r → W p l e R s m args below meth c H locs cells slots Q (F0 m (pc + 3) ls (.int r :: rest))) : W p l e R s m args below meth c H locs cells slots Q (F0 m pc ls st0) :=
  zr_cont (va_runS C.1 (hM H.size) cw ⟨zpre, zstart X hP⟩ rfl hn hsize hst (lv_room hW) hdg hf) kk
end ZR
-- the exception
def xUp : List String := ["java/lang/RuntimeException", "java/lang/Exception"]
/-- words that don't go along by themselves -/
def zsw : List Cond := [.laysStatic Bundle.tN "UNASSIGNED_STACK" Bundle.steD, .laysStatic Bundle.tN "SUPPRESSED_SENTINEL" Bundle.listD, .isRef (.static Bundle.tN "UNASSIGNED_STACK" Bundle.steD), .isRef (.static Bundle.tN "SUPPRESSED_SENTINEL" Bundle.listD),
  .declares (Bundle.initS "java/lang/RuntimeException"), .declares (Bundle.initS "java/lang/Exception"), .declares (Bundle.initS "java/lang/Throwable"), .castable xN xN, .stringRef "SignRow" 193 "no such replica, or no sign at that place", .stringRef "SignRow" 130 "no such level, or nothing to ask of it"]
theorem zsw_tb {w : Cond} (h1 : w.onTables = true) (h2 : w.keepsFace = true) {A A' : Array Value} {s U : State} (hW : s.WarmedH U.vm) (h : w.before A s = true) : w.before A' U = true := by
  have h3 := Cond.before_shiftedFace (State.Shifted.of_warmed hW) w h2 h
  rw [Cond.onTables_vm (A' := A') (U' := U) U.vm w h1, State.setVm_self] at h3
  exact h3
theorem zsw_str {own text : String} {i : Nat} {A A' : Array Value} {s U : State} (hW : s.WarmedH U.vm) (h : (Cond.stringRef own i text).before A s = true) : (Cond.stringRef own i text).before A' U = true := Cond.stringRef_warmed hW h
/-- a static's value, where the tables are alike and no old cell has moved -/
theorem zv_static {s U : State} (hal : s.vm.Alike U.vm) (hk : ∀ (q : Nat) (cell : Cell), s.heap[q]? = some cell → U.heap[q]? = some cell) {C n d : String} {A A' : Array Value} {v : Value} (h : (Term.static C n d).eval A s none [] s = some v) : (Term.static C n d).eval A' U none [] U = some v := by
  cases hf : s.fieldFound? C n d with
  | none => simp [Term.eval, State.fieldNamed?, hf] at h
  | some q =>
    obtain ⟨cf, k, i, f⟩ := q
    obtain ⟨k1, hf1, he⟩ := State.fieldFound?_setVm hal hf
    have hf2 : U.fieldFound? C n d = some (cf, k1, i, f) := hf1
    have es : k1.statics = k.statics := by rw [he]
    by_cases hst : f.isStatic = true
    · cases ha : k.statics with
      | none => simp [Term.eval, State.fieldNamed?, hf, hst, ha] at h
      | some a =>
        rw [ha] at es
        cases hc : s.heap[a]? with
        | none => simp [Term.eval, State.fieldNamed?, hf, hst, ha, hc] at h
        | some cell =>
          have hc1 := hk a cell hc
          by_cases hi : cell.vm.isStatics = true
          · simp [Term.eval, State.fieldNamed?, hf, hst, ha, hc, hi] at h
            simp [Term.eval, State.fieldNamed?, hf2, hst, es, hc1, hi, h]
          · simp [Term.eval, State.fieldNamed?, hf, hst, ha, hc, hi] at h
    · simp [Term.eval, State.fieldNamed?, hf, hst] at h
theorem zv_lays {s U : State} (hal : s.vm.Alike U.vm) (hk : ∀ (q : Nat) (cell : Cell), s.heap[q]? = some cell → U.heap[q]? = some cell) {C n d : String} {A A' : Array Value} (h : (Cond.laysStatic C n d).before A s = true) : (Cond.laysStatic C n d).before A' U = true := by
  obtain ⟨c, k, i, f, a, cell, h1, h2, h3, h4, h5, h6, h7, h8, h9⟩ := Cond.laysStatic_spec h
  obtain ⟨k1, hf1, he⟩ := State.fieldFound?_setVm hal h2
  exact Cond.laysStatic_of (s := U) (by rw [hal.findClass]; exact h1) hf1 h3 (by rw [he]; exact h4) (hk a cell h5) h6 h7 h8 (by rw [he]; exact h9)
theorem zv_isRef {s U : State} (hal : s.vm.Alike U.vm) (hk : ∀ (q : Nat) (cell : Cell), s.heap[q]? = some cell → U.heap[q]? = some cell) {C n d : String} {A A' : Array Value} (h : (Cond.isRef (.static C n d)).before A s = true) : (Cond.isRef (.static C n d)).before A' U = true := by
  cases hv : (Term.static C n d).eval A s none [] s with
  | none => simp [Cond.before, Cond.holds, Cond.value, hv] at h
  | some v =>
    have hv1 := zv_static (A' := A') hal hk hv
    simp only [Cond.before, Cond.holds, Cond.value, hv] at h
    simp only [Cond.before, Cond.holds, Cond.value, hv1]
    exact h
theorem zsw_mv {w : Cond} (hw : w ∈ zsw) {A A' : Array Value} {s U : State} (hW : s.WarmedH U.vm) (hk : ∀ (q : Nat) (cell : Cell), s.heap[q]? = some cell → U.heap[q]? = some cell) (h : w.before A s = true) : w.before A' U = true := by
  simp only [zsw, List.mem_cons, List.not_mem_nil, or_false] at hw
  rcases hw with rfl | rfl | rfl | rfl | rfl | rfl | rfl | rfl | rfl | rfl
  · exact zv_lays hW.alike hk h
  · exact zv_lays hW.alike hk h
  · exact zv_isRef hW.alike hk h
  · exact zv_isRef hW.alike hk h
  · exact zsw_tb rfl rfl hW h
  · exact zsw_tb rfl rfl hW h
  · exact zsw_tb rfl rfl hW h
  · exact zsw_tb rfl rfl hW h
  · exact zsw_str hW h
  · exact zsw_str hW h
def zst (U : State) : Prop := ∀ w ∈ zsw, ∀ A : Array Value, w.before A U = true
theorem zst_of {s : State} {A : Array Value} (h : ∀ w ∈ zsw, w.before A s = true) : zst s := fun w hw A' => zsw_mv hw (State.WarmedH.refl s) (fun _ _ h => h) (h w hw)
theorem zst_mv {s U : State} (hW : s.WarmedH U.vm) (hk : ∀ (q : Nat) (cell : Cell), s.heap[q]? = some cell → U.heap[q]? = some cell) (h : zst s) : zst U := fun w hw A => zsw_mv (A := #[]) hw hW hk (h w hw #[])
theorem zs193 : Cond.stringRef "SignRow" 193 "no such replica, or no sign at that place" ∈ zsw := by simp [zsw]
theorem zs130 : Cond.stringRef "SignRow" 130 "no such level, or nothing to ask of it" ∈ zsw := by simp [zsw]
