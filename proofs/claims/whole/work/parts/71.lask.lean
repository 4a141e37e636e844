/-! A CALL OF THE LAW'S sign, path OR kinds -/
theorem zsP_blind {D : va_G} {cl : List vw_C} {tys : List (ClassId × FieldType)} {N : Nat} {lay : Nat → (Nat → Int) → va_E} {a : Nat → Nat} {o : Nat} {cJ : ClassId} {σ : Zt} {v0 : Int} {sz : Nat} {av : List Value} : FrameBlind (zsP D cl tys N lay a o cJ σ v0 sz av) := fun b U g mk q => by
  obtain ⟨q0, q1, qP, qO, ⟨qK, qJ⟩, qD, qo, qz⟩ := q
  exact ⟨q0, q1, qP, qO, ⟨va_K.moved (u := U) (U := U.calling g mk b) (Vm.Alike.refl U.vm) qK, va_K.moved (u := U) (U := U.calling g mk b) (Vm.Alike.refl U.vm) qJ⟩, qD, qo, zst_mv (s := U) (U := U.calling g mk b) (State.WarmedH.refl U) (fun _ _ h => h) qz⟩
section ZQ
variable {p : Program} {l : Launch} {e : Env} {R : Room} {s : State} {m : MethodId} {args : Array Value} {below : List Frame} {meth : Method} {c : Code} {H : Heap} {locs : List Loc} {cells slots : Nat} {Q : State → Prop}
variable {cc : ByteArray} {pc : Nat} {ls : Array Slot} {rest st0 : List Value} {nL : Nat} {ret : Option FieldType} {c0 : Cond} {own : String}
variable {D : va_G} {cl : List vw_C} {tys : List (ClassId × FieldType)} {A : Nat → Prop} {a a2 : Nat → Nat} {N N2 : Nat} {lay lay2 : Nat → (Nat → Int) → va_E} {σ σ2 : Zt} {o : Nat} {cJ : ClassId} {v0 : Int} {fin : Int → Zt → Int → Prop}
variable {y : MethodName} {bytes : ByteArray} {maxL n index : Nat} {hh : List (Nat × Nat × Nat × Nat)} {rm : Room} {As : List Value}
theorem zj_callZ (C : zk p s m args meth c cc nL ret (c0 :: zt) own) (X : zx D cl tys A a N s) (KJ : va_K D cl [(cJ, .long)] s) (hz : zst s) (hP : va_P D cl (zw N lay a σ) H) (hP2 : va_P D cl (zw N2 lay2 a2 σ2) H) (hO : va_at D cl (o, zO cJ v0) H) (hS : va_S A s.heap H locs) (hA : ∀ q, q < s.heap.size → ¬ A q) (hAo : A o) (hd : ∀ i j, i < N → j < N2 → a i ≠ a2 j) (ho : ∀ i, i < N → a i ≠ o) (ho2 : ∀ j, j < N2 → a2 j ≠ o)
    (hM : zs l D cl tys N lay a o cJ y (Cond.codeWith y bytes maxL (some .int) hh :: zt) rm As σ v0 fin) (hcw : (Cond.codeWith y bytes maxL (some .int) hh).before args s = true) (hon : (Cond.codeWith y bytes maxL (some .int) hh).onTables = true) (hkf : (Cond.codeWith y bytes maxL (some .int) hh).keepsFace = true) (hlink : Cond.methodLink own index y ∈ zt) (hstat : Cond.static y ∈ zt) (hini : Cond.initialized y.cls ∈ zt) (hy : y.cls ≠ "java/lang/invoke/MethodHandle" ∧ y.cls ≠ "java/lang/invoke/VarHandle")
    (hlen : (parseMethodDescriptor y.desc).map (fun d => d.parameters.length) = some n) (hrc : rm.cells = 1) (hrs : rm.slots = 6) (hfr : rm.frames + 1 ≤ R.frames) (hlo : 8 + (maxL + 11) + rm.locals ≤ R.locals) (hn : As.length = n) (hsize : ls.size = nL) (hst : st0 = As.reverse ++ rest) (hW : (rest.map fun v => v.category).sum ≤ 8) (hdg : decode cc pc = .ok (.invokestatic index, 3)) (hf : cells + 1 ≤ R.cells ∧ slots + 6 ≤ R.slots)
    (kk : ∀ (r : Int) (u : Zt) (v : Int) (H1 : Heap) (locs1 : List Loc), fin r u v → va_P D cl (zw N lay a u) H1 → va_P D cl (zw N2 lay2 a2 σ2) H1 → va_at D cl (o, zO cJ v) H1 → va_S A s.heap H1 locs1 → W p l e R s m args below meth c H1 locs1 (cells + 1) (slots + 6) Q (F0 m (pc + 3) ls (.int (jI r) :: rest))) : W p l e R s m args below meth c H locs cells slots Q (F0 m pc ls st0) := by
  have hmv : ∀ (b : Array Value) (U : State), s.WarmedH U.vm → (Cond.codeWith y bytes maxL (some .int) hh).before b U = true := fun b U hW => zsw_tb hon hkf hW hcw
  have hK : Back l R p e below s args y 3 8 (PreOf R 1 6 (zsP D cl tys N lay a o cJ σ v0 H.size As)) (PostOf (zsQ D cl N lay a o cJ fin (zsA a N H.size o)) 1 6 (zsA a N H.size o)) := by
    refine va_backW (hh := hh) (bytes := bytes) (maxL := maxL) (ret := some .int) (hM H.size) zsP_blind hrc hrs hfr hlo (fun w hw b U hWU => ?_) List.mem_cons_self (fun b U hWU => word_at hWU (zt_good hini) (C.tb hini))
    rcases List.mem_cons.mp hw with rfl | h
    · exact hmv b U hWU
    · exact word_at hWU (zt_good h) (C.tb h)
  obtain ⟨hx, hb, hml, hown, -⟩ := C.1
  intro T hT XT
  obtain ⟨mk, methM, cM, hnamed, hmethM, -, -, -, -, -, -, hsigM⟩ := Cond.codeWith_spec hcw
  have hstatic : methM.isStatic = true := Cond.static_spec hnamed hmethM (C.tb hstat)
  obtain ⟨kP, hkP, -⟩ := className_of_methodNamed hnamed
  have hinitP : kP.init = .initialized := Cond.initialized_spec (findClass_of_methodNamed hnamed) hkP (C.tb hini)
  have hl2 : As.length = methM.sig.parameters.length := by
    rw [hsigM] at hlen
    rw [hn]
    exact (Option.some.inj hlen).symm
  obtain ⟨vm₁, X₁, hstep₁⟩ := XT.invokestatic hx hown (C.tb hlink) hnamed hmethM hstatic hkP hinitP hy (g := F0 m pc ls st0) rfl (argsL := As) (rest := rest) hl2 hst (by rw [hb]; exact hdg)
  have hold : ∀ (q : Nat) (cell : Cell), s.heap[q]? = some cell → H[q]? = some cell := fun q cell h => by
    have hq := (Array.getElem?_eq_some_iff.mp h).1
    rw [hS.2.1 q hq (hA q hq)]
    exact h
  obtain ⟨v, B, X', ⟨g', mk', t, L, e1, e2, hq, e3, hL, e4, e5⟩, hsteps⟩ := hK m meth c ⟨T.setVm vm₁, locs, cells, slots⟩ (F0 m pc ls rest) (.invokestatic index) mk As.toArray X₁ rfl (hsize.trans hml.symm) (by rw [hb]; exact hdg) (lv_room hW) (X₁.named hnamed)
    ⟨hf.1, hf.2, rfl, by show T.heap.size = _; rw [hT], by show va_P D cl _ T.heap; rw [hT]; exact hP, by show va_at D cl _ T.heap; rw [hT]; exact hO, ⟨va_K.moved X₁.warmed.alike X.1, va_K.moved X₁.warmed.alike KJ⟩, zw_D X.2.1 (fun _ _ => trivial), ho, zst_mv (s := s) (U := T.setVm vm₁) X₁.warmed (fun q cell h => by show T.heap[q]? = _; rw [hT]; exact hold q cell h) hz⟩
  obtain ⟨U, l2, c2, s2⟩ := B
  dsimp only [Pt.U, Pt.locs, Pt.cells, Pt.slots] at X' e1 e2 e3 e4 e5 hsteps
  subst e3; subst e4; subst e5
  obtain ⟨⟨r, u, v1, hv, hfin, hPu, hO1⟩, hz1, hk1⟩ := hq
  have hv2 : v = some (.int (jI r)) := Outcome.returned.inj hv
  subst hv2
  have hTh : ((T.setVm vm₁).calling g' mk' As.toArray).heap = H := hT
  rw [hTh] at hz1 hk1
  have hin : ∀ q, zsA a N H.size o q → A q := fun q h => by
    rcases h with rfl | ⟨k, hk, rfl⟩ | h
    · exact hAo
    · exact X.2.2.1 k hk
    · exact X.2.2.2 q (Nat.le_trans hS.1 h)
  have hP2' : va_P D cl (zw N2 lay2 a2 σ2) t.heap := by
    refine hP2.kept (fun k q hq => ?_)
    have hlt := (hP2 k q hq).lt
    obtain ⟨h1, rfl⟩ := zw_inv hq
    refine hk1 _ hlt (fun h => ?_)
    rcases h with h | ⟨i, hi, h⟩ | h
    · exact ho2 k h1 h
    · exact hd i k hi h1 h.symm
    · exact absurd hlt (by omega)
  obtain ⟨t2, s3, q2⟩ := kk r u v1 U.heap (locs ++ L) hfin (by rw [e1]; exact hPu) (by rw [e1]; exact hP2') (by rw [e1]; exact hO1)
    ⟨Nat.le_trans hS.1 (by rw [e1]; exact hz1), fun q h1 h2 => by rw [e1, hk1 q (Nat.lt_of_lt_of_le h1 hS.1) (fun z => h2 (hin q z))]; exact hS.2.1 q h1 h2, fun q hq => by
      rcases List.mem_append.mp hq with h | h
      · exact hS.2.2 q h
      · exact hin _ (hL q h)⟩ U rfl X'
  exact ⟨t2, hstep₁ _ fun acts => by rw [doInvoke_state]; exact hsteps.trans s3, q2⟩
end ZQ
