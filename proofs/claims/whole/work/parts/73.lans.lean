/-! THE LAW'S sign, path, kinds. Laid by program. -/
set_option maxHeartbeats 4000000 in
set_option maxRecDepth 100000 in
theorem kL_sign (l : Launch) (hl0 : l.stackTraces = false) {D : va_G} {a : Nat → Nat} {cI cZ cR cJ : ClassId} {o : Nat} (κ : Zt) (hG : kGood κ) (v0 : Int) (x : Int) (q : Int) (x0 : -2147483648 ≤ x) (x1 : x < 2147483648) (q0 : -2147483648 ≤ q) (q1 : q < 2147483648) :
    zs l D vwCl (tyS cI cZ cR) 56 (layS cI cZ cR a) a o cJ yL_sign (Cond.codeWith yL_sign cL_sign 5 (some .int) [(0, 10, 13, 13)] :: zt) ({ frames := 8, cells := 1, slots := 6, locals := 127 }) [.ref (a 0), .int (jI x), .int (jI q), .ref o] κ v0 (fun r u v => (kOf κ x q = -1 ∧ r = 1 ∧ u = κ) ∨ (kOf κ x q ≠ -1 ∧ r = 0 ∧ v = kSigR κ x q ∧ zq κ u)) := by
  intro sz
  refine va_MetW (hh := [(0, 10, 13, 13)]) (cc := cL_sign) (maxL := 5) (ret := some .int) (by decide) rfl ?_
  intro p e s m args below meth c s₁ B hml hv
  obtain ⟨rfl, hsz, hP, hO, ⟨hK, hJ⟩, hD, ho, hz⟩ := hv
  subst hsz
  have hown : s.vm.findClass RL = some m.cls := findClass_of_methodNamed B.named
  have hws := atoms_spec (ws := Cond.codeWith yL_sign cL_sign 5 (some .int) [(0, 10, 13, 13)] :: zt) B.pre
  have hcw := hws _ List.mem_cons_self
  obtain ⟨m9, meth9, c9, hn9, h1, h2, h3, h4, hex, -⟩ := Cond.codeWith_spec hcw
  cases B.named.symm.trans hn9
  cases B.method.symm.trans h1
  cases (Stand.of_body B).code.symm.trans h2
  have C : zk p s m ([.ref (a 0), .int (jI x), .int (jI q), .ref o] : List Value).toArray meth c cL_sign 5 (some .int) (Cond.codeWith yL_sign cL_sign 5 (some .int) [(0, 10, 13, 13)] :: zt) RL := ⟨⟨B.exec, B.bytes, hml, hown, hws⟩, B.returns, B.notSynchronized⟩
  have X : zx D vwCl (tyS cI cZ cR) (zsA a 56 s.heap.size o) a 56 s := ⟨hK, (zw_Dinv hD).1, fun i hi => Or.inr (Or.inl ⟨i, hi, rfl⟩), fun q h => Or.inr (Or.inr h)⟩
  have hl := lv_entry [.ref (a 0), .int (jI x), .int (jI q), .ref o] (n := 5) (Nat.le_of_ble_eq_true rfl)
  rw [lg_entry_eq]
  generalize (lg_sl [.ref (a 0), .int (jI x), .int (jI q), .ref o] ++ List.replicate (5 - (lg_sl [.ref (a 0), .int (jI x), .int (jI q), .ref o]).length) Slot.unset).toArray = ls at hl ⊢
  have hl : lv_has ls 5 [(0, .ref (a 0)), (1, .int (jI x)), (2, .int (jI q)), (3, .ref o)] := hl
  refine zg_aload_n C dL_sign_0 rfl (lv_at hl 3 rfl) ?_
  refine zg_iconst C dL_sign_1 ?_
  refine zg_aload_n C dL_sign_2 rfl (lv_at hl 0 rfl) ?_
  refine zg_iload_n C dL_sign_3 rfl (lv_at hl 1 rfl) ?_
  refine zg_iload_n C dL_sign_4 rfl (lv_at hl 2 rfl) ?_
  by_cases hk : kOf κ x q = -1
  · exact zs_thr (k := 0) C X hP hO hz (kX4_signT l κ hG.1.1 x q x0 x1 q0 q1 hk hl0) (cwV 2 C.ts (zgV mlL_7 imX4_sign slX4_sign iniX4 cdX4_sign) rfl rfl rfl (by decide +kernel) ⟨Nat.le_of_ble_eq_true rfl, Nat.le_of_ble_eq_true rfl⟩) (by decide) lyS_0 rfl rfl rfl hl (by decide) rfl ⟨Nat.le_of_ble_eq_true rfl, Nat.le_of_ble_eq_true rfl⟩ hex clL_13 dL_sign_5 dL_sign_13 dL_sign_15 dL_sign_16 (Or.inl ⟨hk, rfl, rfl⟩)
  · exact zs_ok (k := 0) C X hJ hP hO ho (kX4_sign l κ hG.1.1 x q x0 x1 q0 q1 hk) (cwV 2 C.ts (zgV mlL_7 imX4_sign slX4_sign iniX4 cdX4_sign) rfl rfl rfl (by decide +kernel) ⟨Nat.le_of_ble_eq_true rfl, Nat.le_of_ble_eq_true rfl⟩) (by decide) lyS_0 rfl rfl rfl hl.1 rfl ⟨Nat.le_of_ble_eq_true rfl, Nat.le_of_ble_eq_true rfl⟩ dL_sign_5 dL_sign_8 dL_sign_9 dL_sign_10 dL_sign_17 dL_sign_18 (fun r u h => ⟨kSigR κ x q, h.1, (kSigR_rg hG.1 x q).1, (kSigR_rg hG.1 x q).2, Or.inr ⟨hk, rfl, rfl, (by rw [h.2]; exact zq_rf hG.1.1)⟩⟩)
set_option maxHeartbeats 4000000 in
set_option maxRecDepth 100000 in
theorem kL_kinds (l : Launch) (hl0 : l.stackTraces = false) {D : va_G} {a : Nat → Nat} {cI cZ cR cJ : ClassId} {o : Nat} (κ : Zt) (hG : kGood κ) (v0 : Int) (x : Int) (q : Int) (x0 : -2147483648 ≤ x) (x1 : x < 2147483648) (q0 : -2147483648 ≤ q) (q1 : q < 2147483648) :
    zs l D vwCl (tyS cI cZ cR) 56 (layS cI cZ cR a) a o cJ yL_kinds (Cond.codeWith yL_kinds cL_kinds 5 (some .int) [(0, 10, 13, 13)] :: zt) ({ frames := 8, cells := 1, slots := 6, locals := 128 }) [.ref (a 0), .int (jI x), .int (jI q), .ref o] κ v0 (fun r u v => (kOf κ x q = -1 ∧ r = 1 ∧ u = κ) ∨ (kOf κ x q ≠ -1 ∧ r = 0 ∧ v = kKinR κ x q ∧ zq κ u)) := by
  intro sz
  refine va_MetW (hh := [(0, 10, 13, 13)]) (cc := cL_kinds) (maxL := 5) (ret := some .int) (by decide) rfl ?_
  intro p e s m args below meth c s₁ B hml hv
  obtain ⟨rfl, hsz, hP, hO, ⟨hK, hJ⟩, hD, ho, hz⟩ := hv
  subst hsz
  have hown : s.vm.findClass RL = some m.cls := findClass_of_methodNamed B.named
  have hws := atoms_spec (ws := Cond.codeWith yL_kinds cL_kinds 5 (some .int) [(0, 10, 13, 13)] :: zt) B.pre
  have hcw := hws _ List.mem_cons_self
  obtain ⟨m9, meth9, c9, hn9, h1, h2, h3, h4, hex, -⟩ := Cond.codeWith_spec hcw
  cases B.named.symm.trans hn9
  cases B.method.symm.trans h1
  cases (Stand.of_body B).code.symm.trans h2
  have C : zk p s m ([.ref (a 0), .int (jI x), .int (jI q), .ref o] : List Value).toArray meth c cL_kinds 5 (some .int) (Cond.codeWith yL_kinds cL_kinds 5 (some .int) [(0, 10, 13, 13)] :: zt) RL := ⟨⟨B.exec, B.bytes, hml, hown, hws⟩, B.returns, B.notSynchronized⟩
  have X : zx D vwCl (tyS cI cZ cR) (zsA a 56 s.heap.size o) a 56 s := ⟨hK, (zw_Dinv hD).1, fun i hi => Or.inr (Or.inl ⟨i, hi, rfl⟩), fun q h => Or.inr (Or.inr h)⟩
  have hl := lv_entry [.ref (a 0), .int (jI x), .int (jI q), .ref o] (n := 5) (Nat.le_of_ble_eq_true rfl)
  rw [lg_entry_eq]
  generalize (lg_sl [.ref (a 0), .int (jI x), .int (jI q), .ref o] ++ List.replicate (5 - (lg_sl [.ref (a 0), .int (jI x), .int (jI q), .ref o]).length) Slot.unset).toArray = ls at hl ⊢
  have hl : lv_has ls 5 [(0, .ref (a 0)), (1, .int (jI x)), (2, .int (jI q)), (3, .ref o)] := hl
  refine zg_aload_n C dL_kinds_0 rfl (lv_at hl 3 rfl) ?_
  refine zg_iconst C dL_kinds_1 ?_
  refine zg_aload_n C dL_kinds_2 rfl (lv_at hl 0 rfl) ?_
  refine zg_iload_n C dL_kinds_3 rfl (lv_at hl 1 rfl) ?_
  refine zg_iload_n C dL_kinds_4 rfl (lv_at hl 2 rfl) ?_
  by_cases hk : kOf κ x q = -1
  · exact zs_thr (k := 0) C X hP hO hz (kX4_kindsT l κ hG.1.1 x q x0 x1 q0 q1 hk hl0) (cwV 2 C.ts (zgV mlL_19 imX4_kinds slX4_kinds iniX4 cdX4_kinds) rfl rfl rfl (by decide +kernel) ⟨Nat.le_of_ble_eq_true rfl, Nat.le_of_ble_eq_true rfl⟩) (by decide) lyS_0 rfl rfl rfl hl (by decide) rfl ⟨Nat.le_of_ble_eq_true rfl, Nat.le_of_ble_eq_true rfl⟩ hex clL_13 dL_kinds_5 dL_kinds_13 dL_kinds_15 dL_kinds_16 (Or.inl ⟨hk, rfl, rfl⟩)
  · exact zs_ok (k := 0) C X hJ hP hO ho (kX4_kinds l κ hG.1.1 x q x0 x1 q0 q1 hk ((kOf_ok hG.1 x q).resolve_left hk).2.2.2) (cwV 2 C.ts (zgV mlL_19 imX4_kinds slX4_kinds iniX4 cdX4_kinds) rfl rfl rfl (by decide +kernel) ⟨Nat.le_of_ble_eq_true rfl, Nat.le_of_ble_eq_true rfl⟩) (by decide) lyS_0 rfl rfl rfl hl.1 rfl ⟨Nat.le_of_ble_eq_true rfl, Nat.le_of_ble_eq_true rfl⟩ dL_kinds_5 dL_kinds_8 dL_kinds_9 dL_kinds_10 dL_kinds_17 dL_kinds_18 (fun r u h => ⟨kKinR κ x q, h.1, (kKinR_rg hG.1 x q).1, (kKinR_rg hG.1 x q).2, Or.inr ⟨hk, rfl, rfl, h.2⟩⟩)
set_option maxHeartbeats 4000000 in
set_option maxRecDepth 100000 in
theorem kL_path (l : Launch) (hl0 : l.stackTraces = false) {D : va_G} {a : Nat → Nat} {cI cZ cR cJ : ClassId} {o : Nat} (κ : Zt) (hG : kGood κ) (v0 : Int) (x : Int) (q : Int) (k : Int) (w : Int) (x0 : -2147483648 ≤ x) (x1 : x < 2147483648) (q0 : -2147483648 ≤ q) (q1 : q < 2147483648) (k0 : -2147483648 ≤ k) (k1 : k < 2147483648) (w0 : -2147483648 ≤ w) (w1 : w < 2147483648) :
    zs l D vwCl (tyS cI cZ cR) 56 (layS cI cZ cR a) a o cJ yL_path (Cond.codeWith yL_path cL_path 7 (some .int) [(0, 14, 17, 13)] :: zt) ({ frames := 8, cells := 1, slots := 6, locals := 132 }) [.ref (a 0), .int (jI x), .int (jI q), .int (jI k), .int (jI w), .ref o] κ v0 (fun r u v => (kPatT κ x q k w = true ∧ r = 1 ∧ u = κ) ∨ (kPatT κ x q k w = false ∧ r = 0 ∧ v = kPatR κ x q k w ∧ zq κ u)) := by
  intro sz
  refine va_MetW (hh := [(0, 14, 17, 13)]) (cc := cL_path) (maxL := 7) (ret := some .int) (by decide) rfl ?_
  intro p e s m args below meth c s₁ B hml hv
  obtain ⟨rfl, hsz, hP, hO, ⟨hK, hJ⟩, hD, ho, hz⟩ := hv
  subst hsz
  have hown : s.vm.findClass RL = some m.cls := findClass_of_methodNamed B.named
  have hws := atoms_spec (ws := Cond.codeWith yL_path cL_path 7 (some .int) [(0, 14, 17, 13)] :: zt) B.pre
  have hcw := hws _ List.mem_cons_self
  obtain ⟨m9, meth9, c9, hn9, h1, h2, h3, h4, hex, -⟩ := Cond.codeWith_spec hcw
  cases B.named.symm.trans hn9
  cases B.method.symm.trans h1
  cases (Stand.of_body B).code.symm.trans h2
  have C : zk p s m ([.ref (a 0), .int (jI x), .int (jI q), .int (jI k), .int (jI w), .ref o] : List Value).toArray meth c cL_path 7 (some .int) (Cond.codeWith yL_path cL_path 7 (some .int) [(0, 14, 17, 13)] :: zt) RL := ⟨⟨B.exec, B.bytes, hml, hown, hws⟩, B.returns, B.notSynchronized⟩
  have X : zx D vwCl (tyS cI cZ cR) (zsA a 56 s.heap.size o) a 56 s := ⟨hK, (zw_Dinv hD).1, fun i hi => Or.inr (Or.inl ⟨i, hi, rfl⟩), fun q h => Or.inr (Or.inr h)⟩
  have hl := lv_entry [.ref (a 0), .int (jI x), .int (jI q), .int (jI k), .int (jI w), .ref o] (n := 7) (Nat.le_of_ble_eq_true rfl)
  rw [lg_entry_eq]
  generalize (lg_sl [.ref (a 0), .int (jI x), .int (jI q), .int (jI k), .int (jI w), .ref o] ++ List.replicate (7 - (lg_sl [.ref (a 0), .int (jI x), .int (jI q), .int (jI k), .int (jI w), .ref o]).length) Slot.unset).toArray = ls at hl ⊢
  have hl : lv_has ls 7 [(0, .ref (a 0)), (1, .int (jI x)), (2, .int (jI q)), (3, .int (jI k)), (4, .int (jI w)), (5, .ref o)] := hl
  refine zg_aload C dL_path_0 (lv_at hl 5 rfl) ?_
  refine zg_iconst C dL_path_2 ?_
  refine zg_aload_n C dL_path_3 rfl (lv_at hl 0 rfl) ?_
  refine zg_iload_n C dL_path_4 rfl (lv_at hl 1 rfl) ?_
  refine zg_iload_n C dL_path_5 rfl (lv_at hl 2 rfl) ?_
  refine zg_iload_n C dL_path_6 rfl (lv_at hl 3 rfl) ?_
  refine zg_iload C dL_path_7 (lv_at hl 4 rfl) ?_
  by_cases hk : kPatT κ x q k w = true
  · by_cases hk1 : kOf κ x q = -1
    · exact zs_thr (k := 0) C X hP hO hz (kX4_pathT l κ hG.1.1 x q k w x0 x1 q0 q1 k0 k1 w0 w1 hk1 hl0) (cwV 4 C.ts (zgV mlL_15 imX4_path slX4_path iniX4 cdX4_path) rfl rfl rfl (by decide +kernel) ⟨Nat.le_of_ble_eq_true rfl, Nat.le_of_ble_eq_true rfl⟩) (by decide) lyS_0 rfl rfl rfl hl (by decide) rfl ⟨Nat.le_of_ble_eq_true rfl, Nat.le_of_ble_eq_true rfl⟩ hex clL_13 dL_path_9 dL_path_17 dL_path_19 dL_path_20 (Or.inl ⟨hk, rfl, rfl⟩)
    · exact zs_thr (k := 0) C X hP hO hz (kX4_pathU l κ hG.1.1 x q k w x0 x1 q0 q1 k0 k1 w0 w1 hk1 hk hl0) (cwV 4 C.ts (zgV mlL_15 imX4_path slX4_path iniX4 cdX4_path) rfl rfl rfl (by decide +kernel) ⟨Nat.le_of_ble_eq_true rfl, Nat.le_of_ble_eq_true rfl⟩) (by decide) lyS_0 rfl rfl rfl hl (by decide) rfl ⟨Nat.le_of_ble_eq_true rfl, Nat.le_of_ble_eq_true rfl⟩ hex clL_13 dL_path_9 dL_path_17 dL_path_19 dL_path_20 (Or.inl ⟨hk, rfl, rfl⟩)
  · have hk : kPatT κ x q k w = false := by simpa using hk
    have hk1 : kOf κ x q ≠ -1 := fun h => by rw [kPatT, decide_eq_true h] at hk; cases hk
    exact zs_ok (k := 0) C X hJ hP hO ho (kX4_path l κ hG.1.1 x q k w x0 x1 q0 q1 k0 k1 w0 w1 hk hk1) (cwV 4 C.ts (zgV mlL_15 imX4_path slX4_path iniX4 cdX4_path) rfl rfl rfl (by decide +kernel) ⟨Nat.le_of_ble_eq_true rfl, Nat.le_of_ble_eq_true rfl⟩) (by decide) lyS_0 rfl rfl rfl hl.1 rfl ⟨Nat.le_of_ble_eq_true rfl, Nat.le_of_ble_eq_true rfl⟩ dL_path_9 dL_path_12 dL_path_13 dL_path_14 dL_path_21 dL_path_22 (fun r u h => ⟨kPatR κ x q k w, h.1, (kPatR_rg hG.1 x q k w).1, (kPatR_rg hG.1 x q k w).2, Or.inr ⟨hk, rfl, rfl, (by rw [h.2]; exact zq_rf hG.1.1)⟩⟩)
