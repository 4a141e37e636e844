/-! CONSTRUCTORS. Laid by program. -/
/-- what the class's constructor asks of the tables beside zt -/
def eS (U : State) : Prop := va_Nw (.methodLinkNest RX4 9 yX0_init RX4) U ∧ va_Nw (.methodLinkNest RX4 18 yX1_init RX4) U ∧ va_Nw (.methodLinkNest RX4 25 yX3_init RX4) U ∧ va_AO RX2 U
theorem eS_warm {s U : State} (hW : s.WarmedH U.vm) (h : eS s) : eS U := ⟨va_Nw.warmM hW h.1, va_Nw.warmM hW h.2.1, va_Nw.warmM hW h.2.2.1, va_AO.moved hW.alike h.2.2.2⟩
theorem eS_calling {U : State} {g : JFrame} {mk : MethodId} {b : Array Value} (h : eS U) : eS (U.calling g mk b) := eS_warm (s := U) (U := U.calling g mk b) (State.WarmedH.refl U) h

theorem frX0 : ∀ j, j < 11 → defaultValue (tyX0 j) = vp_V [.null, .null, .null, .null, .null, .null, .null, .null, .null, .int 0, .int 0] j := by
  intro j hj
  match j, hj with
  | 0, _ => rfl
  | 1, _ => rfl
  | 2, _ => rfl
  | 3, _ => rfl
  | 4, _ => rfl
  | 5, _ => rfl
  | 6, _ => rfl
  | 7, _ => rfl
  | 8, _ => rfl
  | 9, _ => rfl
  | 10, _ => rfl
theorem frX1 : ∀ j, j < 5 → defaultValue (tyX1 j) = vp_V [.null, .null, .null, .null, .int 0] j := by
  intro j hj
  match j, hj with
  | 0, _ => rfl
  | 1, _ => rfl
  | 2, _ => rfl
  | 3, _ => rfl
  | 4, _ => rfl
theorem frX3 : ∀ j, j < 4 → defaultValue (tyX3 j) = vp_V [.null, .null, .int 0, .int 0] j := by
  intro j hj
  match j, hj with
  | 0, _ => rfl
  | 1, _ => rfl
  | 2, _ => rfl
  | 3, _ => rfl
theorem frX2 : ∀ j, j < 12 → defaultValue (tyX2 j) = vp_V [.int 0, .null, .null, .int 0, .int 0, .int 0, .int 0, .null, .null, .null, .null, .null] j := by
  intro j hj
  match j, hj with
  | 0, _ => rfl
  | 1, _ => rfl
  | 2, _ => rfl
  | 3, _ => rfl
  | 4, _ => rfl
  | 5, _ => rfl
  | 6, _ => rfl
  | 7, _ => rfl
  | 8, _ => rfl
  | 9, _ => rfl
  | 10, _ => rfl
  | 11, _ => rfl
theorem frX4 : ∀ j, j < 4 → defaultValue (tyX4 j) = vp_V [.null, .null, .null, .null] j := by
  intro j hj
  match j, hj with
  | 0, _ => rfl
  | 1, _ => rfl
  | 2, _ => rfl
  | 3, _ => rfl
theorem frX5 : ∀ j, j < 33 → defaultValue (tyX5 j) = vp_V [.int 0, .int 0, .null, .null, .null, .null, .null, .null, .null, .null, .null, .null, .null, .null, .null, .int 0, .null, .null, .null, .null, .null, .null, .null, .null, .null, .int 0, .null, .null, .int 0, .null, .null, .null, .int 0] j := by
  intro j hj
  match j, hj with
  | 0, _ => rfl
  | 1, _ => rfl
  | 2, _ => rfl
  | 3, _ => rfl
  | 4, _ => rfl
  | 5, _ => rfl
  | 6, _ => rfl
  | 7, _ => rfl
  | 8, _ => rfl
  | 9, _ => rfl
  | 10, _ => rfl
  | 11, _ => rfl
  | 12, _ => rfl
  | 13, _ => rfl
  | 14, _ => rfl
  | 15, _ => rfl
  | 16, _ => rfl
  | 17, _ => rfl
  | 18, _ => rfl
  | 19, _ => rfl
  | 20, _ => rfl
  | 21, _ => rfl
  | 22, _ => rfl
  | 23, _ => rfl
  | 24, _ => rfl
  | 25, _ => rfl
  | 26, _ => rfl
  | 27, _ => rfl
  | 28, _ => rfl
  | 29, _ => rfl
  | 30, _ => rfl
  | 31, _ => rfl
  | 32, _ => rfl
  | j + 33, h => exact absurd h (by omega)
set_option maxHeartbeats 4000000 in
set_option maxRecDepth 100000 in
theorem kX0_init (l : Launch) {D : va_G} {cI cZ cR : ClassId} (d : Nat)  : zi l D vwCl (tyS cI cZ cR) yX0_init wsX0_init ({ frames := 1, cells := 9, slots := 3600, locals := 12 }) 9 3600 d [] 0 [.null, .null, .null, .null, .null, .null, .null, .null, .null, .int 0, .int 0] ([.inr (0, [.ref (d + 1), .ref (d + 2), .ref (d + 3), .ref (d + 4), .ref (d + 5), .ref (d + 6), .ref (d + 7), .ref (d + 8), .ref (d + 9), .int 0, .int 0]), aI cI 400, aI cI 400, aI cI 400, aI cI 400, aI cI 400, aI cI 400, aI cI 400, aI cZ 400, aI cI 400]) (fun _ => True) := by
  refine zi_of (cc := cX0_init) (maxL := 1) (own := RX0) (by decide) rfl rfl rfl (Nat.le_of_ble_eq_true rfl) rfl ?_
  intro p e s m below meth c ls C hin2 K _ h0 hZ hS hl
  refine zg_aload_n C dX0_init_0 rfl (lv_at hl 0 rfl) ?_
  refine zn_obj C olX0_3 olI olC hl.1 dX0_init_1 (Nat.le_of_ble_eq_true rfl) (Nat.le_of_ble_eq_true rfl) ?_
  refine zg_aload_n C dX0_init_4 rfl (lv_at hl 0 rfl) ?_
  refine zg_sipush C dX0_init_5 (by decide) ?_
  refine zn_newa (n := 400) (t0 := 0) (a0 := (400, .inl (fun _ => 0))) C K hZ hS acI rfl rfl (fun h => h) rfl (by decide) (by decide) (Nat.le_of_ble_eq_true rfl) (Nat.le_of_ble_eq_true rfl) rfl dX0_init_8 (fun H hZ hS => ?_)
  have hZ : zn D vwCl d ([.inr (0, [.null, .null, .null, .null, .null, .null, .null, .null, .null, .int 0, .int 0]), aI cI 400]) H := hZ
  refine zn_putF (k := 0) (j := 0) (v := .ref (d + 1)) C hin2 K hZ hS (show s.heap.size + 1 ≤ d + 2 by omega) rfl rfl (zmem uwX0) tyX0 tyX0_ok nmX0 (by decide) (C.tb flX0_9) rfl rfl rfl rfl rfl (Nat.le_of_ble_eq_true rfl) dX0_init_10 (fun H locs hZ hS => ?_)
  have hZ : zn D vwCl d ([.inr (0, [.ref (d + 1), .null, .null, .null, .null, .null, .null, .null, .null, .int 0, .int 0]), aI cI 400]) H := hZ
  refine zg_aload_n C dX0_init_13 rfl (lv_at hl 0 rfl) ?_
  refine zg_sipush C dX0_init_14 (by decide) ?_
  refine zn_newa (n := 400) (t0 := 0) (a0 := (400, .inl (fun _ => 0))) C K hZ hS acI rfl rfl (fun h => h) rfl (by decide) (by decide) (Nat.le_of_ble_eq_true rfl) (Nat.le_of_ble_eq_true rfl) rfl dX0_init_17 (fun H hZ hS => ?_)
  have hZ : zn D vwCl d ([.inr (0, [.ref (d + 1), .null, .null, .null, .null, .null, .null, .null, .null, .int 0, .int 0]), aI cI 400, aI cI 400]) H := hZ
  refine zn_putF (k := 0) (j := 1) (v := .ref (d + 2)) C hin2 K hZ hS (show s.heap.size + 2 ≤ d + 3 by omega) rfl rfl (zmem uwX0) tyX0 tyX0_ok nmX0 (by decide) (C.tb flX0_15) rfl rfl rfl rfl rfl (Nat.le_of_ble_eq_true rfl) dX0_init_19 (fun H locs hZ hS => ?_)
  have hZ : zn D vwCl d ([.inr (0, [.ref (d + 1), .ref (d + 2), .null, .null, .null, .null, .null, .null, .null, .int 0, .int 0]), aI cI 400, aI cI 400]) H := hZ
  refine zg_aload_n C dX0_init_22 rfl (lv_at hl 0 rfl) ?_
  refine zg_sipush C dX0_init_23 (by decide) ?_
  refine zn_newa (n := 400) (t0 := 0) (a0 := (400, .inl (fun _ => 0))) C K hZ hS acI rfl rfl (fun h => h) rfl (by decide) (by decide) (Nat.le_of_ble_eq_true rfl) (Nat.le_of_ble_eq_true rfl) rfl dX0_init_26 (fun H hZ hS => ?_)
  have hZ : zn D vwCl d ([.inr (0, [.ref (d + 1), .ref (d + 2), .null, .null, .null, .null, .null, .null, .null, .int 0, .int 0]), aI cI 400, aI cI 400, aI cI 400]) H := hZ
  refine zn_putF (k := 0) (j := 2) (v := .ref (d + 3)) C hin2 K hZ hS (show s.heap.size + 3 ≤ d + 4 by omega) rfl rfl (zmem uwX0) tyX0 tyX0_ok nmX0 (by decide) (C.tb flX0_18) rfl rfl rfl rfl rfl (Nat.le_of_ble_eq_true rfl) dX0_init_28 (fun H locs hZ hS => ?_)
  have hZ : zn D vwCl d ([.inr (0, [.ref (d + 1), .ref (d + 2), .ref (d + 3), .null, .null, .null, .null, .null, .null, .int 0, .int 0]), aI cI 400, aI cI 400, aI cI 400]) H := hZ
  refine zg_aload_n C dX0_init_31 rfl (lv_at hl 0 rfl) ?_
  refine zg_sipush C dX0_init_32 (by decide) ?_
  refine zn_newa (n := 400) (t0 := 0) (a0 := (400, .inl (fun _ => 0))) C K hZ hS acI rfl rfl (fun h => h) rfl (by decide) (by decide) (Nat.le_of_ble_eq_true rfl) (Nat.le_of_ble_eq_true rfl) rfl dX0_init_35 (fun H hZ hS => ?_)
  have hZ : zn D vwCl d ([.inr (0, [.ref (d + 1), .ref (d + 2), .ref (d + 3), .null, .null, .null, .null, .null, .null, .int 0, .int 0]), aI cI 400, aI cI 400, aI cI 400, aI cI 400]) H := hZ
  refine zn_putF (k := 0) (j := 3) (v := .ref (d + 4)) C hin2 K hZ hS (show s.heap.size + 4 ≤ d + 5 by omega) rfl rfl (zmem uwX0) tyX0 tyX0_ok nmX0 (by decide) (C.tb flX0_21) rfl rfl rfl rfl rfl (Nat.le_of_ble_eq_true rfl) dX0_init_37 (fun H locs hZ hS => ?_)
  have hZ : zn D vwCl d ([.inr (0, [.ref (d + 1), .ref (d + 2), .ref (d + 3), .ref (d + 4), .null, .null, .null, .null, .null, .int 0, .int 0]), aI cI 400, aI cI 400, aI cI 400, aI cI 400]) H := hZ
  refine zg_aload_n C dX0_init_40 rfl (lv_at hl 0 rfl) ?_
  refine zg_sipush C dX0_init_41 (by decide) ?_
  refine zn_newa (n := 400) (t0 := 0) (a0 := (400, .inl (fun _ => 0))) C K hZ hS acI rfl rfl (fun h => h) rfl (by decide) (by decide) (Nat.le_of_ble_eq_true rfl) (Nat.le_of_ble_eq_true rfl) rfl dX0_init_44 (fun H hZ hS => ?_)
  have hZ : zn D vwCl d ([.inr (0, [.ref (d + 1), .ref (d + 2), .ref (d + 3), .ref (d + 4), .null, .null, .null, .null, .null, .int 0, .int 0]), aI cI 400, aI cI 400, aI cI 400, aI cI 400, aI cI 400]) H := hZ
  refine zn_putF (k := 0) (j := 4) (v := .ref (d + 5)) C hin2 K hZ hS (show s.heap.size + 5 ≤ d + 6 by omega) rfl rfl (zmem uwX0) tyX0 tyX0_ok nmX0 (by decide) (C.tb flX0_24) rfl rfl rfl rfl rfl (Nat.le_of_ble_eq_true rfl) dX0_init_46 (fun H locs hZ hS => ?_)
  have hZ : zn D vwCl d ([.inr (0, [.ref (d + 1), .ref (d + 2), .ref (d + 3), .ref (d + 4), .ref (d + 5), .null, .null, .null, .null, .int 0, .int 0]), aI cI 400, aI cI 400, aI cI 400, aI cI 400, aI cI 400]) H := hZ
  refine zg_aload_n C dX0_init_49 rfl (lv_at hl 0 rfl) ?_
  refine zg_sipush C dX0_init_50 (by decide) ?_
  refine zn_newa (n := 400) (t0 := 0) (a0 := (400, .inl (fun _ => 0))) C K hZ hS acI rfl rfl (fun h => h) rfl (by decide) (by decide) (Nat.le_of_ble_eq_true rfl) (Nat.le_of_ble_eq_true rfl) rfl dX0_init_53 (fun H hZ hS => ?_)
  have hZ : zn D vwCl d ([.inr (0, [.ref (d + 1), .ref (d + 2), .ref (d + 3), .ref (d + 4), .ref (d + 5), .null, .null, .null, .null, .int 0, .int 0]), aI cI 400, aI cI 400, aI cI 400, aI cI 400, aI cI 400, aI cI 400]) H := hZ
  refine zn_putF (k := 0) (j := 5) (v := .ref (d + 6)) C hin2 K hZ hS (show s.heap.size + 6 ≤ d + 7 by omega) rfl rfl (zmem uwX0) tyX0 tyX0_ok nmX0 (by decide) (C.tb flX0_27) rfl rfl rfl rfl rfl (Nat.le_of_ble_eq_true rfl) dX0_init_55 (fun H locs hZ hS => ?_)
  have hZ : zn D vwCl d ([.inr (0, [.ref (d + 1), .ref (d + 2), .ref (d + 3), .ref (d + 4), .ref (d + 5), .ref (d + 6), .null, .null, .null, .int 0, .int 0]), aI cI 400, aI cI 400, aI cI 400, aI cI 400, aI cI 400, aI cI 400]) H := hZ
  refine zg_aload_n C dX0_init_58 rfl (lv_at hl 0 rfl) ?_
  refine zg_sipush C dX0_init_59 (by decide) ?_
  refine zn_newa (n := 400) (t0 := 0) (a0 := (400, .inl (fun _ => 0))) C K hZ hS acI rfl rfl (fun h => h) rfl (by decide) (by decide) (Nat.le_of_ble_eq_true rfl) (Nat.le_of_ble_eq_true rfl) rfl dX0_init_62 (fun H hZ hS => ?_)
  have hZ : zn D vwCl d ([.inr (0, [.ref (d + 1), .ref (d + 2), .ref (d + 3), .ref (d + 4), .ref (d + 5), .ref (d + 6), .null, .null, .null, .int 0, .int 0]), aI cI 400, aI cI 400, aI cI 400, aI cI 400, aI cI 400, aI cI 400, aI cI 400]) H := hZ
  refine zn_putF (k := 0) (j := 6) (v := .ref (d + 7)) C hin2 K hZ hS (show s.heap.size + 7 ≤ d + 8 by omega) rfl rfl (zmem uwX0) tyX0 tyX0_ok nmX0 (by decide) (C.tb flX0_30) rfl rfl rfl rfl rfl (Nat.le_of_ble_eq_true rfl) dX0_init_64 (fun H locs hZ hS => ?_)
  have hZ : zn D vwCl d ([.inr (0, [.ref (d + 1), .ref (d + 2), .ref (d + 3), .ref (d + 4), .ref (d + 5), .ref (d + 6), .ref (d + 7), .null, .null, .int 0, .int 0]), aI cI 400, aI cI 400, aI cI 400, aI cI 400, aI cI 400, aI cI 400, aI cI 400]) H := hZ
  refine zg_aload_n C dX0_init_67 rfl (lv_at hl 0 rfl) ?_
  refine zg_sipush C dX0_init_68 (by decide) ?_
  refine zn_newa (n := 400) (t0 := 1) (a0 := (400, .inl (fun _ => 0))) C K hZ hS acZ rfl rfl (fun h => h) rfl (by decide) (by decide) (Nat.le_of_ble_eq_true rfl) (Nat.le_of_ble_eq_true rfl) rfl dX0_init_71 (fun H hZ hS => ?_)
  have hZ : zn D vwCl d ([.inr (0, [.ref (d + 1), .ref (d + 2), .ref (d + 3), .ref (d + 4), .ref (d + 5), .ref (d + 6), .ref (d + 7), .null, .null, .int 0, .int 0]), aI cI 400, aI cI 400, aI cI 400, aI cI 400, aI cI 400, aI cI 400, aI cI 400, aI cZ 400]) H := hZ
  refine zn_putF (k := 0) (j := 7) (v := .ref (d + 8)) C hin2 K hZ hS (show s.heap.size + 8 ≤ d + 9 by omega) rfl rfl (zmem uwX0) tyX0 tyX0_ok nmX0 (by decide) (C.tb flX0_33) rfl rfl rfl rfl rfl (Nat.le_of_ble_eq_true rfl) dX0_init_73 (fun H locs hZ hS => ?_)
  have hZ : zn D vwCl d ([.inr (0, [.ref (d + 1), .ref (d + 2), .ref (d + 3), .ref (d + 4), .ref (d + 5), .ref (d + 6), .ref (d + 7), .ref (d + 8), .null, .int 0, .int 0]), aI cI 400, aI cI 400, aI cI 400, aI cI 400, aI cI 400, aI cI 400, aI cI 400, aI cZ 400]) H := hZ
  refine zg_aload_n C dX0_init_76 rfl (lv_at hl 0 rfl) ?_
  refine zg_sipush C dX0_init_77 (by decide) ?_
  refine zn_newa (n := 400) (t0 := 0) (a0 := (400, .inl (fun _ => 0))) C K hZ hS acI rfl rfl (fun h => h) rfl (by decide) (by decide) (Nat.le_of_ble_eq_true rfl) (Nat.le_of_ble_eq_true rfl) rfl dX0_init_80 (fun H hZ hS => ?_)
  have hZ : zn D vwCl d ([.inr (0, [.ref (d + 1), .ref (d + 2), .ref (d + 3), .ref (d + 4), .ref (d + 5), .ref (d + 6), .ref (d + 7), .ref (d + 8), .null, .int 0, .int 0]), aI cI 400, aI cI 400, aI cI 400, aI cI 400, aI cI 400, aI cI 400, aI cI 400, aI cZ 400, aI cI 400]) H := hZ
  refine zn_putF (k := 0) (j := 8) (v := .ref (d + 9)) C hin2 K hZ hS (show s.heap.size + 9 ≤ d + 10 by omega) rfl rfl (zmem uwX0) tyX0 tyX0_ok nmX0 (by decide) (C.tb flX0_37) rfl rfl rfl rfl rfl (Nat.le_of_ble_eq_true rfl) dX0_init_82 (fun H locs hZ hS => ?_)
  have hZ : zn D vwCl d ([.inr (0, [.ref (d + 1), .ref (d + 2), .ref (d + 3), .ref (d + 4), .ref (d + 5), .ref (d + 6), .ref (d + 7), .ref (d + 8), .ref (d + 9), .int 0, .int 0]), aI cI 400, aI cI 400, aI cI 400, aI cI 400, aI cI 400, aI cI 400, aI cI 400, aI cZ 400, aI cI 400]) H := hZ
  exact zn_ret C h0 hZ hS rfl dX0_init_85

set_option maxHeartbeats 4000000 in
set_option maxRecDepth 100000 in
theorem kX1_init (l : Launch) {D : va_G} {cI cZ cR : ClassId} (d : Nat)  : zi l D vwCl (tyS cI cZ cR) yX1_init wsX1_init ({ frames := 1, cells := 4, slots := 6000, locals := 12 }) 4 6000 d [] 1 [.null, .null, .null, .null, .int 0] ([.inr (1, [.ref (d + 1), .ref (d + 2), .ref (d + 3), .ref (d + 4), .int 0]), aI cI 4800, aI cI 400, aI cI 400, aI cI 400]) (fun _ => True) := by
  refine zi_of (cc := cX1_init) (maxL := 1) (own := RX1) (by decide) rfl rfl rfl (Nat.le_of_ble_eq_true rfl) rfl ?_
  intro p e s m below meth c ls C hin2 K _ h0 hZ hS hl
  refine zg_aload_n C dX1_init_0 rfl (lv_at hl 0 rfl) ?_
  refine zn_obj C olX1_3 olI olC hl.1 dX1_init_1 (Nat.le_of_ble_eq_true rfl) (Nat.le_of_ble_eq_true rfl) ?_
  refine zg_aload_n C dX1_init_4 rfl (lv_at hl 0 rfl) ?_
  refine zg_sipush C dX1_init_5 (by decide) ?_
  refine zn_newa (n := 4800) (t0 := 0) (a0 := (4800, .inl (fun _ => 0))) C K hZ hS acI rfl rfl (fun h => h) rfl (by decide) (by decide) (Nat.le_of_ble_eq_true rfl) (Nat.le_of_ble_eq_true rfl) rfl dX1_init_8 (fun H hZ hS => ?_)
  have hZ : zn D vwCl d ([.inr (1, [.null, .null, .null, .null, .int 0]), aI cI 4800]) H := hZ
  refine zn_putF (k := 0) (j := 0) (v := .ref (d + 1)) C hin2 K hZ hS (show s.heap.size + 1 ≤ d + 2 by omega) rfl rfl (zmem uwX1) tyX1 tyX1_ok nmX1 (by decide) (C.tb flX1_9) rfl rfl rfl rfl rfl (Nat.le_of_ble_eq_true rfl) dX1_init_10 (fun H locs hZ hS => ?_)
  have hZ : zn D vwCl d ([.inr (1, [.ref (d + 1), .null, .null, .null, .int 0]), aI cI 4800]) H := hZ
  refine zg_aload_n C dX1_init_13 rfl (lv_at hl 0 rfl) ?_
  refine zg_sipush C dX1_init_14 (by decide) ?_
  refine zn_newa (n := 400) (t0 := 0) (a0 := (400, .inl (fun _ => 0))) C K hZ hS acI rfl rfl (fun h => h) rfl (by decide) (by decide) (Nat.le_of_ble_eq_true rfl) (Nat.le_of_ble_eq_true rfl) rfl dX1_init_17 (fun H hZ hS => ?_)
  have hZ : zn D vwCl d ([.inr (1, [.ref (d + 1), .null, .null, .null, .int 0]), aI cI 4800, aI cI 400]) H := hZ
  refine zn_putF (k := 0) (j := 1) (v := .ref (d + 2)) C hin2 K hZ hS (show s.heap.size + 2 ≤ d + 3 by omega) rfl rfl (zmem uwX1) tyX1 tyX1_ok nmX1 (by decide) (C.tb flX1_15) rfl rfl rfl rfl rfl (Nat.le_of_ble_eq_true rfl) dX1_init_19 (fun H locs hZ hS => ?_)
  have hZ : zn D vwCl d ([.inr (1, [.ref (d + 1), .ref (d + 2), .null, .null, .int 0]), aI cI 4800, aI cI 400]) H := hZ
  refine zg_aload_n C dX1_init_22 rfl (lv_at hl 0 rfl) ?_
  refine zg_sipush C dX1_init_23 (by decide) ?_
  refine zn_newa (n := 400) (t0 := 0) (a0 := (400, .inl (fun _ => 0))) C K hZ hS acI rfl rfl (fun h => h) rfl (by decide) (by decide) (Nat.le_of_ble_eq_true rfl) (Nat.le_of_ble_eq_true rfl) rfl dX1_init_26 (fun H hZ hS => ?_)
  have hZ : zn D vwCl d ([.inr (1, [.ref (d + 1), .ref (d + 2), .null, .null, .int 0]), aI cI 4800, aI cI 400, aI cI 400]) H := hZ
  refine zn_putF (k := 0) (j := 2) (v := .ref (d + 3)) C hin2 K hZ hS (show s.heap.size + 3 ≤ d + 4 by omega) rfl rfl (zmem uwX1) tyX1 tyX1_ok nmX1 (by decide) (C.tb flX1_18) rfl rfl rfl rfl rfl (Nat.le_of_ble_eq_true rfl) dX1_init_28 (fun H locs hZ hS => ?_)
  have hZ : zn D vwCl d ([.inr (1, [.ref (d + 1), .ref (d + 2), .ref (d + 3), .null, .int 0]), aI cI 4800, aI cI 400, aI cI 400]) H := hZ
  refine zg_aload_n C dX1_init_31 rfl (lv_at hl 0 rfl) ?_
  refine zg_sipush C dX1_init_32 (by decide) ?_
  refine zn_newa (n := 400) (t0 := 0) (a0 := (400, .inl (fun _ => 0))) C K hZ hS acI rfl rfl (fun h => h) rfl (by decide) (by decide) (Nat.le_of_ble_eq_true rfl) (Nat.le_of_ble_eq_true rfl) rfl dX1_init_35 (fun H hZ hS => ?_)
  have hZ : zn D vwCl d ([.inr (1, [.ref (d + 1), .ref (d + 2), .ref (d + 3), .null, .int 0]), aI cI 4800, aI cI 400, aI cI 400, aI cI 400]) H := hZ
  refine zn_putF (k := 0) (j := 3) (v := .ref (d + 4)) C hin2 K hZ hS (show s.heap.size + 4 ≤ d + 5 by omega) rfl rfl (zmem uwX1) tyX1 tyX1_ok nmX1 (by decide) (C.tb flX1_21) rfl rfl rfl rfl rfl (Nat.le_of_ble_eq_true rfl) dX1_init_37 (fun H locs hZ hS => ?_)
  have hZ : zn D vwCl d ([.inr (1, [.ref (d + 1), .ref (d + 2), .ref (d + 3), .ref (d + 4), .int 0]), aI cI 4800, aI cI 400, aI cI 400, aI cI 400]) H := hZ
  exact zn_ret C h0 hZ hS rfl dX1_init_40

set_option maxHeartbeats 4000000 in
set_option maxRecDepth 100000 in
theorem kX3_init (l : Launch) {D : va_G} {cI cZ cR : ClassId} (d : Nat)  : zi l D vwCl (tyS cI cZ cR) yX3_init wsX3_init ({ frames := 1, cells := 2, slots := 600, locals := 12 }) 2 600 d [] 3 [.null, .null, .int 0, .int 0] ([.inr (3, [.ref (d + 1), .ref (d + 2), .int 0, .int 0]), aI cI 300, aI cI 300]) (fun _ => True) := by
  refine zi_of (cc := cX3_init) (maxL := 1) (own := RX3) (by decide) rfl rfl rfl (Nat.le_of_ble_eq_true rfl) rfl ?_
  intro p e s m below meth c ls C hin2 K _ h0 hZ hS hl
  refine zg_aload_n C dX3_init_0 rfl (lv_at hl 0 rfl) ?_
  refine zn_obj C olX3_3 olI olC hl.1 dX3_init_1 (Nat.le_of_ble_eq_true rfl) (Nat.le_of_ble_eq_true rfl) ?_
  refine zg_aload_n C dX3_init_4 rfl (lv_at hl 0 rfl) ?_
  refine zg_sipush C dX3_init_5 (by decide) ?_
  refine zn_newa (n := 300) (t0 := 0) (a0 := (300, .inl (fun _ => 0))) C K hZ hS acI rfl rfl (fun h => h) rfl (by decide) (by decide) (Nat.le_of_ble_eq_true rfl) (Nat.le_of_ble_eq_true rfl) rfl dX3_init_8 (fun H hZ hS => ?_)
  have hZ : zn D vwCl d ([.inr (3, [.null, .null, .int 0, .int 0]), aI cI 300]) H := hZ
  refine zn_putF (k := 0) (j := 0) (v := .ref (d + 1)) C hin2 K hZ hS (show s.heap.size + 1 ≤ d + 2 by omega) rfl rfl (zmem uwX3) tyX3 tyX3_ok nmX3 (by decide) (C.tb flX3_9) rfl rfl rfl rfl rfl (Nat.le_of_ble_eq_true rfl) dX3_init_10 (fun H locs hZ hS => ?_)
  have hZ : zn D vwCl d ([.inr (3, [.ref (d + 1), .null, .int 0, .int 0]), aI cI 300]) H := hZ
  refine zg_aload_n C dX3_init_13 rfl (lv_at hl 0 rfl) ?_
  refine zg_sipush C dX3_init_14 (by decide) ?_
  refine zn_newa (n := 300) (t0 := 0) (a0 := (300, .inl (fun _ => 0))) C K hZ hS acI rfl rfl (fun h => h) rfl (by decide) (by decide) (Nat.le_of_ble_eq_true rfl) (Nat.le_of_ble_eq_true rfl) rfl dX3_init_17 (fun H hZ hS => ?_)
  have hZ : zn D vwCl d ([.inr (3, [.ref (d + 1), .null, .int 0, .int 0]), aI cI 300, aI cI 300]) H := hZ
  refine zn_putF (k := 0) (j := 1) (v := .ref (d + 2)) C hin2 K hZ hS (show s.heap.size + 2 ≤ d + 3 by omega) rfl rfl (zmem uwX3) tyX3 tyX3_ok nmX3 (by decide) (C.tb flX3_15) rfl rfl rfl rfl rfl (Nat.le_of_ble_eq_true rfl) dX3_init_19 (fun H locs hZ hS => ?_)
  have hZ : zn D vwCl d ([.inr (3, [.ref (d + 1), .ref (d + 2), .int 0, .int 0]), aI cI 300, aI cI 300]) H := hZ
  exact zn_ret C h0 hZ hS rfl dX3_init_22

set_option maxHeartbeats 4000000 in
set_option maxRecDepth 100000 in
theorem lpX2_init_68 {l : Launch} {D : va_G} {cI cZ cR : ClassId} {p : Program} {e : Env} {s : State} {m : MethodId} {below : List Frame} {meth : Method} {c : Code} (d : Nat) (x : Int) (dD : Nat) (dP : Nat) {Q : State → Prop} (C : zk p s m (.ref d :: [.int (jI x), .ref dD, .ref dP] : List Value).toArray meth c cX2_init 5 (none) wsX2_init RX2) (K : va_K D vwCl (tyS cI cZ cR) s) (h0 : s.heap.size = d + 1) :
    ∀ (n : Nat) (i : Int) (H : Heap) (locs : List Loc) (ls : Array Slot), (400 - i).toNat < n → 0 ≤ i → i ≤ 400 → zn D vwCl d ([.inr (2, [.int (jI x), .ref dD, .ref dP, .int (jI x), .int 0, .int 0, .int 0, .ref (d + 1), .ref (d + 2), .ref (d + 3), .ref (d + 4), .ref (d + 5)]), aI cI 6, aI cZ 400, .inl (cI, 400, .inl (fun j => if j < i.toNat then jI (-1) else 0)), aI cI 4, aI cI 8]) H → va_S (fun q => d ≤ q) s.heap H locs → lv_has ls 5 [(0, .ref d), (1, .int (jI x)), (2, .ref dD), (3, .ref dP), (4, .int (jI i))] →
      (∀ (H : Heap) (locs : List Loc) (ls : Array Slot), zn D vwCl d ([.inr (2, [.int (jI x), .ref dD, .ref dP, .int (jI x), .int 0, .int 0, .int 0, .ref (d + 1), .ref (d + 2), .ref (d + 3), .ref (d + 4), .ref (d + 5)]), aI cI 6, aI cZ 400, .inl (cI, 400, .inl (fun _ => jI (-1))), aI cI 4, aI cI 8]) H → va_S (fun q => d ≤ q) s.heap H locs → lv_has ls 5 [(0, .ref d), (1, .int (jI x)), (2, .ref dD), (3, .ref dP), (4, .int (jI 400))] → W p l e ({ frames := 1, cells := 5, slots := 818, locals := 12 }) s m (.ref d :: [.int (jI x), .ref dD, .ref dP] : List Value).toArray below meth c H locs 5 818 Q (F0 m 90 ls [])) →
      W p l e ({ frames := 1, cells := 5, slots := 818, locals := 12 }) s m (.ref d :: [.int (jI x), .ref dD, .ref dP] : List Value).toArray below meth c H locs 5 818 Q (F0 m 68 ls []) := by
  intro n
  induction n with
  | zero => intro i H locs ls hn h1 h2 hZ hS hl kk; exact absurd hn (by omega)
  | succ n ih =>
    intro i H locs ls hn h1 h2 hZ hS hl kk
    refine zg_iload C dX2_init_68 (lv_at hl 4 rfl) ?_
    refine zg_sipush C dX2_init_70 (by decide) ?_
    refine zg_icmp_ge (tgt := 90) C (by omega) (by omega) (by omega) (by omega) dX2_init_73 (by decide) (fun c_1 => ?_) (fun c_1 => ?_)
    · have e9 : i = 400 := by omega
      subst e9
      refine kk _ _ _ ?_ hS (lv_sub hl [0, 1, 2, 3, 4] rfl)
      have h9 := zn_cong (k := 3) (n := 400) (g := fun _ => jI (-1)) hZ rfl (fun j hj => by simp; omega)
      exact h9
    · refine zg_aload_n C dX2_init_76 rfl (lv_at hl 0 rfl) ?_
      refine zn_get (k := 0) (j := 9) (v := .ref (d + 3)) C K hZ rfl rfl (zmem uwX2) (by decide) (C.tb flX2_19) rfl rfl dX2_init_77 ?_
      refine zg_iload C dX2_init_80 (lv_at hl 4 rfl) ?_
      refine zg_iconst C dX2_init_82 ?_
      refine zn_iast (k := 3) (n := 400) (t0 := 0) (i := i) (v := (-1)) C K hZ hS (show s.heap.size + 5 ≤ d + 6 by omega) rfl rfl (by decide) (by omega) (by omega) dX2_init_83 (fun H locs hZ hS => ?_)
      have hZ : zn D vwCl d ([.inr (2, [.int (jI x), .ref dD, .ref dP, .int (jI x), .int 0, .int 0, .int 0, .ref (d + 1), .ref (d + 2), .ref (d + 3), .ref (d + 4), .ref (d + 5)]), aI cI 6, aI cZ 400, .inl (cI, 400, .inl (fun j => if j < (i + 1).toNat then jI (-1) else 0)), aI cI 4, aI cI 8]) H := by
        have h9 := zn_cong (k := 3) (n := 400) (g := fun j => if j < (i + 1).toNat then jI (-1) else 0) hZ rfl (fun j _ => by by_cases h1 : j = i.toNat <;> by_cases h2 : j < i.toNat <;> by_cases h3 : j < (i + 1).toNat <;> simp [h1, h2, h3] <;> omega)
        exact h9
      refine zg_iinc (k := 4) (lv' := [(4, .int (jI (i + 1))), (0, .ref d), (1, .int (jI x)), (2, .ref dD), (3, .ref dP)]) C dX2_init_84 hl rfl (by decide) rfl (fun ls hl => ?_)
      refine zg_goto (tgt := 68) C dX2_init_87 (by decide) ?_
      exact ih (i + 1) _ _ _ (by omega) (by omega) (by omega) hZ hS (lv_sub hl [1, 2, 3, 4, 0] rfl) kk
set_option maxHeartbeats 4000000 in
set_option maxRecDepth 100000 in
theorem lpX2_init_93 {l : Launch} {D : va_G} {cI cZ cR : ClassId} {p : Program} {e : Env} {s : State} {m : MethodId} {below : List Frame} {meth : Method} {c : Code} (d : Nat) (x : Int) (dD : Nat) (dP : Nat) {Q : State → Prop} (C : zk p s m (.ref d :: [.int (jI x), .ref dD, .ref dP] : List Value).toArray meth c cX2_init 5 (none) wsX2_init RX2) (K : va_K D vwCl (tyS cI cZ cR) s) (h0 : s.heap.size = d + 1) :
    ∀ (n : Nat) (i : Int) (H : Heap) (locs : List Loc) (ls : Array Slot), (4 - i).toNat < n → 0 ≤ i → i ≤ 4 → zn D vwCl d ([.inr (2, [.int (jI x), .ref dD, .ref dP, .int (jI x), .int 0, .int 0, .int 0, .ref (d + 1), .ref (d + 2), .ref (d + 3), .ref (d + 4), .ref (d + 5)]), aI cI 6, aI cZ 400, .inl (cI, 400, .inl (fun _ => jI (-1))), .inl (cI, 4, .inl (fun j => if j < i.toNat then jI (-1) else 0)), aI cI 8]) H → va_S (fun q => d ≤ q) s.heap H locs → lv_has ls 5 [(0, .ref d), (1, .int (jI x)), (2, .ref dD), (3, .ref dP), (4, .int (jI i))] →
      (∀ (H : Heap) (locs : List Loc) (ls : Array Slot), zn D vwCl d ([.inr (2, [.int (jI x), .ref dD, .ref dP, .int (jI x), .int 0, .int 0, .int 0, .ref (d + 1), .ref (d + 2), .ref (d + 3), .ref (d + 4), .ref (d + 5)]), aI cI 6, aI cZ 400, .inl (cI, 400, .inl (fun _ => jI (-1))), .inl (cI, 4, .inl (fun _ => jI (-1))), aI cI 8]) H → va_S (fun q => d ≤ q) s.heap H locs → lv_has ls 5 [(0, .ref d), (1, .int (jI x)), (2, .ref dD), (3, .ref dP), (4, .int (jI 4))] → W p l e ({ frames := 1, cells := 5, slots := 818, locals := 12 }) s m (.ref d :: [.int (jI x), .ref dD, .ref dP] : List Value).toArray below meth c H locs 5 818 Q (F0 m 113 ls [])) →
      W p l e ({ frames := 1, cells := 5, slots := 818, locals := 12 }) s m (.ref d :: [.int (jI x), .ref dD, .ref dP] : List Value).toArray below meth c H locs 5 818 Q (F0 m 93 ls []) := by
  intro n
  induction n with
  | zero => intro i H locs ls hn h1 h2 hZ hS hl kk; exact absurd hn (by omega)
  | succ n ih =>
    intro i H locs ls hn h1 h2 hZ hS hl kk
    refine zg_iload C dX2_init_93 (lv_at hl 4 rfl) ?_
    refine zg_iconst C dX2_init_95 ?_
    refine zg_icmp_ge (tgt := 113) C (by omega) (by omega) (by omega) (by omega) dX2_init_96 (by decide) (fun c_2 => ?_) (fun c_2 => ?_)
    · have e9 : i = 4 := by omega
      subst e9
      refine kk _ _ _ ?_ hS (lv_sub hl [0, 1, 2, 3, 4] rfl)
      have h9 := zn_cong (k := 4) (n := 4) (g := fun _ => jI (-1)) hZ rfl (fun j hj => by simp; omega)
      exact h9
    · refine zg_aload_n C dX2_init_99 rfl (lv_at hl 0 rfl) ?_
      refine zn_get (k := 0) (j := 10) (v := .ref (d + 4)) C K hZ rfl rfl (zmem uwX2) (by decide) (C.tb flX2_22) rfl rfl dX2_init_100 ?_
      refine zg_iload C dX2_init_103 (lv_at hl 4 rfl) ?_
      refine zg_iconst C dX2_init_105 ?_
      refine zn_iast (k := 4) (n := 4) (t0 := 0) (i := i) (v := (-1)) C K hZ hS (show s.heap.size + 5 ≤ d + 6 by omega) rfl rfl (by decide) (by omega) (by omega) dX2_init_106 (fun H locs hZ hS => ?_)
      have hZ : zn D vwCl d ([.inr (2, [.int (jI x), .ref dD, .ref dP, .int (jI x), .int 0, .int 0, .int 0, .ref (d + 1), .ref (d + 2), .ref (d + 3), .ref (d + 4), .ref (d + 5)]), aI cI 6, aI cZ 400, .inl (cI, 400, .inl (fun _ => jI (-1))), .inl (cI, 4, .inl (fun j => if j < (i + 1).toNat then jI (-1) else 0)), aI cI 8]) H := by
        have h9 := zn_cong (k := 4) (n := 4) (g := fun j => if j < (i + 1).toNat then jI (-1) else 0) hZ rfl (fun j _ => by by_cases h1 : j = i.toNat <;> by_cases h2 : j < i.toNat <;> by_cases h3 : j < (i + 1).toNat <;> simp [h1, h2, h3] <;> omega)
        exact h9
      refine zg_iinc (k := 4) (lv' := [(4, .int (jI (i + 1))), (0, .ref d), (1, .int (jI x)), (2, .ref dD), (3, .ref dP)]) C dX2_init_107 hl rfl (by decide) rfl (fun ls hl => ?_)
      refine zg_goto (tgt := 93) C dX2_init_110 (by decide) ?_
      exact ih (i + 1) _ _ _ (by omega) (by omega) (by omega) hZ hS (lv_sub hl [1, 2, 3, 4, 0] rfl) kk
set_option maxHeartbeats 4000000 in
set_option maxRecDepth 100000 in
theorem kX2_init (l : Launch) {D : va_G} {cI cZ cR : ClassId} (d : Nat) (x : Int) (dD : Nat) (dP : Nat) : zi l D vwCl (tyS cI cZ cR) yX2_init wsX2_init ({ frames := 1, cells := 5, slots := 818, locals := 12 }) 5 818 d [.int (jI x), .ref dD, .ref dP] 2 [.int 0, .null, .null, .int 0, .int 0, .int 0, .int 0, .null, .null, .null, .null, .null] ([.inr (2, [.int (jI x), .ref dD, .ref dP, .int (jI x), .int 0, .int 0, .int 0, .ref (d + 1), .ref (d + 2), .ref (d + 3), .ref (d + 4), .ref (d + 5)]), aI cI 6, aI cZ 400, .inl (cI, 400, .inl (fun _ => jI (-1))), .inl (cI, 4, .inl (fun _ => jI (-1))), aI cI 8]) (fun _ => True) := by
  refine zi_of (cc := cX2_init) (maxL := 5) (own := RX2) (by decide) rfl rfl rfl (Nat.le_of_ble_eq_true rfl) rfl ?_
  intro p e s m below meth c ls C hin2 K _ h0 hZ hS hl
  refine zg_aload_n C dX2_init_0 rfl (lv_at hl 0 rfl) ?_
  refine zn_obj C olX2_3 olI olC hl.1 dX2_init_1 (Nat.le_of_ble_eq_true rfl) (Nat.le_of_ble_eq_true rfl) ?_
  refine zg_aload_n C dX2_init_4 rfl (lv_at hl 0 rfl) ?_
  refine zg_bipush C dX2_init_5 (by decide) ?_
  refine zn_newa (n := 6) (t0 := 0) (a0 := (6, .inl (fun _ => 0))) C K hZ hS acI rfl rfl (fun h => h) rfl (by decide) (by decide) (Nat.le_of_ble_eq_true rfl) (Nat.le_of_ble_eq_true rfl) rfl dX2_init_7 (fun H hZ hS => ?_)
  have hZ : zn D vwCl d ([.inr (2, [.int 0, .null, .null, .int 0, .int 0, .int 0, .int 0, .null, .null, .null, .null, .null]), aI cI 6]) H := hZ
  refine zn_putF (k := 0) (j := 7) (v := .ref (d + 1)) C hin2 K hZ hS (show s.heap.size + 1 ≤ d + 2 by omega) rfl rfl (zmem uwX2) tyX2 tyX2_ok nmX2 (by decide) (C.tb flX2_9) rfl rfl rfl rfl rfl (Nat.le_of_ble_eq_true rfl) dX2_init_9 (fun H locs hZ hS => ?_)
  have hZ : zn D vwCl d ([.inr (2, [.int 0, .null, .null, .int 0, .int 0, .int 0, .int 0, .ref (d + 1), .null, .null, .null, .null]), aI cI 6]) H := hZ
  refine zg_aload_n C dX2_init_12 rfl (lv_at hl 0 rfl) ?_
  refine zg_sipush C dX2_init_13 (by decide) ?_
  refine zn_newa (n := 400) (t0 := 1) (a0 := (400, .inl (fun _ => 0))) C K hZ hS acZ rfl rfl (fun h => h) rfl (by decide) (by decide) (Nat.le_of_ble_eq_true rfl) (Nat.le_of_ble_eq_true rfl) rfl dX2_init_16 (fun H hZ hS => ?_)
  have hZ : zn D vwCl d ([.inr (2, [.int 0, .null, .null, .int 0, .int 0, .int 0, .int 0, .ref (d + 1), .null, .null, .null, .null]), aI cI 6, aI cZ 400]) H := hZ
  refine zn_putF (k := 0) (j := 8) (v := .ref (d + 2)) C hin2 K hZ hS (show s.heap.size + 2 ≤ d + 3 by omega) rfl rfl (zmem uwX2) tyX2 tyX2_ok nmX2 (by decide) (C.tb flX2_15) rfl rfl rfl rfl rfl (Nat.le_of_ble_eq_true rfl) dX2_init_18 (fun H locs hZ hS => ?_)
  have hZ : zn D vwCl d ([.inr (2, [.int 0, .null, .null, .int 0, .int 0, .int 0, .int 0, .ref (d + 1), .ref (d + 2), .null, .null, .null]), aI cI 6, aI cZ 400]) H := hZ
  refine zg_aload_n C dX2_init_21 rfl (lv_at hl 0 rfl) ?_
  refine zg_sipush C dX2_init_22 (by decide) ?_
  refine zn_newa (n := 400) (t0 := 0) (a0 := (400, .inl (fun _ => 0))) C K hZ hS acI rfl rfl (fun h => h) rfl (by decide) (by decide) (Nat.le_of_ble_eq_true rfl) (Nat.le_of_ble_eq_true rfl) rfl dX2_init_25 (fun H hZ hS => ?_)
  have hZ : zn D vwCl d ([.inr (2, [.int 0, .null, .null, .int 0, .int 0, .int 0, .int 0, .ref (d + 1), .ref (d + 2), .null, .null, .null]), aI cI 6, aI cZ 400, aI cI 400]) H := hZ
  refine zn_putF (k := 0) (j := 9) (v := .ref (d + 3)) C hin2 K hZ hS (show s.heap.size + 3 ≤ d + 4 by omega) rfl rfl (zmem uwX2) tyX2 tyX2_ok nmX2 (by decide) (C.tb flX2_19) rfl rfl rfl rfl rfl (Nat.le_of_ble_eq_true rfl) dX2_init_27 (fun H locs hZ hS => ?_)
  have hZ : zn D vwCl d ([.inr (2, [.int 0, .null, .null, .int 0, .int 0, .int 0, .int 0, .ref (d + 1), .ref (d + 2), .ref (d + 3), .null, .null]), aI cI 6, aI cZ 400, aI cI 400]) H := hZ
  refine zg_aload_n C dX2_init_30 rfl (lv_at hl 0 rfl) ?_
  refine zg_iconst C dX2_init_31 ?_
  refine zn_newa (n := 4) (t0 := 0) (a0 := (4, .inl (fun _ => 0))) C K hZ hS acI rfl rfl (fun h => h) rfl (by decide) (by decide) (Nat.le_of_ble_eq_true rfl) (Nat.le_of_ble_eq_true rfl) rfl dX2_init_32 (fun H hZ hS => ?_)
  have hZ : zn D vwCl d ([.inr (2, [.int 0, .null, .null, .int 0, .int 0, .int 0, .int 0, .ref (d + 1), .ref (d + 2), .ref (d + 3), .null, .null]), aI cI 6, aI cZ 400, aI cI 400, aI cI 4]) H := hZ
  refine zn_putF (k := 0) (j := 10) (v := .ref (d + 4)) C hin2 K hZ hS (show s.heap.size + 4 ≤ d + 5 by omega) rfl rfl (zmem uwX2) tyX2 tyX2_ok nmX2 (by decide) (C.tb flX2_22) rfl rfl rfl rfl rfl (Nat.le_of_ble_eq_true rfl) dX2_init_34 (fun H locs hZ hS => ?_)
  have hZ : zn D vwCl d ([.inr (2, [.int 0, .null, .null, .int 0, .int 0, .int 0, .int 0, .ref (d + 1), .ref (d + 2), .ref (d + 3), .ref (d + 4), .null]), aI cI 6, aI cZ 400, aI cI 400, aI cI 4]) H := hZ
  refine zg_aload_n C dX2_init_37 rfl (lv_at hl 0 rfl) ?_
  refine zg_bipush C dX2_init_38 (by decide) ?_
  refine zn_newa (n := 8) (t0 := 0) (a0 := (8, .inl (fun _ => 0))) C K hZ hS acI rfl rfl (fun h => h) rfl (by decide) (by decide) (Nat.le_of_ble_eq_true rfl) (Nat.le_of_ble_eq_true rfl) rfl dX2_init_40 (fun H hZ hS => ?_)
  have hZ : zn D vwCl d ([.inr (2, [.int 0, .null, .null, .int 0, .int 0, .int 0, .int 0, .ref (d + 1), .ref (d + 2), .ref (d + 3), .ref (d + 4), .null]), aI cI 6, aI cZ 400, aI cI 400, aI cI 4, aI cI 8]) H := hZ
  refine zn_putF (k := 0) (j := 11) (v := .ref (d + 5)) C hin2 K hZ hS (show s.heap.size + 5 ≤ d + 6 by omega) rfl rfl (zmem uwX2) tyX2 tyX2_ok nmX2 (by decide) (C.tb flX2_25) rfl rfl rfl rfl rfl (Nat.le_of_ble_eq_true rfl) dX2_init_42 (fun H locs hZ hS => ?_)
  have hZ : zn D vwCl d ([.inr (2, [.int 0, .null, .null, .int 0, .int 0, .int 0, .int 0, .ref (d + 1), .ref (d + 2), .ref (d + 3), .ref (d + 4), .ref (d + 5)]), aI cI 6, aI cZ 400, aI cI 400, aI cI 4, aI cI 8]) H := hZ
  refine zg_aload_n C dX2_init_45 rfl (lv_at hl 0 rfl) ?_
  refine zg_iload_n C dX2_init_46 rfl (lv_at hl 1 rfl) ?_
  refine zn_putF (k := 0) (j := 0) (v := .int (jI x)) C hin2 K hZ hS (show s.heap.size + 5 ≤ d + 6 by omega) rfl rfl (zmem uwX2) tyX2 tyX2_ok nmX2 (by decide) (C.tb flX2_28) rfl rfl rfl rfl rfl (Nat.le_of_ble_eq_true rfl) dX2_init_47 (fun H locs hZ hS => ?_)
  have hZ : zn D vwCl d ([.inr (2, [.int (jI x), .null, .null, .int 0, .int 0, .int 0, .int 0, .ref (d + 1), .ref (d + 2), .ref (d + 3), .ref (d + 4), .ref (d + 5)]), aI cI 6, aI cZ 400, aI cI 400, aI cI 4, aI cI 8]) H := hZ
  refine zg_aload_n C dX2_init_50 rfl (lv_at hl 0 rfl) ?_
  refine zg_aload_n C dX2_init_51 rfl (lv_at hl 2 rfl) ?_
  refine zn_putF (k := 0) (j := 1) (v := .ref dD) C hin2 K hZ hS (show s.heap.size + 5 ≤ d + 6 by omega) rfl rfl (zmem uwX2) tyX2 tyX2_ok nmX2 (by decide) (C.tb flX2_32) rfl rfl rfl rfl rfl (Nat.le_of_ble_eq_true rfl) dX2_init_52 (fun H locs hZ hS => ?_)
  have hZ : zn D vwCl d ([.inr (2, [.int (jI x), .ref dD, .null, .int 0, .int 0, .int 0, .int 0, .ref (d + 1), .ref (d + 2), .ref (d + 3), .ref (d + 4), .ref (d + 5)]), aI cI 6, aI cZ 400, aI cI 400, aI cI 4, aI cI 8]) H := hZ
  refine zg_aload_n C dX2_init_55 rfl (lv_at hl 0 rfl) ?_
  refine zg_aload_n C dX2_init_56 rfl (lv_at hl 3 rfl) ?_
  refine zn_putF (k := 0) (j := 2) (v := .ref dP) C hin2 K hZ hS (show s.heap.size + 5 ≤ d + 6 by omega) rfl rfl (zmem uwX2) tyX2 tyX2_ok nmX2 (by decide) (C.tb flX2_36) rfl rfl rfl rfl rfl (Nat.le_of_ble_eq_true rfl) dX2_init_57 (fun H locs hZ hS => ?_)
  have hZ : zn D vwCl d ([.inr (2, [.int (jI x), .ref dD, .ref dP, .int 0, .int 0, .int 0, .int 0, .ref (d + 1), .ref (d + 2), .ref (d + 3), .ref (d + 4), .ref (d + 5)]), aI cI 6, aI cZ 400, aI cI 400, aI cI 4, aI cI 8]) H := hZ
  refine zg_aload_n C dX2_init_60 rfl (lv_at hl 0 rfl) ?_
  refine zg_iload_n C dX2_init_61 rfl (lv_at hl 1 rfl) ?_
  refine zn_put (k := 0) (j := 3) (v := .int (jI x)) C K hZ hS (show s.heap.size + 5 ≤ d + 6 by omega) rfl rfl (zmem uwX2) tyX2 tyX2_ok nmX2 (by decide) (C.tb flX2_40) rfl rfl rfl rfl rfl (Nat.le_of_ble_eq_true rfl) dX2_init_62 (fun H locs hZ hS => ?_)
  have hZ : zn D vwCl d ([.inr (2, [.int (jI x), .ref dD, .ref dP, .int (jI x), .int 0, .int 0, .int 0, .ref (d + 1), .ref (d + 2), .ref (d + 3), .ref (d + 4), .ref (d + 5)]), aI cI 6, aI cZ 400, aI cI 400, aI cI 4, aI cI 8]) H := hZ
  refine zg_iconst C dX2_init_65 ?_
  refine zg_istore (lv' := [(4, .int (jI 0)), (0, .ref d), (1, .int (jI x)), (2, .ref dD), (3, .ref dP)]) C dX2_init_66 hl (by decide) rfl (fun ls hl => ?_)
  refine lpX2_init_68 d x dD dP C K h0 401 0 _ _ _ (by omega) (by omega) (by omega) ?_ hS (lv_sub hl [1, 2, 3, 4, 0] rfl) (fun H locs ls hZ hS hl => ?_)
  · have h9 := zn_cong (k := 3) (n := 400) (g := fun j => if j < (0 : Int).toNat then jI (-1) else 0) hZ rfl (fun j _ => by simp)
    exact h9
  refine zg_iconst C dX2_init_90 ?_
  refine zg_istore (lv' := [(4, .int (jI 0)), (0, .ref d), (1, .int (jI x)), (2, .ref dD), (3, .ref dP)]) C dX2_init_91 hl (by decide) rfl (fun ls hl => ?_)
  refine lpX2_init_93 d x dD dP C K h0 5 0 _ _ _ (by omega) (by omega) (by omega) ?_ hS (lv_sub hl [1, 2, 3, 4, 0] rfl) (fun H locs ls hZ hS hl => ?_)
  · have h9 := zn_cong (k := 4) (n := 4) (g := fun j => if j < (0 : Int).toNat then jI (-1) else 0) hZ rfl (fun j _ => by simp)
    exact h9
  exact zn_ret C h0 hZ hS rfl dX2_init_113

set_option maxHeartbeats 4000000 in
set_option maxRecDepth 100000 in
theorem lpX5_init_266 {l : Launch} {D : va_G} {cI cZ cR : ClassId} {p : Program} {e : Env} {s : State} {m : MethodId} {below : List Frame} {meth : Method} {c : Code} (d : Nat)  {Q : State → Prop} (C : zk p s m (.ref d :: [] : List Value).toArray meth c cX5_init 2 (none) wsX5_init RX5) (K : va_K D vwCl (tyS cI cZ cR) s) (h0 : s.heap.size = d + 1) :
    ∀ (n : Nat) (i : Int) (H : Heap) (locs : List Loc) (ls : Array Slot), (24 - i).toNat < n → 0 ≤ i → i ≤ 24 → zn D vwCl d ([.inr (5, [.int 0, .int 0, .ref (d + 1), .ref (d + 2), .ref (d + 3), .ref (d + 4), .ref (d + 5), .ref (d + 6), .ref (d + 7), .ref (d + 8), .ref (d + 9), .ref (d + 10), .ref (d + 11), .ref (d + 12), .ref (d + 13), .int 0, .ref (d + 14), .ref (d + 15), .ref (d + 16), .ref (d + 17), .ref (d + 18), .ref (d + 19), .ref (d + 20), .ref (d + 21), .ref (d + 22), .int 0, .ref (d + 23), .ref (d + 24), .int 0, .ref (d + 25), .ref (d + 26), .ref (d + 27), .int 0]), aI cI 400, aI cI 400, aI cI 400, aI cI 400, aI cI 400, aI cI 400, aI cI 400, aI cZ 400, aI cZ 400, aI cI 400, aI cI 4800, aI cI 4800, aI cI 4800, aI cI 400, aI cI 400, aI cZ 2400, aI cZ 2400, aI cI 2400, aI cI 36, aI cI 6, .inl (cI, 6, .inl (fun j => jI (if j < 6 then (j : Int) else 0))), .inl (cI, 24, .inl (fun j => if j < i.toNat then jI (-1) else 0)), aI cI 300, aI cI 300, aI cI 12, aI cI 12, aI cI 12]) H → va_S (fun q => d ≤ q) s.heap H locs → lv_has ls 2 [(0, .ref d), (1, .int (jI i))] →
      (∀ (H : Heap) (locs : List Loc) (ls : Array Slot), zn D vwCl d ([.inr (5, [.int 0, .int 0, .ref (d + 1), .ref (d + 2), .ref (d + 3), .ref (d + 4), .ref (d + 5), .ref (d + 6), .ref (d + 7), .ref (d + 8), .ref (d + 9), .ref (d + 10), .ref (d + 11), .ref (d + 12), .ref (d + 13), .int 0, .ref (d + 14), .ref (d + 15), .ref (d + 16), .ref (d + 17), .ref (d + 18), .ref (d + 19), .ref (d + 20), .ref (d + 21), .ref (d + 22), .int 0, .ref (d + 23), .ref (d + 24), .int 0, .ref (d + 25), .ref (d + 26), .ref (d + 27), .int 0]), aI cI 400, aI cI 400, aI cI 400, aI cI 400, aI cI 400, aI cI 400, aI cI 400, aI cZ 400, aI cZ 400, aI cI 400, aI cI 4800, aI cI 4800, aI cI 4800, aI cI 400, aI cI 400, aI cZ 2400, aI cZ 2400, aI cI 2400, aI cI 36, aI cI 6, .inl (cI, 6, .inl (fun j => jI (if j < 6 then (j : Int) else 0))), .inl (cI, 24, .inl (fun _ => jI (-1))), aI cI 300, aI cI 300, aI cI 12, aI cI 12, aI cI 12]) H → va_S (fun q => d ≤ q) s.heap H locs → lv_has ls 2 [(0, .ref d), (1, .int (jI 24))] → W p l e ({ frames := 1, cells := 27, slots := 27108, locals := 12 }) s m (.ref d :: [] : List Value).toArray below meth c H locs 27 27108 Q (F0 m 285 ls [])) →
      W p l e ({ frames := 1, cells := 27, slots := 27108, locals := 12 }) s m (.ref d :: [] : List Value).toArray below meth c H locs 27 27108 Q (F0 m 266 ls []) := by
  intro n
  induction n with
  | zero => intro i H locs ls hn h1 h2 hZ hS hl kk; exact absurd hn (by omega)
  | succ n ih =>
    intro i H locs ls hn h1 h2 hZ hS hl kk
    refine zg_iload_n C dX5_init_266 rfl (lv_at hl 1 rfl) ?_
    refine zg_bipush C dX5_init_267 (by decide) ?_
    refine zg_icmp_ge (tgt := 285) C (by omega) (by omega) (by omega) (by omega) dX5_init_269 (by decide) (fun c_1 => ?_) (fun c_1 => ?_)
    · have e9 : i = 24 := by omega
      subst e9
      refine kk _ _ _ ?_ hS (lv_sub hl [0, 1] rfl)
      have h9 := zn_cong (k := 22) (n := 24) (g := fun _ => jI (-1)) hZ rfl (fun j hj => by simp; omega)
      exact h9
    · refine zg_aload_n C dX5_init_272 rfl (lv_at hl 0 rfl) ?_
      refine zn_get (k := 0) (j := 24) (v := .ref (d + 22)) C K hZ rfl rfl (zmem uwX5) (by decide) (C.tb flX5_78) rfl rfl dX5_init_273 ?_
      refine zg_iload_n C dX5_init_276 rfl (lv_at hl 1 rfl) ?_
      refine zg_iconst C dX5_init_277 ?_
      refine zn_iast (k := 22) (n := 24) (t0 := 0) (i := i) (v := (-1)) C K hZ hS (show s.heap.size + 27 ≤ d + 28 by omega) rfl rfl (by decide) (by omega) (by omega) dX5_init_278 (fun H locs hZ hS => ?_)
      have hZ : zn D vwCl d ([.inr (5, [.int 0, .int 0, .ref (d + 1), .ref (d + 2), .ref (d + 3), .ref (d + 4), .ref (d + 5), .ref (d + 6), .ref (d + 7), .ref (d + 8), .ref (d + 9), .ref (d + 10), .ref (d + 11), .ref (d + 12), .ref (d + 13), .int 0, .ref (d + 14), .ref (d + 15), .ref (d + 16), .ref (d + 17), .ref (d + 18), .ref (d + 19), .ref (d + 20), .ref (d + 21), .ref (d + 22), .int 0, .ref (d + 23), .ref (d + 24), .int 0, .ref (d + 25), .ref (d + 26), .ref (d + 27), .int 0]), aI cI 400, aI cI 400, aI cI 400, aI cI 400, aI cI 400, aI cI 400, aI cI 400, aI cZ 400, aI cZ 400, aI cI 400, aI cI 4800, aI cI 4800, aI cI 4800, aI cI 400, aI cI 400, aI cZ 2400, aI cZ 2400, aI cI 2400, aI cI 36, aI cI 6, .inl (cI, 6, .inl (fun j => jI (if j < 6 then (j : Int) else 0))), .inl (cI, 24, .inl (fun j => if j < (i + 1).toNat then jI (-1) else 0)), aI cI 300, aI cI 300, aI cI 12, aI cI 12, aI cI 12]) H := by
        have h9 := zn_cong (k := 22) (n := 24) (g := fun j => if j < (i + 1).toNat then jI (-1) else 0) hZ rfl (fun j _ => by by_cases h1 : j = i.toNat <;> by_cases h2 : j < i.toNat <;> by_cases h3 : j < (i + 1).toNat <;> simp [h1, h2, h3] <;> omega)
        exact h9
      refine zg_iinc (k := 1) (lv' := [(1, .int (jI (i + 1))), (0, .ref d)]) C dX5_init_279 hl rfl (by decide) rfl (fun ls hl => ?_)
      refine zg_goto (tgt := 266) C dX5_init_282 (by decide) ?_
      exact ih (i + 1) _ _ _ (by omega) (by omega) (by omega) hZ hS (lv_sub hl [1, 0] rfl) kk
set_option maxHeartbeats 4000000 in
set_option maxRecDepth 100000 in
theorem lpX5_init_287 {l : Launch} {D : va_G} {cI cZ cR : ClassId} {p : Program} {e : Env} {s : State} {m : MethodId} {below : List Frame} {meth : Method} {c : Code} (d : Nat)  {Q : State → Prop} (C : zk p s m (.ref d :: [] : List Value).toArray meth c cX5_init 2 (none) wsX5_init RX5) (K : va_K D vwCl (tyS cI cZ cR) s) (h0 : s.heap.size = d + 1) :
    ∀ (n : Nat) (i : Int) (H : Heap) (locs : List Loc) (ls : Array Slot), (2400 - i).toNat < n → 0 ≤ i → i ≤ 2400 → zn D vwCl d ([.inr (5, [.int 0, .int 0, .ref (d + 1), .ref (d + 2), .ref (d + 3), .ref (d + 4), .ref (d + 5), .ref (d + 6), .ref (d + 7), .ref (d + 8), .ref (d + 9), .ref (d + 10), .ref (d + 11), .ref (d + 12), .ref (d + 13), .int 0, .ref (d + 14), .ref (d + 15), .ref (d + 16), .ref (d + 17), .ref (d + 18), .ref (d + 19), .ref (d + 20), .ref (d + 21), .ref (d + 22), .int 0, .ref (d + 23), .ref (d + 24), .int 0, .ref (d + 25), .ref (d + 26), .ref (d + 27), .int 0]), aI cI 400, aI cI 400, aI cI 400, aI cI 400, aI cI 400, aI cI 400, aI cI 400, aI cZ 400, aI cZ 400, aI cI 400, aI cI 4800, aI cI 4800, aI cI 4800, aI cI 400, aI cI 400, aI cZ 2400, aI cZ 2400, .inl (cI, 2400, .inl (fun j => if j < i.toNat then jI (-1) else 0)), aI cI 36, aI cI 6, .inl (cI, 6, .inl (fun j => jI (if j < 6 then (j : Int) else 0))), .inl (cI, 24, .inl (fun _ => jI (-1))), aI cI 300, aI cI 300, aI cI 12, aI cI 12, aI cI 12]) H → va_S (fun q => d ≤ q) s.heap H locs → lv_has ls 2 [(0, .ref d), (1, .int (jI i))] →
      (∀ (H : Heap) (locs : List Loc) (ls : Array Slot), zn D vwCl d ([.inr (5, [.int 0, .int 0, .ref (d + 1), .ref (d + 2), .ref (d + 3), .ref (d + 4), .ref (d + 5), .ref (d + 6), .ref (d + 7), .ref (d + 8), .ref (d + 9), .ref (d + 10), .ref (d + 11), .ref (d + 12), .ref (d + 13), .int 0, .ref (d + 14), .ref (d + 15), .ref (d + 16), .ref (d + 17), .ref (d + 18), .ref (d + 19), .ref (d + 20), .ref (d + 21), .ref (d + 22), .int 0, .ref (d + 23), .ref (d + 24), .int 0, .ref (d + 25), .ref (d + 26), .ref (d + 27), .int 0]), aI cI 400, aI cI 400, aI cI 400, aI cI 400, aI cI 400, aI cI 400, aI cI 400, aI cZ 400, aI cZ 400, aI cI 400, aI cI 4800, aI cI 4800, aI cI 4800, aI cI 400, aI cI 400, aI cZ 2400, aI cZ 2400, .inl (cI, 2400, .inl (fun _ => jI (-1))), aI cI 36, aI cI 6, .inl (cI, 6, .inl (fun j => jI (if j < 6 then (j : Int) else 0))), .inl (cI, 24, .inl (fun _ => jI (-1))), aI cI 300, aI cI 300, aI cI 12, aI cI 12, aI cI 12]) H → va_S (fun q => d ≤ q) s.heap H locs → lv_has ls 2 [(0, .ref d), (1, .int (jI 2400))] → W p l e ({ frames := 1, cells := 27, slots := 27108, locals := 12 }) s m (.ref d :: [] : List Value).toArray below meth c H locs 27 27108 Q (F0 m 307 ls [])) →
      W p l e ({ frames := 1, cells := 27, slots := 27108, locals := 12 }) s m (.ref d :: [] : List Value).toArray below meth c H locs 27 27108 Q (F0 m 287 ls []) := by
  intro n
  induction n with
  | zero => intro i H locs ls hn h1 h2 hZ hS hl kk; exact absurd hn (by omega)
  | succ n ih =>
    intro i H locs ls hn h1 h2 hZ hS hl kk
    refine zg_iload_n C dX5_init_287 rfl (lv_at hl 1 rfl) ?_
    refine zg_sipush C dX5_init_288 (by decide) ?_
    refine zg_icmp_ge (tgt := 307) C (by omega) (by omega) (by omega) (by omega) dX5_init_291 (by decide) (fun c_2 => ?_) (fun c_2 => ?_)
    · have e9 : i = 2400 := by omega
      subst e9
      refine kk _ _ _ ?_ hS (lv_sub hl [0, 1] rfl)
      have h9 := zn_cong (k := 18) (n := 2400) (g := fun _ => jI (-1)) hZ rfl (fun j hj => by simp; omega)
      exact h9
    · refine zg_aload_n C dX5_init_294 rfl (lv_at hl 0 rfl) ?_
      refine zn_get (k := 0) (j := 20) (v := .ref (d + 18)) C K hZ rfl rfl (zmem uwX5) (by decide) (C.tb flX5_66) rfl rfl dX5_init_295 ?_
      refine zg_iload_n C dX5_init_298 rfl (lv_at hl 1 rfl) ?_
      refine zg_iconst C dX5_init_299 ?_
      refine zn_iast (k := 18) (n := 2400) (t0 := 0) (i := i) (v := (-1)) C K hZ hS (show s.heap.size + 27 ≤ d + 28 by omega) rfl rfl (by decide) (by omega) (by omega) dX5_init_300 (fun H locs hZ hS => ?_)
      have hZ : zn D vwCl d ([.inr (5, [.int 0, .int 0, .ref (d + 1), .ref (d + 2), .ref (d + 3), .ref (d + 4), .ref (d + 5), .ref (d + 6), .ref (d + 7), .ref (d + 8), .ref (d + 9), .ref (d + 10), .ref (d + 11), .ref (d + 12), .ref (d + 13), .int 0, .ref (d + 14), .ref (d + 15), .ref (d + 16), .ref (d + 17), .ref (d + 18), .ref (d + 19), .ref (d + 20), .ref (d + 21), .ref (d + 22), .int 0, .ref (d + 23), .ref (d + 24), .int 0, .ref (d + 25), .ref (d + 26), .ref (d + 27), .int 0]), aI cI 400, aI cI 400, aI cI 400, aI cI 400, aI cI 400, aI cI 400, aI cI 400, aI cZ 400, aI cZ 400, aI cI 400, aI cI 4800, aI cI 4800, aI cI 4800, aI cI 400, aI cI 400, aI cZ 2400, aI cZ 2400, .inl (cI, 2400, .inl (fun j => if j < (i + 1).toNat then jI (-1) else 0)), aI cI 36, aI cI 6, .inl (cI, 6, .inl (fun j => jI (if j < 6 then (j : Int) else 0))), .inl (cI, 24, .inl (fun _ => jI (-1))), aI cI 300, aI cI 300, aI cI 12, aI cI 12, aI cI 12]) H := by
        have h9 := zn_cong (k := 18) (n := 2400) (g := fun j => if j < (i + 1).toNat then jI (-1) else 0) hZ rfl (fun j _ => by by_cases h1 : j = i.toNat <;> by_cases h2 : j < i.toNat <;> by_cases h3 : j < (i + 1).toNat <;> simp [h1, h2, h3] <;> omega)
        exact h9
      refine zg_iinc (k := 1) (lv' := [(1, .int (jI (i + 1))), (0, .ref d)]) C dX5_init_301 hl rfl (by decide) rfl (fun ls hl => ?_)
      refine zg_goto (tgt := 287) C dX5_init_304 (by decide) ?_
      exact ih (i + 1) _ _ _ (by omega) (by omega) (by omega) hZ hS (lv_sub hl [1, 0] rfl) kk
set_option maxHeartbeats 4000000 in
set_option maxRecDepth 100000 in
theorem kX5_init (l : Launch) {D : va_G} {cI cZ cR : ClassId} (d : Nat)  : zi l D vwCl (tyS cI cZ cR) yX5_init wsX5_init ({ frames := 1, cells := 27, slots := 27108, locals := 12 }) 27 27108 d [] 5 [.int 0, .int 0, .null, .null, .null, .null, .null, .null, .null, .null, .null, .null, .null, .null, .null, .int 0, .null, .null, .null, .null, .null, .null, .null, .null, .null, .int 0, .null, .null, .int 0, .null, .null, .null, .int 0] ([.inr (5, [.int 0, .int 0, .ref (d + 1), .ref (d + 2), .ref (d + 3), .ref (d + 4), .ref (d + 5), .ref (d + 6), .ref (d + 7), .ref (d + 8), .ref (d + 9), .ref (d + 10), .ref (d + 11), .ref (d + 12), .ref (d + 13), .int 0, .ref (d + 14), .ref (d + 15), .ref (d + 16), .ref (d + 17), .ref (d + 18), .ref (d + 19), .ref (d + 20), .ref (d + 21), .ref (d + 22), .int 0, .ref (d + 23), .ref (d + 24), .int 0, .ref (d + 25), .ref (d + 26), .ref (d + 27), .int 0]), aI cI 400, aI cI 400, aI cI 400, aI cI 400, aI cI 400, aI cI 400, aI cI 400, aI cZ 400, aI cZ 400, aI cI 400, aI cI 4800, aI cI 4800, aI cI 4800, aI cI 400, aI cI 400, aI cZ 2400, aI cZ 2400, .inl (cI, 2400, .inl (fun _ => jI (-1))), aI cI 36, aI cI 6, .inl (cI, 6, .inl (fun j => jI (if j < 6 then (j : Int) else 0))), .inl (cI, 24, .inl (fun _ => jI (-1))), aI cI 300, aI cI 300, aI cI 12, aI cI 12, aI cI 12]) (fun _ => True) := by
  refine zi_of (cc := cX5_init) (maxL := 2) (own := RX5) (by decide) rfl rfl rfl (Nat.le_of_ble_eq_true rfl) rfl ?_
  intro p e s m below meth c ls C hin2 K _ h0 hZ hS hl
  refine zg_aload_n C dX5_init_0 rfl (lv_at hl 0 rfl) ?_
  refine zn_obj C olX5_7 olI olC hl.1 dX5_init_1 (Nat.le_of_ble_eq_true rfl) (Nat.le_of_ble_eq_true rfl) ?_
  refine zg_aload_n C dX5_init_4 rfl (lv_at hl 0 rfl) ?_
  refine zg_sipush C dX5_init_5 (by decide) ?_
  refine zn_newa (n := 400) (t0 := 0) (a0 := (400, .inl (fun _ => 0))) C K hZ hS acI rfl rfl (fun h => h) rfl (by decide) (by decide) (Nat.le_of_ble_eq_true rfl) (Nat.le_of_ble_eq_true rfl) rfl dX5_init_8 (fun H hZ hS => ?_)
  have hZ : zn D vwCl d ([.inr (5, [.int 0, .int 0, .null, .null, .null, .null, .null, .null, .null, .null, .null, .null, .null, .null, .null, .int 0, .null, .null, .null, .null, .null, .null, .null, .null, .null, .int 0, .null, .null, .int 0, .null, .null, .null, .int 0]), aI cI 400]) H := hZ
  refine zn_putF (k := 0) (j := 2) (v := .ref (d + 1)) C hin2 K hZ hS (show s.heap.size + 1 ≤ d + 2 by omega) rfl rfl (zmem uwX5) tyX5 tyX5_ok nmX5 (by decide) (C.tb flX5_13) rfl rfl rfl rfl rfl (Nat.le_of_ble_eq_true rfl) dX5_init_10 (fun H locs hZ hS => ?_)
  have hZ : zn D vwCl d ([.inr (5, [.int 0, .int 0, .ref (d + 1), .null, .null, .null, .null, .null, .null, .null, .null, .null, .null, .null, .null, .int 0, .null, .null, .null, .null, .null, .null, .null, .null, .null, .int 0, .null, .null, .int 0, .null, .null, .null, .int 0]), aI cI 400]) H := hZ
  refine zg_aload_n C dX5_init_13 rfl (lv_at hl 0 rfl) ?_
  refine zg_sipush C dX5_init_14 (by decide) ?_
  refine zn_newa (n := 400) (t0 := 0) (a0 := (400, .inl (fun _ => 0))) C K hZ hS acI rfl rfl (fun h => h) rfl (by decide) (by decide) (Nat.le_of_ble_eq_true rfl) (Nat.le_of_ble_eq_true rfl) rfl dX5_init_17 (fun H hZ hS => ?_)
  have hZ : zn D vwCl d ([.inr (5, [.int 0, .int 0, .ref (d + 1), .null, .null, .null, .null, .null, .null, .null, .null, .null, .null, .null, .null, .int 0, .null, .null, .null, .null, .null, .null, .null, .null, .null, .int 0, .null, .null, .int 0, .null, .null, .null, .int 0]), aI cI 400, aI cI 400]) H := hZ
  refine zn_putF (k := 0) (j := 3) (v := .ref (d + 2)) C hin2 K hZ hS (show s.heap.size + 2 ≤ d + 3 by omega) rfl rfl (zmem uwX5) tyX5 tyX5_ok nmX5 (by decide) (C.tb flX5_17) rfl rfl rfl rfl rfl (Nat.le_of_ble_eq_true rfl) dX5_init_19 (fun H locs hZ hS => ?_)
  have hZ : zn D vwCl d ([.inr (5, [.int 0, .int 0, .ref (d + 1), .ref (d + 2), .null, .null, .null, .null, .null, .null, .null, .null, .null, .null, .null, .int 0, .null, .null, .null, .null, .null, .null, .null, .null, .null, .int 0, .null, .null, .int 0, .null, .null, .null, .int 0]), aI cI 400, aI cI 400]) H := hZ
  refine zg_aload_n C dX5_init_22 rfl (lv_at hl 0 rfl) ?_
  refine zg_sipush C dX5_init_23 (by decide) ?_
  refine zn_newa (n := 400) (t0 := 0) (a0 := (400, .inl (fun _ => 0))) C K hZ hS acI rfl rfl (fun h => h) rfl (by decide) (by decide) (Nat.le_of_ble_eq_true rfl) (Nat.le_of_ble_eq_true rfl) rfl dX5_init_26 (fun H hZ hS => ?_)
  have hZ : zn D vwCl d ([.inr (5, [.int 0, .int 0, .ref (d + 1), .ref (d + 2), .null, .null, .null, .null, .null, .null, .null, .null, .null, .null, .null, .int 0, .null, .null, .null, .null, .null, .null, .null, .null, .null, .int 0, .null, .null, .int 0, .null, .null, .null, .int 0]), aI cI 400, aI cI 400, aI cI 400]) H := hZ
  refine zn_putF (k := 0) (j := 4) (v := .ref (d + 3)) C hin2 K hZ hS (show s.heap.size + 3 ≤ d + 4 by omega) rfl rfl (zmem uwX5) tyX5 tyX5_ok nmX5 (by decide) (C.tb flX5_20) rfl rfl rfl rfl rfl (Nat.le_of_ble_eq_true rfl) dX5_init_28 (fun H locs hZ hS => ?_)
  have hZ : zn D vwCl d ([.inr (5, [.int 0, .int 0, .ref (d + 1), .ref (d + 2), .ref (d + 3), .null, .null, .null, .null, .null, .null, .null, .null, .null, .null, .int 0, .null, .null, .null, .null, .null, .null, .null, .null, .null, .int 0, .null, .null, .int 0, .null, .null, .null, .int 0]), aI cI 400, aI cI 400, aI cI 400]) H := hZ
  refine zg_aload_n C dX5_init_31 rfl (lv_at hl 0 rfl) ?_
  refine zg_sipush C dX5_init_32 (by decide) ?_
  refine zn_newa (n := 400) (t0 := 0) (a0 := (400, .inl (fun _ => 0))) C K hZ hS acI rfl rfl (fun h => h) rfl (by decide) (by decide) (Nat.le_of_ble_eq_true rfl) (Nat.le_of_ble_eq_true rfl) rfl dX5_init_35 (fun H hZ hS => ?_)
  have hZ : zn D vwCl d ([.inr (5, [.int 0, .int 0, .ref (d + 1), .ref (d + 2), .ref (d + 3), .null, .null, .null, .null, .null, .null, .null, .null, .null, .null, .int 0, .null, .null, .null, .null, .null, .null, .null, .null, .null, .int 0, .null, .null, .int 0, .null, .null, .null, .int 0]), aI cI 400, aI cI 400, aI cI 400, aI cI 400]) H := hZ
  refine zn_putF (k := 0) (j := 5) (v := .ref (d + 4)) C hin2 K hZ hS (show s.heap.size + 4 ≤ d + 5 by omega) rfl rfl (zmem uwX5) tyX5 tyX5_ok nmX5 (by decide) (C.tb flX5_23) rfl rfl rfl rfl rfl (Nat.le_of_ble_eq_true rfl) dX5_init_37 (fun H locs hZ hS => ?_)
  have hZ : zn D vwCl d ([.inr (5, [.int 0, .int 0, .ref (d + 1), .ref (d + 2), .ref (d + 3), .ref (d + 4), .null, .null, .null, .null, .null, .null, .null, .null, .null, .int 0, .null, .null, .null, .null, .null, .null, .null, .null, .null, .int 0, .null, .null, .int 0, .null, .null, .null, .int 0]), aI cI 400, aI cI 400, aI cI 400, aI cI 400]) H := hZ
  refine zg_aload_n C dX5_init_40 rfl (lv_at hl 0 rfl) ?_
  refine zg_sipush C dX5_init_41 (by decide) ?_
  refine zn_newa (n := 400) (t0 := 0) (a0 := (400, .inl (fun _ => 0))) C K hZ hS acI rfl rfl (fun h => h) rfl (by decide) (by decide) (Nat.le_of_ble_eq_true rfl) (Nat.le_of_ble_eq_true rfl) rfl dX5_init_44 (fun H hZ hS => ?_)
  have hZ : zn D vwCl d ([.inr (5, [.int 0, .int 0, .ref (d + 1), .ref (d + 2), .ref (d + 3), .ref (d + 4), .null, .null, .null, .null, .null, .null, .null, .null, .null, .int 0, .null, .null, .null, .null, .null, .null, .null, .null, .null, .int 0, .null, .null, .int 0, .null, .null, .null, .int 0]), aI cI 400, aI cI 400, aI cI 400, aI cI 400, aI cI 400]) H := hZ
  refine zn_putF (k := 0) (j := 6) (v := .ref (d + 5)) C hin2 K hZ hS (show s.heap.size + 5 ≤ d + 6 by omega) rfl rfl (zmem uwX5) tyX5 tyX5_ok nmX5 (by decide) (C.tb flX5_26) rfl rfl rfl rfl rfl (Nat.le_of_ble_eq_true rfl) dX5_init_46 (fun H locs hZ hS => ?_)
  have hZ : zn D vwCl d ([.inr (5, [.int 0, .int 0, .ref (d + 1), .ref (d + 2), .ref (d + 3), .ref (d + 4), .ref (d + 5), .null, .null, .null, .null, .null, .null, .null, .null, .int 0, .null, .null, .null, .null, .null, .null, .null, .null, .null, .int 0, .null, .null, .int 0, .null, .null, .null, .int 0]), aI cI 400, aI cI 400, aI cI 400, aI cI 400, aI cI 400]) H := hZ
  refine zg_aload_n C dX5_init_49 rfl (lv_at hl 0 rfl) ?_
  refine zg_sipush C dX5_init_50 (by decide) ?_
  refine zn_newa (n := 400) (t0 := 0) (a0 := (400, .inl (fun _ => 0))) C K hZ hS acI rfl rfl (fun h => h) rfl (by decide) (by decide) (Nat.le_of_ble_eq_true rfl) (Nat.le_of_ble_eq_true rfl) rfl dX5_init_53 (fun H hZ hS => ?_)
  have hZ : zn D vwCl d ([.inr (5, [.int 0, .int 0, .ref (d + 1), .ref (d + 2), .ref (d + 3), .ref (d + 4), .ref (d + 5), .null, .null, .null, .null, .null, .null, .null, .null, .int 0, .null, .null, .null, .null, .null, .null, .null, .null, .null, .int 0, .null, .null, .int 0, .null, .null, .null, .int 0]), aI cI 400, aI cI 400, aI cI 400, aI cI 400, aI cI 400, aI cI 400]) H := hZ
  refine zn_putF (k := 0) (j := 7) (v := .ref (d + 6)) C hin2 K hZ hS (show s.heap.size + 6 ≤ d + 7 by omega) rfl rfl (zmem uwX5) tyX5 tyX5_ok nmX5 (by decide) (C.tb flX5_29) rfl rfl rfl rfl rfl (Nat.le_of_ble_eq_true rfl) dX5_init_55 (fun H locs hZ hS => ?_)
  have hZ : zn D vwCl d ([.inr (5, [.int 0, .int 0, .ref (d + 1), .ref (d + 2), .ref (d + 3), .ref (d + 4), .ref (d + 5), .ref (d + 6), .null, .null, .null, .null, .null, .null, .null, .int 0, .null, .null, .null, .null, .null, .null, .null, .null, .null, .int 0, .null, .null, .int 0, .null, .null, .null, .int 0]), aI cI 400, aI cI 400, aI cI 400, aI cI 400, aI cI 400, aI cI 400]) H := hZ
  refine zg_aload_n C dX5_init_58 rfl (lv_at hl 0 rfl) ?_
  refine zg_sipush C dX5_init_59 (by decide) ?_
  refine zn_newa (n := 400) (t0 := 0) (a0 := (400, .inl (fun _ => 0))) C K hZ hS acI rfl rfl (fun h => h) rfl (by decide) (by decide) (Nat.le_of_ble_eq_true rfl) (Nat.le_of_ble_eq_true rfl) rfl dX5_init_62 (fun H hZ hS => ?_)
  have hZ : zn D vwCl d ([.inr (5, [.int 0, .int 0, .ref (d + 1), .ref (d + 2), .ref (d + 3), .ref (d + 4), .ref (d + 5), .ref (d + 6), .null, .null, .null, .null, .null, .null, .null, .int 0, .null, .null, .null, .null, .null, .null, .null, .null, .null, .int 0, .null, .null, .int 0, .null, .null, .null, .int 0]), aI cI 400, aI cI 400, aI cI 400, aI cI 400, aI cI 400, aI cI 400, aI cI 400]) H := hZ
  refine zn_putF (k := 0) (j := 8) (v := .ref (d + 7)) C hin2 K hZ hS (show s.heap.size + 7 ≤ d + 8 by omega) rfl rfl (zmem uwX5) tyX5 tyX5_ok nmX5 (by decide) (C.tb flX5_32) rfl rfl rfl rfl rfl (Nat.le_of_ble_eq_true rfl) dX5_init_64 (fun H locs hZ hS => ?_)
  have hZ : zn D vwCl d ([.inr (5, [.int 0, .int 0, .ref (d + 1), .ref (d + 2), .ref (d + 3), .ref (d + 4), .ref (d + 5), .ref (d + 6), .ref (d + 7), .null, .null, .null, .null, .null, .null, .int 0, .null, .null, .null, .null, .null, .null, .null, .null, .null, .int 0, .null, .null, .int 0, .null, .null, .null, .int 0]), aI cI 400, aI cI 400, aI cI 400, aI cI 400, aI cI 400, aI cI 400, aI cI 400]) H := hZ
  refine zg_aload_n C dX5_init_67 rfl (lv_at hl 0 rfl) ?_
  refine zg_sipush C dX5_init_68 (by decide) ?_
  refine zn_newa (n := 400) (t0 := 1) (a0 := (400, .inl (fun _ => 0))) C K hZ hS acZ rfl rfl (fun h => h) rfl (by decide) (by decide) (Nat.le_of_ble_eq_true rfl) (Nat.le_of_ble_eq_true rfl) rfl dX5_init_71 (fun H hZ hS => ?_)
  have hZ : zn D vwCl d ([.inr (5, [.int 0, .int 0, .ref (d + 1), .ref (d + 2), .ref (d + 3), .ref (d + 4), .ref (d + 5), .ref (d + 6), .ref (d + 7), .null, .null, .null, .null, .null, .null, .int 0, .null, .null, .null, .null, .null, .null, .null, .null, .null, .int 0, .null, .null, .int 0, .null, .null, .null, .int 0]), aI cI 400, aI cI 400, aI cI 400, aI cI 400, aI cI 400, aI cI 400, aI cI 400, aI cZ 400]) H := hZ
  refine zn_putF (k := 0) (j := 9) (v := .ref (d + 8)) C hin2 K hZ hS (show s.heap.size + 8 ≤ d + 9 by omega) rfl rfl (zmem uwX5) tyX5 tyX5_ok nmX5 (by decide) (C.tb flX5_35) rfl rfl rfl rfl rfl (Nat.le_of_ble_eq_true rfl) dX5_init_73 (fun H locs hZ hS => ?_)
  have hZ : zn D vwCl d ([.inr (5, [.int 0, .int 0, .ref (d + 1), .ref (d + 2), .ref (d + 3), .ref (d + 4), .ref (d + 5), .ref (d + 6), .ref (d + 7), .ref (d + 8), .null, .null, .null, .null, .null, .int 0, .null, .null, .null, .null, .null, .null, .null, .null, .null, .int 0, .null, .null, .int 0, .null, .null, .null, .int 0]), aI cI 400, aI cI 400, aI cI 400, aI cI 400, aI cI 400, aI cI 400, aI cI 400, aI cZ 400]) H := hZ
  refine zg_aload_n C dX5_init_76 rfl (lv_at hl 0 rfl) ?_
  refine zg_sipush C dX5_init_77 (by decide) ?_
  refine zn_newa (n := 400) (t0 := 1) (a0 := (400, .inl (fun _ => 0))) C K hZ hS acZ rfl rfl (fun h => h) rfl (by decide) (by decide) (Nat.le_of_ble_eq_true rfl) (Nat.le_of_ble_eq_true rfl) rfl dX5_init_80 (fun H hZ hS => ?_)
  have hZ : zn D vwCl d ([.inr (5, [.int 0, .int 0, .ref (d + 1), .ref (d + 2), .ref (d + 3), .ref (d + 4), .ref (d + 5), .ref (d + 6), .ref (d + 7), .ref (d + 8), .null, .null, .null, .null, .null, .int 0, .null, .null, .null, .null, .null, .null, .null, .null, .null, .int 0, .null, .null, .int 0, .null, .null, .null, .int 0]), aI cI 400, aI cI 400, aI cI 400, aI cI 400, aI cI 400, aI cI 400, aI cI 400, aI cZ 400, aI cZ 400]) H := hZ
  refine zn_putF (k := 0) (j := 10) (v := .ref (d + 9)) C hin2 K hZ hS (show s.heap.size + 9 ≤ d + 10 by omega) rfl rfl (zmem uwX5) tyX5 tyX5_ok nmX5 (by decide) (C.tb flX5_39) rfl rfl rfl rfl rfl (Nat.le_of_ble_eq_true rfl) dX5_init_82 (fun H locs hZ hS => ?_)
  have hZ : zn D vwCl d ([.inr (5, [.int 0, .int 0, .ref (d + 1), .ref (d + 2), .ref (d + 3), .ref (d + 4), .ref (d + 5), .ref (d + 6), .ref (d + 7), .ref (d + 8), .ref (d + 9), .null, .null, .null, .null, .int 0, .null, .null, .null, .null, .null, .null, .null, .null, .null, .int 0, .null, .null, .int 0, .null, .null, .null, .int 0]), aI cI 400, aI cI 400, aI cI 400, aI cI 400, aI cI 400, aI cI 400, aI cI 400, aI cZ 400, aI cZ 400]) H := hZ
  refine zg_aload_n C dX5_init_85 rfl (lv_at hl 0 rfl) ?_
  refine zg_sipush C dX5_init_86 (by decide) ?_
  refine zn_newa (n := 400) (t0 := 0) (a0 := (400, .inl (fun _ => 0))) C K hZ hS acI rfl rfl (fun h => h) rfl (by decide) (by decide) (Nat.le_of_ble_eq_true rfl) (Nat.le_of_ble_eq_true rfl) rfl dX5_init_89 (fun H hZ hS => ?_)
  have hZ : zn D vwCl d ([.inr (5, [.int 0, .int 0, .ref (d + 1), .ref (d + 2), .ref (d + 3), .ref (d + 4), .ref (d + 5), .ref (d + 6), .ref (d + 7), .ref (d + 8), .ref (d + 9), .null, .null, .null, .null, .int 0, .null, .null, .null, .null, .null, .null, .null, .null, .null, .int 0, .null, .null, .int 0, .null, .null, .null, .int 0]), aI cI 400, aI cI 400, aI cI 400, aI cI 400, aI cI 400, aI cI 400, aI cI 400, aI cZ 400, aI cZ 400, aI cI 400]) H := hZ
  refine zn_putF (k := 0) (j := 11) (v := .ref (d + 10)) C hin2 K hZ hS (show s.heap.size + 10 ≤ d + 11 by omega) rfl rfl (zmem uwX5) tyX5 tyX5_ok nmX5 (by decide) (C.tb flX5_42) rfl rfl rfl rfl rfl (Nat.le_of_ble_eq_true rfl) dX5_init_91 (fun H locs hZ hS => ?_)
  have hZ : zn D vwCl d ([.inr (5, [.int 0, .int 0, .ref (d + 1), .ref (d + 2), .ref (d + 3), .ref (d + 4), .ref (d + 5), .ref (d + 6), .ref (d + 7), .ref (d + 8), .ref (d + 9), .ref (d + 10), .null, .null, .null, .int 0, .null, .null, .null, .null, .null, .null, .null, .null, .null, .int 0, .null, .null, .int 0, .null, .null, .null, .int 0]), aI cI 400, aI cI 400, aI cI 400, aI cI 400, aI cI 400, aI cI 400, aI cI 400, aI cZ 400, aI cZ 400, aI cI 400]) H := hZ
  refine zg_aload_n C dX5_init_94 rfl (lv_at hl 0 rfl) ?_
  refine zg_sipush C dX5_init_95 (by decide) ?_
  refine zn_newa (n := 4800) (t0 := 0) (a0 := (4800, .inl (fun _ => 0))) C K hZ hS acI rfl rfl (fun h => h) rfl (by decide) (by decide) (Nat.le_of_ble_eq_true rfl) (Nat.le_of_ble_eq_true rfl) rfl dX5_init_98 (fun H hZ hS => ?_)
  have hZ : zn D vwCl d ([.inr (5, [.int 0, .int 0, .ref (d + 1), .ref (d + 2), .ref (d + 3), .ref (d + 4), .ref (d + 5), .ref (d + 6), .ref (d + 7), .ref (d + 8), .ref (d + 9), .ref (d + 10), .null, .null, .null, .int 0, .null, .null, .null, .null, .null, .null, .null, .null, .null, .int 0, .null, .null, .int 0, .null, .null, .null, .int 0]), aI cI 400, aI cI 400, aI cI 400, aI cI 400, aI cI 400, aI cI 400, aI cI 400, aI cZ 400, aI cZ 400, aI cI 400, aI cI 4800]) H := hZ
  refine zn_putF (k := 0) (j := 12) (v := .ref (d + 11)) C hin2 K hZ hS (show s.heap.size + 11 ≤ d + 12 by omega) rfl rfl (zmem uwX5) tyX5 tyX5_ok nmX5 (by decide) (C.tb flX5_45) rfl rfl rfl rfl rfl (Nat.le_of_ble_eq_true rfl) dX5_init_100 (fun H locs hZ hS => ?_)
  have hZ : zn D vwCl d ([.inr (5, [.int 0, .int 0, .ref (d + 1), .ref (d + 2), .ref (d + 3), .ref (d + 4), .ref (d + 5), .ref (d + 6), .ref (d + 7), .ref (d + 8), .ref (d + 9), .ref (d + 10), .ref (d + 11), .null, .null, .int 0, .null, .null, .null, .null, .null, .null, .null, .null, .null, .int 0, .null, .null, .int 0, .null, .null, .null, .int 0]), aI cI 400, aI cI 400, aI cI 400, aI cI 400, aI cI 400, aI cI 400, aI cI 400, aI cZ 400, aI cZ 400, aI cI 400, aI cI 4800]) H := hZ
  refine zg_aload_n C dX5_init_103 rfl (lv_at hl 0 rfl) ?_
  refine zg_sipush C dX5_init_104 (by decide) ?_
  refine zn_newa (n := 4800) (t0 := 0) (a0 := (4800, .inl (fun _ => 0))) C K hZ hS acI rfl rfl (fun h => h) rfl (by decide) (by decide) (Nat.le_of_ble_eq_true rfl) (Nat.le_of_ble_eq_true rfl) rfl dX5_init_107 (fun H hZ hS => ?_)
  have hZ : zn D vwCl d ([.inr (5, [.int 0, .int 0, .ref (d + 1), .ref (d + 2), .ref (d + 3), .ref (d + 4), .ref (d + 5), .ref (d + 6), .ref (d + 7), .ref (d + 8), .ref (d + 9), .ref (d + 10), .ref (d + 11), .null, .null, .int 0, .null, .null, .null, .null, .null, .null, .null, .null, .null, .int 0, .null, .null, .int 0, .null, .null, .null, .int 0]), aI cI 400, aI cI 400, aI cI 400, aI cI 400, aI cI 400, aI cI 400, aI cI 400, aI cZ 400, aI cZ 400, aI cI 400, aI cI 4800, aI cI 4800]) H := hZ
  refine zn_putF (k := 0) (j := 13) (v := .ref (d + 12)) C hin2 K hZ hS (show s.heap.size + 12 ≤ d + 13 by omega) rfl rfl (zmem uwX5) tyX5 tyX5_ok nmX5 (by decide) (C.tb flX5_48) rfl rfl rfl rfl rfl (Nat.le_of_ble_eq_true rfl) dX5_init_109 (fun H locs hZ hS => ?_)
  have hZ : zn D vwCl d ([.inr (5, [.int 0, .int 0, .ref (d + 1), .ref (d + 2), .ref (d + 3), .ref (d + 4), .ref (d + 5), .ref (d + 6), .ref (d + 7), .ref (d + 8), .ref (d + 9), .ref (d + 10), .ref (d + 11), .ref (d + 12), .null, .int 0, .null, .null, .null, .null, .null, .null, .null, .null, .null, .int 0, .null, .null, .int 0, .null, .null, .null, .int 0]), aI cI 400, aI cI 400, aI cI 400, aI cI 400, aI cI 400, aI cI 400, aI cI 400, aI cZ 400, aI cZ 400, aI cI 400, aI cI 4800, aI cI 4800]) H := hZ
  refine zg_aload_n C dX5_init_112 rfl (lv_at hl 0 rfl) ?_
  refine zg_sipush C dX5_init_113 (by decide) ?_
  refine zn_newa (n := 4800) (t0 := 0) (a0 := (4800, .inl (fun _ => 0))) C K hZ hS acI rfl rfl (fun h => h) rfl (by decide) (by decide) (Nat.le_of_ble_eq_true rfl) (Nat.le_of_ble_eq_true rfl) rfl dX5_init_116 (fun H hZ hS => ?_)
  have hZ : zn D vwCl d ([.inr (5, [.int 0, .int 0, .ref (d + 1), .ref (d + 2), .ref (d + 3), .ref (d + 4), .ref (d + 5), .ref (d + 6), .ref (d + 7), .ref (d + 8), .ref (d + 9), .ref (d + 10), .ref (d + 11), .ref (d + 12), .null, .int 0, .null, .null, .null, .null, .null, .null, .null, .null, .null, .int 0, .null, .null, .int 0, .null, .null, .null, .int 0]), aI cI 400, aI cI 400, aI cI 400, aI cI 400, aI cI 400, aI cI 400, aI cI 400, aI cZ 400, aI cZ 400, aI cI 400, aI cI 4800, aI cI 4800, aI cI 4800]) H := hZ
  refine zn_putF (k := 0) (j := 14) (v := .ref (d + 13)) C hin2 K hZ hS (show s.heap.size + 13 ≤ d + 14 by omega) rfl rfl (zmem uwX5) tyX5 tyX5_ok nmX5 (by decide) (C.tb flX5_51) rfl rfl rfl rfl rfl (Nat.le_of_ble_eq_true rfl) dX5_init_118 (fun H locs hZ hS => ?_)
  have hZ : zn D vwCl d ([.inr (5, [.int 0, .int 0, .ref (d + 1), .ref (d + 2), .ref (d + 3), .ref (d + 4), .ref (d + 5), .ref (d + 6), .ref (d + 7), .ref (d + 8), .ref (d + 9), .ref (d + 10), .ref (d + 11), .ref (d + 12), .ref (d + 13), .int 0, .null, .null, .null, .null, .null, .null, .null, .null, .null, .int 0, .null, .null, .int 0, .null, .null, .null, .int 0]), aI cI 400, aI cI 400, aI cI 400, aI cI 400, aI cI 400, aI cI 400, aI cI 400, aI cZ 400, aI cZ 400, aI cI 400, aI cI 4800, aI cI 4800, aI cI 4800]) H := hZ
  refine zg_aload_n C dX5_init_121 rfl (lv_at hl 0 rfl) ?_
  refine zg_sipush C dX5_init_122 (by decide) ?_
  refine zn_newa (n := 400) (t0 := 0) (a0 := (400, .inl (fun _ => 0))) C K hZ hS acI rfl rfl (fun h => h) rfl (by decide) (by decide) (Nat.le_of_ble_eq_true rfl) (Nat.le_of_ble_eq_true rfl) rfl dX5_init_125 (fun H hZ hS => ?_)
  have hZ : zn D vwCl d ([.inr (5, [.int 0, .int 0, .ref (d + 1), .ref (d + 2), .ref (d + 3), .ref (d + 4), .ref (d + 5), .ref (d + 6), .ref (d + 7), .ref (d + 8), .ref (d + 9), .ref (d + 10), .ref (d + 11), .ref (d + 12), .ref (d + 13), .int 0, .null, .null, .null, .null, .null, .null, .null, .null, .null, .int 0, .null, .null, .int 0, .null, .null, .null, .int 0]), aI cI 400, aI cI 400, aI cI 400, aI cI 400, aI cI 400, aI cI 400, aI cI 400, aI cZ 400, aI cZ 400, aI cI 400, aI cI 4800, aI cI 4800, aI cI 4800, aI cI 400]) H := hZ
  refine zn_putF (k := 0) (j := 16) (v := .ref (d + 14)) C hin2 K hZ hS (show s.heap.size + 14 ≤ d + 15 by omega) rfl rfl (zmem uwX5) tyX5 tyX5_ok nmX5 (by decide) (C.tb flX5_54) rfl rfl rfl rfl rfl (Nat.le_of_ble_eq_true rfl) dX5_init_127 (fun H locs hZ hS => ?_)
  have hZ : zn D vwCl d ([.inr (5, [.int 0, .int 0, .ref (d + 1), .ref (d + 2), .ref (d + 3), .ref (d + 4), .ref (d + 5), .ref (d + 6), .ref (d + 7), .ref (d + 8), .ref (d + 9), .ref (d + 10), .ref (d + 11), .ref (d + 12), .ref (d + 13), .int 0, .ref (d + 14), .null, .null, .null, .null, .null, .null, .null, .null, .int 0, .null, .null, .int 0, .null, .null, .null, .int 0]), aI cI 400, aI cI 400, aI cI 400, aI cI 400, aI cI 400, aI cI 400, aI cI 400, aI cZ 400, aI cZ 400, aI cI 400, aI cI 4800, aI cI 4800, aI cI 4800, aI cI 400]) H := hZ
  refine zg_aload_n C dX5_init_130 rfl (lv_at hl 0 rfl) ?_
  refine zg_sipush C dX5_init_131 (by decide) ?_
  refine zn_newa (n := 400) (t0 := 0) (a0 := (400, .inl (fun _ => 0))) C K hZ hS acI rfl rfl (fun h => h) rfl (by decide) (by decide) (Nat.le_of_ble_eq_true rfl) (Nat.le_of_ble_eq_true rfl) rfl dX5_init_134 (fun H hZ hS => ?_)
  have hZ : zn D vwCl d ([.inr (5, [.int 0, .int 0, .ref (d + 1), .ref (d + 2), .ref (d + 3), .ref (d + 4), .ref (d + 5), .ref (d + 6), .ref (d + 7), .ref (d + 8), .ref (d + 9), .ref (d + 10), .ref (d + 11), .ref (d + 12), .ref (d + 13), .int 0, .ref (d + 14), .null, .null, .null, .null, .null, .null, .null, .null, .int 0, .null, .null, .int 0, .null, .null, .null, .int 0]), aI cI 400, aI cI 400, aI cI 400, aI cI 400, aI cI 400, aI cI 400, aI cI 400, aI cZ 400, aI cZ 400, aI cI 400, aI cI 4800, aI cI 4800, aI cI 4800, aI cI 400, aI cI 400]) H := hZ
  refine zn_putF (k := 0) (j := 17) (v := .ref (d + 15)) C hin2 K hZ hS (show s.heap.size + 15 ≤ d + 16 by omega) rfl rfl (zmem uwX5) tyX5 tyX5_ok nmX5 (by decide) (C.tb flX5_57) rfl rfl rfl rfl rfl (Nat.le_of_ble_eq_true rfl) dX5_init_136 (fun H locs hZ hS => ?_)
  have hZ : zn D vwCl d ([.inr (5, [.int 0, .int 0, .ref (d + 1), .ref (d + 2), .ref (d + 3), .ref (d + 4), .ref (d + 5), .ref (d + 6), .ref (d + 7), .ref (d + 8), .ref (d + 9), .ref (d + 10), .ref (d + 11), .ref (d + 12), .ref (d + 13), .int 0, .ref (d + 14), .ref (d + 15), .null, .null, .null, .null, .null, .null, .null, .int 0, .null, .null, .int 0, .null, .null, .null, .int 0]), aI cI 400, aI cI 400, aI cI 400, aI cI 400, aI cI 400, aI cI 400, aI cI 400, aI cZ 400, aI cZ 400, aI cI 400, aI cI 4800, aI cI 4800, aI cI 4800, aI cI 400, aI cI 400]) H := hZ
  refine zg_aload_n C dX5_init_139 rfl (lv_at hl 0 rfl) ?_
  refine zg_sipush C dX5_init_140 (by decide) ?_
  refine zn_newa (n := 2400) (t0 := 1) (a0 := (2400, .inl (fun _ => 0))) C K hZ hS acZ rfl rfl (fun h => h) rfl (by decide) (by decide) (Nat.le_of_ble_eq_true rfl) (Nat.le_of_ble_eq_true rfl) rfl dX5_init_143 (fun H hZ hS => ?_)
  have hZ : zn D vwCl d ([.inr (5, [.int 0, .int 0, .ref (d + 1), .ref (d + 2), .ref (d + 3), .ref (d + 4), .ref (d + 5), .ref (d + 6), .ref (d + 7), .ref (d + 8), .ref (d + 9), .ref (d + 10), .ref (d + 11), .ref (d + 12), .ref (d + 13), .int 0, .ref (d + 14), .ref (d + 15), .null, .null, .null, .null, .null, .null, .null, .int 0, .null, .null, .int 0, .null, .null, .null, .int 0]), aI cI 400, aI cI 400, aI cI 400, aI cI 400, aI cI 400, aI cI 400, aI cI 400, aI cZ 400, aI cZ 400, aI cI 400, aI cI 4800, aI cI 4800, aI cI 4800, aI cI 400, aI cI 400, aI cZ 2400]) H := hZ
  refine zn_putF (k := 0) (j := 18) (v := .ref (d + 16)) C hin2 K hZ hS (show s.heap.size + 16 ≤ d + 17 by omega) rfl rfl (zmem uwX5) tyX5 tyX5_ok nmX5 (by decide) (C.tb flX5_60) rfl rfl rfl rfl rfl (Nat.le_of_ble_eq_true rfl) dX5_init_145 (fun H locs hZ hS => ?_)
  have hZ : zn D vwCl d ([.inr (5, [.int 0, .int 0, .ref (d + 1), .ref (d + 2), .ref (d + 3), .ref (d + 4), .ref (d + 5), .ref (d + 6), .ref (d + 7), .ref (d + 8), .ref (d + 9), .ref (d + 10), .ref (d + 11), .ref (d + 12), .ref (d + 13), .int 0, .ref (d + 14), .ref (d + 15), .ref (d + 16), .null, .null, .null, .null, .null, .null, .int 0, .null, .null, .int 0, .null, .null, .null, .int 0]), aI cI 400, aI cI 400, aI cI 400, aI cI 400, aI cI 400, aI cI 400, aI cI 400, aI cZ 400, aI cZ 400, aI cI 400, aI cI 4800, aI cI 4800, aI cI 4800, aI cI 400, aI cI 400, aI cZ 2400]) H := hZ
  refine zg_aload_n C dX5_init_148 rfl (lv_at hl 0 rfl) ?_
  refine zg_sipush C dX5_init_149 (by decide) ?_
  refine zn_newa (n := 2400) (t0 := 1) (a0 := (2400, .inl (fun _ => 0))) C K hZ hS acZ rfl rfl (fun h => h) rfl (by decide) (by decide) (Nat.le_of_ble_eq_true rfl) (Nat.le_of_ble_eq_true rfl) rfl dX5_init_152 (fun H hZ hS => ?_)
  have hZ : zn D vwCl d ([.inr (5, [.int 0, .int 0, .ref (d + 1), .ref (d + 2), .ref (d + 3), .ref (d + 4), .ref (d + 5), .ref (d + 6), .ref (d + 7), .ref (d + 8), .ref (d + 9), .ref (d + 10), .ref (d + 11), .ref (d + 12), .ref (d + 13), .int 0, .ref (d + 14), .ref (d + 15), .ref (d + 16), .null, .null, .null, .null, .null, .null, .int 0, .null, .null, .int 0, .null, .null, .null, .int 0]), aI cI 400, aI cI 400, aI cI 400, aI cI 400, aI cI 400, aI cI 400, aI cI 400, aI cZ 400, aI cZ 400, aI cI 400, aI cI 4800, aI cI 4800, aI cI 4800, aI cI 400, aI cI 400, aI cZ 2400, aI cZ 2400]) H := hZ
  refine zn_putF (k := 0) (j := 19) (v := .ref (d + 17)) C hin2 K hZ hS (show s.heap.size + 17 ≤ d + 18 by omega) rfl rfl (zmem uwX5) tyX5 tyX5_ok nmX5 (by decide) (C.tb flX5_63) rfl rfl rfl rfl rfl (Nat.le_of_ble_eq_true rfl) dX5_init_154 (fun H locs hZ hS => ?_)
  have hZ : zn D vwCl d ([.inr (5, [.int 0, .int 0, .ref (d + 1), .ref (d + 2), .ref (d + 3), .ref (d + 4), .ref (d + 5), .ref (d + 6), .ref (d + 7), .ref (d + 8), .ref (d + 9), .ref (d + 10), .ref (d + 11), .ref (d + 12), .ref (d + 13), .int 0, .ref (d + 14), .ref (d + 15), .ref (d + 16), .ref (d + 17), .null, .null, .null, .null, .null, .int 0, .null, .null, .int 0, .null, .null, .null, .int 0]), aI cI 400, aI cI 400, aI cI 400, aI cI 400, aI cI 400, aI cI 400, aI cI 400, aI cZ 400, aI cZ 400, aI cI 400, aI cI 4800, aI cI 4800, aI cI 4800, aI cI 400, aI cI 400, aI cZ 2400, aI cZ 2400]) H := hZ
  refine zg_aload_n C dX5_init_157 rfl (lv_at hl 0 rfl) ?_
  refine zg_sipush C dX5_init_158 (by decide) ?_
  refine zn_newa (n := 2400) (t0 := 0) (a0 := (2400, .inl (fun _ => 0))) C K hZ hS acI rfl rfl (fun h => h) rfl (by decide) (by decide) (Nat.le_of_ble_eq_true rfl) (Nat.le_of_ble_eq_true rfl) rfl dX5_init_161 (fun H hZ hS => ?_)
  have hZ : zn D vwCl d ([.inr (5, [.int 0, .int 0, .ref (d + 1), .ref (d + 2), .ref (d + 3), .ref (d + 4), .ref (d + 5), .ref (d + 6), .ref (d + 7), .ref (d + 8), .ref (d + 9), .ref (d + 10), .ref (d + 11), .ref (d + 12), .ref (d + 13), .int 0, .ref (d + 14), .ref (d + 15), .ref (d + 16), .ref (d + 17), .null, .null, .null, .null, .null, .int 0, .null, .null, .int 0, .null, .null, .null, .int 0]), aI cI 400, aI cI 400, aI cI 400, aI cI 400, aI cI 400, aI cI 400, aI cI 400, aI cZ 400, aI cZ 400, aI cI 400, aI cI 4800, aI cI 4800, aI cI 4800, aI cI 400, aI cI 400, aI cZ 2400, aI cZ 2400, aI cI 2400]) H := hZ
  refine zn_putF (k := 0) (j := 20) (v := .ref (d + 18)) C hin2 K hZ hS (show s.heap.size + 18 ≤ d + 19 by omega) rfl rfl (zmem uwX5) tyX5 tyX5_ok nmX5 (by decide) (C.tb flX5_66) rfl rfl rfl rfl rfl (Nat.le_of_ble_eq_true rfl) dX5_init_163 (fun H locs hZ hS => ?_)
  have hZ : zn D vwCl d ([.inr (5, [.int 0, .int 0, .ref (d + 1), .ref (d + 2), .ref (d + 3), .ref (d + 4), .ref (d + 5), .ref (d + 6), .ref (d + 7), .ref (d + 8), .ref (d + 9), .ref (d + 10), .ref (d + 11), .ref (d + 12), .ref (d + 13), .int 0, .ref (d + 14), .ref (d + 15), .ref (d + 16), .ref (d + 17), .ref (d + 18), .null, .null, .null, .null, .int 0, .null, .null, .int 0, .null, .null, .null, .int 0]), aI cI 400, aI cI 400, aI cI 400, aI cI 400, aI cI 400, aI cI 400, aI cI 400, aI cZ 400, aI cZ 400, aI cI 400, aI cI 4800, aI cI 4800, aI cI 4800, aI cI 400, aI cI 400, aI cZ 2400, aI cZ 2400, aI cI 2400]) H := hZ
  refine zg_aload_n C dX5_init_166 rfl (lv_at hl 0 rfl) ?_
  refine zg_bipush C dX5_init_167 (by decide) ?_
  refine zn_newa (n := 36) (t0 := 0) (a0 := (36, .inl (fun _ => 0))) C K hZ hS acI rfl rfl (fun h => h) rfl (by decide) (by decide) (Nat.le_of_ble_eq_true rfl) (Nat.le_of_ble_eq_true rfl) rfl dX5_init_169 (fun H hZ hS => ?_)
  have hZ : zn D vwCl d ([.inr (5, [.int 0, .int 0, .ref (d + 1), .ref (d + 2), .ref (d + 3), .ref (d + 4), .ref (d + 5), .ref (d + 6), .ref (d + 7), .ref (d + 8), .ref (d + 9), .ref (d + 10), .ref (d + 11), .ref (d + 12), .ref (d + 13), .int 0, .ref (d + 14), .ref (d + 15), .ref (d + 16), .ref (d + 17), .ref (d + 18), .null, .null, .null, .null, .int 0, .null, .null, .int 0, .null, .null, .null, .int 0]), aI cI 400, aI cI 400, aI cI 400, aI cI 400, aI cI 400, aI cI 400, aI cI 400, aI cZ 400, aI cZ 400, aI cI 400, aI cI 4800, aI cI 4800, aI cI 4800, aI cI 400, aI cI 400, aI cZ 2400, aI cZ 2400, aI cI 2400, aI cI 36]) H := hZ
  refine zn_putF (k := 0) (j := 21) (v := .ref (d + 19)) C hin2 K hZ hS (show s.heap.size + 19 ≤ d + 20 by omega) rfl rfl (zmem uwX5) tyX5 tyX5_ok nmX5 (by decide) (C.tb flX5_69) rfl rfl rfl rfl rfl (Nat.le_of_ble_eq_true rfl) dX5_init_171 (fun H locs hZ hS => ?_)
  have hZ : zn D vwCl d ([.inr (5, [.int 0, .int 0, .ref (d + 1), .ref (d + 2), .ref (d + 3), .ref (d + 4), .ref (d + 5), .ref (d + 6), .ref (d + 7), .ref (d + 8), .ref (d + 9), .ref (d + 10), .ref (d + 11), .ref (d + 12), .ref (d + 13), .int 0, .ref (d + 14), .ref (d + 15), .ref (d + 16), .ref (d + 17), .ref (d + 18), .ref (d + 19), .null, .null, .null, .int 0, .null, .null, .int 0, .null, .null, .null, .int 0]), aI cI 400, aI cI 400, aI cI 400, aI cI 400, aI cI 400, aI cI 400, aI cI 400, aI cZ 400, aI cZ 400, aI cI 400, aI cI 4800, aI cI 4800, aI cI 4800, aI cI 400, aI cI 400, aI cZ 2400, aI cZ 2400, aI cI 2400, aI cI 36]) H := hZ
  refine zg_aload_n C dX5_init_174 rfl (lv_at hl 0 rfl) ?_
  refine zg_bipush C dX5_init_175 (by decide) ?_
  refine zn_newa (n := 6) (t0 := 0) (a0 := (6, .inl (fun _ => 0))) C K hZ hS acI rfl rfl (fun h => h) rfl (by decide) (by decide) (Nat.le_of_ble_eq_true rfl) (Nat.le_of_ble_eq_true rfl) rfl dX5_init_177 (fun H hZ hS => ?_)
  have hZ : zn D vwCl d ([.inr (5, [.int 0, .int 0, .ref (d + 1), .ref (d + 2), .ref (d + 3), .ref (d + 4), .ref (d + 5), .ref (d + 6), .ref (d + 7), .ref (d + 8), .ref (d + 9), .ref (d + 10), .ref (d + 11), .ref (d + 12), .ref (d + 13), .int 0, .ref (d + 14), .ref (d + 15), .ref (d + 16), .ref (d + 17), .ref (d + 18), .ref (d + 19), .null, .null, .null, .int 0, .null, .null, .int 0, .null, .null, .null, .int 0]), aI cI 400, aI cI 400, aI cI 400, aI cI 400, aI cI 400, aI cI 400, aI cI 400, aI cZ 400, aI cZ 400, aI cI 400, aI cI 4800, aI cI 4800, aI cI 4800, aI cI 400, aI cI 400, aI cZ 2400, aI cZ 2400, aI cI 2400, aI cI 36, aI cI 6]) H := hZ
  refine zn_putF (k := 0) (j := 22) (v := .ref (d + 20)) C hin2 K hZ hS (show s.heap.size + 20 ≤ d + 21 by omega) rfl rfl (zmem uwX5) tyX5 tyX5_ok nmX5 (by decide) (C.tb flX5_72) rfl rfl rfl rfl rfl (Nat.le_of_ble_eq_true rfl) dX5_init_179 (fun H locs hZ hS => ?_)
  have hZ : zn D vwCl d ([.inr (5, [.int 0, .int 0, .ref (d + 1), .ref (d + 2), .ref (d + 3), .ref (d + 4), .ref (d + 5), .ref (d + 6), .ref (d + 7), .ref (d + 8), .ref (d + 9), .ref (d + 10), .ref (d + 11), .ref (d + 12), .ref (d + 13), .int 0, .ref (d + 14), .ref (d + 15), .ref (d + 16), .ref (d + 17), .ref (d + 18), .ref (d + 19), .ref (d + 20), .null, .null, .int 0, .null, .null, .int 0, .null, .null, .null, .int 0]), aI cI 400, aI cI 400, aI cI 400, aI cI 400, aI cI 400, aI cI 400, aI cI 400, aI cZ 400, aI cZ 400, aI cI 400, aI cI 4800, aI cI 4800, aI cI 4800, aI cI 400, aI cI 400, aI cZ 2400, aI cZ 2400, aI cI 2400, aI cI 36, aI cI 6]) H := hZ
  refine zg_aload_n C dX5_init_182 rfl (lv_at hl 0 rfl) ?_
  refine zg_bipush C dX5_init_183 (by decide) ?_
  refine zn_newa (n := 6) (t0 := 0) (a0 := (6, .inl (fun _ => 0))) C K hZ hS acI rfl rfl (fun h => h) rfl (by decide) (by decide) (Nat.le_of_ble_eq_true rfl) (Nat.le_of_ble_eq_true rfl) rfl dX5_init_185 (fun H hZ hS => ?_)
  have hZ : zn D vwCl d ([.inr (5, [.int 0, .int 0, .ref (d + 1), .ref (d + 2), .ref (d + 3), .ref (d + 4), .ref (d + 5), .ref (d + 6), .ref (d + 7), .ref (d + 8), .ref (d + 9), .ref (d + 10), .ref (d + 11), .ref (d + 12), .ref (d + 13), .int 0, .ref (d + 14), .ref (d + 15), .ref (d + 16), .ref (d + 17), .ref (d + 18), .ref (d + 19), .ref (d + 20), .null, .null, .int 0, .null, .null, .int 0, .null, .null, .null, .int 0]), aI cI 400, aI cI 400, aI cI 400, aI cI 400, aI cI 400, aI cI 400, aI cI 400, aI cZ 400, aI cZ 400, aI cI 400, aI cI 4800, aI cI 4800, aI cI 4800, aI cI 400, aI cI 400, aI cZ 2400, aI cZ 2400, aI cI 2400, aI cI 36, aI cI 6, aI cI 6]) H := hZ
  refine zg_dup C dX5_init_187 rfl ?_
  refine zg_iconst C dX5_init_188 ?_
  refine zg_iconst C dX5_init_189 ?_
  refine zn_iast (k := 21) (n := 6) (t0 := 0) (i := 0) (v := 0) C K hZ hS (show s.heap.size + 21 ≤ d + 22 by omega) rfl rfl (by decide) (by omega) (by omega) dX5_init_190 (fun H locs hZ hS => ?_)
  refine zg_dup C dX5_init_191 rfl ?_
  refine zg_iconst C dX5_init_192 ?_
  refine zg_iconst C dX5_init_193 ?_
  refine zn_iast (k := 21) (n := 6) (t0 := 0) (i := 1) (v := 1) C K hZ hS (show s.heap.size + 21 ≤ d + 22 by omega) rfl rfl (by decide) (by omega) (by omega) dX5_init_194 (fun H locs hZ hS => ?_)
  refine zg_dup C dX5_init_195 rfl ?_
  refine zg_iconst C dX5_init_196 ?_
  refine zg_iconst C dX5_init_197 ?_
  refine zn_iast (k := 21) (n := 6) (t0 := 0) (i := 2) (v := 2) C K hZ hS (show s.heap.size + 21 ≤ d + 22 by omega) rfl rfl (by decide) (by omega) (by omega) dX5_init_198 (fun H locs hZ hS => ?_)
  refine zg_dup C dX5_init_199 rfl ?_
  refine zg_iconst C dX5_init_200 ?_
  refine zg_iconst C dX5_init_201 ?_
  refine zn_iast (k := 21) (n := 6) (t0 := 0) (i := 3) (v := 3) C K hZ hS (show s.heap.size + 21 ≤ d + 22 by omega) rfl rfl (by decide) (by omega) (by omega) dX5_init_202 (fun H locs hZ hS => ?_)
  refine zg_dup C dX5_init_203 rfl ?_
  refine zg_iconst C dX5_init_204 ?_
  refine zg_iconst C dX5_init_205 ?_
  refine zn_iast (k := 21) (n := 6) (t0 := 0) (i := 4) (v := 4) C K hZ hS (show s.heap.size + 21 ≤ d + 22 by omega) rfl rfl (by decide) (by omega) (by omega) dX5_init_206 (fun H locs hZ hS => ?_)
  refine zg_dup C dX5_init_207 rfl ?_
  refine zg_iconst C dX5_init_208 ?_
  refine zg_iconst C dX5_init_209 ?_
  refine zn_iast (k := 21) (n := 6) (t0 := 0) (i := 5) (v := 5) C K hZ hS (show s.heap.size + 21 ≤ d + 22 by omega) rfl rfl (by decide) (by omega) (by omega) dX5_init_210 (fun H locs hZ hS => ?_)
  have hZ : zn D vwCl d ([.inr (5, [.int 0, .int 0, .ref (d + 1), .ref (d + 2), .ref (d + 3), .ref (d + 4), .ref (d + 5), .ref (d + 6), .ref (d + 7), .ref (d + 8), .ref (d + 9), .ref (d + 10), .ref (d + 11), .ref (d + 12), .ref (d + 13), .int 0, .ref (d + 14), .ref (d + 15), .ref (d + 16), .ref (d + 17), .ref (d + 18), .ref (d + 19), .ref (d + 20), .null, .null, .int 0, .null, .null, .int 0, .null, .null, .null, .int 0]), aI cI 400, aI cI 400, aI cI 400, aI cI 400, aI cI 400, aI cI 400, aI cI 400, aI cZ 400, aI cZ 400, aI cI 400, aI cI 4800, aI cI 4800, aI cI 4800, aI cI 400, aI cI 400, aI cZ 2400, aI cZ 2400, aI cI 2400, aI cI 36, aI cI 6, .inl (cI, 6, .inl (fun j => jI (if j < 6 then (j : Int) else 0)))]) H := zn_cong (k := 21) (n := 6) (g := fun j => jI (if j < 6 then (j : Int) else 0)) hZ rfl (fun j hj => by rcases j with _ | _ | _ | _ | _ | _ | j <;> first | rfl | omega)
  refine zn_putF (k := 0) (j := 23) (v := .ref (d + 21)) C hin2 K hZ hS (show s.heap.size + 21 ≤ d + 22 by omega) rfl rfl (zmem uwX5) tyX5 tyX5_ok nmX5 (by decide) (C.tb flX5_75) rfl rfl rfl rfl rfl (Nat.le_of_ble_eq_true rfl) dX5_init_211 (fun H locs hZ hS => ?_)
  have hZ : zn D vwCl d ([.inr (5, [.int 0, .int 0, .ref (d + 1), .ref (d + 2), .ref (d + 3), .ref (d + 4), .ref (d + 5), .ref (d + 6), .ref (d + 7), .ref (d + 8), .ref (d + 9), .ref (d + 10), .ref (d + 11), .ref (d + 12), .ref (d + 13), .int 0, .ref (d + 14), .ref (d + 15), .ref (d + 16), .ref (d + 17), .ref (d + 18), .ref (d + 19), .ref (d + 20), .ref (d + 21), .null, .int 0, .null, .null, .int 0, .null, .null, .null, .int 0]), aI cI 400, aI cI 400, aI cI 400, aI cI 400, aI cI 400, aI cI 400, aI cI 400, aI cZ 400, aI cZ 400, aI cI 400, aI cI 4800, aI cI 4800, aI cI 4800, aI cI 400, aI cI 400, aI cZ 2400, aI cZ 2400, aI cI 2400, aI cI 36, aI cI 6, .inl (cI, 6, .inl (fun j => jI (if j < 6 then (j : Int) else 0)))]) H := hZ
  refine zg_aload_n C dX5_init_214 rfl (lv_at hl 0 rfl) ?_
  refine zg_bipush C dX5_init_215 (by decide) ?_
  refine zn_newa (n := 24) (t0 := 0) (a0 := (24, .inl (fun _ => 0))) C K hZ hS acI rfl rfl (fun h => h) rfl (by decide) (by decide) (Nat.le_of_ble_eq_true rfl) (Nat.le_of_ble_eq_true rfl) rfl dX5_init_217 (fun H hZ hS => ?_)
  have hZ : zn D vwCl d ([.inr (5, [.int 0, .int 0, .ref (d + 1), .ref (d + 2), .ref (d + 3), .ref (d + 4), .ref (d + 5), .ref (d + 6), .ref (d + 7), .ref (d + 8), .ref (d + 9), .ref (d + 10), .ref (d + 11), .ref (d + 12), .ref (d + 13), .int 0, .ref (d + 14), .ref (d + 15), .ref (d + 16), .ref (d + 17), .ref (d + 18), .ref (d + 19), .ref (d + 20), .ref (d + 21), .null, .int 0, .null, .null, .int 0, .null, .null, .null, .int 0]), aI cI 400, aI cI 400, aI cI 400, aI cI 400, aI cI 400, aI cI 400, aI cI 400, aI cZ 400, aI cZ 400, aI cI 400, aI cI 4800, aI cI 4800, aI cI 4800, aI cI 400, aI cI 400, aI cZ 2400, aI cZ 2400, aI cI 2400, aI cI 36, aI cI 6, .inl (cI, 6, .inl (fun j => jI (if j < 6 then (j : Int) else 0))), aI cI 24]) H := hZ
  refine zn_putF (k := 0) (j := 24) (v := .ref (d + 22)) C hin2 K hZ hS (show s.heap.size + 22 ≤ d + 23 by omega) rfl rfl (zmem uwX5) tyX5 tyX5_ok nmX5 (by decide) (C.tb flX5_78) rfl rfl rfl rfl rfl (Nat.le_of_ble_eq_true rfl) dX5_init_219 (fun H locs hZ hS => ?_)
  have hZ : zn D vwCl d ([.inr (5, [.int 0, .int 0, .ref (d + 1), .ref (d + 2), .ref (d + 3), .ref (d + 4), .ref (d + 5), .ref (d + 6), .ref (d + 7), .ref (d + 8), .ref (d + 9), .ref (d + 10), .ref (d + 11), .ref (d + 12), .ref (d + 13), .int 0, .ref (d + 14), .ref (d + 15), .ref (d + 16), .ref (d + 17), .ref (d + 18), .ref (d + 19), .ref (d + 20), .ref (d + 21), .ref (d + 22), .int 0, .null, .null, .int 0, .null, .null, .null, .int 0]), aI cI 400, aI cI 400, aI cI 400, aI cI 400, aI cI 400, aI cI 400, aI cI 400, aI cZ 400, aI cZ 400, aI cI 400, aI cI 4800, aI cI 4800, aI cI 4800, aI cI 400, aI cI 400, aI cZ 2400, aI cZ 2400, aI cI 2400, aI cI 36, aI cI 6, .inl (cI, 6, .inl (fun j => jI (if j < 6 then (j : Int) else 0))), aI cI 24]) H := hZ
  refine zg_aload_n C dX5_init_222 rfl (lv_at hl 0 rfl) ?_
  refine zg_sipush C dX5_init_223 (by decide) ?_
  refine zn_newa (n := 300) (t0 := 0) (a0 := (300, .inl (fun _ => 0))) C K hZ hS acI rfl rfl (fun h => h) rfl (by decide) (by decide) (Nat.le_of_ble_eq_true rfl) (Nat.le_of_ble_eq_true rfl) rfl dX5_init_226 (fun H hZ hS => ?_)
  have hZ : zn D vwCl d ([.inr (5, [.int 0, .int 0, .ref (d + 1), .ref (d + 2), .ref (d + 3), .ref (d + 4), .ref (d + 5), .ref (d + 6), .ref (d + 7), .ref (d + 8), .ref (d + 9), .ref (d + 10), .ref (d + 11), .ref (d + 12), .ref (d + 13), .int 0, .ref (d + 14), .ref (d + 15), .ref (d + 16), .ref (d + 17), .ref (d + 18), .ref (d + 19), .ref (d + 20), .ref (d + 21), .ref (d + 22), .int 0, .null, .null, .int 0, .null, .null, .null, .int 0]), aI cI 400, aI cI 400, aI cI 400, aI cI 400, aI cI 400, aI cI 400, aI cI 400, aI cZ 400, aI cZ 400, aI cI 400, aI cI 4800, aI cI 4800, aI cI 4800, aI cI 400, aI cI 400, aI cZ 2400, aI cZ 2400, aI cI 2400, aI cI 36, aI cI 6, .inl (cI, 6, .inl (fun j => jI (if j < 6 then (j : Int) else 0))), aI cI 24, aI cI 300]) H := hZ
  refine zn_putF (k := 0) (j := 26) (v := .ref (d + 23)) C hin2 K hZ hS (show s.heap.size + 23 ≤ d + 24 by omega) rfl rfl (zmem uwX5) tyX5 tyX5_ok nmX5 (by decide) (C.tb flX5_81) rfl rfl rfl rfl rfl (Nat.le_of_ble_eq_true rfl) dX5_init_228 (fun H locs hZ hS => ?_)
  have hZ : zn D vwCl d ([.inr (5, [.int 0, .int 0, .ref (d + 1), .ref (d + 2), .ref (d + 3), .ref (d + 4), .ref (d + 5), .ref (d + 6), .ref (d + 7), .ref (d + 8), .ref (d + 9), .ref (d + 10), .ref (d + 11), .ref (d + 12), .ref (d + 13), .int 0, .ref (d + 14), .ref (d + 15), .ref (d + 16), .ref (d + 17), .ref (d + 18), .ref (d + 19), .ref (d + 20), .ref (d + 21), .ref (d + 22), .int 0, .ref (d + 23), .null, .int 0, .null, .null, .null, .int 0]), aI cI 400, aI cI 400, aI cI 400, aI cI 400, aI cI 400, aI cI 400, aI cI 400, aI cZ 400, aI cZ 400, aI cI 400, aI cI 4800, aI cI 4800, aI cI 4800, aI cI 400, aI cI 400, aI cZ 2400, aI cZ 2400, aI cI 2400, aI cI 36, aI cI 6, .inl (cI, 6, .inl (fun j => jI (if j < 6 then (j : Int) else 0))), aI cI 24, aI cI 300]) H := hZ
  refine zg_aload_n C dX5_init_231 rfl (lv_at hl 0 rfl) ?_
  refine zg_sipush C dX5_init_232 (by decide) ?_
  refine zn_newa (n := 300) (t0 := 0) (a0 := (300, .inl (fun _ => 0))) C K hZ hS acI rfl rfl (fun h => h) rfl (by decide) (by decide) (Nat.le_of_ble_eq_true rfl) (Nat.le_of_ble_eq_true rfl) rfl dX5_init_235 (fun H hZ hS => ?_)
  have hZ : zn D vwCl d ([.inr (5, [.int 0, .int 0, .ref (d + 1), .ref (d + 2), .ref (d + 3), .ref (d + 4), .ref (d + 5), .ref (d + 6), .ref (d + 7), .ref (d + 8), .ref (d + 9), .ref (d + 10), .ref (d + 11), .ref (d + 12), .ref (d + 13), .int 0, .ref (d + 14), .ref (d + 15), .ref (d + 16), .ref (d + 17), .ref (d + 18), .ref (d + 19), .ref (d + 20), .ref (d + 21), .ref (d + 22), .int 0, .ref (d + 23), .null, .int 0, .null, .null, .null, .int 0]), aI cI 400, aI cI 400, aI cI 400, aI cI 400, aI cI 400, aI cI 400, aI cI 400, aI cZ 400, aI cZ 400, aI cI 400, aI cI 4800, aI cI 4800, aI cI 4800, aI cI 400, aI cI 400, aI cZ 2400, aI cZ 2400, aI cI 2400, aI cI 36, aI cI 6, .inl (cI, 6, .inl (fun j => jI (if j < 6 then (j : Int) else 0))), aI cI 24, aI cI 300, aI cI 300]) H := hZ
  refine zn_putF (k := 0) (j := 27) (v := .ref (d + 24)) C hin2 K hZ hS (show s.heap.size + 24 ≤ d + 25 by omega) rfl rfl (zmem uwX5) tyX5 tyX5_ok nmX5 (by decide) (C.tb flX5_84) rfl rfl rfl rfl rfl (Nat.le_of_ble_eq_true rfl) dX5_init_237 (fun H locs hZ hS => ?_)
  have hZ : zn D vwCl d ([.inr (5, [.int 0, .int 0, .ref (d + 1), .ref (d + 2), .ref (d + 3), .ref (d + 4), .ref (d + 5), .ref (d + 6), .ref (d + 7), .ref (d + 8), .ref (d + 9), .ref (d + 10), .ref (d + 11), .ref (d + 12), .ref (d + 13), .int 0, .ref (d + 14), .ref (d + 15), .ref (d + 16), .ref (d + 17), .ref (d + 18), .ref (d + 19), .ref (d + 20), .ref (d + 21), .ref (d + 22), .int 0, .ref (d + 23), .ref (d + 24), .int 0, .null, .null, .null, .int 0]), aI cI 400, aI cI 400, aI cI 400, aI cI 400, aI cI 400, aI cI 400, aI cI 400, aI cZ 400, aI cZ 400, aI cI 400, aI cI 4800, aI cI 4800, aI cI 4800, aI cI 400, aI cI 400, aI cZ 2400, aI cZ 2400, aI cI 2400, aI cI 36, aI cI 6, .inl (cI, 6, .inl (fun j => jI (if j < 6 then (j : Int) else 0))), aI cI 24, aI cI 300, aI cI 300]) H := hZ
  refine zg_aload_n C dX5_init_240 rfl (lv_at hl 0 rfl) ?_
  refine zg_bipush C dX5_init_241 (by decide) ?_
  refine zn_newa (n := 12) (t0 := 0) (a0 := (12, .inl (fun _ => 0))) C K hZ hS acI rfl rfl (fun h => h) rfl (by decide) (by decide) (Nat.le_of_ble_eq_true rfl) (Nat.le_of_ble_eq_true rfl) rfl dX5_init_243 (fun H hZ hS => ?_)
  have hZ : zn D vwCl d ([.inr (5, [.int 0, .int 0, .ref (d + 1), .ref (d + 2), .ref (d + 3), .ref (d + 4), .ref (d + 5), .ref (d + 6), .ref (d + 7), .ref (d + 8), .ref (d + 9), .ref (d + 10), .ref (d + 11), .ref (d + 12), .ref (d + 13), .int 0, .ref (d + 14), .ref (d + 15), .ref (d + 16), .ref (d + 17), .ref (d + 18), .ref (d + 19), .ref (d + 20), .ref (d + 21), .ref (d + 22), .int 0, .ref (d + 23), .ref (d + 24), .int 0, .null, .null, .null, .int 0]), aI cI 400, aI cI 400, aI cI 400, aI cI 400, aI cI 400, aI cI 400, aI cI 400, aI cZ 400, aI cZ 400, aI cI 400, aI cI 4800, aI cI 4800, aI cI 4800, aI cI 400, aI cI 400, aI cZ 2400, aI cZ 2400, aI cI 2400, aI cI 36, aI cI 6, .inl (cI, 6, .inl (fun j => jI (if j < 6 then (j : Int) else 0))), aI cI 24, aI cI 300, aI cI 300, aI cI 12]) H := hZ
  refine zn_putF (k := 0) (j := 29) (v := .ref (d + 25)) C hin2 K hZ hS (show s.heap.size + 25 ≤ d + 26 by omega) rfl rfl (zmem uwX5) tyX5 tyX5_ok nmX5 (by decide) (C.tb flX5_87) rfl rfl rfl rfl rfl (Nat.le_of_ble_eq_true rfl) dX5_init_245 (fun H locs hZ hS => ?_)
  have hZ : zn D vwCl d ([.inr (5, [.int 0, .int 0, .ref (d + 1), .ref (d + 2), .ref (d + 3), .ref (d + 4), .ref (d + 5), .ref (d + 6), .ref (d + 7), .ref (d + 8), .ref (d + 9), .ref (d + 10), .ref (d + 11), .ref (d + 12), .ref (d + 13), .int 0, .ref (d + 14), .ref (d + 15), .ref (d + 16), .ref (d + 17), .ref (d + 18), .ref (d + 19), .ref (d + 20), .ref (d + 21), .ref (d + 22), .int 0, .ref (d + 23), .ref (d + 24), .int 0, .ref (d + 25), .null, .null, .int 0]), aI cI 400, aI cI 400, aI cI 400, aI cI 400, aI cI 400, aI cI 400, aI cI 400, aI cZ 400, aI cZ 400, aI cI 400, aI cI 4800, aI cI 4800, aI cI 4800, aI cI 400, aI cI 400, aI cZ 2400, aI cZ 2400, aI cI 2400, aI cI 36, aI cI 6, .inl (cI, 6, .inl (fun j => jI (if j < 6 then (j : Int) else 0))), aI cI 24, aI cI 300, aI cI 300, aI cI 12]) H := hZ
  refine zg_aload_n C dX5_init_248 rfl (lv_at hl 0 rfl) ?_
  refine zg_bipush C dX5_init_249 (by decide) ?_
  refine zn_newa (n := 12) (t0 := 0) (a0 := (12, .inl (fun _ => 0))) C K hZ hS acI rfl rfl (fun h => h) rfl (by decide) (by decide) (Nat.le_of_ble_eq_true rfl) (Nat.le_of_ble_eq_true rfl) rfl dX5_init_251 (fun H hZ hS => ?_)
  have hZ : zn D vwCl d ([.inr (5, [.int 0, .int 0, .ref (d + 1), .ref (d + 2), .ref (d + 3), .ref (d + 4), .ref (d + 5), .ref (d + 6), .ref (d + 7), .ref (d + 8), .ref (d + 9), .ref (d + 10), .ref (d + 11), .ref (d + 12), .ref (d + 13), .int 0, .ref (d + 14), .ref (d + 15), .ref (d + 16), .ref (d + 17), .ref (d + 18), .ref (d + 19), .ref (d + 20), .ref (d + 21), .ref (d + 22), .int 0, .ref (d + 23), .ref (d + 24), .int 0, .ref (d + 25), .null, .null, .int 0]), aI cI 400, aI cI 400, aI cI 400, aI cI 400, aI cI 400, aI cI 400, aI cI 400, aI cZ 400, aI cZ 400, aI cI 400, aI cI 4800, aI cI 4800, aI cI 4800, aI cI 400, aI cI 400, aI cZ 2400, aI cZ 2400, aI cI 2400, aI cI 36, aI cI 6, .inl (cI, 6, .inl (fun j => jI (if j < 6 then (j : Int) else 0))), aI cI 24, aI cI 300, aI cI 300, aI cI 12, aI cI 12]) H := hZ
  refine zn_putF (k := 0) (j := 30) (v := .ref (d + 26)) C hin2 K hZ hS (show s.heap.size + 26 ≤ d + 27 by omega) rfl rfl (zmem uwX5) tyX5 tyX5_ok nmX5 (by decide) (C.tb flX5_90) rfl rfl rfl rfl rfl (Nat.le_of_ble_eq_true rfl) dX5_init_253 (fun H locs hZ hS => ?_)
  have hZ : zn D vwCl d ([.inr (5, [.int 0, .int 0, .ref (d + 1), .ref (d + 2), .ref (d + 3), .ref (d + 4), .ref (d + 5), .ref (d + 6), .ref (d + 7), .ref (d + 8), .ref (d + 9), .ref (d + 10), .ref (d + 11), .ref (d + 12), .ref (d + 13), .int 0, .ref (d + 14), .ref (d + 15), .ref (d + 16), .ref (d + 17), .ref (d + 18), .ref (d + 19), .ref (d + 20), .ref (d + 21), .ref (d + 22), .int 0, .ref (d + 23), .ref (d + 24), .int 0, .ref (d + 25), .ref (d + 26), .null, .int 0]), aI cI 400, aI cI 400, aI cI 400, aI cI 400, aI cI 400, aI cI 400, aI cI 400, aI cZ 400, aI cZ 400, aI cI 400, aI cI 4800, aI cI 4800, aI cI 4800, aI cI 400, aI cI 400, aI cZ 2400, aI cZ 2400, aI cI 2400, aI cI 36, aI cI 6, .inl (cI, 6, .inl (fun j => jI (if j < 6 then (j : Int) else 0))), aI cI 24, aI cI 300, aI cI 300, aI cI 12, aI cI 12]) H := hZ
  refine zg_aload_n C dX5_init_256 rfl (lv_at hl 0 rfl) ?_
  refine zg_bipush C dX5_init_257 (by decide) ?_
  refine zn_newa (n := 12) (t0 := 0) (a0 := (12, .inl (fun _ => 0))) C K hZ hS acI rfl rfl (fun h => h) rfl (by decide) (by decide) (Nat.le_of_ble_eq_true rfl) (Nat.le_of_ble_eq_true rfl) rfl dX5_init_259 (fun H hZ hS => ?_)
  have hZ : zn D vwCl d ([.inr (5, [.int 0, .int 0, .ref (d + 1), .ref (d + 2), .ref (d + 3), .ref (d + 4), .ref (d + 5), .ref (d + 6), .ref (d + 7), .ref (d + 8), .ref (d + 9), .ref (d + 10), .ref (d + 11), .ref (d + 12), .ref (d + 13), .int 0, .ref (d + 14), .ref (d + 15), .ref (d + 16), .ref (d + 17), .ref (d + 18), .ref (d + 19), .ref (d + 20), .ref (d + 21), .ref (d + 22), .int 0, .ref (d + 23), .ref (d + 24), .int 0, .ref (d + 25), .ref (d + 26), .null, .int 0]), aI cI 400, aI cI 400, aI cI 400, aI cI 400, aI cI 400, aI cI 400, aI cI 400, aI cZ 400, aI cZ 400, aI cI 400, aI cI 4800, aI cI 4800, aI cI 4800, aI cI 400, aI cI 400, aI cZ 2400, aI cZ 2400, aI cI 2400, aI cI 36, aI cI 6, .inl (cI, 6, .inl (fun j => jI (if j < 6 then (j : Int) else 0))), aI cI 24, aI cI 300, aI cI 300, aI cI 12, aI cI 12, aI cI 12]) H := hZ
  refine zn_putF (k := 0) (j := 31) (v := .ref (d + 27)) C hin2 K hZ hS (show s.heap.size + 27 ≤ d + 28 by omega) rfl rfl (zmem uwX5) tyX5 tyX5_ok nmX5 (by decide) (C.tb flX5_93) rfl rfl rfl rfl rfl (Nat.le_of_ble_eq_true rfl) dX5_init_261 (fun H locs hZ hS => ?_)
  have hZ : zn D vwCl d ([.inr (5, [.int 0, .int 0, .ref (d + 1), .ref (d + 2), .ref (d + 3), .ref (d + 4), .ref (d + 5), .ref (d + 6), .ref (d + 7), .ref (d + 8), .ref (d + 9), .ref (d + 10), .ref (d + 11), .ref (d + 12), .ref (d + 13), .int 0, .ref (d + 14), .ref (d + 15), .ref (d + 16), .ref (d + 17), .ref (d + 18), .ref (d + 19), .ref (d + 20), .ref (d + 21), .ref (d + 22), .int 0, .ref (d + 23), .ref (d + 24), .int 0, .ref (d + 25), .ref (d + 26), .ref (d + 27), .int 0]), aI cI 400, aI cI 400, aI cI 400, aI cI 400, aI cI 400, aI cI 400, aI cI 400, aI cZ 400, aI cZ 400, aI cI 400, aI cI 4800, aI cI 4800, aI cI 4800, aI cI 400, aI cI 400, aI cZ 2400, aI cZ 2400, aI cI 2400, aI cI 36, aI cI 6, .inl (cI, 6, .inl (fun j => jI (if j < 6 then (j : Int) else 0))), aI cI 24, aI cI 300, aI cI 300, aI cI 12, aI cI 12, aI cI 12]) H := hZ
  refine zg_iconst C dX5_init_264 ?_
  refine zg_istore_n (lv' := [(1, .int (jI 0)), (0, .ref d)]) C dX5_init_265 rfl hl (by decide) rfl (fun ls hl => ?_)
  refine lpX5_init_266 d C K h0 25 0 _ _ _ (by omega) (by omega) (by omega) ?_ hS (lv_sub hl [1, 0] rfl) (fun H locs ls hZ hS hl => ?_)
  · have h9 := zn_cong (k := 22) (n := 24) (g := fun j => if j < (0 : Int).toNat then jI (-1) else 0) hZ rfl (fun j _ => by simp)
    exact h9
  refine zg_iconst C dX5_init_285 ?_
  refine zg_istore_n (lv' := [(1, .int (jI 0)), (0, .ref d)]) C dX5_init_286 rfl hl (by decide) rfl (fun ls hl => ?_)
  refine lpX5_init_287 d C K h0 2401 0 _ _ _ (by omega) (by omega) (by omega) ?_ hS (lv_sub hl [1, 0] rfl) (fun H locs ls hZ hS hl => ?_)
  · have h9 := zn_cong (k := 18) (n := 2400) (g := fun j => if j < (0 : Int).toNat then jI (-1) else 0) hZ rfl (fun j _ => by simp)
    exact h9
  exact zn_ret C h0 hZ hS rfl dX5_init_307

