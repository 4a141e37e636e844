set_option maxHeartbeats 4000000 in
set_option maxRecDepth 100000 in
theorem kX0_isFull (l : Launch) {D : va_G} {a : Nat → Nat} {cI cZ cR : ClassId} (σ : Zt) (hR : rgS σ) : zc l D vwCl (tyS cI cZ cR) 56 (layS cI cZ cR a) a yX0_isFull wsX0_isFull ({ frames := 0, cells := 0, slots := 0, locals := 0 }) [.ref (a 1)] σ (fun r_ u_ => r_ = jI (bI (kFull σ)) ∧ u_ = σ) := by
  refine zc_of (cc := cX0_isFull) (maxL := 1) (ret := some .boolean) (own := RX0) (by decide) rfl rfl (Nat.le_of_ble_eq_true rfl) rfl ?_
  intro p e s m below meth c A ls C X hP hS hl
  refine zg_aload_n C dX0_isFull_0 rfl (lv_at hl 0 rfl) ?_
  refine zg_get (j := 10) C X hP (by decide) lyS_1 rfl (zmem uwX0) (by decide) (C.tb flX0_40) (fun _ h9 => h9) rfl dX0_isFull_1 ?_
  have b_1 := rgS_1_10 hR
  refine zg_sipush C dX0_isFull_4 (by decide) ?_
  refine zg_icmp_lt (tgt := 14) C (by omega) (by omega) (by omega) (by omega) dX0_isFull_7 (by decide) (fun c_2 => ?_) (fun c_2 => ?_)
  · refine zg_iconst C dX0_isFull_14 ?_
    refine zg_zret (b := false) C hP hS dX0_isFull_15 ?_
    exact ⟨congrArg (fun b => jI (bI b)) (by grind [kFull]), rfl⟩
  · refine zg_iconst C dX0_isFull_10 ?_
    refine zg_goto (tgt := 15) C dX0_isFull_11 (by decide) ?_
    refine zg_zret (b := true) C hP hS dX0_isFull_15 ?_
    exact ⟨congrArg (fun b => jI (bI b)) (by grind [kFull]), rfl⟩
set_option maxHeartbeats 4000000 in
set_option maxRecDepth 100000 in
theorem kX0_isLater (l : Launch) {D : va_G} {a : Nat → Nat} {cI cZ cR : ClassId} (σ : Zt) (hR : rgS σ) (d : Int) (f : Int) (d0 : 0 ≤ d) (d1 : d < 400) (f0 : 0 ≤ f) (f1 : f < 400) : zc l D vwCl (tyS cI cZ cR) 56 (layS cI cZ cR a) a yX0_isLater wsX0_isLater ({ frames := 0, cells := 0, slots := 0, locals := 0 }) [.ref (a 1), .int (jI d), .int (jI f)] σ (fun r_ u_ => r_ = jI (bI (kLater σ d f)) ∧ u_ = σ) := by
  refine zc_of (cc := cX0_isLater) (maxL := 3) (ret := some .boolean) (own := RX0) (by decide) rfl rfl (Nat.le_of_ble_eq_true rfl) rfl ?_
  intro p e s m below meth c A ls C X hP hS hl
  refine zg_aload_n C dX0_isLater_0 rfl (lv_at hl 0 rfl) ?_
  refine zg_get (j := 2) C X hP (by decide) lyS_1 rfl (zmem uwX0) (by decide) (C.tb flX0_18) (fun _ h9 => h9) rfl dX0_isLater_1 ?_
  refine zg_iload_n C dX0_isLater_4 rfl (lv_at hl 1 rfl) ?_
  refine zg_iald (t0 := 0) C X hP (by decide) lyS_4 rfl (by decide) (by omega) (by omega) dX0_isLater_5 ?_
  have b_1 := rgS_4 hR ((d).toNat)
  refine zg_aload_n C dX0_isLater_6 rfl (lv_at hl 0 rfl) ?_
  refine zg_get (j := 2) C X hP (by decide) lyS_1 rfl (zmem uwX0) (by decide) (C.tb flX0_18) (fun _ h9 => h9) rfl dX0_isLater_7 ?_
  refine zg_iload_n C dX0_isLater_10 rfl (lv_at hl 2 rfl) ?_
  refine zg_iald (t0 := 0) C X hP (by decide) lyS_4 rfl (by decide) (by omega) (by omega) dX0_isLater_11 ?_
  have b_2 := rgS_4 hR ((f).toNat)
  refine zg_icmp_gt (tgt := 45) C (by omega) (by omega) (by omega) (by omega) dX0_isLater_12 (by decide) (fun c_3 => ?_) (fun c_3 => ?_)
  · refine zg_iconst C dX0_isLater_45 ?_
    refine zg_goto (tgt := 50) C dX0_isLater_46 (by decide) ?_
    refine zg_zret (b := true) C hP hS dX0_isLater_50 ?_
    exact ⟨congrArg (fun b => jI (bI b)) (by grind [kLater]), rfl⟩
  · refine zg_aload_n C dX0_isLater_15 rfl (lv_at hl 0 rfl) ?_
    refine zg_get (j := 2) C X hP (by decide) lyS_1 rfl (zmem uwX0) (by decide) (C.tb flX0_18) (fun _ h9 => h9) rfl dX0_isLater_16 ?_
    refine zg_iload_n C dX0_isLater_19 rfl (lv_at hl 1 rfl) ?_
    refine zg_iald (t0 := 0) C X hP (by decide) lyS_4 rfl (by decide) (by omega) (by omega) dX0_isLater_20 ?_
    have b_4 := rgS_4 hR ((d).toNat)
    refine zg_aload_n C dX0_isLater_21 rfl (lv_at hl 0 rfl) ?_
    refine zg_get (j := 2) C X hP (by decide) lyS_1 rfl (zmem uwX0) (by decide) (C.tb flX0_18) (fun _ h9 => h9) rfl dX0_isLater_22 ?_
    refine zg_iload_n C dX0_isLater_25 rfl (lv_at hl 2 rfl) ?_
    refine zg_iald (t0 := 0) C X hP (by decide) lyS_4 rfl (by decide) (by omega) (by omega) dX0_isLater_26 ?_
    have b_5 := rgS_4 hR ((f).toNat)
    refine zg_icmp_ne (tgt := 49) C (by omega) (by omega) (by omega) (by omega) dX0_isLater_27 (by decide) (fun c_6 => ?_) (fun c_6 => ?_)
    · refine zg_iconst C dX0_isLater_49 ?_
      refine zg_zret (b := false) C hP hS dX0_isLater_50 ?_
      exact ⟨congrArg (fun b => jI (bI b)) (by grind [kLater]), rfl⟩
    · refine zg_aload_n C dX0_isLater_30 rfl (lv_at hl 0 rfl) ?_
      refine zg_get (j := 0) C X hP (by decide) lyS_1 rfl (zmem uwX0) (by decide) (C.tb flX0_9) (fun _ h9 => h9) rfl dX0_isLater_31 ?_
      refine zg_iload_n C dX0_isLater_34 rfl (lv_at hl 1 rfl) ?_
      refine zg_iald (t0 := 0) C X hP (by decide) lyS_2 rfl (by decide) (by omega) (by omega) dX0_isLater_35 ?_
      have b_7 := rgS_2 hR ((d).toNat)
      refine zg_aload_n C dX0_isLater_36 rfl (lv_at hl 0 rfl) ?_
      refine zg_get (j := 0) C X hP (by decide) lyS_1 rfl (zmem uwX0) (by decide) (C.tb flX0_9) (fun _ h9 => h9) rfl dX0_isLater_37 ?_
      refine zg_iload_n C dX0_isLater_40 rfl (lv_at hl 2 rfl) ?_
      refine zg_iald (t0 := 0) C X hP (by decide) lyS_2 rfl (by decide) (by omega) (by omega) dX0_isLater_41 ?_
      have b_8 := rgS_2 hR ((f).toNat)
      refine zg_icmp_le (tgt := 49) C (by omega) (by omega) (by omega) (by omega) dX0_isLater_42 (by decide) (fun c_9 => ?_) (fun c_9 => ?_)
      · refine zg_iconst C dX0_isLater_49 ?_
        refine zg_zret (b := false) C hP hS dX0_isLater_50 ?_
        exact ⟨congrArg (fun b => jI (bI b)) (by grind [kLater]), rfl⟩
      · refine zg_iconst C dX0_isLater_45 ?_
        refine zg_goto (tgt := 50) C dX0_isLater_46 (by decide) ?_
        refine zg_zret (b := true) C hP hS dX0_isLater_50 ?_
        exact ⟨congrArg (fun b => jI (bI b)) (by grind [kLater]), rfl⟩
set_option maxHeartbeats 4000000 in
set_option maxRecDepth 100000 in
theorem lpX0_lastToUndo_7 {l : Launch} {D : va_G} {a : Nat → Nat} {cI cZ cR : ClassId} {p : Program} {e : Env} {s : State} {m : MethodId} {below : List Frame} {meth : Method} {c : Code} {A : Nat → Prop} (σ : Zt) (hR : rgS σ) (w : Int) (w0 : 0 ≤ w) (w1 : w < 6)  (C : zk p s m ([.ref (a 1), .int (jI w)] : List Value).toArray meth c cX0_lastToUndo 3 (some .int) wsX0_lastToUndo RX0) (X : zx D vwCl (tyS cI cZ cR) A a 56 s) :
    ∀ (n : Nat) (d : Int) (H : Heap) (locs : List Loc) (ls : Array Slot), ((d + 1).toNat < n) → (-1 ≤ d) → (d < 400) → (kLast σ w (σ 1 10).toNat = kLast σ w (d + 1).toNat) → va_P D vwCl (zw 56 (layS cI cZ cR a) a σ) H → va_S A s.heap H locs → lv_has ls 3 [(0, .ref (a 1)), (1, .int (jI w)), (2, .int (jI d))] →
      W p l e ({ frames := 0, cells := 0, slots := 0, locals := 0 }) s m ([.ref (a 1), .int (jI w)] : List Value).toArray below meth c H locs 0 0 (MQ below (va_Qi (fun r_ u_ => r_ = jI (kLast σ w (σ 1 10).toNat) ∧ u_ = σ) (fun (u : Zt) t => va_P D vwCl (zw 56 (layS cI cZ cR a) a u) t.heap) A) ([.ref (a 1), .int (jI w)] : List Value).toArray s 0 0 A) (F0 m 7 ls []) := by
  intro n
  induction n with
  | zero =>
    intro d  H locs ls hn h0 h1 hE hP hS hl
    exact absurd hn (by omega)
  | succ n ih =>
    intro d  H locs ls hn h0 h1 hE hP hS hl
    refine zg_iload_n C dX0_lastToUndo_7 rfl (lv_at hl 2 rfl) ?_
    refine zg_if_lt (tgt := 38) C (by omega) (by omega) dX0_lastToUndo_8 (by decide) (fun c_1 => ?_) (fun c_1 => ?_)
    · refine zg_iconst C dX0_lastToUndo_38 ?_
      refine zg_iret C hP hS dX0_lastToUndo_39 ?_
      exact ⟨congrArg jI (by rw [hE, kLast_end (by omega)]), rfl⟩
    · refine zg_aload_n C dX0_lastToUndo_11 rfl (lv_at hl 0 rfl) ?_
      refine zg_get (j := 7) C X hP (by decide) lyS_1 rfl (zmem uwX0) (by decide) (C.tb flX0_33) (fun _ h9 => h9) rfl dX0_lastToUndo_12 ?_
      refine zg_iload_n C dX0_lastToUndo_15 rfl (lv_at hl 2 rfl) ?_
      refine zg_zald (t0 := 1) C X hP (by decide) lyS_9 rfl (by decide) (by omega) (by omega) dX0_lastToUndo_16 ?_
      have b_2 := rgS_9 hR ((d).toNat)
      refine zg_if_eq (tgt := 32) C (by omega) (by omega) dX0_lastToUndo_17 (by decide) (fun c_3 => ?_) (fun c_3 => ?_)
      · refine zg_iinc (k := 2) (lv' := [(2, .int (jI (d + -1))), (0, .ref (a 1)), (1, .int (jI w))]) C dX0_lastToUndo_32 hl rfl (by decide) rfl (fun ls hl => ?_)
        refine zg_goto (tgt := 7) C dX0_lastToUndo_35 (by decide) ?_
        exact ih (d + -1) _ _ _ (by omega) (by omega) (by omega) (hE.trans (kLast_step (by omega) (by grind))) hP hS (lv_sub hl [1, 2, 0] rfl)
      · refine zg_aload_n C dX0_lastToUndo_20 rfl (lv_at hl 0 rfl) ?_
        refine zg_get (j := 0) C X hP (by decide) lyS_1 rfl (zmem uwX0) (by decide) (C.tb flX0_9) (fun _ h9 => h9) rfl dX0_lastToUndo_21 ?_
        refine zg_iload_n C dX0_lastToUndo_24 rfl (lv_at hl 2 rfl) ?_
        refine zg_iald (t0 := 0) C X hP (by decide) lyS_2 rfl (by decide) (by omega) (by omega) dX0_lastToUndo_25 ?_
        have b_4 := rgS_2 hR ((d).toNat)
        refine zg_iload_n C dX0_lastToUndo_26 rfl (lv_at hl 1 rfl) ?_
        refine zg_icmp_ne (tgt := 32) C (by omega) (by omega) (by omega) (by omega) dX0_lastToUndo_27 (by decide) (fun c_5 => ?_) (fun c_5 => ?_)
        · refine zg_iinc (k := 2) (lv' := [(2, .int (jI (d + -1))), (0, .ref (a 1)), (1, .int (jI w))]) C dX0_lastToUndo_32 hl rfl (by decide) rfl (fun ls hl => ?_)
          refine zg_goto (tgt := 7) C dX0_lastToUndo_35 (by decide) ?_
          exact ih (d + -1) _ _ _ (by omega) (by omega) (by omega) (hE.trans (kLast_step (by omega) (by grind))) hP hS (lv_sub hl [1, 2, 0] rfl)
        · refine zg_iload_n C dX0_lastToUndo_30 rfl (lv_at hl 2 rfl) ?_
          refine zg_iret C hP hS dX0_lastToUndo_31 ?_
          exact ⟨congrArg jI (by rw [hE, kLast_hit (by omega) (by assumption) (by assumption)]), rfl⟩
set_option maxHeartbeats 4000000 in
set_option maxRecDepth 100000 in
theorem kX0_lastToUndo (l : Launch) {D : va_G} {a : Nat → Nat} {cI cZ cR : ClassId} (σ : Zt) (hR : rgS σ) (w : Int) (w0 : 0 ≤ w) (w1 : w < 6) : zc l D vwCl (tyS cI cZ cR) 56 (layS cI cZ cR a) a yX0_lastToUndo wsX0_lastToUndo ({ frames := 0, cells := 0, slots := 0, locals := 0 }) [.ref (a 1), .int (jI w)] σ (fun r_ u_ => r_ = jI (kLast σ w (σ 1 10).toNat) ∧ u_ = σ) := by
  refine zc_of (cc := cX0_lastToUndo) (maxL := 3) (ret := some .int) (own := RX0) (by decide) rfl rfl (Nat.le_of_ble_eq_true rfl) rfl ?_
  intro p e s m below meth c A ls C X hP hS hl
  refine zg_aload_n C dX0_lastToUndo_0 rfl (lv_at hl 0 rfl) ?_
  refine zg_get (j := 10) C X hP (by decide) lyS_1 rfl (zmem uwX0) (by decide) (C.tb flX0_40) (fun _ h9 => h9) rfl dX0_lastToUndo_1 ?_
  have b_6 := rgS_1_10 hR
  refine zg_iconst C dX0_lastToUndo_4 ?_
  refine zg_isub C dX0_lastToUndo_5 ?_
  refine zg_istore_n (lv' := [(2, .int (jI ((σ 1 10) - 1))), (0, .ref (a 1)), (1, .int (jI w))]) C dX0_lastToUndo_6 rfl hl (by decide) rfl (fun ls hl => ?_)
  exact lpX0_lastToUndo_7 σ hR w w0 w1 C X 401 ((σ 1 10) - 1) _ _ _ (by omega) (by omega) (by omega) (by rw [show σ 1 10 - 1 + 1 = σ 1 10 by omega]) hP hS (lv_sub hl [1, 2, 0] rfl)
set_option maxHeartbeats 4000000 in
set_option maxRecDepth 100000 in
theorem kX3_holds (l : Launch) {D : va_G} {a : Nat → Nat} {cI cZ cR : ClassId} (σ : Zt) (hR : rgS σ) (i : Int) (i0 : -2147483648 ≤ i) (i1 : i < 2147483648) : zc l D vwCl (tyS cI cZ cR) 56 (layS cI cZ cR a) a yX3_holds wsX3_holds ({ frames := 0, cells := 0, slots := 0, locals := 0 }) [.ref (a 16), .int (jI i)] σ (fun r_ u_ => r_ = jI (bI (kHolds σ i)) ∧ u_ = σ) := by
  refine zc_of (cc := cX3_holds) (maxL := 2) (ret := some .boolean) (own := RX3) (by decide) rfl rfl (Nat.le_of_ble_eq_true rfl) rfl ?_
  intro p e s m below meth c A ls C X hP hS hl
  refine zg_iload_n C dX3_holds_0 rfl (lv_at hl 1 rfl) ?_
  refine zg_if_lt (tgt := 16) C (by omega) (by omega) dX3_holds_1 (by decide) (fun c_1 => ?_) (fun c_1 => ?_)
  · refine zg_iconst C dX3_holds_16 ?_
    refine zg_zret (b := false) C hP hS dX3_holds_17 ?_
    exact ⟨congrArg (fun b => jI (bI b)) (by grind [kHolds]), rfl⟩
  · refine zg_iload_n C dX3_holds_4 rfl (lv_at hl 1 rfl) ?_
    refine zg_aload_n C dX3_holds_5 rfl (lv_at hl 0 rfl) ?_
    refine zg_get (j := 2) C X hP (by decide) lyS_16 rfl (zmem uwX3) (by decide) (C.tb flX3_18) (fun _ h9 => h9) rfl dX3_holds_6 ?_
    have b_2 := rgS_16_2 hR
    refine zg_icmp_ge (tgt := 16) C (by omega) (by omega) (by omega) (by omega) dX3_holds_9 (by decide) (fun c_3 => ?_) (fun c_3 => ?_)
    · refine zg_iconst C dX3_holds_16 ?_
      refine zg_zret (b := false) C hP hS dX3_holds_17 ?_
      exact ⟨congrArg (fun b => jI (bI b)) (by grind [kHolds]), rfl⟩
    · refine zg_iconst C dX3_holds_12 ?_
      refine zg_goto (tgt := 17) C dX3_holds_13 (by decide) ?_
      refine zg_zret (b := true) C hP hS dX3_holds_17 ?_
      exact ⟨congrArg (fun b => jI (bI b)) (by grind [kHolds]), rfl⟩
set_option maxHeartbeats 4000000 in
set_option maxRecDepth 100000 in
theorem kX3_isFull (l : Launch) {D : va_G} {a : Nat → Nat} {cI cZ cR : ClassId} (σ : Zt) (hR : rgS σ) : zc l D vwCl (tyS cI cZ cR) 56 (layS cI cZ cR a) a yX3_isFull wsX3_isFull ({ frames := 0, cells := 0, slots := 0, locals := 0 }) [.ref (a 16)] σ (fun r_ u_ => r_ = jI (bI (kWayF σ)) ∧ u_ = σ) := by
  refine zc_of (cc := cX3_isFull) (maxL := 1) (ret := some .boolean) (own := RX3) (by decide) rfl rfl (Nat.le_of_ble_eq_true rfl) rfl ?_
  intro p e s m below meth c A ls C X hP hS hl
  refine zg_aload_n C dX3_isFull_0 rfl (lv_at hl 0 rfl) ?_
  refine zg_get (j := 2) C X hP (by decide) lyS_16 rfl (zmem uwX3) (by decide) (C.tb flX3_18) (fun _ h9 => h9) rfl dX3_isFull_1 ?_
  have b_1 := rgS_16_2 hR
  refine zg_sipush C dX3_isFull_4 (by decide) ?_
  refine zg_icmp_lt (tgt := 14) C (by omega) (by omega) (by omega) (by omega) dX3_isFull_7 (by decide) (fun c_2 => ?_) (fun c_2 => ?_)
  · refine zg_iconst C dX3_isFull_14 ?_
    refine zg_zret (b := false) C hP hS dX3_isFull_15 ?_
    exact ⟨congrArg (fun b => jI (bI b)) (by grind [kWayF]), rfl⟩
  · refine zg_iconst C dX3_isFull_10 ?_
    refine zg_goto (tgt := 15) C dX3_isFull_11 (by decide) ?_
    refine zg_zret (b := true) C hP hS dX3_isFull_15 ?_
    exact ⟨congrArg (fun b => jI (bI b)) (by grind [kWayF]), rfl⟩
set_option maxHeartbeats 4000000 in
set_option maxRecDepth 100000 in
theorem kX2_nextNumber (l : Launch) {D : va_G} {a : Nat → Nat} {cI cZ cR : ClassId} (σ : Zt) (hR : rgS σ) (r : Nat) (hr : r < 6) : zc l D vwCl (tyS cI cZ cR) 56 (layS cI cZ cR a) a yX2_nextNumber wsX2_nextNumber ({ frames := 0, cells := 0, slots := 0, locals := 0 }) [.ref (a (20 + 6 * r))] σ (fun r_ u_ => r_ = jI (σ (21 + 6 * r) r + 1) ∧ u_ = σ) := by
  refine zc_of (cc := cX2_nextNumber) (maxL := 1) (ret := some .int) (own := RX2) (by decide) rfl rfl (Nat.le_of_ble_eq_true rfl) rfl ?_
  intro p e s m below meth c A ls C X hP hS hl
  refine zg_aload_n C dX2_nextNumber_0 rfl (lv_at hl 0 rfl) ?_
  refine zg_get (j := 7) C X hP (hkS_20 hr) (lyS_20 hr) rfl (zmem uwX2) (by decide) (C.tb flX2_9) (fun _ h9 => h9) rfl dX2_nextNumber_1 ?_
  refine zg_aload_n C dX2_nextNumber_4 rfl (lv_at hl 0 rfl) ?_
  refine zg_get (j := 0) C X hP (hkS_20 hr) (lyS_20 hr) rfl (zmem uwX2) (by decide) (C.tb flX2_28) (fun _ h9 => h9) rfl dX2_nextNumber_5 ?_
  have b_1 := rgS_20_0 hR hr
  refine zg_iald (t0 := 0) C X hP (hkS_21 hr) (lyS_21 hr) rfl (by decide) (by omega) (by omega) dX2_nextNumber_8 ?_
  have b_2 := rgS_21 hR hr ((σ (20 + 6 * r) 0).toNat)
  refine zg_iconst C dX2_nextNumber_9 ?_
  refine zg_iadd C dX2_nextNumber_10 ?_
  refine zg_iret C hP hS dX2_nextNumber_11 ?_
  exact ⟨congrArg jI (by rw [show (σ (20 + 6 * r) 0).toNat = r by omega]), rfl⟩
set_option maxHeartbeats 4000000 in
set_option maxRecDepth 100000 in
theorem lpX2_doneInAll_4 {l : Launch} {D : va_G} {a : Nat → Nat} {cI cZ cR : ClassId} {p : Program} {e : Env} {s : State} {m : MethodId} {below : List Frame} {meth : Method} {c : Code} {A : Nat → Prop} (σ : Zt) (hR : rgS σ) (r : Nat) (hr : r < 6)  (C : zk p s m ([.ref (a (20 + 6 * r))] : List Value).toArray meth c cX2_doneInAll 3 (some .int) wsX2_doneInAll RX2) (X : zx D vwCl (tyS cI cZ cR) A a 56 s) :
    ∀ (n : Nat) (al i : Int) (H : Heap) (locs : List Loc) (ls : Array Slot), ((6 - i).toNat < n) → (0 ≤ i) → (i ≤ 6) → (al = kSum (σ (21 + 6 * r)) i.toNat) → va_P D vwCl (zw 56 (layS cI cZ cR a) a σ) H → va_S A s.heap H locs → lv_has ls 3 [(0, .ref (a (20 + 6 * r))), (1, .int (jI al)), (2, .int (jI i))] →
      W p l e ({ frames := 0, cells := 0, slots := 0, locals := 0 }) s m ([.ref (a (20 + 6 * r))] : List Value).toArray below meth c H locs 0 0 (MQ below (va_Qi (fun r_ u_ => r_ = jI (kAll σ r) ∧ u_ = σ) (fun (u : Zt) t => va_P D vwCl (zw 56 (layS cI cZ cR a) a u) t.heap) A) ([.ref (a (20 + 6 * r))] : List Value).toArray s 0 0 A) (F0 m 4 ls []) := by
  intro n
  induction n with
  | zero =>
    intro al i  H locs ls hn h0 h1 hE hP hS hl
    exact absurd hn (by omega)
  | succ n ih =>
    intro al i  H locs ls hn h0 h1 hE hP hS hl
    refine zg_iload_n C dX2_doneInAll_4 rfl (lv_at hl 2 rfl) ?_
    refine zg_bipush C dX2_doneInAll_5 (by decide) ?_
    refine zg_icmp_ge (tgt := 25) C (by omega) (by omega) (by omega) (by omega) dX2_doneInAll_7 (by decide) (fun c_1 => ?_) (fun c_1 => ?_)
    · refine zg_iload_n C dX2_doneInAll_25 rfl (lv_at hl 1 rfl) ?_
      refine zg_iret C hP hS dX2_doneInAll_26 ?_
      exact ⟨congrArg jI (by rw [hE, show i.toNat = 6 by omega]; rfl), rfl⟩
    · refine zg_iload_n C dX2_doneInAll_10 rfl (lv_at hl 1 rfl) ?_
      refine zg_aload_n C dX2_doneInAll_11 rfl (lv_at hl 0 rfl) ?_
      refine zg_get (j := 7) C X hP (hkS_20 hr) (lyS_20 hr) rfl (zmem uwX2) (by decide) (C.tb flX2_9) (fun _ h9 => h9) rfl dX2_doneInAll_12 ?_
      refine zg_iload_n C dX2_doneInAll_15 rfl (lv_at hl 2 rfl) ?_
      refine zg_iald (t0 := 0) C X hP (hkS_21 hr) (lyS_21 hr) rfl (by decide) (by omega) (by omega) dX2_doneInAll_16 ?_
      have b_2 := rgS_21 hR hr ((i).toNat)
      refine zg_iadd C dX2_doneInAll_17 ?_
      refine zg_istore_n (lv' := [(1, .int (jI (al + (σ (21 + 6 * r) (i).toNat)))), (0, .ref (a (20 + 6 * r))), (2, .int (jI i))]) C dX2_doneInAll_18 rfl hl (by decide) rfl (fun ls hl => ?_)
      refine zg_iinc (k := 2) (lv' := [(2, .int (jI (i + 1))), (1, .int (jI (al + (σ (21 + 6 * r) (i).toNat)))), (0, .ref (a (20 + 6 * r)))]) C dX2_doneInAll_19 hl rfl (by decide) rfl (fun ls hl => ?_)
      refine zg_goto (tgt := 4) C dX2_doneInAll_22 (by decide) ?_
      exact ih (al + (σ (21 + 6 * r) (i).toNat)) (i + 1) _ _ _ (by omega) (by omega) (by omega) (by rw [kSum_step h0, hE]) hP hS (lv_sub hl [2, 1, 0] rfl)
set_option maxHeartbeats 4000000 in
set_option maxRecDepth 100000 in
theorem kX2_doneInAll (l : Launch) {D : va_G} {a : Nat → Nat} {cI cZ cR : ClassId} (σ : Zt) (hR : rgS σ) (r : Nat) (hr : r < 6) : zc l D vwCl (tyS cI cZ cR) 56 (layS cI cZ cR a) a yX2_doneInAll wsX2_doneInAll ({ frames := 0, cells := 0, slots := 0, locals := 0 }) [.ref (a (20 + 6 * r))] σ (fun r_ u_ => r_ = jI (kAll σ r) ∧ u_ = σ) := by
  refine zc_of (cc := cX2_doneInAll) (maxL := 3) (ret := some .int) (own := RX2) (by decide) rfl rfl (Nat.le_of_ble_eq_true rfl) rfl ?_
  intro p e s m below meth c A ls C X hP hS hl
  refine zg_iconst C dX2_doneInAll_0 ?_
  refine zg_istore_n (lv' := [(1, .int (jI 0)), (0, .ref (a (20 + 6 * r)))]) C dX2_doneInAll_1 rfl hl (by decide) rfl (fun ls hl => ?_)
  refine zg_iconst C dX2_doneInAll_2 ?_
  refine zg_istore_n (lv' := [(2, .int (jI 0)), (1, .int (jI 0)), (0, .ref (a (20 + 6 * r)))]) C dX2_doneInAll_3 rfl hl (by decide) rfl (fun ls hl => ?_)
  exact lpX2_doneInAll_4 σ hR r hr C X 7 0 0 _ _ _ (by omega) (by omega) (by omega) rfl hP hS (lv_sub hl [2, 1, 0] rfl)
set_option maxHeartbeats 4000000 in
set_option maxRecDepth 100000 in
theorem kX2_didDeed (l : Launch) {D : va_G} {a : Nat → Nat} {cI cZ cR : ClassId} (σ : Zt) (hR : rgS σ) (r : Nat) (hr : r < 6) (d : Int) (d0 : 0 ≤ d) (d1 : d < 400) : zc l D vwCl (tyS cI cZ cR) 56 (layS cI cZ cR a) a yX2_didDeed wsX2_didDeed ({ frames := 0, cells := 0, slots := 0, locals := 0 }) [.ref (a (20 + 6 * r)), .int (jI d)] σ (fun r_ u_ => r_ = jI (bI (kDid σ r d)) ∧ u_ = σ) := by
  refine zc_of (cc := cX2_didDeed) (maxL := 2) (ret := some .boolean) (own := RX2) (by decide) rfl rfl (Nat.le_of_ble_eq_true rfl) rfl ?_
  intro p e s m below meth c A ls C X hP hS hl
  refine zg_aload_n C dX2_didDeed_0 rfl (lv_at hl 0 rfl) ?_
  refine zg_get (j := 1) C X hP (hkS_20 hr) (lyS_20 hr) rfl (zmem uwX2) (by decide) (C.tb flX2_32) (fun _ h9 => h9) rfl dX2_didDeed_1 ?_
  refine zg_get (j := 1) C X hP (by decide) lyS_1 rfl (zmem uwX0) (by decide) (C.tb flX2_45) (fun _ h9 => h9) rfl dX2_didDeed_4 ?_
  refine zg_iload_n C dX2_didDeed_7 rfl (lv_at hl 1 rfl) ?_
  refine zg_iald (t0 := 0) C X hP (by decide) lyS_3 rfl (by decide) (by omega) (by omega) dX2_didDeed_8 ?_
  have b_1 := rgS_3 hR ((d).toNat)
  refine zg_aload_n C dX2_didDeed_9 rfl (lv_at hl 0 rfl) ?_
  refine zg_get (j := 7) C X hP (hkS_20 hr) (lyS_20 hr) rfl (zmem uwX2) (by decide) (C.tb flX2_9) (fun _ h9 => h9) rfl dX2_didDeed_10 ?_
  refine zg_aload_n C dX2_didDeed_13 rfl (lv_at hl 0 rfl) ?_
  refine zg_get (j := 1) C X hP (hkS_20 hr) (lyS_20 hr) rfl (zmem uwX2) (by decide) (C.tb flX2_32) (fun _ h9 => h9) rfl dX2_didDeed_14 ?_
  refine zg_get (j := 0) C X hP (by decide) lyS_1 rfl (zmem uwX0) (by decide) (C.tb flX2_50) (fun _ h9 => h9) rfl dX2_didDeed_17 ?_
  refine zg_iload_n C dX2_didDeed_20 rfl (lv_at hl 1 rfl) ?_
  refine zg_iald (t0 := 0) C X hP (by decide) lyS_2 rfl (by decide) (by omega) (by omega) dX2_didDeed_21 ?_
  have b_2 := rgS_2 hR ((d).toNat)
  refine zg_iald (t0 := 0) C X hP (hkS_21 hr) (lyS_21 hr) rfl (by decide) (by omega) (by omega) dX2_didDeed_22 ?_
  have b_3 := rgS_21 hR hr ((σ 2 (d).toNat).toNat)
  refine zg_icmp_gt (tgt := 30) C (by omega) (by omega) (by omega) (by omega) dX2_didDeed_23 (by decide) (fun c_4 => ?_) (fun c_4 => ?_)
  · refine zg_iconst C dX2_didDeed_30 ?_
    refine zg_zret (b := false) C hP hS dX2_didDeed_31 ?_
    exact ⟨congrArg (fun b => jI (bI b)) (by grind [kDid]), rfl⟩
  · refine zg_iconst C dX2_didDeed_26 ?_
    refine zg_goto (tgt := 31) C dX2_didDeed_27 (by decide) ?_
    refine zg_zret (b := true) C hP hS dX2_didDeed_31 ?_
    exact ⟨congrArg (fun b => jI (bI b)) (by grind [kDid]), rfl⟩
set_option maxHeartbeats 4000000 in
set_option maxRecDepth 100000 in
theorem kX2_isReady (l : Launch) {D : va_G} {a : Nat → Nat} {cI cZ cR : ClassId} (σ : Zt) (hR : rgS σ) (r : Nat) (hr : r < 6) (d : Int) (d0 : 0 ≤ d) (d1 : d < 400) : zc l D vwCl (tyS cI cZ cR) 56 (layS cI cZ cR a) a yX2_isReady wsX2_isReady ({ frames := 1, cells := 0, slots := 0, locals := 21 }) [.ref (a (20 + 6 * r)), .int (jI d)] σ (fun r_ u_ => r_ = jI (bI (kReady σ r d)) ∧ u_ = σ) := by
  refine zc_of (cc := cX2_isReady) (maxL := 2) (ret := some .boolean) (own := RX2) (by decide) rfl rfl (Nat.le_of_ble_eq_true rfl) rfl ?_
  intro p e s m below meth c A ls C X hP hS hl
  refine zg_aload_n C dX2_isReady_0 rfl (lv_at hl 0 rfl) ?_
  refine zg_get (j := 1) C X hP (hkS_20 hr) (lyS_20 hr) rfl (zmem uwX2) (by decide) (C.tb flX2_32) (fun _ h9 => h9) rfl dX2_isReady_1 ?_
  refine zg_get (j := 1) C X hP (by decide) lyS_1 rfl (zmem uwX0) (by decide) (C.tb flX2_45) (fun _ h9 => h9) rfl dX2_isReady_4 ?_
  refine zg_iload_n C dX2_isReady_7 rfl (lv_at hl 1 rfl) ?_
  refine zg_iald (t0 := 0) C X hP (by decide) lyS_3 rfl (by decide) (by omega) (by omega) dX2_isReady_8 ?_
  have b_1 := rgS_3 hR ((d).toNat)
  refine zg_iconst C dX2_isReady_9 ?_
  refine zg_isub C dX2_isReady_10 ?_
  refine zg_aload_n C dX2_isReady_11 rfl (lv_at hl 0 rfl) ?_
  refine zg_get (j := 7) C X hP (hkS_20 hr) (lyS_20 hr) rfl (zmem uwX2) (by decide) (C.tb flX2_9) (fun _ h9 => h9) rfl dX2_isReady_12 ?_
  refine zg_aload_n C dX2_isReady_15 rfl (lv_at hl 0 rfl) ?_
  refine zg_get (j := 1) C X hP (hkS_20 hr) (lyS_20 hr) rfl (zmem uwX2) (by decide) (C.tb flX2_32) (fun _ h9 => h9) rfl dX2_isReady_16 ?_
  refine zg_get (j := 0) C X hP (by decide) lyS_1 rfl (zmem uwX0) (by decide) (C.tb flX2_50) (fun _ h9 => h9) rfl dX2_isReady_19 ?_
  refine zg_iload_n C dX2_isReady_22 rfl (lv_at hl 1 rfl) ?_
  refine zg_iald (t0 := 0) C X hP (by decide) lyS_2 rfl (by decide) (by omega) (by omega) dX2_isReady_23 ?_
  have b_2 := rgS_2 hR ((d).toNat)
  refine zg_iald (t0 := 0) C X hP (hkS_21 hr) (lyS_21 hr) rfl (by decide) (by omega) (by omega) dX2_isReady_24 ?_
  have b_3 := rgS_21 hR hr ((σ 2 (d).toNat).toNat)
  refine zg_icmp_eq (tgt := 30) C (by omega) (by omega) (by omega) (by omega) dX2_isReady_25 (by decide) (fun c_4 => ?_) (fun c_4 => ?_)
  · refine zg_aload_n C dX2_isReady_30 rfl (lv_at hl 0 rfl) ?_
    refine zg_get (j := 1) C X hP (hkS_20 hr) (lyS_20 hr) rfl (zmem uwX2) (by decide) (C.tb flX2_32) (fun _ h9 => h9) rfl dX2_isReady_31 ?_
    refine zg_get (j := 3) C X hP (by decide) lyS_1 rfl (zmem uwX0) (by decide) (C.tb flX2_53) (fun _ h9 => h9) rfl dX2_isReady_34 ?_
    refine zg_iload_n C dX2_isReady_37 rfl (lv_at hl 1 rfl) ?_
    refine zg_iald (t0 := 0) C X hP (by decide) lyS_5 rfl (by decide) (by omega) (by omega) dX2_isReady_38 ?_
    have b_5 := rgS_5 hR ((d).toNat)
    refine zg_if_eq (tgt := 74) C (by omega) (by omega) dX2_isReady_39 (by decide) (fun c_6 => ?_) (fun c_6 => ?_)
    · refine zg_iconst C dX2_isReady_74 ?_
      refine zg_goto (tgt := 79) C dX2_isReady_75 (by decide) ?_
      refine zg_zret (b := true) C hP hS dX2_isReady_79 ?_
      exact ⟨congrArg (fun b => jI (bI b)) (by grind [kReady]), rfl⟩
    · refine zg_aload_n C dX2_isReady_42 rfl (lv_at hl 0 rfl) ?_
      refine zg_aload_n C dX2_isReady_43 rfl (lv_at hl 0 rfl) ?_
      refine zg_get (j := 1) C X hP (hkS_20 hr) (lyS_20 hr) rfl (zmem uwX2) (by decide) (C.tb flX2_32) (fun _ h9 => h9) rfl dX2_isReady_44 ?_
      refine zg_get (j := 5) C X hP (by decide) lyS_1 rfl (zmem uwX0) (by decide) (C.tb flX2_56) (fun _ h9 => h9) rfl dX2_isReady_47 ?_
      refine zg_iload_n C dX2_isReady_50 rfl (lv_at hl 1 rfl) ?_
      refine zg_iald (t0 := 0) C X hP (by decide) lyS_7 rfl (by decide) (by omega) (by omega) dX2_isReady_51 ?_
      have b_7 := rgS_7 hR ((d).toNat)
      refine zg_callV C X hP hS (kX2_didDeed l σ hR r hr (σ 7 (d).toNat) (by omega) (by omega)) (cwV 1 C.ts (zgV mlX2_59 imX2_didDeed slX2_didDeed iniX2 cdX2_didDeed) rfl rfl rfl (by decide +kernel) ⟨Nat.le_of_ble_eq_true rfl, Nat.le_of_ble_eq_true rfl⟩) (hkS_20 hr) (lyS_20 hr) rfl rfl rfl hl.1 rfl (Nat.le_of_ble_eq_true rfl) dX2_isReady_52 ⟨Nat.zero_le _, Nat.zero_le _⟩ (fun r_9 σ8 H locs q10 hP hS => ?_)
      obtain ⟨rfl, q10⟩ := q10
      rw [q10] at hP
      refine zg_ifeqB (tgt := 78) C dX2_isReady_55 (by decide) (fun c_11 => ?_) (fun c_11 => ?_)
      · refine zg_iconst C dX2_isReady_78 ?_
        refine zg_zret (b := false) C hP hS dX2_isReady_79 ?_
        exact ⟨congrArg (fun b => jI (bI b)) (by grind [kReady]), rfl⟩
      · refine zg_aload_n C dX2_isReady_58 rfl (lv_at hl 0 rfl) ?_
        refine zg_aload_n C dX2_isReady_59 rfl (lv_at hl 0 rfl) ?_
        refine zg_get (j := 1) C X hP (hkS_20 hr) (lyS_20 hr) rfl (zmem uwX2) (by decide) (C.tb flX2_32) (fun _ h9 => h9) rfl dX2_isReady_60 ?_
        refine zg_get (j := 6) C X hP (by decide) lyS_1 rfl (zmem uwX0) (by decide) (C.tb flX2_63) (fun _ h9 => h9) rfl dX2_isReady_63 ?_
        refine zg_iload_n C dX2_isReady_66 rfl (lv_at hl 1 rfl) ?_
        refine zg_iald (t0 := 0) C X hP (by decide) lyS_8 rfl (by decide) (by omega) (by omega) dX2_isReady_67 ?_
        have b_12 := rgS_8 hR ((d).toNat)
        refine zg_callV C X hP hS (kX2_didDeed l σ hR r hr (σ 8 (d).toNat) (by omega) (by omega)) (cwV 1 C.ts (zgV mlX2_59 imX2_didDeed slX2_didDeed iniX2 cdX2_didDeed) rfl rfl rfl (by decide +kernel) ⟨Nat.le_of_ble_eq_true rfl, Nat.le_of_ble_eq_true rfl⟩) (hkS_20 hr) (lyS_20 hr) rfl rfl rfl hl.1 rfl (Nat.le_of_ble_eq_true rfl) dX2_isReady_68 ⟨Nat.zero_le _, Nat.zero_le _⟩ (fun r_14 σ13 H locs q15 hP hS => ?_)
        obtain ⟨rfl, q15⟩ := q15
        rw [q15] at hP
        refine zg_ifeqB (tgt := 78) C dX2_isReady_71 (by decide) (fun c_16 => ?_) (fun c_16 => ?_)
        · refine zg_iconst C dX2_isReady_78 ?_
          refine zg_zret (b := false) C hP hS dX2_isReady_79 ?_
          exact ⟨congrArg (fun b => jI (bI b)) (by grind [kReady]), rfl⟩
        · refine zg_iconst C dX2_isReady_74 ?_
          refine zg_goto (tgt := 79) C dX2_isReady_75 (by decide) ?_
          refine zg_zret (b := true) C hP hS dX2_isReady_79 ?_
          exact ⟨congrArg (fun b => jI (bI b)) (by grind [kReady]), rfl⟩
  · refine zg_iconst C dX2_isReady_28 ?_
    refine zg_zret (b := false) C hP hS dX2_isReady_29 ?_
    exact ⟨congrArg (fun b => jI (bI b)) (by grind [kReady]), rfl⟩
set_option maxHeartbeats 4000000 in
set_option maxRecDepth 100000 in
theorem kX2_isAlive (l : Launch) {D : va_G} {a : Nat → Nat} {cI cZ cR : ClassId} (σ : Zt) (hR : rgS σ) (r : Nat) (hr : r < 6) (d : Int) (d0 : 0 ≤ d) (d1 : d < 400) : zc l D vwCl (tyS cI cZ cR) 56 (layS cI cZ cR a) a yX2_isAlive wsX2_isAlive ({ frames := 1, cells := 0, slots := 0, locals := 21 }) [.ref (a (20 + 6 * r)), .int (jI d)] σ (fun r_ u_ => r_ = jI (bI (kAlive σ r d)) ∧ u_ = σ) := by
  refine zc_of (cc := cX2_isAlive) (maxL := 2) (ret := some .boolean) (own := RX2) (by decide) rfl rfl (Nat.le_of_ble_eq_true rfl) rfl ?_
  intro p e s m below meth c A ls C X hP hS hl
  refine zg_aload_n C dX2_isAlive_0 rfl (lv_at hl 0 rfl) ?_
  refine zg_iload_n C dX2_isAlive_1 rfl (lv_at hl 1 rfl) ?_
  refine zg_callV C X hP hS (kX2_didDeed l σ hR r hr d (by omega) (by omega)) (cwV 1 C.ts (zgV mlX2_59 imX2_didDeed slX2_didDeed iniX2 cdX2_didDeed) rfl rfl rfl (by decide +kernel) ⟨Nat.le_of_ble_eq_true rfl, Nat.le_of_ble_eq_true rfl⟩) (hkS_20 hr) (lyS_20 hr) rfl rfl rfl hl.1 rfl (Nat.le_of_ble_eq_true rfl) dX2_isAlive_2 ⟨Nat.zero_le _, Nat.zero_le _⟩ (fun r_2 σ1 H locs q3 hP hS => ?_)
  obtain ⟨rfl, q3⟩ := q3
  rw [q3] at hP
  refine zg_ifeqB (tgt := 40) C dX2_isAlive_5 (by decide) (fun c_4 => ?_) (fun c_4 => ?_)
  · refine zg_iconst C dX2_isAlive_40 ?_
    refine zg_zret (b := false) C hP hS dX2_isAlive_41 ?_
    exact ⟨congrArg (fun b => jI (bI b)) (by grind [kAlive]), rfl⟩
  · refine zg_aload_n C dX2_isAlive_8 rfl (lv_at hl 0 rfl) ?_
    refine zg_get (j := 9) C X hP (hkS_20 hr) (lyS_20 hr) rfl (zmem uwX2) (by decide) (C.tb flX2_19) (fun _ h9 => h9) rfl dX2_isAlive_9 ?_
    refine zg_iload_n C dX2_isAlive_12 rfl (lv_at hl 1 rfl) ?_
    refine zg_iald (t0 := 0) C X hP (hkS_23 hr) (lyS_23 hr) rfl (by decide) (by omega) (by omega) dX2_isAlive_13 ?_
    have b_5 := rgS_23 hR hr ((d).toNat)
    refine zg_iconst C dX2_isAlive_14 ?_
    refine zg_icmp_eq (tgt := 36) C (by omega) (by omega) (by omega) (by omega) dX2_isAlive_15 (by decide) (fun c_6 => ?_) (fun c_6 => ?_)
    · refine zg_iconst C dX2_isAlive_36 ?_
      refine zg_goto (tgt := 41) C dX2_isAlive_37 (by decide) ?_
      refine zg_zret (b := true) C hP hS dX2_isAlive_41 ?_
      exact ⟨congrArg (fun b => jI (bI b)) (by grind [kAlive]), rfl⟩
    · refine zg_aload_n C dX2_isAlive_18 rfl (lv_at hl 0 rfl) ?_
      refine zg_get (j := 1) C X hP (hkS_20 hr) (lyS_20 hr) rfl (zmem uwX2) (by decide) (C.tb flX2_32) (fun _ h9 => h9) rfl dX2_isAlive_19 ?_
      refine zg_get (j := 3) C X hP (by decide) lyS_1 rfl (zmem uwX0) (by decide) (C.tb flX2_53) (fun _ h9 => h9) rfl dX2_isAlive_22 ?_
      refine zg_aload_n C dX2_isAlive_25 rfl (lv_at hl 0 rfl) ?_
      refine zg_get (j := 9) C X hP (hkS_20 hr) (lyS_20 hr) rfl (zmem uwX2) (by decide) (C.tb flX2_19) (fun _ h9 => h9) rfl dX2_isAlive_26 ?_
      refine zg_iload_n C dX2_isAlive_29 rfl (lv_at hl 1 rfl) ?_
      refine zg_iald (t0 := 0) C X hP (hkS_23 hr) (lyS_23 hr) rfl (by decide) (by omega) (by omega) dX2_isAlive_30 ?_
      have b_7 := rgS_23 hR hr ((d).toNat)
      refine zg_iald (t0 := 0) C X hP (by decide) lyS_5 rfl (by decide) (by omega) (by omega) dX2_isAlive_31 ?_
      have b_8 := rgS_5 hR ((σ (23 + 6 * r) (d).toNat).toNat)
      refine zg_iconst C dX2_isAlive_32 ?_
      refine zg_icmp_eq (tgt := 40) C (by omega) (by omega) (by omega) (by omega) dX2_isAlive_33 (by decide) (fun c_9 => ?_) (fun c_9 => ?_)
      · refine zg_iconst C dX2_isAlive_40 ?_
        refine zg_zret (b := false) C hP hS dX2_isAlive_41 ?_
        exact ⟨congrArg (fun b => jI (bI b)) (by grind [kAlive]), rfl⟩
      · refine zg_iconst C dX2_isAlive_36 ?_
        refine zg_goto (tgt := 41) C dX2_isAlive_37 (by decide) ?_
        refine zg_zret (b := true) C hP hS dX2_isAlive_41 ?_
        exact ⟨congrArg (fun b => jI (bI b)) (by grind [kAlive]), rfl⟩
set_option maxHeartbeats 4000000 in
set_option maxRecDepth 100000 in
theorem lpX2_aliveAmongFirst_4 {l : Launch} {D : va_G} {a : Nat → Nat} {cI cZ cR : ClassId} {p : Program} {e : Env} {s : State} {m : MethodId} {below : List Frame} {meth : Method} {c : Code} {A : Nat → Prop} (σ : Zt) (hR : rgS σ) (r : Nat) (hr : r < 6) (q : Int) (q0 : 0 ≤ q) (q1 : q ≤ 400)  (C : zk p s m ([.ref (a (20 + 6 * r)), .int (jI q)] : List Value).toArray meth c cX2_aliveAmongFirst 4 (some .int) wsX2_aliveAmongFirst RX2) (X : zx D vwCl (tyS cI cZ cR) A a 56 s) :
    ∀ (n : Nat) (al i : Int) (H : Heap) (locs : List Loc) (ls : Array Slot), ((q - i).toNat < n) → (0 ≤ i) → (i ≤ q) → (al = kCnt σ r i.toNat) → va_P D vwCl (zw 56 (layS cI cZ cR a) a σ) H → va_S A s.heap H locs → lv_has ls 4 [(0, .ref (a (20 + 6 * r))), (1, .int (jI q)), (2, .int (jI al)), (3, .int (jI i))] →
      W p l e ({ frames := 2, cells := 0, slots := 0, locals := 42 }) s m ([.ref (a (20 + 6 * r)), .int (jI q)] : List Value).toArray below meth c H locs 0 0 (MQ below (va_Qi (fun r_ u_ => r_ = jI (kCnt σ r (q).toNat) ∧ u_ = σ) (fun (u : Zt) t => va_P D vwCl (zw 56 (layS cI cZ cR a) a u) t.heap) A) ([.ref (a (20 + 6 * r)), .int (jI q)] : List Value).toArray s 0 0 A) (F0 m 4 ls []) := by
  intro n
  induction n with
  | zero =>
    intro al i  H locs ls hn h0 h1 hE hP hS hl
    exact absurd hn (by omega)
  | succ n ih =>
    intro al i  H locs ls hn h0 h1 hE hP hS hl
    refine zg_iload_n C dX2_aliveAmongFirst_4 rfl (lv_at hl 3 rfl) ?_
    refine zg_iload_n C dX2_aliveAmongFirst_5 rfl (lv_at hl 1 rfl) ?_
    refine zg_icmp_ge (tgt := 34) C (by omega) (by omega) (by omega) (by omega) dX2_aliveAmongFirst_6 (by decide) (fun c_1 => ?_) (fun c_1 => ?_)
    · refine zg_iload_n C dX2_aliveAmongFirst_34 rfl (lv_at hl 2 rfl) ?_
      refine zg_iret C hP hS dX2_aliveAmongFirst_35 ?_
      exact ⟨congrArg jI (by rw [hE, show i = q by omega]), rfl⟩
    · refine zg_aload_n C dX2_aliveAmongFirst_9 rfl (lv_at hl 0 rfl) ?_
      refine zg_aload_n C dX2_aliveAmongFirst_10 rfl (lv_at hl 0 rfl) ?_
      refine zg_get (j := 2) C X hP (hkS_20 hr) (lyS_20 hr) rfl (zmem uwX2) (by decide) (C.tb flX2_36) (fun _ h9 => h9) rfl dX2_aliveAmongFirst_11 ?_
      refine zg_get (j := 2) C X hP (by decide) lyS_11 rfl (zmem uwX1) (by decide) (C.tb flX2_104) (fun _ h9 => h9) rfl dX2_aliveAmongFirst_14 ?_
      refine zg_iload_n C dX2_aliveAmongFirst_17 rfl (lv_at hl 3 rfl) ?_
      refine zg_iald (t0 := 0) C X hP (by decide) lyS_14 rfl (by decide) (by omega) (by omega) dX2_aliveAmongFirst_18 ?_
      have b_2 := rgS_14 hR ((i).toNat)
      refine zg_callV C X hP hS (kX2_isAlive l σ hR r hr (σ 14 (i).toNat) (by omega) (by omega)) (cwV 1 C.ts (zgV mlX2_109 imX2_isAlive slX2_isAlive iniX2 cdX2_isAlive) rfl rfl rfl (by decide +kernel) ⟨Nat.le_of_ble_eq_true rfl, Nat.le_of_ble_eq_true rfl⟩) (hkS_20 hr) (lyS_20 hr) rfl rfl rfl hl.1 rfl (Nat.le_of_ble_eq_true rfl) dX2_aliveAmongFirst_19 ⟨Nat.zero_le _, Nat.zero_le _⟩ (fun r_4 σ3 H locs q5 hP hS => ?_)
      obtain ⟨rfl, q5⟩ := q5
      rw [q5] at hP
      refine zg_ifeqB (tgt := 28) C dX2_aliveAmongFirst_22 (by decide) (fun c_6 => ?_) (fun c_6 => ?_)
      · refine zg_iinc (k := 3) (lv' := [(3, .int (jI (i + 1))), (0, .ref (a (20 + 6 * r))), (1, .int (jI q)), (2, .int (jI al))]) C dX2_aliveAmongFirst_28 hl rfl (by decide) rfl (fun ls hl => ?_)
        refine zg_goto (tgt := 4) C dX2_aliveAmongFirst_31 (by decide) ?_
        exact ih al (i + 1) _ _ _ (by omega) (by omega) (by omega) (by rw [kCnt_step h0, hE]; simp [c_1, c_6, bI]) hP hS (lv_sub hl [1, 2, 3, 0] rfl)
      · refine zg_iinc (k := 2) (lv' := [(2, .int (jI (al + 1))), (0, .ref (a (20 + 6 * r))), (1, .int (jI q)), (3, .int (jI i))]) C dX2_aliveAmongFirst_25 hl rfl (by decide) rfl (fun ls hl => ?_)
        refine zg_iinc (k := 3) (lv' := [(3, .int (jI (i + 1))), (2, .int (jI (al + 1))), (0, .ref (a (20 + 6 * r))), (1, .int (jI q))]) C dX2_aliveAmongFirst_28 hl rfl (by decide) rfl (fun ls hl => ?_)
        refine zg_goto (tgt := 4) C dX2_aliveAmongFirst_31 (by decide) ?_
        exact ih (al + 1) (i + 1) _ _ _ (by omega) (by omega) (by omega) (by rw [kCnt_step h0, hE]; simp [c_1, c_6, bI]) hP hS (lv_sub hl [2, 3, 1, 0] rfl)
set_option maxHeartbeats 4000000 in
set_option maxRecDepth 100000 in
theorem kX2_aliveAmongFirst (l : Launch) {D : va_G} {a : Nat → Nat} {cI cZ cR : ClassId} (σ : Zt) (hR : rgS σ) (r : Nat) (hr : r < 6) (q : Int) (q0 : 0 ≤ q) (q1 : q ≤ 400) : zc l D vwCl (tyS cI cZ cR) 56 (layS cI cZ cR a) a yX2_aliveAmongFirst wsX2_aliveAmongFirst ({ frames := 2, cells := 0, slots := 0, locals := 42 }) [.ref (a (20 + 6 * r)), .int (jI q)] σ (fun r_ u_ => r_ = jI (kCnt σ r (q).toNat) ∧ u_ = σ) := by
  refine zc_of (cc := cX2_aliveAmongFirst) (maxL := 4) (ret := some .int) (own := RX2) (by decide) rfl rfl (Nat.le_of_ble_eq_true rfl) rfl ?_
  intro p e s m below meth c A ls C X hP hS hl
  refine zg_iconst C dX2_aliveAmongFirst_0 ?_
  refine zg_istore_n (lv' := [(2, .int (jI 0)), (0, .ref (a (20 + 6 * r))), (1, .int (jI q))]) C dX2_aliveAmongFirst_1 rfl hl (by decide) rfl (fun ls hl => ?_)
  refine zg_iconst C dX2_aliveAmongFirst_2 ?_
  refine zg_istore_n (lv' := [(3, .int (jI 0)), (2, .int (jI 0)), (0, .ref (a (20 + 6 * r))), (1, .int (jI q))]) C dX2_aliveAmongFirst_3 rfl hl (by decide) rfl (fun ls hl => ?_)
  exact lpX2_aliveAmongFirst_4 σ hR r hr q q0 q1 C X 401 0 0 _ _ _ (by omega) (by omega) (by omega) rfl hP hS (lv_sub hl [2, 3, 1, 0] rfl)
set_option maxHeartbeats 4000000 in
set_option maxRecDepth 100000 in
theorem kX2_textLength (l : Launch) {D : va_G} {a : Nat → Nat} {cI cZ cR : ClassId} (σ : Zt) (hR : rgS σ) (r : Nat) (hr : r < 6) : zc l D vwCl (tyS cI cZ cR) 56 (layS cI cZ cR a) a yX2_textLength wsX2_textLength ({ frames := 3, cells := 0, slots := 0, locals := 65 }) [.ref (a (20 + 6 * r))] σ (fun r_ u_ => r_ = jI (kLen σ r) ∧ u_ = σ) := by
  refine zc_of (cc := cX2_textLength) (maxL := 1) (ret := some .int) (own := RX2) (by decide) rfl rfl (Nat.le_of_ble_eq_true rfl) rfl ?_
  intro p e s m below meth c A ls C X hP hS hl
  refine zg_aload_n C dX2_textLength_0 rfl (lv_at hl 0 rfl) ?_
  refine zg_aload_n C dX2_textLength_1 rfl (lv_at hl 0 rfl) ?_
  refine zg_get (j := 2) C X hP (hkS_20 hr) (lyS_20 hr) rfl (zmem uwX2) (by decide) (C.tb flX2_36) (fun _ h9 => h9) rfl dX2_textLength_2 ?_
  refine zg_get (j := 4) C X hP (by decide) lyS_11 rfl (zmem uwX1) (by decide) (C.tb flX2_112) (fun _ h9 => h9) rfl dX2_textLength_5 ?_
  have b_1 := rgS_11_4 hR
  refine zg_callV C X hP hS (kX2_aliveAmongFirst l σ hR r hr (σ 11 4) (by omega) (by omega)) (cwV 1 C.ts (zgV mlX2_113 imX2_aliveAmongFirst slX2_aliveAmongFirst iniX2 cdX2_aliveAmongFirst) rfl rfl rfl (by decide +kernel) ⟨Nat.le_of_ble_eq_true rfl, Nat.le_of_ble_eq_true rfl⟩) (hkS_20 hr) (lyS_20 hr) rfl rfl rfl hl.1 rfl (Nat.le_of_ble_eq_true rfl) dX2_textLength_8 ⟨Nat.zero_le _, Nat.zero_le _⟩ (fun r_3 σ2 H locs q4 hP hS => ?_)
  obtain ⟨rfl, q4⟩ := q4
  have b_5 := kCnt_rg σ r ((σ 11 4)).toNat
  rw [q4] at hP
  refine zg_iret C hP hS dX2_textLength_11 ?_
  exact ⟨rfl, rfl⟩
set_option maxHeartbeats 4000000 in
set_option maxRecDepth 100000 in
theorem kX2_hasGap (l : Launch) {D : va_G} {a : Nat → Nat} {cI cZ cR : ClassId} (σ : Zt) (hR : rgS σ) (r : Nat) (hr : r < 6) (q : Int) (q0 : -2147483648 ≤ q) (q1 : q < 2147483648) : zc l D vwCl (tyS cI cZ cR) 56 (layS cI cZ cR a) a yX2_hasGap wsX2_hasGap ({ frames := 4, cells := 0, slots := 0, locals := 85 }) [.ref (a (20 + 6 * r)), .int (jI q)] σ (fun r_ u_ => r_ = jI (bI (kGap σ r q)) ∧ u_ = σ) := by
  refine zc_of (cc := cX2_hasGap) (maxL := 2) (ret := some .boolean) (own := RX2) (by decide) rfl rfl (Nat.le_of_ble_eq_true rfl) rfl ?_
  intro p e s m below meth c A ls C X hP hS hl
  refine zg_iload_n C dX2_hasGap_0 rfl (lv_at hl 1 rfl) ?_
  refine zg_if_lt (tgt := 16) C (by omega) (by omega) dX2_hasGap_1 (by decide) (fun c_1 => ?_) (fun c_1 => ?_)
  · refine zg_iconst C dX2_hasGap_16 ?_
    refine zg_zret (b := false) C hP hS dX2_hasGap_17 ?_
    exact ⟨congrArg (fun b => jI (bI b)) (by grind [kGap]), rfl⟩
  · refine zg_iload_n C dX2_hasGap_4 rfl (lv_at hl 1 rfl) ?_
    refine zg_aload_n C dX2_hasGap_5 rfl (lv_at hl 0 rfl) ?_
    refine zg_callV C X hP hS (kX2_textLength l σ hR r hr) (cwV 0 C.ts (zgV mlX2_117 imX2_textLength slX2_textLength iniX2 cdX2_textLength) rfl rfl rfl (by decide +kernel) ⟨Nat.le_of_ble_eq_true rfl, Nat.le_of_ble_eq_true rfl⟩) (hkS_20 hr) (lyS_20 hr) rfl rfl rfl hl.1 rfl (Nat.le_of_ble_eq_true rfl) dX2_hasGap_6 ⟨Nat.zero_le _, Nat.zero_le _⟩ (fun r_3 σ2 H locs q4 hP hS => ?_)
    obtain ⟨rfl, q4⟩ := q4
    have b_5 := kLen_rg hR r
    rw [q4] at hP
    refine zg_icmp_gt (tgt := 16) C (by omega) (by omega) (by omega) (by omega) dX2_hasGap_9 (by decide) (fun c_6 => ?_) (fun c_6 => ?_)
    · refine zg_iconst C dX2_hasGap_16 ?_
      refine zg_zret (b := false) C hP hS dX2_hasGap_17 ?_
      exact ⟨congrArg (fun b => jI (bI b)) (by grind [kGap]), rfl⟩
    · refine zg_iconst C dX2_hasGap_12 ?_
      refine zg_goto (tgt := 17) C dX2_hasGap_13 (by decide) ?_
      refine zg_zret (b := true) C hP hS dX2_hasGap_17 ?_
      exact ⟨congrArg (fun b => jI (bI b)) (by grind [kGap]), rfl⟩
set_option maxHeartbeats 4000000 in
set_option maxRecDepth 100000 in
theorem lpX2_signAt_4 {l : Launch} {D : va_G} {a : Nat → Nat} {cI cZ cR : ClassId} {p : Program} {e : Env} {s : State} {m : MethodId} {below : List Frame} {meth : Method} {c : Code} {A : Nat → Prop} (σ : Zt) (hR : rgS σ) (r : Nat) (hr : r < 6) (q : Int) (q0 : -2147483648 ≤ q) (q1 : q < 2147483648)  (C : zk p s m ([.ref (a (20 + 6 * r)), .int (jI q)] : List Value).toArray meth c cX2_signAt 4 (some .int) wsX2_signAt RX2) (X : zx D vwCl (tyS cI cZ cR) A a 56 s) :
    ∀ (n : Nat) (z i : Int) (H : Heap) (locs : List Loc) (ls : Array Slot), ((σ 11 4 - i).toNat < n) → (0 ≤ i) → (i ≤ 400) → (-2147483648 ≤ z) → (z < 2147483648) → (kSignAt σ r q = kAt σ r (σ 11 4 - i).toNat i.toNat z) → va_P D vwCl (zw 56 (layS cI cZ cR a) a σ) H → va_S A s.heap H locs → lv_has ls 4 [(0, .ref (a (20 + 6 * r))), (1, .int (jI q)), (2, .int (jI z)), (3, .int (jI i))] →
      W p l e ({ frames := 2, cells := 0, slots := 0, locals := 42 }) s m ([.ref (a (20 + 6 * r)), .int (jI q)] : List Value).toArray below meth c H locs 0 0 (MQ below (va_Qi (fun r_ u_ => r_ = jI (kSignAt σ r q) ∧ u_ = σ) (fun (u : Zt) t => va_P D vwCl (zw 56 (layS cI cZ cR a) a u) t.heap) A) ([.ref (a (20 + 6 * r)), .int (jI q)] : List Value).toArray s 0 0 A) (F0 m 4 ls []) := by
  intro n
  induction n with
  | zero =>
    intro z i  H locs ls hn h0 h1 z0 z1 hE hP hS hl
    exact absurd hn (by omega)
  | succ n ih =>
    intro z i  H locs ls hn h0 h1 z0 z1 hE hP hS hl
    refine zg_iload_n C dX2_signAt_4 rfl (lv_at hl 3 rfl) ?_
    refine zg_aload_n C dX2_signAt_5 rfl (lv_at hl 0 rfl) ?_
    refine zg_get (j := 2) C X hP (hkS_20 hr) (lyS_20 hr) rfl (zmem uwX2) (by decide) (C.tb flX2_36) (fun _ h9 => h9) rfl dX2_signAt_6 ?_
    refine zg_get (j := 4) C X hP (by decide) lyS_11 rfl (zmem uwX1) (by decide) (C.tb flX2_112) (fun _ h9 => h9) rfl dX2_signAt_9 ?_
    have b_1 := rgS_11_4 hR
    refine zg_icmp_ge (tgt := 58) C (by omega) (by omega) (by omega) (by omega) dX2_signAt_12 (by decide) (fun c_2 => ?_) (fun c_2 => ?_)
    · refine zg_iconst C dX2_signAt_58 ?_
      refine zg_iret C hP hS dX2_signAt_59 ?_
      exact ⟨congrArg jI (by rw [hE]; first | rw [kAt_end (by assumption)] | rw [kAt_neg (by assumption) (by assumption)]), rfl⟩
    · refine zg_iload_n C dX2_signAt_15 rfl (lv_at hl 2 rfl) ?_
      refine zg_if_lt (tgt := 58) C (by omega) (by omega) dX2_signAt_16 (by decide) (fun c_3 => ?_) (fun c_3 => ?_)
      · refine zg_iconst C dX2_signAt_58 ?_
        refine zg_iret C hP hS dX2_signAt_59 ?_
        exact ⟨congrArg jI (by rw [hE]; first | rw [kAt_end (by assumption)] | rw [kAt_neg (by assumption) (by assumption)]), rfl⟩
      · refine zg_aload_n C dX2_signAt_19 rfl (lv_at hl 0 rfl) ?_
        refine zg_aload_n C dX2_signAt_20 rfl (lv_at hl 0 rfl) ?_
        refine zg_get (j := 2) C X hP (hkS_20 hr) (lyS_20 hr) rfl (zmem uwX2) (by decide) (C.tb flX2_36) (fun _ h9 => h9) rfl dX2_signAt_21 ?_
        refine zg_get (j := 2) C X hP (by decide) lyS_11 rfl (zmem uwX1) (by decide) (C.tb flX2_104) (fun _ h9 => h9) rfl dX2_signAt_24 ?_
        refine zg_iload_n C dX2_signAt_27 rfl (lv_at hl 3 rfl) ?_
        refine zg_iald (t0 := 0) C X hP (by decide) lyS_14 rfl (by decide) (by omega) (by omega) dX2_signAt_28 ?_
        have b_4 := rgS_14 hR ((i).toNat)
        refine zg_callV C X hP hS (kX2_isAlive l σ hR r hr (σ 14 (i).toNat) (by omega) (by omega)) (cwV 1 C.ts (zgV mlX2_109 imX2_isAlive slX2_isAlive iniX2 cdX2_isAlive) rfl rfl rfl (by decide +kernel) ⟨Nat.le_of_ble_eq_true rfl, Nat.le_of_ble_eq_true rfl⟩) (hkS_20 hr) (lyS_20 hr) rfl rfl rfl hl.1 rfl (Nat.le_of_ble_eq_true rfl) dX2_signAt_29 ⟨Nat.zero_le _, Nat.zero_le _⟩ (fun r_6 σ5 H locs q7 hP hS => ?_)
        obtain ⟨rfl, q7⟩ := q7
        rw [q7] at hP
        refine zg_ifeqB (tgt := 52) C dX2_signAt_32 (by decide) (fun c_8 => ?_) (fun c_8 => ?_)
        · refine zg_iinc (k := 3) (lv' := [(3, .int (jI (i + 1))), (0, .ref (a (20 + 6 * r))), (1, .int (jI q)), (2, .int (jI z))]) C dX2_signAt_52 hl rfl (by decide) rfl (fun ls hl => ?_)
          refine zg_goto (tgt := 4) C dX2_signAt_55 (by decide) ?_
          exact ih z (i + 1) _ _ _ (by omega) (by omega) (by omega) (by omega) (by omega) (hE.trans (by first | exact kAt_down (by omega) (by assumption) (by assumption) (by assumption) (by assumption) | exact kAt_skip (by omega) (by assumption) (by assumption) (by assumption))) hP hS (lv_sub hl [1, 2, 3, 0] rfl)
        · refine zg_iload_n C dX2_signAt_35 rfl (lv_at hl 2 rfl) ?_
          refine zg_if_ne (tgt := 49) C (by omega) (by omega) dX2_signAt_36 (by decide) (fun c_9 => ?_) (fun c_9 => ?_)
          · refine zg_iinc (k := 2) (lv' := [(2, .int (jI (z + -1))), (0, .ref (a (20 + 6 * r))), (1, .int (jI q)), (3, .int (jI i))]) C dX2_signAt_49 hl rfl (by decide) rfl (fun ls hl => ?_)
            refine zg_iinc (k := 3) (lv' := [(3, .int (jI (i + 1))), (2, .int (jI (z + -1))), (0, .ref (a (20 + 6 * r))), (1, .int (jI q))]) C dX2_signAt_52 hl rfl (by decide) rfl (fun ls hl => ?_)
            refine zg_goto (tgt := 4) C dX2_signAt_55 (by decide) ?_
            exact ih (z + -1) (i + 1) _ _ _ (by omega) (by omega) (by omega) (by omega) (by omega) (hE.trans (by first | exact kAt_down (by omega) (by assumption) (by assumption) (by assumption) (by assumption) | exact kAt_skip (by omega) (by assumption) (by assumption) (by assumption))) hP hS (lv_sub hl [2, 3, 1, 0] rfl)
          · refine zg_aload_n C dX2_signAt_39 rfl (lv_at hl 0 rfl) ?_
            refine zg_get (j := 2) C X hP (hkS_20 hr) (lyS_20 hr) rfl (zmem uwX2) (by decide) (C.tb flX2_36) (fun _ h9 => h9) rfl dX2_signAt_40 ?_
            refine zg_get (j := 2) C X hP (by decide) lyS_11 rfl (zmem uwX1) (by decide) (C.tb flX2_104) (fun _ h9 => h9) rfl dX2_signAt_43 ?_
            refine zg_iload_n C dX2_signAt_46 rfl (lv_at hl 3 rfl) ?_
            refine zg_iald (t0 := 0) C X hP (by decide) lyS_14 rfl (by decide) (by omega) (by omega) dX2_signAt_47 ?_
            have b_10 := rgS_14 hR ((i).toNat)
            refine zg_iret C hP hS dX2_signAt_48 ?_
            exact ⟨congrArg jI (by rw [hE, kAt_hit (by assumption) (by assumption) (by assumption)]), rfl⟩
set_option maxHeartbeats 4000000 in
set_option maxRecDepth 100000 in
theorem kX2_signAt (l : Launch) {D : va_G} {a : Nat → Nat} {cI cZ cR : ClassId} (σ : Zt) (hR : rgS σ) (r : Nat) (hr : r < 6) (q : Int) (q0 : -2147483648 ≤ q) (q1 : q < 2147483648) : zc l D vwCl (tyS cI cZ cR) 56 (layS cI cZ cR a) a yX2_signAt wsX2_signAt ({ frames := 2, cells := 0, slots := 0, locals := 42 }) [.ref (a (20 + 6 * r)), .int (jI q)] σ (fun r_ u_ => r_ = jI (kSignAt σ r q) ∧ u_ = σ) := by
  refine zc_of (cc := cX2_signAt) (maxL := 4) (ret := some .int) (own := RX2) (by decide) rfl rfl (Nat.le_of_ble_eq_true rfl) rfl ?_
  intro p e s m below meth c A ls C X hP hS hl
  refine zg_iload_n C dX2_signAt_0 rfl (lv_at hl 1 rfl) ?_
  refine zg_istore_n (lv' := [(2, .int (jI q)), (0, .ref (a (20 + 6 * r))), (1, .int (jI q))]) C dX2_signAt_1 rfl hl (by decide) rfl (fun ls hl => ?_)
  refine zg_iconst C dX2_signAt_2 ?_
  refine zg_istore_n (lv' := [(3, .int (jI 0)), (2, .int (jI q)), (0, .ref (a (20 + 6 * r))), (1, .int (jI q))]) C dX2_signAt_3 rfl hl (by decide) rfl (fun ls hl => ?_)
  exact lpX2_signAt_4 σ hR r hr q q0 q1 C X 401 q 0 _ _ _ (by have := rgS_11_4 hR; omega) (by omega) (by omega) q0 q1 (by unfold kSignAt; rw [Int.sub_zero]; rfl) hP hS (lv_sub hl [2, 3, 1, 0] rfl)
set_option maxHeartbeats 4000000 in
set_option maxRecDepth 100000 in
theorem kX2_signBefore (l : Launch) {D : va_G} {a : Nat → Nat} {cI cZ cR : ClassId} (σ : Zt) (hR : rgS σ) (r : Nat) (hr : r < 6) (q : Int) (q0 : -2147483648 ≤ q) (q1 : q < 2147483648) : zc l D vwCl (tyS cI cZ cR) 56 (layS cI cZ cR a) a yX2_signBefore wsX2_signBefore ({ frames := 3, cells := 0, slots := 0, locals := 65 }) [.ref (a (20 + 6 * r)), .int (jI q)] σ (fun r_ u_ => r_ = jI (kBefore σ r q) ∧ u_ = σ) := by
  refine zc_of (cc := cX2_signBefore) (maxL := 2) (ret := some .int) (own := RX2) (by decide) rfl rfl (Nat.le_of_ble_eq_true rfl) rfl ?_
  intro p e s m below meth c A ls C X hP hS hl
  refine zg_iload_n C dX2_signBefore_0 rfl (lv_at hl 1 rfl) ?_
  refine zg_if_gt (tgt := 8) C (by omega) (by omega) dX2_signBefore_1 (by decide) (fun c_1 => ?_) (fun c_1 => ?_)
  · refine zg_aload_n C dX2_signBefore_8 rfl (lv_at hl 0 rfl) ?_
    refine zg_iload_n C dX2_signBefore_9 rfl (lv_at hl 1 rfl) ?_
    refine zg_iconst C dX2_signBefore_10 ?_
    refine zg_isub C dX2_signBefore_11 ?_
    refine zg_callV C X hP hS (kX2_signAt l σ hR r hr (q - 1) (by omega) (by omega)) (cwV 1 C.ts (zgV mlX2_120 imX2_signAt slX2_signAt iniX2 cdX2_signAt) rfl rfl rfl (by decide +kernel) ⟨Nat.le_of_ble_eq_true rfl, Nat.le_of_ble_eq_true rfl⟩) (hkS_20 hr) (lyS_20 hr) rfl rfl rfl hl.1 rfl (Nat.le_of_ble_eq_true rfl) dX2_signBefore_12 ⟨Nat.zero_le _, Nat.zero_le _⟩ (fun r_3 σ2 H locs q4 hP hS => ?_)
    obtain ⟨rfl, q4⟩ := q4
    have b_5 := kSignAt_rg hR r (q - 1)
    rw [q4] at hP
    refine zg_iret C hP hS dX2_signBefore_15 ?_
    exact ⟨congrArg jI (by grind [kBefore]), rfl⟩
  · refine zg_iconst C dX2_signBefore_4 ?_
    refine zg_goto (tgt := 15) C dX2_signBefore_5 (by decide) ?_
    refine zg_iret C hP hS dX2_signBefore_15 ?_
    exact ⟨congrArg jI (by grind [kBefore]), rfl⟩
set_option maxHeartbeats 4000000 in
set_option maxRecDepth 100000 in
theorem lpX2_nextBehind_21 {l : Launch} {D : va_G} {a : Nat → Nat} {cI cZ cR : ClassId} {p : Program} {e : Env} {s : State} {m : MethodId} {below : List Frame} {meth : Method} {c : Code} {A : Nat → Prop} (σ : Zt) (hR : rgS σ) (r : Nat) (hr : r < 6) (d : Int) (d0 : -1 ≤ d) (d1 : d < 400)  (C : zk p s m ([.ref (a (20 + 6 * r)), .int (jI d)] : List Value).toArray meth c cX2_nextBehind 3 (some .int) wsX2_nextBehind RX2) (X : zx D vwCl (tyS cI cZ cR) A a 56 s) :
    ∀ (n : Nat) (i : Int) (H : Heap) (locs : List Loc) (ls : Array Slot), ((401 - i).toNat < n) → (0 ≤ i) → (i ≤ 400) → (kBehind σ r d = kNext σ r (σ 11 4 - i).toNat i.toNat) → va_P D vwCl (zw 56 (layS cI cZ cR a) a σ) H → va_S A s.heap H locs → lv_has ls 3 [(0, .ref (a (20 + 6 * r))), (1, .int (jI d)), (2, .int (jI i))] →
      W p l e ({ frames := 1, cells := 0, slots := 0, locals := 21 }) s m ([.ref (a (20 + 6 * r)), .int (jI d)] : List Value).toArray below meth c H locs 0 0 (MQ below (va_Qi (fun r_ u_ => r_ = jI (kBehind σ r d) ∧ u_ = σ) (fun (u : Zt) t => va_P D vwCl (zw 56 (layS cI cZ cR a) a u) t.heap) A) ([.ref (a (20 + 6 * r)), .int (jI d)] : List Value).toArray s 0 0 A) (F0 m 21 ls []) := by
  intro n
  induction n with
  | zero =>
    intro i  H locs ls hn h0 h1 hE hP hS hl
    exact absurd hn (by omega)
  | succ n ih =>
    intro i  H locs ls hn h0 h1 hE hP hS hl
    refine zg_iload_n C dX2_nextBehind_21 rfl (lv_at hl 2 rfl) ?_
    refine zg_aload_n C dX2_nextBehind_22 rfl (lv_at hl 0 rfl) ?_
    refine zg_get (j := 2) C X hP (hkS_20 hr) (lyS_20 hr) rfl (zmem uwX2) (by decide) (C.tb flX2_36) (fun _ h9 => h9) rfl dX2_nextBehind_23 ?_
    refine zg_get (j := 4) C X hP (by decide) lyS_11 rfl (zmem uwX1) (by decide) (C.tb flX2_112) (fun _ h9 => h9) rfl dX2_nextBehind_26 ?_
    have b_1 := rgS_11_4 hR
    refine zg_icmp_ge (tgt := 64) C (by omega) (by omega) (by omega) (by omega) dX2_nextBehind_29 (by decide) (fun c_2 => ?_) (fun c_2 => ?_)
    · refine zg_iconst C dX2_nextBehind_64 ?_
      refine zg_iret C hP hS dX2_nextBehind_65 ?_
      exact ⟨congrArg jI (by rw [hE, kNext_end (by assumption)]), rfl⟩
    · refine zg_aload_n C dX2_nextBehind_32 rfl (lv_at hl 0 rfl) ?_
      refine zg_aload_n C dX2_nextBehind_33 rfl (lv_at hl 0 rfl) ?_
      refine zg_get (j := 2) C X hP (hkS_20 hr) (lyS_20 hr) rfl (zmem uwX2) (by decide) (C.tb flX2_36) (fun _ h9 => h9) rfl dX2_nextBehind_34 ?_
      refine zg_get (j := 2) C X hP (by decide) lyS_11 rfl (zmem uwX1) (by decide) (C.tb flX2_104) (fun _ h9 => h9) rfl dX2_nextBehind_37 ?_
      refine zg_iload_n C dX2_nextBehind_40 rfl (lv_at hl 2 rfl) ?_
      refine zg_iald (t0 := 0) C X hP (by decide) lyS_14 rfl (by decide) (by omega) (by omega) dX2_nextBehind_41 ?_
      have b_3 := rgS_14 hR ((i).toNat)
      refine zg_callV C X hP hS (kX2_didDeed l σ hR r hr (σ 14 (i).toNat) (by omega) (by omega)) (cwV 1 C.ts (zgV mlX2_59 imX2_didDeed slX2_didDeed iniX2 cdX2_didDeed) rfl rfl rfl (by decide +kernel) ⟨Nat.le_of_ble_eq_true rfl, Nat.le_of_ble_eq_true rfl⟩) (hkS_20 hr) (lyS_20 hr) rfl rfl rfl hl.1 rfl (Nat.le_of_ble_eq_true rfl) dX2_nextBehind_42 ⟨Nat.zero_le _, Nat.zero_le _⟩ (fun r_5 σ4 H locs q6 hP hS => ?_)
      obtain ⟨rfl, q6⟩ := q6
      rw [q6] at hP
      refine zg_ifeqB (tgt := 58) C dX2_nextBehind_45 (by decide) (fun c_7 => ?_) (fun c_7 => ?_)
      · refine zg_iinc (k := 2) (lv' := [(2, .int (jI (i + 1))), (0, .ref (a (20 + 6 * r))), (1, .int (jI d))]) C dX2_nextBehind_58 hl rfl (by decide) rfl (fun ls hl => ?_)
        refine zg_goto (tgt := 21) C dX2_nextBehind_61 (by decide) ?_
        exact ih (i + 1) _ _ _ (by omega) (by omega) (by omega) (hE.trans (kNext_step (by omega) (by assumption) (by assumption))) hP hS (lv_sub hl [1, 2, 0] rfl)
      · refine zg_aload_n C dX2_nextBehind_48 rfl (lv_at hl 0 rfl) ?_
        refine zg_get (j := 2) C X hP (hkS_20 hr) (lyS_20 hr) rfl (zmem uwX2) (by decide) (C.tb flX2_36) (fun _ h9 => h9) rfl dX2_nextBehind_49 ?_
        refine zg_get (j := 2) C X hP (by decide) lyS_11 rfl (zmem uwX1) (by decide) (C.tb flX2_104) (fun _ h9 => h9) rfl dX2_nextBehind_52 ?_
        refine zg_iload_n C dX2_nextBehind_55 rfl (lv_at hl 2 rfl) ?_
        refine zg_iald (t0 := 0) C X hP (by decide) lyS_14 rfl (by decide) (by omega) (by omega) dX2_nextBehind_56 ?_
        have b_8 := rgS_14 hR ((i).toNat)
        refine zg_iret C hP hS dX2_nextBehind_57 ?_
        exact ⟨congrArg jI (by rw [hE, kNext_hit (by assumption) (by assumption)]), rfl⟩
set_option maxHeartbeats 4000000 in
set_option maxRecDepth 100000 in
theorem kX2_nextBehind (l : Launch) {D : va_G} {a : Nat → Nat} {cI cZ cR : ClassId} (σ : Zt) (hR : rgS σ) (r : Nat) (hr : r < 6) (d : Int) (d0 : -1 ≤ d) (d1 : d < 400) : zc l D vwCl (tyS cI cZ cR) 56 (layS cI cZ cR a) a yX2_nextBehind wsX2_nextBehind ({ frames := 1, cells := 0, slots := 0, locals := 21 }) [.ref (a (20 + 6 * r)), .int (jI d)] σ (fun r_ u_ => r_ = jI (kBehind σ r d) ∧ u_ = σ) := by
  refine zc_of (cc := cX2_nextBehind) (maxL := 3) (ret := some .int) (own := RX2) (by decide) rfl rfl (Nat.le_of_ble_eq_true rfl) rfl ?_
  intro p e s m below meth c A ls C X hP hS hl
  refine zg_iload_n C dX2_nextBehind_0 rfl (lv_at hl 1 rfl) ?_
  refine zg_iconst C dX2_nextBehind_1 ?_
  refine zg_icmp_ne (tgt := 9) C (by omega) (by omega) (by omega) (by omega) dX2_nextBehind_2 (by decide) (fun c_9 => ?_) (fun c_9 => ?_)
  · refine zg_aload_n C dX2_nextBehind_9 rfl (lv_at hl 0 rfl) ?_
    refine zg_get (j := 2) C X hP (hkS_20 hr) (lyS_20 hr) rfl (zmem uwX2) (by decide) (C.tb flX2_36) (fun _ h9 => h9) rfl dX2_nextBehind_10 ?_
    refine zg_get (j := 3) C X hP (by decide) lyS_11 rfl (zmem uwX1) (by decide) (C.tb flX2_123) (fun _ h9 => h9) rfl dX2_nextBehind_13 ?_
    refine zg_iload_n C dX2_nextBehind_16 rfl (lv_at hl 1 rfl) ?_
    refine zg_iald (t0 := 0) C X hP (by decide) lyS_15 rfl (by decide) (by omega) (by omega) dX2_nextBehind_17 ?_
    have b_10 := rgS_15 hR ((d).toNat)
    refine zg_iconst C dX2_nextBehind_18 ?_
    refine zg_iadd C dX2_nextBehind_19 ?_
    refine zg_istore_n (lv' := [(2, .int (jI ((σ 15 (d).toNat) + 1))), (0, .ref (a (20 + 6 * r))), (1, .int (jI d))]) C dX2_nextBehind_20 rfl hl (by decide) rfl (fun ls hl => ?_)
    exact lpX2_nextBehind_21 σ hR r hr d d0 d1 C X 402 ((σ 15 (d).toNat) + 1) _ _ _ (by omega) (by omega) (by omega) (by unfold kBehind; first | rw [if_pos (by assumption), Int.sub_zero]; rfl | rw [if_neg (by assumption)]) hP hS (lv_sub hl [1, 2, 0] rfl)
  · refine zg_iconst C dX2_nextBehind_5 ?_
    refine zg_goto (tgt := 20) C dX2_nextBehind_6 (by decide) ?_
    refine zg_istore_n (lv' := [(2, .int (jI 0)), (0, .ref (a (20 + 6 * r))), (1, .int (jI d))]) C dX2_nextBehind_20 rfl hl (by decide) rfl (fun ls hl => ?_)
    exact lpX2_nextBehind_21 σ hR r hr d d0 d1 C X 402 0 _ _ _ (by omega) (by omega) (by omega) (by unfold kBehind; first | rw [if_pos (by assumption), Int.sub_zero]; rfl | rw [if_neg (by assumption)]) hP hS (lv_sub hl [1, 2, 0] rfl)
set_option maxHeartbeats 4000000 in
set_option maxRecDepth 100000 in
theorem kX2_cursorPlace (l : Launch) {D : va_G} {a : Nat → Nat} {cI cZ cR : ClassId} (σ : Zt) (hR : rgS σ) (r : Nat) (hr : r < 6) (q : Int) (q0 : 0 ≤ q) (q1 : q < 4) : zc l D vwCl (tyS cI cZ cR) 56 (layS cI cZ cR a) a yX2_cursorPlace wsX2_cursorPlace ({ frames := 3, cells := 0, slots := 0, locals := 65 }) [.ref (a (20 + 6 * r)), .int (jI q)] σ (fun r_ u_ => r_ = jI (kCur σ r q) ∧ u_ = σ) := by
  refine zc_of (cc := cX2_cursorPlace) (maxL := 3) (ret := some .int) (own := RX2) (by decide) rfl rfl (Nat.le_of_ble_eq_true rfl) rfl ?_
  intro p e s m below meth c A ls C X hP hS hl
  refine zg_aload_n C dX2_cursorPlace_0 rfl (lv_at hl 0 rfl) ?_
  refine zg_get (j := 10) C X hP (hkS_20 hr) (lyS_20 hr) rfl (zmem uwX2) (by decide) (C.tb flX2_22) (fun _ h9 => h9) rfl dX2_cursorPlace_1 ?_
  refine zg_iload_n C dX2_cursorPlace_4 rfl (lv_at hl 1 rfl) ?_
  refine zg_iald (t0 := 0) C X hP (hkS_24 hr) (lyS_24 hr) rfl (by decide) (by omega) (by omega) dX2_cursorPlace_5 ?_
  have b_1 := rgS_24 hR hr ((q).toNat)
  refine zg_istore_n (lv' := [(2, .int (jI (σ (24 + 6 * r) (q).toNat))), (0, .ref (a (20 + 6 * r))), (1, .int (jI q))]) C dX2_cursorPlace_6 rfl hl (by decide) rfl (fun ls hl => ?_)
  refine zg_iload_n C dX2_cursorPlace_7 rfl (lv_at hl 0 rfl) ?_
  refine zg_iconst C dX2_cursorPlace_8 ?_
  refine zg_icmp_ne (tgt := 16) C (by omega) (by omega) (by omega) (by omega) dX2_cursorPlace_9 (by decide) (fun c_2 => ?_) (fun c_2 => ?_)
  · refine zg_aload_n C dX2_cursorPlace_16 rfl (lv_at hl 1 rfl) ?_
    refine zg_aload_n C dX2_cursorPlace_17 rfl (lv_at hl 1 rfl) ?_
    refine zg_get (j := 2) C X hP (hkS_20 hr) (lyS_20 hr) rfl (zmem uwX2) (by decide) (C.tb flX2_36) (fun _ h9 => h9) rfl dX2_cursorPlace_18 ?_
    refine zg_get (j := 3) C X hP (by decide) lyS_11 rfl (zmem uwX1) (by decide) (C.tb flX2_123) (fun _ h9 => h9) rfl dX2_cursorPlace_21 ?_
    refine zg_iload_n C dX2_cursorPlace_24 rfl (lv_at hl 0 rfl) ?_
    refine zg_iald (t0 := 0) C X hP (by decide) lyS_15 rfl (by decide) (by omega) (by omega) dX2_cursorPlace_25 ?_
    have b_3 := rgS_15 hR ((σ (24 + 6 * r) (q).toNat).toNat)
    refine zg_iconst C dX2_cursorPlace_26 ?_
    refine zg_iadd C dX2_cursorPlace_27 ?_
    refine zg_callV C X hP hS (kX2_aliveAmongFirst l σ hR r hr ((σ 15 (σ (24 + 6 * r) (q).toNat).toNat) + 1) (by omega) (by omega)) (cwV 1 C.ts (zgV mlX2_113 imX2_aliveAmongFirst slX2_aliveAmongFirst iniX2 cdX2_aliveAmongFirst) rfl rfl rfl (by decide +kernel) ⟨Nat.le_of_ble_eq_true rfl, Nat.le_of_ble_eq_true rfl⟩) (hkS_20 hr) (lyS_20 hr) rfl rfl rfl hl.1 rfl (Nat.le_of_ble_eq_true rfl) dX2_cursorPlace_28 ⟨Nat.zero_le _, Nat.zero_le _⟩ (fun r_5 σ4 H locs q6 hP hS => ?_)
    obtain ⟨rfl, q6⟩ := q6
    have b_7 := kCnt_rg σ r (((σ 15 (σ (24 + 6 * r) (q).toNat).toNat) + 1)).toNat
    rw [q6] at hP
    refine zg_iret C hP hS dX2_cursorPlace_31 ?_
    exact ⟨congrArg jI (by grind [kCur]), rfl⟩
  · refine zg_iconst C dX2_cursorPlace_12 ?_
    refine zg_goto (tgt := 31) C dX2_cursorPlace_13 (by decide) ?_
    refine zg_iret C hP hS dX2_cursorPlace_31 ?_
    exact ⟨congrArg jI (by grind [kCur]), rfl⟩
set_option maxHeartbeats 4000000 in
set_option maxRecDepth 100000 in
theorem lpX2_firstReady_2 {l : Launch} {D : va_G} {a : Nat → Nat} {cI cZ cR : ClassId} {p : Program} {e : Env} {s : State} {m : MethodId} {below : List Frame} {meth : Method} {c : Code} {A : Nat → Prop} (σ : Zt) (hR : rgS σ) (r : Nat) (hr : r < 6)  (C : zk p s m ([.ref (a (20 + 6 * r))] : List Value).toArray meth c cX2_firstReady 2 (some .int) wsX2_firstReady RX2) (X : zx D vwCl (tyS cI cZ cR) A a 56 s) :
    ∀ (n : Nat) (i : Int) (H : Heap) (locs : List Loc) (ls : Array Slot), ((σ 1 10 - i).toNat < n) → (0 ≤ i) → (i ≤ 400) → (kFirst σ r (σ 1 10).toNat 0 = kFirst σ r (σ 1 10 - i).toNat i.toNat) → va_P D vwCl (zw 56 (layS cI cZ cR a) a σ) H → va_S A s.heap H locs → lv_has ls 2 [(0, .ref (a (20 + 6 * r))), (1, .int (jI i))] →
      W p l e ({ frames := 2, cells := 0, slots := 0, locals := 42 }) s m ([.ref (a (20 + 6 * r))] : List Value).toArray below meth c H locs 0 0 (MQ below (va_Qi (fun r_ u_ => r_ = jI (kFirst σ r (σ 1 10).toNat 0) ∧ u_ = σ) (fun (u : Zt) t => va_P D vwCl (zw 56 (layS cI cZ cR a) a u) t.heap) A) ([.ref (a (20 + 6 * r))] : List Value).toArray s 0 0 A) (F0 m 2 ls []) := by
  intro n
  induction n with
  | zero =>
    intro i  H locs ls hn h0 h1 hE hP hS hl
    exact absurd hn (by omega)
  | succ n ih =>
    intro i  H locs ls hn h0 h1 hE hP hS hl
    refine zg_iload_n C dX2_firstReady_2 rfl (lv_at hl 1 rfl) ?_
    refine zg_aload_n C dX2_firstReady_3 rfl (lv_at hl 0 rfl) ?_
    refine zg_get (j := 1) C X hP (hkS_20 hr) (lyS_20 hr) rfl (zmem uwX2) (by decide) (C.tb flX2_32) (fun _ h9 => h9) rfl dX2_firstReady_4 ?_
    refine zg_get (j := 10) C X hP (by decide) lyS_1 rfl (zmem uwX0) (by decide) (C.tb flX2_83) (fun _ h9 => h9) rfl dX2_firstReady_7 ?_
    have b_1 := rgS_1_10 hR
    refine zg_icmp_ge (tgt := 38) C (by omega) (by omega) (by omega) (by omega) dX2_firstReady_10 (by decide) (fun c_2 => ?_) (fun c_2 => ?_)
    · refine zg_iconst C dX2_firstReady_38 ?_
      refine zg_iret C hP hS dX2_firstReady_39 ?_
      exact ⟨congrArg jI (by rw [hE, kFirst_end (by assumption)]), rfl⟩
    · refine zg_aload_n C dX2_firstReady_13 rfl (lv_at hl 0 rfl) ?_
      refine zg_get (j := 8) C X hP (hkS_20 hr) (lyS_20 hr) rfl (zmem uwX2) (by decide) (C.tb flX2_15) (fun _ h9 => h9) rfl dX2_firstReady_14 ?_
      refine zg_iload_n C dX2_firstReady_17 rfl (lv_at hl 1 rfl) ?_
      refine zg_zald (t0 := 1) C X hP (hkS_22 hr) (lyS_22 hr) rfl (by decide) (by omega) (by omega) dX2_firstReady_18 ?_
      have b_3 := rgS_22 hR hr ((i).toNat)
      refine zg_if_eq (tgt := 32) C (by omega) (by omega) dX2_firstReady_19 (by decide) (fun c_4 => ?_) (fun c_4 => ?_)
      · refine zg_iinc (k := 1) (lv' := [(1, .int (jI (i + 1))), (0, .ref (a (20 + 6 * r)))]) C dX2_firstReady_32 hl rfl (by decide) rfl (fun ls hl => ?_)
        refine zg_goto (tgt := 2) C dX2_firstReady_35 (by decide) ?_
        exact ih (i + 1) _ _ _ (by omega) (by omega) (by omega) (hE.trans (kFirst_step (by omega) (by assumption) (by grind))) hP hS (lv_sub hl [1, 0] rfl)
      · refine zg_aload_n C dX2_firstReady_22 rfl (lv_at hl 0 rfl) ?_
        refine zg_iload_n C dX2_firstReady_23 rfl (lv_at hl 1 rfl) ?_
        refine zg_callV C X hP hS (kX2_isReady l σ hR r hr i (by omega) (by omega)) (cwV 1 C.ts (zgV mlX2_66 imX2_isReady slX2_isReady iniX2 cdX2_isReady) rfl rfl rfl (by decide +kernel) ⟨Nat.le_of_ble_eq_true rfl, Nat.le_of_ble_eq_true rfl⟩) (hkS_20 hr) (lyS_20 hr) rfl rfl rfl hl.1 rfl (Nat.le_of_ble_eq_true rfl) dX2_firstReady_24 ⟨Nat.zero_le _, Nat.zero_le _⟩ (fun r_6 σ5 H locs q7 hP hS => ?_)
        obtain ⟨rfl, q7⟩ := q7
        rw [q7] at hP
        refine zg_ifeqB (tgt := 32) C dX2_firstReady_27 (by decide) (fun c_8 => ?_) (fun c_8 => ?_)
        · refine zg_iinc (k := 1) (lv' := [(1, .int (jI (i + 1))), (0, .ref (a (20 + 6 * r)))]) C dX2_firstReady_32 hl rfl (by decide) rfl (fun ls hl => ?_)
          refine zg_goto (tgt := 2) C dX2_firstReady_35 (by decide) ?_
          exact ih (i + 1) _ _ _ (by omega) (by omega) (by omega) (hE.trans (kFirst_step (by omega) (by assumption) (by grind))) hP hS (lv_sub hl [1, 0] rfl)
        · refine zg_iload_n C dX2_firstReady_30 rfl (lv_at hl 1 rfl) ?_
          refine zg_iret C hP hS dX2_firstReady_31 ?_
          exact ⟨congrArg jI (by rw [hE, kFirst_hit (by assumption) (by assumption) (by assumption) (by assumption)]), rfl⟩
set_option maxHeartbeats 4000000 in
set_option maxRecDepth 100000 in
theorem kX2_firstReady (l : Launch) {D : va_G} {a : Nat → Nat} {cI cZ cR : ClassId} (σ : Zt) (hR : rgS σ) (r : Nat) (hr : r < 6) : zc l D vwCl (tyS cI cZ cR) 56 (layS cI cZ cR a) a yX2_firstReady wsX2_firstReady ({ frames := 2, cells := 0, slots := 0, locals := 42 }) [.ref (a (20 + 6 * r))] σ (fun r_ u_ => r_ = jI (kFirst σ r (σ 1 10).toNat 0) ∧ u_ = σ) := by
  refine zc_of (cc := cX2_firstReady) (maxL := 2) (ret := some .int) (own := RX2) (by decide) rfl rfl (Nat.le_of_ble_eq_true rfl) rfl ?_
  intro p e s m below meth c A ls C X hP hS hl
  refine zg_iconst C dX2_firstReady_0 ?_
  refine zg_istore_n (lv' := [(1, .int (jI 0)), (0, .ref (a (20 + 6 * r)))]) C dX2_firstReady_1 rfl hl (by decide) rfl (fun ls hl => ?_)
  exact lpX2_firstReady_2 σ hR r hr C X 401 0 _ _ _ (by have := rgS_1_10 hR; omega) (by omega) (by omega) (by rw [Int.sub_zero]; rfl) hP hS (lv_sub hl [1, 0] rfl)
