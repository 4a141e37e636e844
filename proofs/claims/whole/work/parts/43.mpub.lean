set_option maxHeartbeats 4000000 in
set_option maxRecDepth 100000 in
theorem kX5_stream (l : Launch) {D : va_G} {a : Nat → Nat} {cI cZ : ClassId} (σ : Zt) (hR : rgM σ) (κ : Zt) (hM : RR κ σ) (hG : kMid κ) (x : Int) (v : Int) (x0 : -2147483648 ≤ x) (x1 : x < 2147483648) (v0 : -2147483648 ≤ v) (v1 : v < 2147483648) : zc l D vwCl (tyM cI cZ) 28 (layM cI cZ a) a yX5_stream wsX5_stream ({ frames := 2, cells := 0, slots := 0, locals := 45 }) [.ref (a 0), .int (jI x), .int (jI v)] σ (fun r_ u_ => r_ = jI (kStrR κ x) ∧ rgM u_ ∧ RR (kStrS κ x v) u_ ∧ kMid (kStrS κ x v)) := by
  refine zc_of (cc := cX5_stream) (maxL := 4) (ret := some .int) (own := RX5) (by decide) rfl rfl (Nat.le_of_ble_eq_true rfl) rfl ?_
  intro p e s m below meth c A ls C X hP hS hl
  have bT := rgS_1_10 hG.1
  have bP := rgS_11_4 hG.1
  have bPT := hG.e.1
  refine zg_iload_n C dX5_stream_0 rfl (lv_at hl 1 rfl) ?_
  refine zg_callS C X hP hS (kX5_isReplica l σ hR κ hM hG x (by omega) (by omega)) (cwS 1 C.ts (zgS mlX5_102 stX5_isReplica iniX5 cdX5_isReplica) rfl rfl rfl (by decide +kernel) ⟨Nat.le_of_ble_eq_true rfl, Nat.le_of_ble_eq_true rfl⟩) rfl hl.1 rfl (Nat.le_of_ble_eq_true rfl) dX5_stream_1 ⟨Nat.zero_le _, Nat.zero_le _⟩ (fun r_2 σ1 H locs q3 hP hS => ?_)
  obtain ⟨rfl, q3⟩ := q3
  rw [q3] at hP
  refine zg_ifneB (tgt := 10) C dX5_stream_4 (by decide) (fun c_4 => ?_) (fun c_4 => ?_)
  · have b_5 := kIsR_t c_4
    refine zg_aload_n C dX5_stream_10 rfl (lv_at hl 0 rfl) ?_
    refine zg_get (j := 23) C X hP (by decide) lyM_0 rfl (zmem uwX5) (by decide) (C.tb flX5_75) (fun _ h9 => h9) rfl dX5_stream_11 ?_
    refine zg_iload_n C dX5_stream_14 rfl (lv_at hl 1 rfl) ?_
    refine zg_iald (t0 := 0) C X hP (by decide) lyM_21 rfl (by decide) (by omega) (by omega) dX5_stream_15 ?_
    rw [rr_21 hM (x := x) (by omega) (by omega)]
    refine zg_istore_n (lv' := [(3, .int (jI (κ (20 + 6 * x.toNat) 3))), (0, .ref (a 0)), (1, .int (jI x)), (2, .int (jI v))]) C dX5_stream_16 rfl hl (by decide) rfl (fun ls hl => ?_)
    refine zg_aload_n C dX5_stream_17 rfl (lv_at hl 1 rfl) ?_
    refine zg_get (j := 23) C X hP (by decide) lyM_0 rfl (zmem uwX5) (by decide) (C.tb flX5_75) (fun _ h9 => h9) rfl dX5_stream_18 ?_
    refine zg_iload_n C dX5_stream_21 rfl (lv_at hl 2 rfl) ?_
    refine zg_iload_n C dX5_stream_22 rfl (lv_at hl 3 rfl) ?_
    refine zg_iast (t0 := 0) C X hP hS (by decide) (fun x => lyM_21) rfl (by decide) (by omega) (by omega) dX5_stream_23 (fun H locs hP hS => ?_)
    obtain ⟨σ6, e7⟩ : ∃ z_ : Zt, z_ = zu σ 21 (x).toNat v := ⟨_, rfl⟩
    rw [← e7] at hP
    have w_9 : σ6 21 (x).toNat = v := by rw [e7]; exact zu_same _ _ _ _
    have hR8 : rgM σ6 := by rw [e7]; exact rzM_21 hR
    obtain ⟨κ10, eκ10⟩ : ∃ z_ : Zt, z_ = zu κ (20 + 6 * x.toNat) 3 v := ⟨_, rfl⟩
    have hM11 : RR κ10 σ6 := by rw [eκ10, e7]; exact RR_21 hM (by omega)
    have hG12 : kMid κ10 := by rw [eκ10]; exact kMid_str hG (by omega)
    refine zg_iload_n C dX5_stream_24 rfl (lv_at hl 0 rfl) ?_
    refine zg_iret C hP hS dX5_stream_25 ?_
    have h9 : kStrS κ x v = κ10 := by rw [eκ10]; grind [kStrS]
    exact ⟨congrArg jI (by grind [kStrR]), hR8, (by rw [h9]; exact hM11), (by rw [h9]; exact hG12)⟩
  · have b_13 := kIsR_f c_4
    refine zg_bipush C dX5_stream_7 (by decide) ?_
    refine zg_iret C hP hS dX5_stream_9 ?_
    have h9 : kStrS κ x v = κ := by grind [kStrS]
    exact ⟨congrArg jI (by grind [kStrR]), hR, (by rw [h9]; exact hM), (by rw [h9]; exact hG)⟩
set_option maxHeartbeats 4000000 in
set_option maxRecDepth 100000 in
theorem kX5_length (l : Launch) {D : va_G} {a : Nat → Nat} {cI cZ : ClassId} (σ : Zt) (hR : rgM σ) (κ : Zt) (hM : RR κ σ) (hG : kMid κ) (x : Int) (x0 : -2147483648 ≤ x) (x1 : x < 2147483648) : zc l D vwCl (tyM cI cZ) 28 (layM cI cZ a) a yX5_length wsX5_length ({ frames := 3, cells := 0, slots := 0, locals := 68 }) [.ref (a 0), .int (jI x)] σ (fun r_ u_ => r_ = jI (kLenR κ x) ∧ u_ = σ) := by
  refine zc_of (cc := cX5_length) (maxL := 2) (ret := some .int) (own := RX5) (by decide) rfl rfl (Nat.le_of_ble_eq_true rfl) rfl ?_
  intro p e s m below meth c A ls C X hP hS hl
  have bT := rgS_1_10 hG.1
  have bP := rgS_11_4 hG.1
  have bPT := hG.e.1
  refine zg_iload_n C dX5_length_0 rfl (lv_at hl 1 rfl) ?_
  refine zg_callS C X hP hS (kX5_isReplica l σ hR κ hM hG x (by omega) (by omega)) (cwS 1 C.ts (zgS mlX5_102 stX5_isReplica iniX5 cdX5_isReplica) rfl rfl rfl (by decide +kernel) ⟨Nat.le_of_ble_eq_true rfl, Nat.le_of_ble_eq_true rfl⟩) rfl hl.1 rfl (Nat.le_of_ble_eq_true rfl) dX5_length_1 ⟨Nat.zero_le _, Nat.zero_le _⟩ (fun r_2 σ1 H locs q3 hP hS => ?_)
  obtain ⟨rfl, q3⟩ := q3
  rw [q3] at hP
  refine zg_ifeqB (tgt := 15) C dX5_length_4 (by decide) (fun c_4 => ?_) (fun c_4 => ?_)
  · have b_5 := kIsR_f c_4
    refine zg_bipush C dX5_length_15 (by decide) ?_
    refine zg_iret C hP hS dX5_length_17 ?_
    exact ⟨congrArg jI (by first | (simp [kLenR, c_4]; done) | grind [kLenR, mIn, kIsC, kHolds, kIsR]), rfl⟩
  · have b_6 := kIsR_t c_4
    refine zg_aload_n C dX5_length_7 rfl (lv_at hl 0 rfl) ?_
    refine zg_iload_n C dX5_length_8 rfl (lv_at hl 1 rfl) ?_
    refine zg_callV C X hP hS (kX5_sizeOf l σ hR κ hM hG x (by omega) (by omega)) (cwV 1 C.ts (zgV mlX5_177 imX5_sizeOf slX5_sizeOf iniX5 cdX5_sizeOf) rfl rfl rfl (by decide +kernel) ⟨Nat.le_of_ble_eq_true rfl, Nat.le_of_ble_eq_true rfl⟩) (by decide) lyM_0 rfl rfl rfl hl.1 rfl (Nat.le_of_ble_eq_true rfl) dX5_length_9 ⟨Nat.zero_le _, Nat.zero_le _⟩ (fun r_8 σ7 H locs q9 hP hS => ?_)
    obtain ⟨rfl, q9⟩ := q9
    have b_10 := kLen_rg hG.1 x.toNat
    rw [q9] at hP
    refine zg_goto (tgt := 17) C dX5_length_12 (by decide) ?_
    refine zg_iret C hP hS dX5_length_17 ?_
    exact ⟨congrArg jI (by first | (simp [kLenR, c_4]; done) | grind [kLenR, mIn, kIsC, kHolds, kIsR]), rfl⟩
set_option maxHeartbeats 4000000 in
set_option maxRecDepth 100000 in
theorem kX5_lose (l : Launch) {D : va_G} {a : Nat → Nat} {cI cZ : ClassId} (σ : Zt) (hR : rgM σ) (κ : Zt) (hM : RR κ σ) (hG : kMid κ) (i : Int) (i0 : -2147483648 ≤ i) (i1 : i < 2147483648) : zc l D vwCl (tyM cI cZ) 28 (layM cI cZ a) a yX5_lose wsX5_lose ({ frames := 1, cells := 0, slots := 0, locals := 25 }) [.ref (a 0), .int (jI i)] σ (fun r_ u_ => r_ = jI (kLosR κ i) ∧ rgM u_ ∧ RR (kLosS κ i) u_ ∧ kMid (kLosS κ i)) := by
  refine zc_of (cc := cX5_lose) (maxL := 2) (ret := some .int) (own := RX5) (by decide) rfl rfl (Nat.le_of_ble_eq_true rfl) rfl ?_
  intro p e s m below meth c A ls C X hP hS hl
  have bM := rgS_16_2 hG.1
  have bT := rgS_1_10 hG.1
  have bP := rgS_11_4 hG.1
  have bPT := hG.e.1
  refine zg_iload_n C dX5_lose_0 rfl (lv_at hl 1 rfl) ?_
  refine zg_i2l C (by omega) (by omega) dX5_lose_1 ?_
  refine zg_lconst C 0 rfl dX5_lose_2 ?_
  refine zg_aload_n C dX5_lose_3 rfl (lv_at hl 0 rfl) ?_
  refine zg_get (j := 25) C X hP (by decide) lyM_0 rfl (zmem uwX5) (by decide) (C.tb flX5_145) (fun _ h9 => h9) rfl dX5_lose_4 ?_
  rw [rr_0_25 hM]
  have b_1 := rgS_16_2 hG.1
  have b_2 := rgM_0_25 hR
  refine zg_iconst C dX5_lose_7 ?_
  refine zg_isub C dX5_lose_8 ?_
  refine zg_i2l C (by omega) (by omega) dX5_lose_9 ?_
  refine zg_callS C X hP hS (kX5_in l σ hR κ hM hG i 0 ((κ 16 2) - 1) (by omega) (by omega) (by omega) (by omega) (by omega) (by omega)) (cwS 3 C.ts (zgS mlX5_98 stX5_in iniX5 cdX5_in) rfl rfl rfl (by decide +kernel) ⟨Nat.le_of_ble_eq_true rfl, Nat.le_of_ble_eq_true rfl⟩) rfl hl.1 rfl (Nat.le_of_ble_eq_true rfl) dX5_lose_10 ⟨Nat.zero_le _, Nat.zero_le _⟩ (fun r_4 σ3 H locs q5 hP hS => ?_)
  obtain ⟨rfl, q5⟩ := q5
  rw [q5] at hP
  refine zg_ifneB (tgt := 19) C dX5_lose_13 (by decide) (fun c_6 => ?_) (fun c_6 => ?_)
  · have b_7 := mIn_t c_6
    have hH : kHolds κ i = true := (by unfold kHolds; rw [decide_eq_true (by omega), decide_eq_true (by omega)]; rfl)
    have h25 := rr_0_25 hM
    have bH := hG.h i.toNat (by omega)
    refine zg_aload_n C dX5_lose_19 rfl (lv_at hl 0 rfl) ?_
    refine zg_iload_n C dX5_lose_20 rfl (lv_at hl 1 rfl) ?_
    refine zg_callVv C X hP hS (kX5_drop l σ hR i (by omega) (by rw [rr_0_25 hM]; omega)) (cwV 1 C.ts (zgV mlX5_192 imX5_drop slX5_drop iniX5 cdX5_drop) rfl rfl rfl (by decide +kernel) ⟨Nat.le_of_ble_eq_true rfl, Nat.le_of_ble_eq_true rfl⟩) (by decide) lyM_0 rfl rfl rfl hl.1 rfl (Nat.le_of_ble_eq_true rfl) dX5_lose_21 ⟨Nat.zero_le _, Nat.zero_le _⟩ (fun σ8 H locs q10 hP hS => ?_)
    have hR11 : rgM σ8 := by rw [q10]; exact mDropS_rg hR (by omega) (by omega)
    obtain ⟨κ12, eκ12⟩ : ∃ z_ : Zt, z_ = kDropS κ i := ⟨_, rfl⟩
    have hM13 : RR κ12 σ8 := by rw [eκ12, q10]; exact RR_drop hM
    have hG14 : kMid κ12 := by rw [eκ12]; exact kMid_drop hG (by assumption)
    refine zg_aload_n C dX5_lose_24 rfl (lv_at hl 0 rfl) ?_
    refine zg_get (j := 25) C X hP (by decide) lyM_0 rfl (zmem uwX5) (by decide) (C.tb flX5_145) (fun _ h9 => h9) rfl dX5_lose_25 ?_
    rw [rr_0_25 hM13]
    have b_15 := rgS_16_2 hG14.1
    have b_16 := rgM_0_25 hR11
    refine zg_iret C hP hS dX5_lose_28 ?_
    have h9 : kLosS κ i = κ12 := by rw [eκ12]; unfold kLosS; rw [if_pos hH]
    exact ⟨congrArg jI (by rw [eκ12, kDropS_16]; unfold kLosR; rw [if_pos hH]), hR11, (by rw [h9]; exact hM13), (by rw [h9]; exact hG14)⟩
  · have b_17 := mIn_f c_6
    refine zg_bipush C dX5_lose_16 (by decide) ?_
    refine zg_iret C hP hS dX5_lose_18 ?_
    have h9 : kLosS κ i = κ := by unfold kLosS; rw [if_neg (show ¬ kHolds κ i = true by unfold kHolds; grind)]
    exact ⟨congrArg jI (by unfold kLosR; rw [if_neg (show ¬ kHolds κ i = true by unfold kHolds; grind)]), hR, (by rw [h9]; exact hM), (by rw [h9]; exact hG)⟩
set_option maxHeartbeats 4000000 in
set_option maxRecDepth 100000 in
theorem kX5_repeat (l : Launch) {D : va_G} {a : Nat → Nat} {cI cZ : ClassId} (σ : Zt) (hR : rgM σ) (κ : Zt) (hM : RR κ σ) (hG : kMid κ) (i : Int) (i0 : -2147483648 ≤ i) (i1 : i < 2147483648) : zc l D vwCl (tyM cI cZ) 28 (layM cI cZ a) a yX5_repeat wsX5_repeat ({ frames := 1, cells := 0, slots := 0, locals := 25 }) [.ref (a 0), .int (jI i)] σ (fun r_ u_ => r_ = jI (kRepR κ i) ∧ rgM u_ ∧ RR (kRepS κ i) u_ ∧ kMid (kRepS κ i)) := by
  refine zc_of (cc := cX5_repeat) (maxL := 2) (ret := some .int) (own := RX5) (by decide) rfl rfl (Nat.le_of_ble_eq_true rfl) rfl ?_
  intro p e s m below meth c A ls C X hP hS hl
  have bM := rgS_16_2 hG.1
  have bT := rgS_1_10 hG.1
  have bP := rgS_11_4 hG.1
  have bPT := hG.e.1
  refine zg_iload_n C dX5_repeat_0 rfl (lv_at hl 1 rfl) ?_
  refine zg_i2l C (by omega) (by omega) dX5_repeat_1 ?_
  refine zg_lconst C 0 rfl dX5_repeat_2 ?_
  refine zg_aload_n C dX5_repeat_3 rfl (lv_at hl 0 rfl) ?_
  refine zg_get (j := 25) C X hP (by decide) lyM_0 rfl (zmem uwX5) (by decide) (C.tb flX5_145) (fun _ h9 => h9) rfl dX5_repeat_4 ?_
  rw [rr_0_25 hM]
  have b_1 := rgS_16_2 hG.1
  have b_2 := rgM_0_25 hR
  refine zg_iconst C dX5_repeat_7 ?_
  refine zg_isub C dX5_repeat_8 ?_
  refine zg_i2l C (by omega) (by omega) dX5_repeat_9 ?_
  refine zg_callS C X hP hS (kX5_in l σ hR κ hM hG i 0 ((κ 16 2) - 1) (by omega) (by omega) (by omega) (by omega) (by omega) (by omega)) (cwS 3 C.ts (zgS mlX5_98 stX5_in iniX5 cdX5_in) rfl rfl rfl (by decide +kernel) ⟨Nat.le_of_ble_eq_true rfl, Nat.le_of_ble_eq_true rfl⟩) rfl hl.1 rfl (Nat.le_of_ble_eq_true rfl) dX5_repeat_10 ⟨Nat.zero_le _, Nat.zero_le _⟩ (fun r_4 σ3 H locs q5 hP hS => ?_)
  obtain ⟨rfl, q5⟩ := q5
  rw [q5] at hP
  refine zg_ifneB (tgt := 19) C dX5_repeat_13 (by decide) (fun c_6 => ?_) (fun c_6 => ?_)
  · have b_7 := mIn_t c_6
    have hH : kHolds κ i = true := (by unfold kHolds; rw [decide_eq_true (by omega), decide_eq_true (by omega)]; rfl)
    have h25 := rr_0_25 hM
    have bH := hG.h i.toNat (by omega)
    refine zg_aload_n C dX5_repeat_19 rfl (lv_at hl 0 rfl) ?_
    refine zg_get (j := 25) C X hP (by decide) lyM_0 rfl (zmem uwX5) (by decide) (C.tb flX5_145) (fun _ h9 => h9) rfl dX5_repeat_20 ?_
    rw [rr_0_25 hM]
    have b_8 := rgS_16_2 hG.1
    have b_9 := rgM_0_25 hR
    refine zg_sipush C dX5_repeat_23 (by decide) ?_
    refine zg_icmp_ne (tgt := 32) C (by omega) (by omega) (by omega) (by omega) dX5_repeat_26 (by decide) (fun c_10 => ?_) (fun c_10 => ?_)
    · refine zg_aload_n C dX5_repeat_32 rfl (lv_at hl 0 rfl) ?_
      refine zg_aload_n C dX5_repeat_33 rfl (lv_at hl 0 rfl) ?_
      refine zg_get (j := 26) C X hP (by decide) lyM_0 rfl (zmem uwX5) (by decide) (C.tb flX5_81) (fun _ h9 => h9) rfl dX5_repeat_34 ?_
      refine zg_iload_n C dX5_repeat_37 rfl (lv_at hl 1 rfl) ?_
      refine zg_iald (t0 := 0) C X hP (by decide) lyM_23 rfl (by decide) (by omega) (by omega) dX5_repeat_38 ?_
      rw [rr_23 hM]
      have b_11 := rgS_17 hG.1 (i).toNat
      have b_12 := rgM_23 hR ((i).toNat)
      refine zg_aload_n C dX5_repeat_39 rfl (lv_at hl 0 rfl) ?_
      refine zg_get (j := 27) C X hP (by decide) lyM_0 rfl (zmem uwX5) (by decide) (C.tb flX5_84) (fun _ h9 => h9) rfl dX5_repeat_40 ?_
      refine zg_iload_n C dX5_repeat_43 rfl (lv_at hl 1 rfl) ?_
      refine zg_iald (t0 := 0) C X hP (by decide) lyM_24 rfl (by decide) (by omega) (by omega) dX5_repeat_44 ?_
      rw [rr_24 hM]
      have b_13 := rgS_18 hG.1 (i).toNat
      have b_14 := rgM_24 hR ((i).toNat)
      refine zg_callVv C X hP hS (kX5_send l σ hR (κ 17 (i).toNat) (κ 18 (i).toNat) (by omega) (by omega) (by omega) (by omega)) (cwV 2 C.ts (zgV mlX5_159 imX5_send slX5_send iniX5 cdX5_send) rfl rfl rfl (by decide +kernel) ⟨Nat.le_of_ble_eq_true rfl, Nat.le_of_ble_eq_true rfl⟩) (by decide) lyM_0 rfl rfl rfl hl.1 rfl (Nat.le_of_ble_eq_true rfl) dX5_repeat_45 ⟨Nat.zero_le _, Nat.zero_le _⟩ (fun σ15 H locs q17 hP hS => ?_)
      have hR18 : rgM σ15 := by rw [q17]; exact mSend_rg hR (by omega) (by omega) (by omega) (by omega)
      obtain ⟨κ19, eκ19⟩ : ∃ z_ : Zt, z_ = kSend κ (κ 17 i.toNat) (κ 18 i.toNat) := ⟨_, rfl⟩
      have hM20 : RR κ19 σ15 := by rw [eκ19, q17]; exact RR_send hM hG.1
      have hG21 : kMid κ19 := by rw [eκ19]; exact kMid_send hG (by omega) (by omega) (by omega) (by omega)
      refine zg_aload_n C dX5_repeat_48 rfl (lv_at hl 0 rfl) ?_
      refine zg_get (j := 25) C X hP (by decide) lyM_0 rfl (zmem uwX5) (by decide) (C.tb flX5_145) (fun _ h9 => h9) rfl dX5_repeat_49 ?_
      rw [rr_0_25 hM20]
      have b_22 := rgS_16_2 hG21.1
      have b_23 := rgM_0_25 hR18
      refine zg_iret C hP hS dX5_repeat_52 ?_
      have h9 : kRepS κ i = κ19 := by rw [eκ19]; unfold kRepS; rw [if_pos hH, if_neg (show ¬ kWayF κ = true by unfold kWayF; grind)]
      exact ⟨congrArg jI (by rw [eκ19, kSend_16 (by omega)]; unfold kRepR; rw [if_pos hH, if_neg (show ¬ kWayF κ = true by unfold kWayF; grind)]), hR18, (by rw [h9]; exact hM20), (by rw [h9]; exact hG21)⟩
    · refine zg_bipush C dX5_repeat_29 (by decide) ?_
      refine zg_iret C hP hS dX5_repeat_31 ?_
      have h9 : kRepS κ i = κ := by unfold kRepS; rw [if_pos hH, if_pos (show kWayF κ = true by unfold kWayF; grind)]
      exact ⟨congrArg jI (by unfold kRepR; rw [if_pos hH, if_pos (show kWayF κ = true by unfold kWayF; grind)]), hR, (by rw [h9]; exact hM), (by rw [h9]; exact hG)⟩
  · have b_24 := mIn_f c_6
    refine zg_bipush C dX5_repeat_16 (by decide) ?_
    refine zg_iret C hP hS dX5_repeat_18 ?_
    have h9 : kRepS κ i = κ := by unfold kRepS; rw [if_neg (show ¬ kHolds κ i = true by unfold kHolds; grind)]
    exact ⟨congrArg jI (by unfold kRepR; rw [if_neg (show ¬ kHolds κ i = true by unfold kHolds; grind)]), hR, (by rw [h9]; exact hM), (by rw [h9]; exact hG)⟩
set_option maxHeartbeats 4000000 in
set_option maxRecDepth 100000 in
theorem kX5_deliver (l : Launch) {D : va_G} {a : Nat → Nat} {cI cZ : ClassId} (σ : Zt) (hR : rgM σ) (κ : Zt) (hM : RR κ σ) (hG : kMid κ) (i : Int) (i0 : -2147483648 ≤ i) (i1 : i < 2147483648) : zc l D vwCl (tyM cI cZ) 28 (layM cI cZ a) a yX5_deliver wsX5_deliver ({ frames := 3, cells := 0, slots := 0, locals := 70 }) [.ref (a 0), .int (jI i)] σ (fun r_ u_ => r_ = jI (kDelR κ i) ∧ rgM u_ ∧ RR (kDelS κ i) u_ ∧ kMid (kDelS κ i)) := by
  refine zc_of (cc := cX5_deliver) (maxL := 6) (ret := some .int) (own := RX5) (by decide) rfl rfl (Nat.le_of_ble_eq_true rfl) rfl ?_
  intro p e s m below meth c A ls C X hP hS hl
  have bM := rgS_16_2 hG.1
  have bT := rgS_1_10 hG.1
  have bP := rgS_11_4 hG.1
  have bPT := hG.e.1
  refine zg_iload_n C dX5_deliver_0 rfl (lv_at hl 1 rfl) ?_
  refine zg_i2l C (by omega) (by omega) dX5_deliver_1 ?_
  refine zg_lconst C 0 rfl dX5_deliver_2 ?_
  refine zg_aload_n C dX5_deliver_3 rfl (lv_at hl 0 rfl) ?_
  refine zg_get (j := 25) C X hP (by decide) lyM_0 rfl (zmem uwX5) (by decide) (C.tb flX5_145) (fun _ h9 => h9) rfl dX5_deliver_4 ?_
  rw [rr_0_25 hM]
  have b_1 := rgS_16_2 hG.1
  have b_2 := rgM_0_25 hR
  refine zg_iconst C dX5_deliver_7 ?_
  refine zg_isub C dX5_deliver_8 ?_
  refine zg_i2l C (by omega) (by omega) dX5_deliver_9 ?_
  refine zg_callS C X hP hS (kX5_in l σ hR κ hM hG i 0 ((κ 16 2) - 1) (by omega) (by omega) (by omega) (by omega) (by omega) (by omega)) (cwS 3 C.ts (zgS mlX5_98 stX5_in iniX5 cdX5_in) rfl rfl rfl (by decide +kernel) ⟨Nat.le_of_ble_eq_true rfl, Nat.le_of_ble_eq_true rfl⟩) rfl hl.1 rfl (Nat.le_of_ble_eq_true rfl) dX5_deliver_10 ⟨Nat.zero_le _, Nat.zero_le _⟩ (fun r_4 σ3 H locs q5 hP hS => ?_)
  obtain ⟨rfl, q5⟩ := q5
  rw [q5] at hP
  refine zg_ifneB (tgt := 19) C dX5_deliver_13 (by decide) (fun c_6 => ?_) (fun c_6 => ?_)
  · have b_7 := mIn_t c_6
    have hH : kHolds κ i = true := (by unfold kHolds; rw [decide_eq_true (by omega), decide_eq_true (by omega)]; rfl)
    have h25 := rr_0_25 hM
    have bH := hG.h i.toNat (by omega)
    refine zg_aload_n C dX5_deliver_19 rfl (lv_at hl 0 rfl) ?_
    refine zg_get (j := 26) C X hP (by decide) lyM_0 rfl (zmem uwX5) (by decide) (C.tb flX5_81) (fun _ h9 => h9) rfl dX5_deliver_20 ?_
    refine zg_iload_n C dX5_deliver_23 rfl (lv_at hl 1 rfl) ?_
    refine zg_iald (t0 := 0) C X hP (by decide) lyM_23 rfl (by decide) (by omega) (by omega) dX5_deliver_24 ?_
    rw [rr_23 hM]
    have b_8 := rgS_17 hG.1 (i).toNat
    have b_9 := rgM_23 hR ((i).toNat)
    refine zg_istore_n (lv' := [(2, .int (jI (κ 17 (i).toNat))), (0, .ref (a 0)), (1, .int (jI i))]) C dX5_deliver_25 rfl hl (by decide) rfl (fun ls hl => ?_)
    refine zg_aload_n C dX5_deliver_26 rfl (lv_at hl 1 rfl) ?_
    refine zg_get (j := 27) C X hP (by decide) lyM_0 rfl (zmem uwX5) (by decide) (C.tb flX5_84) (fun _ h9 => h9) rfl dX5_deliver_27 ?_
    refine zg_iload_n C dX5_deliver_30 rfl (lv_at hl 2 rfl) ?_
    refine zg_iald (t0 := 0) C X hP (by decide) lyM_24 rfl (by decide) (by omega) (by omega) dX5_deliver_31 ?_
    rw [rr_24 hM]
    have b_10 := rgS_18 hG.1 (i).toNat
    have b_11 := rgM_24 hR ((i).toNat)
    refine zg_istore_n (lv' := [(3, .int (jI (κ 18 (i).toNat))), (2, .int (jI (κ 17 (i).toNat))), (0, .ref (a 0)), (1, .int (jI i))]) C dX5_deliver_32 rfl hl (by decide) rfl (fun ls hl => ?_)
    refine zg_aload_n C dX5_deliver_33 rfl (lv_at hl 2 rfl) ?_
    refine zg_iload_n C dX5_deliver_34 rfl (lv_at hl 3 rfl) ?_
    refine zg_callVv C X hP hS (kX5_drop l σ hR i (by omega) (by rw [rr_0_25 hM]; omega)) (cwV 1 C.ts (zgV mlX5_192 imX5_drop slX5_drop iniX5 cdX5_drop) rfl rfl rfl (by decide +kernel) ⟨Nat.le_of_ble_eq_true rfl, Nat.le_of_ble_eq_true rfl⟩) (by decide) lyM_0 rfl rfl rfl hl.1 rfl (Nat.le_of_ble_eq_true rfl) dX5_deliver_35 ⟨Nat.zero_le _, Nat.zero_le _⟩ (fun σ12 H locs q14 hP hS => ?_)
    have hR15 : rgM σ12 := by rw [q14]; exact mDropS_rg hR (by omega) (by omega)
    obtain ⟨κ16, eκ16⟩ : ∃ z_ : Zt, z_ = kDropS κ i := ⟨_, rfl⟩
    have hM17 : RR κ16 σ12 := by rw [eκ16, q14]; exact RR_drop hM
    have hG18 : kMid κ16 := by rw [eκ16]; exact kMid_drop hG (by assumption)
    have b_t : κ16 1 10 = κ 1 10 := by rw [eκ16, kDropS_fr (by omega) (by omega) (by omega)]
    refine zg_aload_n C dX5_deliver_38 rfl (lv_at hl 2 rfl) ?_
    refine zg_iload_n C dX5_deliver_39 rfl (lv_at hl 0 rfl) ?_
    refine zg_iload_n C dX5_deliver_40 rfl (lv_at hl 1 rfl) ?_
    refine zg_callV C X hP hS (kX5_comes l σ12 hR15 κ16 hM17 hG18 (κ 18 (i).toNat) (κ 17 (i).toNat) (by omega) (by omega) (by omega) (by omega)) (cwV 2 C.ts (zgV mlX5_195 imX5_comes slX5_comes iniX5 cdX5_comes) rfl rfl rfl (by decide +kernel) ⟨Nat.le_of_ble_eq_true rfl, Nat.le_of_ble_eq_true rfl⟩) (by decide) lyM_0 rfl rfl rfl hl.1 rfl (Nat.le_of_ble_eq_true rfl) dX5_deliver_41 ⟨Nat.zero_le _, Nat.zero_le _⟩ (fun r_20 σ19 H locs q21 hP hS => ?_)
    obtain ⟨rfl, q21⟩ := q21
    have b_22 := kRecR_rg κ16 (κ 18 (i).toNat).toNat (κ 17 (i).toNat)
    obtain ⟨κ26, eκ26⟩ : ∃ z_ : Zt, z_ = kComS κ16 (κ 18 (i).toNat).toNat (κ 17 (i).toNat) := ⟨_, rfl⟩
    rw [← eκ26] at q21
    obtain ⟨hR23, hM24, hG25⟩ := q21
    have b_27 : κ26 1 10 = κ16 1 10 := by rw [eκ26, kComS_fr (by omega)]
    have b_28 : kAll κ26 (κ 18 (i).toNat).toNat = kAll κ16 (κ 18 (i).toNat).toNat + (if kRecR κ16 (κ 18 (i).toNat).toNat (κ 17 (i).toNat) = 1 then 1 else 0) := by rw [eκ26]; exact kAll_rec hG18.1
    refine zg_istore (lv' := [(4, .int (jI (kRecR κ16 (κ 18 (i).toNat).toNat (κ 17 (i).toNat)))), (3, .int (jI (κ 18 (i).toNat))), (2, .int (jI (κ 17 (i).toNat))), (0, .ref (a 0)), (1, .int (jI i))]) C dX5_deliver_44 hl (by decide) rfl (fun ls hl => ?_)
    refine zg_iload C dX5_deliver_46 (lv_at hl 0 rfl) ?_
    refine zg_iconst C dX5_deliver_48 ?_
    refine zg_icmp_ne (tgt := 60) C (by omega) (by omega) (by omega) (by omega) dX5_deliver_49 (by decide) (fun c_29 => ?_) (fun c_29 => ?_)
    · refine zg_iconst C dX5_deliver_60 ?_
      refine zg_istore (lv' := [(5, .int (jI 0)), (4, .int (jI (kRecR κ16 (κ 18 (i).toNat).toNat (κ 17 (i).toNat)))), (3, .int (jI (κ 18 (i).toNat))), (2, .int (jI (κ 17 (i).toNat))), (0, .ref (a 0)), (1, .int (jI i))]) C dX5_deliver_61 hl (by decide) rfl (fun ls hl => ?_)
      refine zg_iload C dX5_deliver_63 (lv_at hl 1 rfl) ?_
      refine zg_iret C hP hS dX5_deliver_65 ?_
      have h9 : kDelS κ i = κ26 := by subst eκ16 eκ26; unfold kDelS; rw [if_pos hH, kRecS_com]; first | rw [if_pos (by assumption)] | rw [if_neg (by assumption)]
      exact ⟨congrArg jI (by subst eκ16 eκ26; unfold kDelR; rw [if_pos hH]), hR23, (by rw [h9]; exact hM24), (by rw [h9]; exact hG25)⟩
    · refine zg_aload_n C dX5_deliver_52 rfl (lv_at hl 3 rfl) ?_
      refine zg_iload_n C dX5_deliver_53 rfl (lv_at hl 1 rfl) ?_
      refine zg_callV C X hP hS (kX5_goOn l σ19 hR23 κ26 hM24 hG25 (κ 18 (i).toNat) (by omega) (by omega)) (cwV 1 C.ts (zgV mlX5_155 imX5_goOn slX5_goOn iniX5 cdX5_goOn) rfl rfl rfl (by decide +kernel) ⟨Nat.le_of_ble_eq_true rfl, Nat.le_of_ble_eq_true rfl⟩) (by decide) lyM_0 rfl rfl rfl hl.1 rfl (Nat.le_of_ble_eq_true rfl) dX5_deliver_54 ⟨Nat.zero_le _, Nat.zero_le _⟩ (fun r_31 σ30 H locs q32 hP hS => ?_)
      obtain ⟨rfl, q32⟩ := q32
      have b_33 := kAll_rg (kMid_waited hG25 (r := (κ 18 (i).toNat).toNat) (by omega)).1 (r := (κ 18 (i).toNat).toNat) (by omega)
      have b_34 := kAll_rg hG25.1 (r := (κ 18 (i).toNat).toNat) (by omega)
      obtain ⟨κ38, eκ38⟩ : ∃ z_ : Zt, z_ = kWaited (κ 18 (i).toNat).toNat 400 κ26 := ⟨_, rfl⟩
      rw [← eκ38] at q32
      obtain ⟨hR35, hM36, hG37⟩ := q32
      have b_39 : κ38 1 10 = κ26 1 10 := by rw [eκ38, kWaited_fr (by omega)]
      have b_40 : kAll κ38 (κ 18 (i).toNat).toNat = kAll (kWaited (κ 18 (i).toNat).toNat 400 κ26) (κ 18 (i).toNat).toNat := by rw [eκ38]
      refine zg_goto (tgt := 61) C dX5_deliver_57 (by decide) ?_
      refine zg_istore (lv' := [(5, .int (jI (kAll (kWaited (κ 18 (i).toNat).toNat 400 κ26) (κ 18 (i).toNat).toNat - kAll κ26 (κ 18 (i).toNat).toNat))), (4, .int (jI (kRecR κ16 (κ 18 (i).toNat).toNat (κ 17 (i).toNat)))), (3, .int (jI (κ 18 (i).toNat))), (2, .int (jI (κ 17 (i).toNat))), (0, .ref (a 0)), (1, .int (jI i))]) C dX5_deliver_61 hl (by decide) rfl (fun ls hl => ?_)
      refine zg_iload C dX5_deliver_63 (lv_at hl 1 rfl) ?_
      refine zg_iret C hP hS dX5_deliver_65 ?_
      have h9 : kDelS κ i = κ38 := by subst eκ16 eκ26 eκ38; unfold kDelS; rw [if_pos hH, kRecS_com]; first | rw [if_pos (by assumption)] | rw [if_neg (by assumption)]
      exact ⟨congrArg jI (by subst eκ16 eκ26 eκ38; unfold kDelR; rw [if_pos hH]), hR35, (by rw [h9]; exact hM36), (by rw [h9]; exact hG37)⟩
  · have b_41 := mIn_f c_6
    refine zg_bipush C dX5_deliver_16 (by decide) ?_
    refine zg_iret C hP hS dX5_deliver_18 ?_
    have h9 : kDelS κ i = κ := by unfold kDelS; rw [if_neg (show ¬ kHolds κ i = true by unfold kHolds; grind)]
    exact ⟨congrArg jI (by unfold kDelR; rw [if_neg (show ¬ kHolds κ i = true by unfold kHolds; grind)]), hR, (by rw [h9]; exact hM), (by rw [h9]; exact hG)⟩
set_option maxHeartbeats 4000000 in
set_option maxRecDepth 100000 in
theorem lpX5_sync_22 {l : Launch} {D : va_G} {a : Nat → Nat} {cI cZ : ClassId} {p : Program} {e : Env} {s : State} {m : MethodId} {below : List Frame} {meth : Method} {c : Code} {A : Nat → Prop} (σ : Zt) (hR : rgM σ) (κ : Zt) (hM : RR κ σ) (hG : kMid κ) (x : Int) (y : Int) (x0 : -2147483648 ≤ x) (x1 : x < 2147483648) (y0 : -2147483648 ≤ y) (y1 : y < 2147483648) (xR : kIsR x = true) (yR : kIsR y = true) (C : zk p s m ([.ref (a 0), .int (jI x), .int (jI y)] : List Value).toArray meth c cX5_sync 5 (some .int) wsX5_sync RX5) (X : zx D vwCl (tyM cI cZ) A a 28 s) :
    ∀ (n : Nat) (nn d : Int) (τ : Zt) (κ2 : Zt) (H : Heap) (locs : List Loc) (ls : Array Slot), ((401 - d).toNat < n) → (rgM τ) → (RR κ2 τ) → (kMid κ2) → (0 ≤ d) → (d ≤ κ 1 10) → (κ2 1 10 = κ 1 10) → (kSyn x.toNat y.toNat (κ 1 10).toNat 0 κ = kSyn x.toNat y.toNat (κ 1 10 - d).toNat d κ2) → (nn = kAll κ2 x.toNat - kAll κ x.toNat) → va_P D vwCl (zw 28 (layM cI cZ a) a τ) H → va_S A s.heap H locs → lv_has ls 5 [(0, .ref (a 0)), (1, .int (jI x)), (2, .int (jI y)), (3, .int (jI nn)), (4, .int (jI d))] →
      W p l e ({ frames := 3, cells := 0, slots := 0, locals := 70 }) s m ([.ref (a 0), .int (jI x), .int (jI y)] : List Value).toArray below meth c H locs 0 0 (MQ below (va_Qi (fun r_ u_ => r_ = jI (kSynR κ x y) ∧ rgM u_ ∧ RR (kSynS κ x y) u_ ∧ kMid (kSynS κ x y)) (fun (u : Zt) t => va_P D vwCl (zw 28 (layM cI cZ a) a u) t.heap) A) ([.ref (a 0), .int (jI x), .int (jI y)] : List Value).toArray s 0 0 A) (F0 m 22 ls []) := by
  intro n
  induction n with
  | zero =>
    intro nn d τ κ2 H locs ls hn hτ hM2 hG2 d0 d1 hT hE hA hP hS hl
    exact absurd hn (by omega)
  | succ n ih =>
    intro nn d τ κ2 H locs ls hn hτ hM2 hG2 d0 d1 hT hE hA hP hS hl
    have bT := rgS_1_10 hG2.1
    have bx := kIsR_t xR
    have by_ := kIsR_t yR
    refine zg_iload C dX5_sync_22 (lv_at hl 4 rfl) ?_
    refine zg_aload_n C dX5_sync_24 rfl (lv_at hl 0 rfl) ?_
    refine zg_get (j := 1) C X hP (by decide) lyM_0 rfl (zmem uwX5) (by decide) (C.tb flX5_135) (fun _ h9 => h9) rfl dX5_sync_25 ?_
    rw [rr_0_1 hM2]
    have b_1 := rgS_1_10 hG2.1
    have b_2 := rgM_0_1 hτ
    refine zg_icmp_ge (tgt := 68) C (by omega) (by omega) (by omega) (by omega) dX5_sync_28 (by decide) (fun c_3 => ?_) (fun c_3 => ?_)
    · refine zg_iload_n C dX5_sync_68 rfl (lv_at hl 3 rfl) ?_
      refine zg_iret C hP hS dX5_sync_69 ?_
      have h8 := hE.trans (kSyn_end (by omega))
      have h9 : kSynS κ x y = κ2 := by unfold kSynS; rw [if_pos (by assumption), if_pos (by assumption), kSynT, h8]
      exact ⟨congrArg jI (by unfold kSynR; rw [if_pos (by assumption), if_pos (by assumption), kSynT, h8, hA]), hτ, (by rw [h9]; exact hM2), (by rw [h9]; exact hG2)⟩
    · refine zg_aload_n C dX5_sync_31 rfl (lv_at hl 0 rfl) ?_
      refine zg_iload_n C dX5_sync_32 rfl (lv_at hl 2 rfl) ?_
      refine zg_iload C dX5_sync_33 (lv_at hl 4 rfl) ?_
      refine zg_callV C X hP hS (kX5_has l τ hτ κ2 hM2 hG2 y d (by omega) (by omega) (by omega) (by omega)) (cwV 2 C.ts (zgV mlX5_106 imX5_has slX5_has iniX5 cdX5_has) rfl rfl rfl (by decide +kernel) ⟨Nat.le_of_ble_eq_true rfl, Nat.le_of_ble_eq_true rfl⟩) (by decide) lyM_0 rfl rfl rfl hl.1 rfl (Nat.le_of_ble_eq_true rfl) dX5_sync_35 ⟨Nat.zero_le _, Nat.zero_le _⟩ (fun r_5 σ4 H locs q6 hP hS => ?_)
      obtain ⟨rfl, q6⟩ := q6
      rw [q6] at hP
      refine zg_ifeqB (tgt := 62) C dX5_sync_38 (by decide) (fun c_7 => ?_) (fun c_7 => ?_)
      · refine zg_iinc (k := 4) (lv' := [(4, .int (jI (d + 1))), (0, .ref (a 0)), (1, .int (jI x)), (2, .int (jI y)), (3, .int (jI nn))]) C dX5_sync_62 hl rfl (by decide) rfl (fun ls hl => ?_)
        refine zg_goto (tgt := 22) C dX5_sync_65 (by decide) ?_
        exact ih nn (d + 1) τ κ2 _ _ _ (by omega) hτ hM2 hG2 (by omega) (by omega) (by omega) (by first | exact hE.trans (kSyn_skip (by omega) (by assumption)) | (rw [hE, kSyn_go (by omega) (by assumption), kRecS_com]; first | rw [if_pos (by assumption)] | rw [if_neg (by assumption)])) (by first | omega | (have h5 := if_pos (t := (1 : Int)) (e := 0) (show kRecR κ2 x.toNat d = 1 by assumption); omega) | (have h5 := if_neg (t := (1 : Int)) (e := 0) (show ¬ kRecR κ2 x.toNat d = 1 by assumption); omega)) hP hS (lv_sub hl [1, 2, 3, 4, 0] rfl)
      · refine zg_aload_n C dX5_sync_41 rfl (lv_at hl 0 rfl) ?_
        refine zg_iload_n C dX5_sync_42 rfl (lv_at hl 1 rfl) ?_
        refine zg_iload C dX5_sync_43 (lv_at hl 4 rfl) ?_
        refine zg_callV C X hP hS (kX5_comes l τ hτ κ2 hM2 hG2 x d (by omega) (by omega) (by omega) (by omega)) (cwV 2 C.ts (zgV mlX5_195 imX5_comes slX5_comes iniX5 cdX5_comes) rfl rfl rfl (by decide +kernel) ⟨Nat.le_of_ble_eq_true rfl, Nat.le_of_ble_eq_true rfl⟩) (by decide) lyM_0 rfl rfl rfl hl.1 rfl (Nat.le_of_ble_eq_true rfl) dX5_sync_45 ⟨Nat.zero_le _, Nat.zero_le _⟩ (fun r_9 σ8 H locs q10 hP hS => ?_)
        obtain ⟨rfl, q10⟩ := q10
        have b_11 := kRecR_rg κ2 x.toNat d
        obtain ⟨κ15, eκ15⟩ : ∃ z_ : Zt, z_ = kComS κ2 x.toNat d := ⟨_, rfl⟩
        rw [← eκ15] at q10
        obtain ⟨hR12, hM13, hG14⟩ := q10
        have b_16 : κ15 1 10 = κ2 1 10 := by rw [eκ15, kComS_fr (by omega)]
        have b_17 : kAll κ15 x.toNat = kAll κ2 x.toNat + (if kRecR κ2 x.toNat d = 1 then 1 else 0) := by rw [eκ15]; exact kAll_rec hG2.1
        refine zg_iconst C dX5_sync_48 ?_
        refine zg_icmp_ne (tgt := 62) C (by omega) (by omega) (by omega) (by omega) dX5_sync_49 (by decide) (fun c_18 => ?_) (fun c_18 => ?_)
        · refine zg_iinc (k := 4) (lv' := [(4, .int (jI (d + 1))), (0, .ref (a 0)), (1, .int (jI x)), (2, .int (jI y)), (3, .int (jI nn))]) C dX5_sync_62 hl rfl (by decide) rfl (fun ls hl => ?_)
          refine zg_goto (tgt := 22) C dX5_sync_65 (by decide) ?_
          exact ih nn (d + 1) σ8 κ15 _ _ _ (by omega) hR12 hM13 hG14 (by omega) (by omega) (by omega) (by first | exact hE.trans (kSyn_skip (by omega) (by assumption)) | (rw [eκ15, hE, kSyn_go (by omega) (by assumption), kRecS_com]; first | rw [if_pos (by assumption)] | rw [if_neg (by assumption)])) (by first | omega | (have h5 := if_pos (t := (1 : Int)) (e := 0) (show kRecR κ2 x.toNat d = 1 by assumption); omega) | (have h5 := if_neg (t := (1 : Int)) (e := 0) (show ¬ kRecR κ2 x.toNat d = 1 by assumption); omega)) hP hS (lv_sub hl [1, 2, 3, 4, 0] rfl)
        · refine zg_iload_n C dX5_sync_52 rfl (lv_at hl 3 rfl) ?_
          refine zg_iconst C dX5_sync_53 ?_
          refine zg_aload_n C dX5_sync_54 rfl (lv_at hl 0 rfl) ?_
          refine zg_iload_n C dX5_sync_55 rfl (lv_at hl 1 rfl) ?_
          refine zg_callV C X hP hS (kX5_goOn l σ8 hR12 κ15 hM13 hG14 x (by omega) (by omega)) (cwV 1 C.ts (zgV mlX5_155 imX5_goOn slX5_goOn iniX5 cdX5_goOn) rfl rfl rfl (by decide +kernel) ⟨Nat.le_of_ble_eq_true rfl, Nat.le_of_ble_eq_true rfl⟩) (by decide) lyM_0 rfl rfl rfl hl.1 rfl (Nat.le_of_ble_eq_true rfl) dX5_sync_56 ⟨Nat.zero_le _, Nat.zero_le _⟩ (fun r_20 σ19 H locs q21 hP hS => ?_)
          obtain ⟨rfl, q21⟩ := q21
          have b_22 := kAll_rg (kMid_waited hG14 (r := x.toNat) (by omega)).1 (r := x.toNat) (by omega)
          have b_23 := kAll_rg hG14.1 (r := x.toNat) (by omega)
          obtain ⟨κ27, eκ27⟩ : ∃ z_ : Zt, z_ = kWaited x.toNat 400 κ15 := ⟨_, rfl⟩
          rw [← eκ27] at q21
          obtain ⟨hR24, hM25, hG26⟩ := q21
          have b_28 : κ27 1 10 = κ15 1 10 := by rw [eκ27, kWaited_fr (by omega)]
          have b_29 : kAll κ27 x.toNat = kAll (kWaited x.toNat 400 κ15) x.toNat := by rw [eκ27]
          refine zg_iadd C dX5_sync_59 ?_
          refine zg_iadd C dX5_sync_60 ?_
          refine zg_istore_n (lv' := [(3, .int (jI (nn + (1 + (kAll (kWaited x.toNat 400 κ15) x.toNat - kAll κ15 x.toNat))))), (0, .ref (a 0)), (1, .int (jI x)), (2, .int (jI y)), (4, .int (jI d))]) C dX5_sync_61 rfl hl (by decide) rfl (fun ls hl => ?_)
          refine zg_iinc (k := 4) (lv' := [(4, .int (jI (d + 1))), (3, .int (jI (nn + (1 + (kAll (kWaited x.toNat 400 κ15) x.toNat - kAll κ15 x.toNat))))), (0, .ref (a 0)), (1, .int (jI x)), (2, .int (jI y))]) C dX5_sync_62 hl rfl (by decide) rfl (fun ls hl => ?_)
          refine zg_goto (tgt := 22) C dX5_sync_65 (by decide) ?_
          exact ih (nn + (1 + (kAll (kWaited x.toNat 400 κ15) x.toNat - kAll κ15 x.toNat))) (d + 1) σ19 κ27 _ _ _ (by omega) hR24 hM25 hG26 (by omega) (by omega) (by omega) (by first | exact hE.trans (kSyn_skip (by omega) (by assumption)) | (rw [eκ27, eκ15, hE, kSyn_go (by omega) (by assumption), kRecS_com]; first | rw [if_pos (by assumption)] | rw [if_neg (by assumption)])) (by first | omega | (have h5 := if_pos (t := (1 : Int)) (e := 0) (show kRecR κ2 x.toNat d = 1 by assumption); omega) | (have h5 := if_neg (t := (1 : Int)) (e := 0) (show ¬ kRecR κ2 x.toNat d = 1 by assumption); omega)) hP hS (lv_sub hl [2, 3, 4, 1, 0] rfl)
set_option maxHeartbeats 4000000 in
set_option maxRecDepth 100000 in
theorem kX5_sync (l : Launch) {D : va_G} {a : Nat → Nat} {cI cZ : ClassId} (σ : Zt) (hR : rgM σ) (κ : Zt) (hM : RR κ σ) (hG : kMid κ) (x : Int) (y : Int) (x0 : -2147483648 ≤ x) (x1 : x < 2147483648) (y0 : -2147483648 ≤ y) (y1 : y < 2147483648) : zc l D vwCl (tyM cI cZ) 28 (layM cI cZ a) a yX5_sync wsX5_sync ({ frames := 3, cells := 0, slots := 0, locals := 70 }) [.ref (a 0), .int (jI x), .int (jI y)] σ (fun r_ u_ => r_ = jI (kSynR κ x y) ∧ rgM u_ ∧ RR (kSynS κ x y) u_ ∧ kMid (kSynS κ x y)) := by
  refine zc_of (cc := cX5_sync) (maxL := 5) (ret := some .int) (own := RX5) (by decide) rfl rfl (Nat.le_of_ble_eq_true rfl) rfl ?_
  intro p e s m below meth c A ls C X hP hS hl
  have bT := rgS_1_10 hG.1
  have bP := rgS_11_4 hG.1
  have bPT := hG.e.1
  refine zg_iload_n C dX5_sync_0 rfl (lv_at hl 1 rfl) ?_
  refine zg_callS C X hP hS (kX5_isReplica l σ hR κ hM hG x (by omega) (by omega)) (cwS 1 C.ts (zgS mlX5_102 stX5_isReplica iniX5 cdX5_isReplica) rfl rfl rfl (by decide +kernel) ⟨Nat.le_of_ble_eq_true rfl, Nat.le_of_ble_eq_true rfl⟩) rfl hl.1 rfl (Nat.le_of_ble_eq_true rfl) dX5_sync_1 ⟨Nat.zero_le _, Nat.zero_le _⟩ (fun r_31 σ30 H locs q32 hP hS => ?_)
  obtain ⟨rfl, q32⟩ := q32
  rw [q32] at hP
  refine zg_ifeqB (tgt := 14) C dX5_sync_4 (by decide) (fun c_33 => ?_) (fun c_33 => ?_)
  · have b_34 := kIsR_f c_33
    refine zg_bipush C dX5_sync_14 (by decide) ?_
    refine zg_iret C hP hS dX5_sync_16 ?_
    have h9 : kSynS κ x y = κ := by grind [kSynS]
    exact ⟨congrArg jI (by grind [kSynR]), hR, (by rw [h9]; exact hM), (by rw [h9]; exact hG)⟩
  · have b_35 := kIsR_t c_33
    refine zg_iload_n C dX5_sync_7 rfl (lv_at hl 2 rfl) ?_
    refine zg_callS C X hP hS (kX5_isReplica l σ hR κ hM hG y (by omega) (by omega)) (cwS 1 C.ts (zgS mlX5_102 stX5_isReplica iniX5 cdX5_isReplica) rfl rfl rfl (by decide +kernel) ⟨Nat.le_of_ble_eq_true rfl, Nat.le_of_ble_eq_true rfl⟩) rfl hl.1 rfl (Nat.le_of_ble_eq_true rfl) dX5_sync_8 ⟨Nat.zero_le _, Nat.zero_le _⟩ (fun r_37 σ36 H locs q38 hP hS => ?_)
    obtain ⟨rfl, q38⟩ := q38
    rw [q38] at hP
    refine zg_ifneB (tgt := 17) C dX5_sync_11 (by decide) (fun c_39 => ?_) (fun c_39 => ?_)
    · have b_40 := kIsR_t c_39
      refine zg_iconst C dX5_sync_17 ?_
      refine zg_istore_n (lv' := [(3, .int (jI 0)), (0, .ref (a 0)), (1, .int (jI x)), (2, .int (jI y))]) C dX5_sync_18 rfl hl (by decide) rfl (fun ls hl => ?_)
      refine zg_iconst C dX5_sync_19 ?_
      refine zg_istore (lv' := [(4, .int (jI 0)), (3, .int (jI 0)), (0, .ref (a 0)), (1, .int (jI x)), (2, .int (jI y))]) C dX5_sync_20 hl (by decide) rfl (fun ls hl => ?_)
      exact lpX5_sync_22 σ hR κ hM hG x y x0 x1 y0 y1 (by assumption) (by assumption) C X 402 0 0 σ κ _ _ _ (by omega) hR hM hG (by omega) (by omega) rfl (by rw [Int.sub_zero]) (by omega) hP hS (lv_sub hl [2, 3, 4, 1, 0] rfl)
    · have b_41 := kIsR_f c_39
      refine zg_bipush C dX5_sync_14 (by decide) ?_
      refine zg_iret C hP hS dX5_sync_16 ?_
      have h9 : kSynS κ x y = κ := by grind [kSynS]
      exact ⟨congrArg jI (by grind [kSynR]), hR, (by rw [h9]; exact hM), (by rw [h9]; exact hG)⟩
set_option maxHeartbeats 4000000 in
set_option maxRecDepth 100000 in
theorem kX5_at (l : Launch) {D : va_G} {a : Nat → Nat} {cI cZ : ClassId} (σ : Zt) (hR : rgM σ) (κ : Zt) (hM : RR κ σ) (hG : kMid κ) (x : Int) (k : Int) (x0 : -2147483648 ≤ x) (x1 : x < 2147483648) (k0 : -2147483648 ≤ k) (k1 : k < 2147483648) : zc l D vwCl (tyM cI cZ) 28 (layM cI cZ a) a yX5_at wsX5_at ({ frames := 3, cells := 0, slots := 0, locals := 70 }) [.ref (a 0), .int (jI x), .int (jI k)] σ (fun r_ u_ => r_ = jI (kAtR κ x k) ∧ u_ = σ) := by
  refine zc_of (cc := cX5_at) (maxL := 3) (ret := some .int) (own := RX5) (by decide) rfl rfl (Nat.le_of_ble_eq_true rfl) rfl ?_
  intro p e s m below meth c A ls C X hP hS hl
  have bT := rgS_1_10 hG.1
  have bP := rgS_11_4 hG.1
  have bPT := hG.e.1
  refine zg_iload_n C dX5_at_0 rfl (lv_at hl 1 rfl) ?_
  refine zg_callS C X hP hS (kX5_isReplica l σ hR κ hM hG x (by omega) (by omega)) (cwS 1 C.ts (zgS mlX5_102 stX5_isReplica iniX5 cdX5_isReplica) rfl rfl rfl (by decide +kernel) ⟨Nat.le_of_ble_eq_true rfl, Nat.le_of_ble_eq_true rfl⟩) rfl hl.1 rfl (Nat.le_of_ble_eq_true rfl) dX5_at_1 ⟨Nat.zero_le _, Nat.zero_le _⟩ (fun r_2 σ1 H locs q3 hP hS => ?_)
  obtain ⟨rfl, q3⟩ := q3
  rw [q3] at hP
  refine zg_ifneB (tgt := 12) C dX5_at_4 (by decide) (fun c_4 => ?_) (fun c_4 => ?_)
  · have b_5 := kIsR_t c_4
    refine zg_iload_n C dX5_at_12 rfl (lv_at hl 2 rfl) ?_
    refine zg_i2l C (by omega) (by omega) dX5_at_13 ?_
    refine zg_lconst C 0 rfl dX5_at_14 ?_
    refine zg_ldc2 (v := 3) C (C.tb klX5_201) rfl dX5_at_15 ?_
    refine zg_callS C X hP hS (kX5_in l σ hR κ hM hG k 0 3 (by omega) (by omega) (by omega) (by omega) (by omega) (by omega)) (cwS 3 C.ts (zgS mlX5_98 stX5_in iniX5 cdX5_in) rfl rfl rfl (by decide +kernel) ⟨Nat.le_of_ble_eq_true rfl, Nat.le_of_ble_eq_true rfl⟩) rfl hl.1 rfl (Nat.le_of_ble_eq_true rfl) dX5_at_18 ⟨Nat.zero_le _, Nat.zero_le _⟩ (fun r_7 σ6 H locs q8 hP hS => ?_)
    obtain ⟨rfl, q8⟩ := q8
    rw [q8] at hP
    refine zg_ifeqB (tgt := 33) C dX5_at_21 (by decide) (fun c_9 => ?_) (fun c_9 => ?_)
    · have b_10 := mIn_f c_9
      refine zg_bipush C dX5_at_33 (by decide) ?_
      refine zg_iret C hP hS dX5_at_35 ?_
      exact ⟨congrArg jI (by first | (simp [kAtR, c_4, c_9]; done) | grind [kAtR, mIn, kIsC, kHolds, kIsR]), rfl⟩
    · have b_11 := mIn_t c_9
      refine zg_aload_n C dX5_at_24 rfl (lv_at hl 0 rfl) ?_
      refine zg_iload_n C dX5_at_25 rfl (lv_at hl 1 rfl) ?_
      refine zg_iload_n C dX5_at_26 rfl (lv_at hl 2 rfl) ?_
      refine zg_callV C X hP hS (kX5_placeOf l σ hR κ hM hG x k (by omega) (by omega) (by omega) (by omega)) (cwV 2 C.ts (zgV mlX5_206 imX5_placeOf slX5_placeOf iniX5 cdX5_placeOf) rfl rfl rfl (by decide +kernel) ⟨Nat.le_of_ble_eq_true rfl, Nat.le_of_ble_eq_true rfl⟩) (by decide) lyM_0 rfl rfl rfl hl.1 rfl (Nat.le_of_ble_eq_true rfl) dX5_at_27 ⟨Nat.zero_le _, Nat.zero_le _⟩ (fun r_13 σ12 H locs q14 hP hS => ?_)
      obtain ⟨rfl, q14⟩ := q14
      rw [q14] at hP
      refine zg_goto (tgt := 35) C dX5_at_30 (by decide) ?_
      refine zg_iret C hP hS dX5_at_35 ?_
      exact ⟨congrArg jI (by first | (simp [kAtR, c_4, c_9]; done) | grind [kAtR, mIn, kIsC, kHolds, kIsR]), rfl⟩
  · have b_15 := kIsR_f c_4
    refine zg_bipush C dX5_at_7 (by decide) ?_
    refine zg_goto (tgt := 35) C dX5_at_9 (by decide) ?_
    refine zg_iret C hP hS dX5_at_35 ?_
    exact ⟨congrArg jI (by first | (simp [kAtR, c_4]; done) | grind [kAtR, mIn, kIsC, kHolds, kIsR]), rfl⟩
set_option maxHeartbeats 4000000 in
set_option maxRecDepth 100000 in
theorem kX5_cursor (l : Launch) {D : va_G} {a : Nat → Nat} {cI cZ : ClassId} (σ : Zt) (hR : rgM σ) (κ : Zt) (hM : RR κ σ) (hG : kMid κ) (x : Int) (k : Int) (q : Int) (x0 : -2147483648 ≤ x) (x1 : x < 2147483648) (k0 : -2147483648 ≤ k) (k1 : k < 2147483648) (q0 : -2147483648 ≤ q) (q1 : q < 2147483648) : zc l D vwCl (tyM cI cZ) 28 (layM cI cZ a) a yX5_cursor wsX5_cursor ({ frames := 3, cells := 0, slots := 0, locals := 70 }) [.ref (a 0), .int (jI x), .int (jI k), .int (jI q)] σ (fun r_ u_ => r_ = jI (kCurR κ x k q) ∧ rgM u_ ∧ RR (kCurS κ x k q) u_ ∧ kMid (kCurS κ x k q)) := by
  refine zc_of (cc := cX5_cursor) (maxL := 5) (ret := some .int) (own := RX5) (by decide) rfl rfl (Nat.le_of_ble_eq_true rfl) rfl ?_
  intro p e s m below meth c A ls C X hP hS hl
  have bT := rgS_1_10 hG.1
  have bP := rgS_11_4 hG.1
  have bPT := hG.e.1
  refine zg_iload_n C dX5_cursor_0 rfl (lv_at hl 1 rfl) ?_
  refine zg_callS C X hP hS (kX5_isReplica l σ hR κ hM hG x (by omega) (by omega)) (cwS 1 C.ts (zgS mlX5_102 stX5_isReplica iniX5 cdX5_isReplica) rfl rfl rfl (by decide +kernel) ⟨Nat.le_of_ble_eq_true rfl, Nat.le_of_ble_eq_true rfl⟩) rfl hl.1 rfl (Nat.le_of_ble_eq_true rfl) dX5_cursor_1 ⟨Nat.zero_le _, Nat.zero_le _⟩ (fun r_2 σ1 H locs q3 hP hS => ?_)
  obtain ⟨rfl, q3⟩ := q3
  rw [q3] at hP
  refine zg_ifneB (tgt := 10) C dX5_cursor_4 (by decide) (fun c_4 => ?_) (fun c_4 => ?_)
  · have b_5 := kIsR_t c_4
    refine zg_iload_n C dX5_cursor_10 rfl (lv_at hl 2 rfl) ?_
    refine zg_i2l C (by omega) (by omega) dX5_cursor_11 ?_
    refine zg_lconst C 0 rfl dX5_cursor_12 ?_
    refine zg_ldc2 (v := 3) C (C.tb klX5_201) rfl dX5_cursor_13 ?_
    refine zg_callS C X hP hS (kX5_in l σ hR κ hM hG k 0 3 (by omega) (by omega) (by omega) (by omega) (by omega) (by omega)) (cwS 3 C.ts (zgS mlX5_98 stX5_in iniX5 cdX5_in) rfl rfl rfl (by decide +kernel) ⟨Nat.le_of_ble_eq_true rfl, Nat.le_of_ble_eq_true rfl⟩) rfl hl.1 rfl (Nat.le_of_ble_eq_true rfl) dX5_cursor_16 ⟨Nat.zero_le _, Nat.zero_le _⟩ (fun r_7 σ6 H locs q8 hP hS => ?_)
    obtain ⟨rfl, q8⟩ := q8
    rw [q8] at hP
    refine zg_ifeqB (tgt := 37) C dX5_cursor_19 (by decide) (fun c_9 => ?_) (fun c_9 => ?_)
    · have b_10 := mIn_f c_9
      refine zg_bipush C dX5_cursor_37 (by decide) ?_
      refine zg_iret C hP hS dX5_cursor_39 ?_
      have h9 : kCurS κ x k q = κ := by grind [kCurS, mIn, kIsC, kGap]
      exact ⟨congrArg jI (by grind [kCurR, mIn, kIsC, kGap]), hR, (by rw [h9]; exact hM), (by rw [h9]; exact hG)⟩
    · have b_11 := mIn_t c_9
      refine zg_iload_n C dX5_cursor_22 rfl (lv_at hl 3 rfl) ?_
      refine zg_i2l C (by omega) (by omega) dX5_cursor_23 ?_
      refine zg_lconst C 0 rfl dX5_cursor_24 ?_
      refine zg_aload_n C dX5_cursor_25 rfl (lv_at hl 0 rfl) ?_
      refine zg_iload_n C dX5_cursor_26 rfl (lv_at hl 1 rfl) ?_
      refine zg_callV C X hP hS (kX5_sizeOf l σ hR κ hM hG x (by omega) (by omega)) (cwV 1 C.ts (zgV mlX5_177 imX5_sizeOf slX5_sizeOf iniX5 cdX5_sizeOf) rfl rfl rfl (by decide +kernel) ⟨Nat.le_of_ble_eq_true rfl, Nat.le_of_ble_eq_true rfl⟩) (by decide) lyM_0 rfl rfl rfl hl.1 rfl (Nat.le_of_ble_eq_true rfl) dX5_cursor_27 ⟨Nat.zero_le _, Nat.zero_le _⟩ (fun r_13 σ12 H locs q14 hP hS => ?_)
      obtain ⟨rfl, q14⟩ := q14
      have b_15 := kLen_rg hG.1 x.toNat
      rw [q14] at hP
      refine zg_i2l C (by omega) (by omega) dX5_cursor_30 ?_
      refine zg_callS C X hP hS (kX5_in l σ hR κ hM hG q 0 (kLen κ x.toNat) (by omega) (by omega) (by omega) (by omega) (by omega) (by omega)) (cwS 3 C.ts (zgS mlX5_98 stX5_in iniX5 cdX5_in) rfl rfl rfl (by decide +kernel) ⟨Nat.le_of_ble_eq_true rfl, Nat.le_of_ble_eq_true rfl⟩) rfl hl.1 rfl (Nat.le_of_ble_eq_true rfl) dX5_cursor_31 ⟨Nat.zero_le _, Nat.zero_le _⟩ (fun r_17 σ16 H locs q18 hP hS => ?_)
      obtain ⟨rfl, q18⟩ := q18
      rw [q18] at hP
      refine zg_ifneB (tgt := 40) C dX5_cursor_34 (by decide) (fun c_19 => ?_) (fun c_19 => ?_)
      · have b_20 := mIn_t c_19
        have h7 : kIsC k = true := by unfold kIsC; rw [decide_eq_true (by omega), decide_eq_true (by omega)]; rfl
        have h8 : kGap κ x.toNat q = true := by unfold kGap; rw [decide_eq_true (by omega), decide_eq_true (by omega)]; rfl
        have h6 := kBefore_ok hG x.toNat q
        refine zg_aload_n C dX5_cursor_40 rfl (lv_at hl 0 rfl) ?_
        refine zg_iload_n C dX5_cursor_41 rfl (lv_at hl 1 rfl) ?_
        refine zg_iload_n C dX5_cursor_42 rfl (lv_at hl 2 rfl) ?_
        refine zg_callV C X hP hS (kX5_placeOf l σ hR κ hM hG x k (by omega) (by omega) (by omega) (by omega)) (cwV 2 C.ts (zgV mlX5_206 imX5_placeOf slX5_placeOf iniX5 cdX5_placeOf) rfl rfl rfl (by decide +kernel) ⟨Nat.le_of_ble_eq_true rfl, Nat.le_of_ble_eq_true rfl⟩) (by decide) lyM_0 rfl rfl rfl hl.1 rfl (Nat.le_of_ble_eq_true rfl) dX5_cursor_43 ⟨Nat.zero_le _, Nat.zero_le _⟩ (fun r_22 σ21 H locs q23 hP hS => ?_)
        obtain ⟨rfl, q23⟩ := q23
        rw [q23] at hP
        refine zg_istore (lv' := [(4, .int (jI (kCur κ x.toNat k))), (0, .ref (a 0)), (1, .int (jI x)), (2, .int (jI k)), (3, .int (jI q))]) C dX5_cursor_46 hl (by decide) rfl (fun ls hl => ?_)
        refine zg_aload_n C dX5_cursor_48 rfl (lv_at hl 1 rfl) ?_
        refine zg_get (j := 24) C X hP (by decide) lyM_0 rfl (zmem uwX5) (by decide) (C.tb flX5_78) (fun _ h9 => h9) rfl dX5_cursor_49 ?_
        refine zg_iconst C dX5_cursor_52 ?_
        refine zg_iload_n C dX5_cursor_53 rfl (lv_at hl 2 rfl) ?_
        refine zg_imul C dX5_cursor_54 ?_
        refine zg_iload_n C dX5_cursor_55 rfl (lv_at hl 3 rfl) ?_
        refine zg_iadd C dX5_cursor_56 ?_
        refine zg_iload_n C dX5_cursor_57 rfl (lv_at hl 4 rfl) ?_
        refine zg_if_ne (tgt := 65) C (by omega) (by omega) dX5_cursor_58 (by decide) (fun c_24 => ?_) (fun c_24 => ?_)
        · refine zg_aload_n C dX5_cursor_65 rfl (lv_at hl 1 rfl) ?_
          refine zg_iload_n C dX5_cursor_66 rfl (lv_at hl 2 rfl) ?_
          refine zg_iload_n C dX5_cursor_67 rfl (lv_at hl 4 rfl) ?_
          refine zg_iconst C dX5_cursor_68 ?_
          refine zg_isub C dX5_cursor_69 ?_
          refine zg_callV C X hP hS (kX5_signAt l σ hR κ hM hG x (q - 1) (by omega) (by omega) (by omega) (by omega)) (cwV 2 C.ts (zgV mlX5_162 imX5_signAt slX5_signAt iniX5 cdX5_signAt) rfl rfl rfl (by decide +kernel) ⟨Nat.le_of_ble_eq_true rfl, Nat.le_of_ble_eq_true rfl⟩) (by decide) lyM_0 rfl rfl rfl hl.1 rfl (Nat.le_of_ble_eq_true rfl) dX5_cursor_70 ⟨Nat.zero_le _, Nat.zero_le _⟩ (fun r_26 σ25 H locs q27 hP hS => ?_)
          obtain ⟨rfl, q27⟩ := q27
          have b_28 := kSignAt_rg hG.1 x.toNat (q - 1)
          rw [q27] at hP
          refine zg_iast (t0 := 0) C X hP hS (by decide) (fun x => lyM_22) rfl (by decide) (by omega) (by omega) dX5_cursor_73 (fun H locs hP hS => ?_)
          obtain ⟨σ29, e30⟩ : ∃ z_ : Zt, z_ = zu σ 22 ((4 * x) + k).toNat (kSignAt κ x.toNat (q - 1)) := ⟨_, rfl⟩
          rw [← e30] at hP
          have w_32 : σ29 22 ((4 * x) + k).toNat = kSignAt κ x.toNat (q - 1) := by rw [e30]; exact zu_same _ _ _ _
          have hR31 : rgM σ29 := by rw [e30]; exact rzM_22 hR (by omega) (by omega)
          obtain ⟨κ33, eκ33⟩ : ∃ z_ : Zt, z_ = zu κ (24 + 6 * x.toNat) k.toNat (kBefore κ x.toNat q) := ⟨_, rfl⟩
          have hM34 : RR κ33 σ29 := by rw [eκ33, e30]; (first | rw [show kBefore κ x.toNat q = -1 by unfold kBefore; rw [if_pos (by omega)]] | rw [show kBefore κ x.toNat q = kSignAt κ x.toNat (q - 1) by unfold kBefore; rw [if_neg (by omega)]]); exact RR_22I hM (by omega) (by omega) (by omega) (by omega)
          have hG35 : kMid κ33 := by rw [eκ33]; exact kMid_cur hG (by omega) (by omega)
          refine zg_iload C dX5_cursor_74 (lv_at hl 0 rfl) ?_
          refine zg_iret C hP hS dX5_cursor_76 ?_
          have h9 : kCurS κ x k q = κ33 := by rw [eκ33]; unfold kCurS; rw [if_pos (by assumption), if_pos h7, if_pos h8]
          exact ⟨congrArg jI (by unfold kCurR; rw [if_pos (by assumption), if_pos h7, if_pos h8]), hR31, (by rw [h9]; exact hM34), (by rw [h9]; exact hG35)⟩
        · refine zg_iconst C dX5_cursor_61 ?_
          refine zg_goto (tgt := 73) C dX5_cursor_62 (by decide) ?_
          refine zg_iast (t0 := 0) C X hP hS (by decide) (fun x => lyM_22) rfl (by decide) (by omega) (by omega) dX5_cursor_73 (fun H locs hP hS => ?_)
          obtain ⟨σ36, e37⟩ : ∃ z_ : Zt, z_ = zu σ 22 ((4 * x) + k).toNat (-1) := ⟨_, rfl⟩
          rw [← e37] at hP
          have w_39 : σ36 22 ((4 * x) + k).toNat = (-1) := by rw [e37]; exact zu_same _ _ _ _
          have hR38 : rgM σ36 := by rw [e37]; exact rzM_22 hR (by omega) (by omega)
          obtain ⟨κ40, eκ40⟩ : ∃ z_ : Zt, z_ = zu κ (24 + 6 * x.toNat) k.toNat (kBefore κ x.toNat q) := ⟨_, rfl⟩
          have hM41 : RR κ40 σ36 := by rw [eκ40, e37]; (first | rw [show kBefore κ x.toNat q = -1 by unfold kBefore; rw [if_pos (by omega)]] | rw [show kBefore κ x.toNat q = kSignAt κ x.toNat (q - 1) by unfold kBefore; rw [if_neg (by omega)]]); exact RR_22I hM (by omega) (by omega) (by omega) (by omega)
          have hG42 : kMid κ40 := by rw [eκ40]; exact kMid_cur hG (by omega) (by omega)
          refine zg_iload C dX5_cursor_74 (lv_at hl 0 rfl) ?_
          refine zg_iret C hP hS dX5_cursor_76 ?_
          have h9 : kCurS κ x k q = κ40 := by rw [eκ40]; unfold kCurS; rw [if_pos (by assumption), if_pos h7, if_pos h8]
          exact ⟨congrArg jI (by unfold kCurR; rw [if_pos (by assumption), if_pos h7, if_pos h8]), hR38, (by rw [h9]; exact hM41), (by rw [h9]; exact hG42)⟩
      · have b_43 := mIn_f c_19
        refine zg_bipush C dX5_cursor_37 (by decide) ?_
        refine zg_iret C hP hS dX5_cursor_39 ?_
        have h9 : kCurS κ x k q = κ := by grind [kCurS, mIn, kIsC, kGap]
        exact ⟨congrArg jI (by grind [kCurR, mIn, kIsC, kGap]), hR, (by rw [h9]; exact hM), (by rw [h9]; exact hG)⟩
  · have b_44 := kIsR_f c_4
    refine zg_bipush C dX5_cursor_7 (by decide) ?_
    refine zg_iret C hP hS dX5_cursor_9 ?_
    have h9 : kCurS κ x k q = κ := by grind [kCurS]
    exact ⟨congrArg jI (by grind [kCurR]), hR, (by rw [h9]; exact hM), (by rw [h9]; exact hG)⟩
set_option maxHeartbeats 4000000 in
set_option maxRecDepth 100000 in
theorem kX5_deed (l : Launch) {D : va_G} {a : Nat → Nat} {cI cZ : ClassId} (σ : Zt) (hR : rgM σ) (κ : Zt) (hM : RR κ σ) (hG : kMid κ) (d : Int) (w : Int) (d0 : -2147483648 ≤ d) (d1 : d < 2147483648) (w0 : -2147483648 ≤ w) (w1 : w < 2147483648) : zc l D vwCl (tyM cI cZ) 28 (layM cI cZ a) a yX5_deed wsX5_deed ({ frames := 1, cells := 0, slots := 0, locals := 25 }) [.ref (a 0), .int (jI d), .int (jI w)] σ (fun r_ u_ => r_ = jI (kDeeR κ d w) ∧ u_ = σ) := by
  refine zc_of (cc := cX5_deed) (maxL := 3) (ret := some .int) (own := RX5) (by decide) rfl rfl (Nat.le_of_ble_eq_true rfl) rfl ?_
  intro p e s m below meth c A ls C X hP hS hl
  have bT := rgS_1_10 hG.1
  have bP := rgS_11_4 hG.1
  have bPT := hG.e.1
  refine zg_iload_n C dX5_deed_0 rfl (lv_at hl 1 rfl) ?_
  refine zg_i2l C (by omega) (by omega) dX5_deed_1 ?_
  refine zg_lconst C 0 rfl dX5_deed_2 ?_
  refine zg_aload_n C dX5_deed_3 rfl (lv_at hl 0 rfl) ?_
  refine zg_get (j := 1) C X hP (by decide) lyM_0 rfl (zmem uwX5) (by decide) (C.tb flX5_135) (fun _ h9 => h9) rfl dX5_deed_4 ?_
  rw [rr_0_1 hM]
  have b_1 := rgS_1_10 hG.1
  have b_2 := rgM_0_1 hR
  refine zg_iconst C dX5_deed_7 ?_
  refine zg_isub C dX5_deed_8 ?_
  refine zg_i2l C (by omega) (by omega) dX5_deed_9 ?_
  refine zg_callS C X hP hS (kX5_in l σ hR κ hM hG d 0 ((κ 1 10) - 1) (by omega) (by omega) (by omega) (by omega) (by omega) (by omega)) (cwS 3 C.ts (zgS mlX5_98 stX5_in iniX5 cdX5_in) rfl rfl rfl (by decide +kernel) ⟨Nat.le_of_ble_eq_true rfl, Nat.le_of_ble_eq_true rfl⟩) rfl hl.1 rfl (Nat.le_of_ble_eq_true rfl) dX5_deed_10 ⟨Nat.zero_le _, Nat.zero_le _⟩ (fun r_4 σ3 H locs q5 hP hS => ?_)
  obtain ⟨rfl, q5⟩ := q5
  rw [q5] at hP
  refine zg_ifneB (tgt := 19) C dX5_deed_13 (by decide) (fun c_6 => ?_) (fun c_6 => ?_)
  · have b_7 := mIn_t c_6
    refine zg_iload_n C dX5_deed_19 rfl (lv_at hl 2 rfl) ?_
    refine zg_if_ne (tgt := 32) C (by omega) (by omega) dX5_deed_20 (by decide) (fun c_8 => ?_) (fun c_8 => ?_)
    · refine zg_iload_n C dX5_deed_32 rfl (lv_at hl 2 rfl) ?_
      refine zg_iconst C dX5_deed_33 ?_
      refine zg_icmp_ne (tgt := 46) C (by omega) (by omega) (by omega) (by omega) dX5_deed_34 (by decide) (fun c_9 => ?_) (fun c_9 => ?_)
      · refine zg_iload_n C dX5_deed_46 rfl (lv_at hl 2 rfl) ?_
        refine zg_iconst C dX5_deed_47 ?_
        refine zg_icmp_ne (tgt := 60) C (by omega) (by omega) (by omega) (by omega) dX5_deed_48 (by decide) (fun c_10 => ?_) (fun c_10 => ?_)
        · refine zg_iload_n C dX5_deed_60 rfl (lv_at hl 2 rfl) ?_
          refine zg_iconst C dX5_deed_61 ?_
          refine zg_icmp_ne (tgt := 74) C (by omega) (by omega) (by omega) (by omega) dX5_deed_62 (by decide) (fun c_11 => ?_) (fun c_11 => ?_)
          · refine zg_iload_n C dX5_deed_74 rfl (lv_at hl 2 rfl) ?_
            refine zg_iconst C dX5_deed_75 ?_
            refine zg_icmp_ne (tgt := 88) C (by omega) (by omega) (by omega) (by omega) dX5_deed_76 (by decide) (fun c_12 => ?_) (fun c_12 => ?_)
            · refine zg_iload_n C dX5_deed_88 rfl (lv_at hl 2 rfl) ?_
              refine zg_iconst C dX5_deed_89 ?_
              refine zg_icmp_ne (tgt := 102) C (by omega) (by omega) (by omega) (by omega) dX5_deed_90 (by decide) (fun c_13 => ?_) (fun c_13 => ?_)
              · refine zg_bipush C dX5_deed_102 (by decide) ?_
                refine zg_iret C hP hS dX5_deed_104 ?_
                exact ⟨congrArg jI (by first | (simp [kDeeR, c_6, c_8, c_9, c_10, c_11, c_12, c_13]; done) | grind [kDeeR, mIn, kIsC, kHolds, kIsR]), rfl⟩
              · refine zg_aload_n C dX5_deed_93 rfl (lv_at hl 0 rfl) ?_
                refine zg_get (j := 7) C X hP (by decide) lyM_0 rfl (zmem uwX5) (by decide) (C.tb flX5_29) (fun _ h9 => h9) rfl dX5_deed_94 ?_
                refine zg_iload_n C dX5_deed_97 rfl (lv_at hl 1 rfl) ?_
                refine zg_iald (t0 := 0) C X hP (by decide) lyM_6 rfl (by decide) (by omega) (by omega) dX5_deed_98 ?_
                rw [rr_6 hM]
                have b_14 := rgS_7 hG.1 (d).toNat
                have b_15 := rgM_6 hR ((d).toNat)
                refine zg_goto (tgt := 104) C dX5_deed_99 (by decide) ?_
                refine zg_iret C hP hS dX5_deed_104 ?_
                exact ⟨congrArg jI (by first | (simp [kDeeR, c_6, c_8, c_9, c_10, c_11, c_12, c_13]; done) | grind [kDeeR, mIn, kIsC, kHolds, kIsR]), rfl⟩
            · refine zg_aload_n C dX5_deed_79 rfl (lv_at hl 0 rfl) ?_
              refine zg_get (j := 6) C X hP (by decide) lyM_0 rfl (zmem uwX5) (by decide) (C.tb flX5_26) (fun _ h9 => h9) rfl dX5_deed_80 ?_
              refine zg_iload_n C dX5_deed_83 rfl (lv_at hl 1 rfl) ?_
              refine zg_iald (t0 := 0) C X hP (by decide) lyM_5 rfl (by decide) (by omega) (by omega) dX5_deed_84 ?_
              rw [rr_5 hM]
              have b_16 := rgS_6 hG.1 (d).toNat
              have b_17 := rgM_5 hR ((d).toNat)
              refine zg_goto (tgt := 104) C dX5_deed_85 (by decide) ?_
              refine zg_iret C hP hS dX5_deed_104 ?_
              exact ⟨congrArg jI (by first | (simp [kDeeR, c_6, c_8, c_9, c_10, c_11, c_12]; done) | grind [kDeeR, mIn, kIsC, kHolds, kIsR]), rfl⟩
          · refine zg_aload_n C dX5_deed_65 rfl (lv_at hl 0 rfl) ?_
            refine zg_get (j := 5) C X hP (by decide) lyM_0 rfl (zmem uwX5) (by decide) (C.tb flX5_23) (fun _ h9 => h9) rfl dX5_deed_66 ?_
            refine zg_iload_n C dX5_deed_69 rfl (lv_at hl 1 rfl) ?_
            refine zg_iald (t0 := 0) C X hP (by decide) lyM_4 rfl (by decide) (by omega) (by omega) dX5_deed_70 ?_
            rw [rr_4 hM]
            have b_18 := rgS_5 hG.1 (d).toNat
            have b_19 := rgM_4 hR ((d).toNat)
            refine zg_goto (tgt := 104) C dX5_deed_71 (by decide) ?_
            refine zg_iret C hP hS dX5_deed_104 ?_
            exact ⟨congrArg jI (by first | (simp [kDeeR, c_6, c_8, c_9, c_10, c_11]; done) | grind [kDeeR, mIn, kIsC, kHolds, kIsR]), rfl⟩
        · refine zg_aload_n C dX5_deed_51 rfl (lv_at hl 0 rfl) ?_
          refine zg_get (j := 4) C X hP (by decide) lyM_0 rfl (zmem uwX5) (by decide) (C.tb flX5_20) (fun _ h9 => h9) rfl dX5_deed_52 ?_
          refine zg_iload_n C dX5_deed_55 rfl (lv_at hl 1 rfl) ?_
          refine zg_iald (t0 := 0) C X hP (by decide) lyM_3 rfl (by decide) (by omega) (by omega) dX5_deed_56 ?_
          rw [rr_3 hM]
          have b_20 := rgS_4 hG.1 (d).toNat
          have b_21 := rgM_3 hR ((d).toNat)
          refine zg_goto (tgt := 104) C dX5_deed_57 (by decide) ?_
          refine zg_iret C hP hS dX5_deed_104 ?_
          exact ⟨congrArg jI (by first | (simp [kDeeR, c_6, c_8, c_9, c_10]; done) | grind [kDeeR, mIn, kIsC, kHolds, kIsR]), rfl⟩
      · refine zg_aload_n C dX5_deed_37 rfl (lv_at hl 0 rfl) ?_
        refine zg_get (j := 3) C X hP (by decide) lyM_0 rfl (zmem uwX5) (by decide) (C.tb flX5_17) (fun _ h9 => h9) rfl dX5_deed_38 ?_
        refine zg_iload_n C dX5_deed_41 rfl (lv_at hl 1 rfl) ?_
        refine zg_iald (t0 := 0) C X hP (by decide) lyM_2 rfl (by decide) (by omega) (by omega) dX5_deed_42 ?_
        rw [rr_2 hM]
        have b_22 := rgS_3 hG.1 (d).toNat
        have b_23 := rgM_2 hR ((d).toNat)
        refine zg_goto (tgt := 104) C dX5_deed_43 (by decide) ?_
        refine zg_iret C hP hS dX5_deed_104 ?_
        exact ⟨congrArg jI (by first | (simp [kDeeR, c_6, c_8, c_9]; done) | grind [kDeeR, mIn, kIsC, kHolds, kIsR]), rfl⟩
    · refine zg_aload_n C dX5_deed_23 rfl (lv_at hl 0 rfl) ?_
      refine zg_get (j := 2) C X hP (by decide) lyM_0 rfl (zmem uwX5) (by decide) (C.tb flX5_13) (fun _ h9 => h9) rfl dX5_deed_24 ?_
      refine zg_iload_n C dX5_deed_27 rfl (lv_at hl 1 rfl) ?_
      refine zg_iald (t0 := 0) C X hP (by decide) lyM_1 rfl (by decide) (by omega) (by omega) dX5_deed_28 ?_
      rw [rr_1 hM]
      have b_24 := rgS_2 hG.1 (d).toNat
      have b_25 := rgM_1 hR ((d).toNat)
      refine zg_goto (tgt := 104) C dX5_deed_29 (by decide) ?_
      refine zg_iret C hP hS dX5_deed_104 ?_
      exact ⟨congrArg jI (by first | (simp [kDeeR, c_6, c_8]; done) | grind [kDeeR, mIn, kIsC, kHolds, kIsR]), rfl⟩
  · have b_26 := mIn_f c_6
    refine zg_bipush C dX5_deed_16 (by decide) ?_
    refine zg_iret C hP hS dX5_deed_18 ?_
    exact ⟨congrArg jI (by first | (simp [kDeeR, c_6]; done) | grind [kDeeR, mIn, kIsC, kHolds, kIsR]), rfl⟩
set_option maxHeartbeats 4000000 in
set_option maxRecDepth 100000 in
theorem kX5_message (l : Launch) {D : va_G} {a : Nat → Nat} {cI cZ : ClassId} (σ : Zt) (hR : rgM σ) (κ : Zt) (hM : RR κ σ) (hG : kMid κ) (i : Int) (w : Int) (i0 : -2147483648 ≤ i) (i1 : i < 2147483648) (w0 : -2147483648 ≤ w) (w1 : w < 2147483648) : zc l D vwCl (tyM cI cZ) 28 (layM cI cZ a) a yX5_message wsX5_message ({ frames := 1, cells := 0, slots := 0, locals := 25 }) [.ref (a 0), .int (jI i), .int (jI w)] σ (fun r_ u_ => r_ = jI (kMesR κ i w) ∧ u_ = σ) := by
  refine zc_of (cc := cX5_message) (maxL := 3) (ret := some .int) (own := RX5) (by decide) rfl rfl (Nat.le_of_ble_eq_true rfl) rfl ?_
  intro p e s m below meth c A ls C X hP hS hl
  have bM := rgS_16_2 hG.1
  have bT := rgS_1_10 hG.1
  have bP := rgS_11_4 hG.1
  have bPT := hG.e.1
  refine zg_iload_n C dX5_message_0 rfl (lv_at hl 1 rfl) ?_
  refine zg_i2l C (by omega) (by omega) dX5_message_1 ?_
  refine zg_lconst C 0 rfl dX5_message_2 ?_
  refine zg_aload_n C dX5_message_3 rfl (lv_at hl 0 rfl) ?_
  refine zg_get (j := 25) C X hP (by decide) lyM_0 rfl (zmem uwX5) (by decide) (C.tb flX5_145) (fun _ h9 => h9) rfl dX5_message_4 ?_
  rw [rr_0_25 hM]
  have b_1 := rgS_16_2 hG.1
  have b_2 := rgM_0_25 hR
  refine zg_iconst C dX5_message_7 ?_
  refine zg_isub C dX5_message_8 ?_
  refine zg_i2l C (by omega) (by omega) dX5_message_9 ?_
  refine zg_callS C X hP hS (kX5_in l σ hR κ hM hG i 0 ((κ 16 2) - 1) (by omega) (by omega) (by omega) (by omega) (by omega) (by omega)) (cwS 3 C.ts (zgS mlX5_98 stX5_in iniX5 cdX5_in) rfl rfl rfl (by decide +kernel) ⟨Nat.le_of_ble_eq_true rfl, Nat.le_of_ble_eq_true rfl⟩) rfl hl.1 rfl (Nat.le_of_ble_eq_true rfl) dX5_message_10 ⟨Nat.zero_le _, Nat.zero_le _⟩ (fun r_4 σ3 H locs q5 hP hS => ?_)
  obtain ⟨rfl, q5⟩ := q5
  rw [q5] at hP
  refine zg_ifneB (tgt := 21) C dX5_message_13 (by decide) (fun c_6 => ?_) (fun c_6 => ?_)
  · have b_7 := mIn_t c_6
    refine zg_iload_n C dX5_message_21 rfl (lv_at hl 2 rfl) ?_
    refine zg_if_ne (tgt := 34) C (by omega) (by omega) dX5_message_22 (by decide) (fun c_8 => ?_) (fun c_8 => ?_)
    · refine zg_iload_n C dX5_message_34 rfl (lv_at hl 2 rfl) ?_
      refine zg_iconst C dX5_message_35 ?_
      refine zg_icmp_ne (tgt := 48) C (by omega) (by omega) (by omega) (by omega) dX5_message_36 (by decide) (fun c_9 => ?_) (fun c_9 => ?_)
      · refine zg_bipush C dX5_message_48 (by decide) ?_
        refine zg_iret C hP hS dX5_message_50 ?_
        exact ⟨congrArg jI (by first | (simp [kMesR, c_6, c_8, c_9]; done) | grind [kMesR, mIn, kIsC, kHolds, kIsR]), rfl⟩
      · refine zg_aload_n C dX5_message_39 rfl (lv_at hl 0 rfl) ?_
        refine zg_get (j := 27) C X hP (by decide) lyM_0 rfl (zmem uwX5) (by decide) (C.tb flX5_84) (fun _ h9 => h9) rfl dX5_message_40 ?_
        refine zg_iload_n C dX5_message_43 rfl (lv_at hl 1 rfl) ?_
        refine zg_iald (t0 := 0) C X hP (by decide) lyM_24 rfl (by decide) (by omega) (by omega) dX5_message_44 ?_
        rw [rr_24 hM]
        have b_10 := rgS_18 hG.1 (i).toNat
        have b_11 := rgM_24 hR ((i).toNat)
        refine zg_goto (tgt := 50) C dX5_message_45 (by decide) ?_
        refine zg_iret C hP hS dX5_message_50 ?_
        exact ⟨congrArg jI (by first | (simp [kMesR, c_6, c_8, c_9]; done) | grind [kMesR, mIn, kIsC, kHolds, kIsR]), rfl⟩
    · refine zg_aload_n C dX5_message_25 rfl (lv_at hl 0 rfl) ?_
      refine zg_get (j := 26) C X hP (by decide) lyM_0 rfl (zmem uwX5) (by decide) (C.tb flX5_81) (fun _ h9 => h9) rfl dX5_message_26 ?_
      refine zg_iload_n C dX5_message_29 rfl (lv_at hl 1 rfl) ?_
      refine zg_iald (t0 := 0) C X hP (by decide) lyM_23 rfl (by decide) (by omega) (by omega) dX5_message_30 ?_
      rw [rr_23 hM]
      have b_12 := rgS_17 hG.1 (i).toNat
      have b_13 := rgM_23 hR ((i).toNat)
      refine zg_goto (tgt := 50) C dX5_message_31 (by decide) ?_
      refine zg_iret C hP hS dX5_message_50 ?_
      exact ⟨congrArg jI (by first | (simp [kMesR, c_6, c_8]; done) | grind [kMesR, mIn, kIsC, kHolds, kIsR]), rfl⟩
  · have b_14 := mIn_f c_6
    refine zg_bipush C dX5_message_16 (by decide) ?_
    refine zg_goto (tgt := 50) C dX5_message_18 (by decide) ?_
    refine zg_iret C hP hS dX5_message_50 ?_
    exact ⟨congrArg jI (by first | (simp [kMesR, c_6]; done) | grind [kMesR, mIn, kIsC, kHolds, kIsR]), rfl⟩
set_option maxHeartbeats 4000000 in
set_option maxRecDepth 100000 in
theorem kX5_count (l : Launch) {D : va_G} {a : Nat → Nat} {cI cZ : ClassId} (σ : Zt) (hR : rgM σ) (κ : Zt) (hM : RR κ σ) (hG : kMid κ) (w : Int) (w0 : -2147483648 ≤ w) (w1 : w < 2147483648) : zc l D vwCl (tyM cI cZ) 28 (layM cI cZ a) a yX5_count wsX5_count ({ frames := 0, cells := 0, slots := 0, locals := 0 }) [.ref (a 0), .int (jI w)] σ (fun r_ u_ => r_ = jI (kCouR κ w) ∧ u_ = σ) := by
  refine zc_of (cc := cX5_count) (maxL := 2) (ret := some .int) (own := RX5) (by decide) rfl rfl (Nat.le_of_ble_eq_true rfl) rfl ?_
  intro p e s m below meth c A ls C X hP hS hl
  have bT := rgS_1_10 hG.1
  have bP := rgS_11_4 hG.1
  have bPT := hG.e.1
  refine zg_iload_n C dX5_count_0 rfl (lv_at hl 1 rfl) ?_
  refine zg_if_ne (tgt := 11) C (by omega) (by omega) dX5_count_1 (by decide) (fun c_1 => ?_) (fun c_1 => ?_)
  · refine zg_iload_n C dX5_count_11 rfl (lv_at hl 1 rfl) ?_
    refine zg_iconst C dX5_count_12 ?_
    refine zg_icmp_ne (tgt := 23) C (by omega) (by omega) (by omega) (by omega) dX5_count_13 (by decide) (fun c_2 => ?_) (fun c_2 => ?_)
    · refine zg_iload_n C dX5_count_23 rfl (lv_at hl 1 rfl) ?_
      refine zg_iconst C dX5_count_24 ?_
      refine zg_icmp_ne (tgt := 35) C (by omega) (by omega) (by omega) (by omega) dX5_count_25 (by decide) (fun c_3 => ?_) (fun c_3 => ?_)
      · refine zg_bipush C dX5_count_35 (by decide) ?_
        refine zg_iret C hP hS dX5_count_37 ?_
        exact ⟨congrArg jI (by first | (simp [kCouR, c_1, c_2, c_3]; done) | grind [kCouR, mIn, kIsC, kHolds, kIsR]), rfl⟩
      · refine zg_aload_n C dX5_count_28 rfl (lv_at hl 0 rfl) ?_
        refine zg_get (j := 28) C X hP (by decide) lyM_0 rfl (zmem uwX5) (by decide) (C.tb flX5_148) (fun _ h9 => h9) rfl dX5_count_29 ?_
        rw [rr_0_28 hM]
        refine zg_goto (tgt := 37) C dX5_count_32 (by decide) ?_
        refine zg_iret C hP hS dX5_count_37 ?_
        exact ⟨congrArg jI (by first | (simp [kCouR, c_1, c_2, c_3]; done) | grind [kCouR, mIn, kIsC, kHolds, kIsR]), rfl⟩
    · refine zg_aload_n C dX5_count_16 rfl (lv_at hl 0 rfl) ?_
      refine zg_get (j := 25) C X hP (by decide) lyM_0 rfl (zmem uwX5) (by decide) (C.tb flX5_145) (fun _ h9 => h9) rfl dX5_count_17 ?_
      rw [rr_0_25 hM]
      have b_4 := rgS_16_2 hG.1
      have b_5 := rgM_0_25 hR
      refine zg_goto (tgt := 37) C dX5_count_20 (by decide) ?_
      refine zg_iret C hP hS dX5_count_37 ?_
      exact ⟨congrArg jI (by first | (simp [kCouR, c_1, c_2]; done) | grind [kCouR, mIn, kIsC, kHolds, kIsR]), rfl⟩
  · refine zg_aload_n C dX5_count_4 rfl (lv_at hl 0 rfl) ?_
    refine zg_get (j := 1) C X hP (by decide) lyM_0 rfl (zmem uwX5) (by decide) (C.tb flX5_135) (fun _ h9 => h9) rfl dX5_count_5 ?_
    rw [rr_0_1 hM]
    have b_6 := rgS_1_10 hG.1
    have b_7 := rgM_0_1 hR
    refine zg_goto (tgt := 37) C dX5_count_8 (by decide) ?_
    refine zg_iret C hP hS dX5_count_37 ?_
    exact ⟨congrArg jI (by first | (simp [kCouR, c_1]; done) | grind [kCouR, mIn, kIsC, kHolds, kIsR]), rfl⟩
set_option maxHeartbeats 4000000 in
set_option maxRecDepth 100000 in
theorem lpX5_about_70 {l : Launch} {D : va_G} {a : Nat → Nat} {cI cZ : ClassId} {p : Program} {e : Env} {s : State} {m : MethodId} {below : List Frame} {meth : Method} {c : Code} {A : Nat → Prop} (σ : Zt) (hR : rgM σ) (κ : Zt) (hM : RR κ σ) (hG : kMid κ) (x : Int) (y : Int) (w : Int) (x0 : -2147483648 ≤ x) (x1 : x < 2147483648) (y0 : -2147483648 ≤ y) (y1 : y < 2147483648) (w0 : -2147483648 ≤ w) (w1 : w < 2147483648) (xR : kIsR x = true) (hw : w = 1 ∨ w = 3) (C : zk p s m ([.ref (a 0), .int (jI x), .int (jI y), .int (jI w)] : List Value).toArray meth c cX5_about 6 (some .int) wsX5_about RX5) (X : zx D vwCl (tyM cI cZ) A a 28 s) :
    ∀ (n : Nat) (al d : Int) (H : Heap) (locs : List Loc) (ls : Array Slot), ((401 - d).toNat < n) → (0 ≤ d) → (d ≤ κ 1 10) → (al = kSum (mAb κ x.toNat w) d.toNat) → va_P D vwCl (zw 28 (layM cI cZ a) a σ) H → va_S A s.heap H locs → lv_has ls 6 [(0, .ref (a 0)), (1, .int (jI x)), (2, .int (jI y)), (3, .int (jI w)), (4, .int (jI al)), (5, .int (jI d))] →
      W p l e ({ frames := 2, cells := 0, slots := 0, locals := 45 }) s m ([.ref (a 0), .int (jI x), .int (jI y), .int (jI w)] : List Value).toArray below meth c H locs 0 0 (MQ below (va_Qi (fun r_ u_ => r_ = jI (kAboR κ x y w) ∧ u_ = σ) (fun (u : Zt) t => va_P D vwCl (zw 28 (layM cI cZ a) a u) t.heap) A) ([.ref (a 0), .int (jI x), .int (jI y), .int (jI w)] : List Value).toArray s 0 0 A) (F0 m 70 ls []) := by
  intro n
  induction n with
  | zero =>
    intro al d  H locs ls hn d0 d1 hE hP hS hl
    exact absurd hn (by omega)
  | succ n ih =>
    intro al d  H locs ls hn d0 d1 hE hP hS hl
    have bT := rgS_1_10 hG.1
    have bP := rgS_11_4 hG.1
    have bPT := hG.e.1
    have bx := kIsR_t xR
    refine zg_iload C dX5_about_70 (lv_at hl 5 rfl) ?_
    refine zg_aload_n C dX5_about_72 rfl (lv_at hl 0 rfl) ?_
    refine zg_get (j := 1) C X hP (by decide) lyM_0 rfl (zmem uwX5) (by decide) (C.tb flX5_135) (fun _ h9 => h9) rfl dX5_about_73 ?_
    rw [rr_0_1 hM]
    have b_1 := rgS_1_10 hG.1
    have b_2 := rgM_0_1 hR
    refine zg_icmp_ge (tgt := 144) C (by omega) (by omega) (by omega) (by omega) dX5_about_76 (by decide) (fun c_3 => ?_) (fun c_3 => ?_)
    · refine zg_iload C dX5_about_144 (lv_at hl 4 rfl) ?_
      refine zg_iret C hP hS dX5_about_146 ?_
      exact ⟨congrArg jI (by rw [hE, show d = κ 1 10 by omega, kAbo_sum hG xR hw]), rfl⟩
    · refine zg_iload C dX5_about_79 (lv_at hl 4 rfl) ?_
      refine zg_iload_n C dX5_about_81 rfl (lv_at hl 3 rfl) ?_
      refine zg_iconst C dX5_about_82 ?_
      refine zg_icmp_ne (tgt := 110) C (by omega) (by omega) (by omega) (by omega) dX5_about_83 (by decide) (fun c_4 => ?_) (fun c_4 => ?_)
      · refine zg_aload_n C dX5_about_110 rfl (lv_at hl 0 rfl) ?_
        refine zg_get (j := 5) C X hP (by decide) lyM_0 rfl (zmem uwX5) (by decide) (C.tb flX5_23) (fun _ h9 => h9) rfl dX5_about_111 ?_
        refine zg_iload C dX5_about_114 (lv_at hl 5 rfl) ?_
        refine zg_iald (t0 := 0) C X hP (by decide) lyM_4 rfl (by decide) (by omega) (by omega) dX5_about_116 ?_
        rw [rr_4 hM]
        have b_5 := rgS_5 hG.1 (d).toNat
        have b_6 := rgM_4 hR ((d).toNat)
        refine zg_if_ne (tgt := 134) C (by omega) (by omega) dX5_about_117 (by decide) (fun c_7 => ?_) (fun c_7 => ?_)
        · refine zg_iconst C dX5_about_134 ?_
          refine zg_iadd C dX5_about_135 ?_
          refine zg_istore (lv' := [(4, .int (jI (al + 0))), (0, .ref (a 0)), (1, .int (jI x)), (2, .int (jI y)), (3, .int (jI w)), (5, .int (jI d))]) C dX5_about_136 hl (by decide) rfl (fun ls hl => ?_)
          refine zg_iinc (k := 5) (lv' := [(5, .int (jI (d + 1))), (4, .int (jI (al + 0))), (0, .ref (a 0)), (1, .int (jI x)), (2, .int (jI y)), (3, .int (jI w))]) C dX5_about_138 hl rfl (by decide) rfl (fun ls hl => ?_)
          refine zg_goto (tgt := 70) C dX5_about_141 (by decide) ?_
          exact ih (al + 0) (d + 1) _ _ _ (by omega) (by omega) (by omega) (by rw [kSum_step d0, ← hE]; unfold mAb; first | (rw [if_pos (by assumption)]; omega) | (rw [if_neg (by assumption), Int.toNat_of_nonneg d0]; simp [c_3, c_4, c_7, bI])) hP hS (lv_sub hl [2, 3, 4, 5, 1, 0] rfl)
        · refine zg_aload_n C dX5_about_120 rfl (lv_at hl 0 rfl) ?_
          refine zg_iload_n C dX5_about_121 rfl (lv_at hl 1 rfl) ?_
          refine zg_iload C dX5_about_122 (lv_at hl 5 rfl) ?_
          refine zg_callV C X hP hS (kX5_has l σ hR κ hM hG x d (by omega) (by omega) (by omega) (by omega)) (cwV 2 C.ts (zgV mlX5_106 imX5_has slX5_has iniX5 cdX5_has) rfl rfl rfl (by decide +kernel) ⟨Nat.le_of_ble_eq_true rfl, Nat.le_of_ble_eq_true rfl⟩) (by decide) lyM_0 rfl rfl rfl hl.1 rfl (Nat.le_of_ble_eq_true rfl) dX5_about_124 ⟨Nat.zero_le _, Nat.zero_le _⟩ (fun r_9 σ8 H locs q10 hP hS => ?_)
          obtain ⟨rfl, q10⟩ := q10
          rw [q10] at hP
          refine zg_ifeqB (tgt := 134) C dX5_about_127 (by decide) (fun c_11 => ?_) (fun c_11 => ?_)
          · refine zg_iconst C dX5_about_134 ?_
            refine zg_iadd C dX5_about_135 ?_
            refine zg_istore (lv' := [(4, .int (jI (al + 0))), (0, .ref (a 0)), (1, .int (jI x)), (2, .int (jI y)), (3, .int (jI w)), (5, .int (jI d))]) C dX5_about_136 hl (by decide) rfl (fun ls hl => ?_)
            refine zg_iinc (k := 5) (lv' := [(5, .int (jI (d + 1))), (4, .int (jI (al + 0))), (0, .ref (a 0)), (1, .int (jI x)), (2, .int (jI y)), (3, .int (jI w))]) C dX5_about_138 hl rfl (by decide) rfl (fun ls hl => ?_)
            refine zg_goto (tgt := 70) C dX5_about_141 (by decide) ?_
            exact ih (al + 0) (d + 1) _ _ _ (by omega) (by omega) (by omega) (by rw [kSum_step d0, ← hE]; unfold mAb; first | (rw [if_pos (by assumption)]; omega) | (rw [if_neg (by assumption), Int.toNat_of_nonneg d0]; simp [c_3, c_4, c_7, c_11, bI])) hP hS (lv_sub hl [2, 3, 4, 5, 1, 0] rfl)
          · refine zg_iconst C dX5_about_130 ?_
            refine zg_goto (tgt := 135) C dX5_about_131 (by decide) ?_
            refine zg_iadd C dX5_about_135 ?_
            refine zg_istore (lv' := [(4, .int (jI (al + 1))), (0, .ref (a 0)), (1, .int (jI x)), (2, .int (jI y)), (3, .int (jI w)), (5, .int (jI d))]) C dX5_about_136 hl (by decide) rfl (fun ls hl => ?_)
            refine zg_iinc (k := 5) (lv' := [(5, .int (jI (d + 1))), (4, .int (jI (al + 1))), (0, .ref (a 0)), (1, .int (jI x)), (2, .int (jI y)), (3, .int (jI w))]) C dX5_about_138 hl rfl (by decide) rfl (fun ls hl => ?_)
            refine zg_goto (tgt := 70) C dX5_about_141 (by decide) ?_
            exact ih (al + 1) (d + 1) _ _ _ (by omega) (by omega) (by omega) (by rw [kSum_step d0, ← hE]; unfold mAb; first | (rw [if_pos (by assumption)]; omega) | (rw [if_neg (by assumption), Int.toNat_of_nonneg d0]; simp [c_3, c_4, c_7, c_11, bI])) hP hS (lv_sub hl [2, 3, 4, 5, 1, 0] rfl)
      · refine zg_aload_n C dX5_about_86 rfl (lv_at hl 0 rfl) ?_
        refine zg_get (j := 19) C X hP (by decide) lyM_0 rfl (zmem uwX5) (by decide) (C.tb flX5_63) (fun _ h9 => h9) rfl dX5_about_87 ?_
        refine zg_sipush C dX5_about_90 (by decide) ?_
        refine zg_iload_n C dX5_about_93 rfl (lv_at hl 1 rfl) ?_
        refine zg_imul C dX5_about_94 ?_
        refine zg_iload C dX5_about_95 (lv_at hl 5 rfl) ?_
        refine zg_iadd C dX5_about_97 ?_
        refine zg_zald (t0 := 1) C X hP (by decide) lyM_17 rfl (by decide) (by omega) (by omega) dX5_about_98 ?_
        rw [rr_17 hM (x := x) (d := d) (by omega) (by omega) (by omega) (by omega)]
        have b_12 := rgS_22 hG.1 (r := x.toNat) (by omega) d.toNat
        have b_13 := rgM_17 hR (((400 * x) + d).toNat)
        refine zg_if_eq (tgt := 106) C (by omega) (by omega) dX5_about_99 (by decide) (fun c_14 => ?_) (fun c_14 => ?_)
        · refine zg_iconst C dX5_about_106 ?_
          refine zg_goto (tgt := 135) C dX5_about_107 (by decide) ?_
          refine zg_iadd C dX5_about_135 ?_
          refine zg_istore (lv' := [(4, .int (jI (al + 0))), (0, .ref (a 0)), (1, .int (jI x)), (2, .int (jI y)), (3, .int (jI w)), (5, .int (jI d))]) C dX5_about_136 hl (by decide) rfl (fun ls hl => ?_)
          refine zg_iinc (k := 5) (lv' := [(5, .int (jI (d + 1))), (4, .int (jI (al + 0))), (0, .ref (a 0)), (1, .int (jI x)), (2, .int (jI y)), (3, .int (jI w))]) C dX5_about_138 hl rfl (by decide) rfl (fun ls hl => ?_)
          refine zg_goto (tgt := 70) C dX5_about_141 (by decide) ?_
          exact ih (al + 0) (d + 1) _ _ _ (by omega) (by omega) (by omega) (by rw [kSum_step d0, ← hE]; unfold mAb; first | (rw [if_pos (by assumption)]; omega) | (rw [if_neg (by assumption), Int.toNat_of_nonneg d0]; simp [c_3, c_4, c_14, bI])) hP hS (lv_sub hl [2, 3, 4, 5, 1, 0] rfl)
        · refine zg_iconst C dX5_about_102 ?_
          refine zg_goto (tgt := 135) C dX5_about_103 (by decide) ?_
          refine zg_iadd C dX5_about_135 ?_
          refine zg_istore (lv' := [(4, .int (jI (al + 1))), (0, .ref (a 0)), (1, .int (jI x)), (2, .int (jI y)), (3, .int (jI w)), (5, .int (jI d))]) C dX5_about_136 hl (by decide) rfl (fun ls hl => ?_)
          refine zg_iinc (k := 5) (lv' := [(5, .int (jI (d + 1))), (4, .int (jI (al + 1))), (0, .ref (a 0)), (1, .int (jI x)), (2, .int (jI y)), (3, .int (jI w))]) C dX5_about_138 hl rfl (by decide) rfl (fun ls hl => ?_)
          refine zg_goto (tgt := 70) C dX5_about_141 (by decide) ?_
          exact ih (al + 1) (d + 1) _ _ _ (by omega) (by omega) (by omega) (by rw [kSum_step d0, ← hE]; unfold mAb; first | (rw [if_pos (by assumption)]; omega) | (rw [if_neg (by assumption), Int.toNat_of_nonneg d0]; simp [c_3, c_4, c_14, bI])) hP hS (lv_sub hl [2, 3, 4, 5, 1, 0] rfl)
set_option maxHeartbeats 4000000 in
set_option maxRecDepth 100000 in
theorem kX5_about (l : Launch) {D : va_G} {a : Nat → Nat} {cI cZ : ClassId} (σ : Zt) (hR : rgM σ) (κ : Zt) (hM : RR κ σ) (hG : kMid κ) (x : Int) (y : Int) (w : Int) (x0 : -2147483648 ≤ x) (x1 : x < 2147483648) (y0 : -2147483648 ≤ y) (y1 : y < 2147483648) (w0 : -2147483648 ≤ w) (w1 : w < 2147483648) : zc l D vwCl (tyM cI cZ) 28 (layM cI cZ a) a yX5_about wsX5_about ({ frames := 2, cells := 0, slots := 0, locals := 45 }) [.ref (a 0), .int (jI x), .int (jI y), .int (jI w)] σ (fun r_ u_ => r_ = jI (kAboR κ x y w) ∧ u_ = σ) := by
  refine zc_of (cc := cX5_about) (maxL := 6) (ret := some .int) (own := RX5) (by decide) rfl rfl (Nat.le_of_ble_eq_true rfl) rfl ?_
  intro p e s m below meth c A ls C X hP hS hl
  have bT := rgS_1_10 hG.1
  have bP := rgS_11_4 hG.1
  have bPT := hG.e.1
  refine zg_iload_n C dX5_about_0 rfl (lv_at hl 1 rfl) ?_
  refine zg_callS C X hP hS (kX5_isReplica l σ hR κ hM hG x (by omega) (by omega)) (cwS 1 C.ts (zgS mlX5_102 stX5_isReplica iniX5 cdX5_isReplica) rfl rfl rfl (by decide +kernel) ⟨Nat.le_of_ble_eq_true rfl, Nat.le_of_ble_eq_true rfl⟩) rfl hl.1 rfl (Nat.le_of_ble_eq_true rfl) dX5_about_1 ⟨Nat.zero_le _, Nat.zero_le _⟩ (fun r_16 σ15 H locs q17 hP hS => ?_)
  obtain ⟨rfl, q17⟩ := q17
  rw [q17] at hP
  refine zg_ifeqB (tgt := 18) C dX5_about_4 (by decide) (fun c_18 => ?_) (fun c_18 => ?_)
  · have b_19 := kIsR_f c_18
    refine zg_bipush C dX5_about_18 (by decide) ?_
    refine zg_iret C hP hS dX5_about_20 ?_
    exact ⟨congrArg jI (by grind [kAboR]), rfl⟩
  · have b_20 := kIsR_t c_18
    refine zg_iload_n C dX5_about_7 rfl (lv_at hl 3 rfl) ?_
    refine zg_if_ne (tgt := 21) C (by omega) (by omega) dX5_about_8 (by decide) (fun c_21 => ?_) (fun c_21 => ?_)
    · refine zg_iload_n C dX5_about_21 rfl (lv_at hl 3 rfl) ?_
      refine zg_if_ne (tgt := 37) C (by omega) (by omega) dX5_about_22 (by decide) (fun c_22 => ?_) (fun c_22 => ?_)
      · refine zg_iload_n C dX5_about_37 rfl (lv_at hl 3 rfl) ?_
        refine zg_iconst C dX5_about_38 ?_
        refine zg_icmp_ne (tgt := 49) C (by omega) (by omega) (by omega) (by omega) dX5_about_39 (by decide) (fun c_23 => ?_) (fun c_23 => ?_)
        · refine zg_iload_n C dX5_about_49 rfl (lv_at hl 3 rfl) ?_
          refine zg_i2l C (by omega) (by omega) dX5_about_50 ?_
          refine zg_lconst C 1 rfl dX5_about_51 ?_
          refine zg_ldc2 (v := 3) C (C.tb klX5_201) rfl dX5_about_52 ?_
          refine zg_callS C X hP hS (kX5_in l σ hR κ hM hG w 1 3 (by omega) (by omega) (by omega) (by omega) (by omega) (by omega)) (cwS 3 C.ts (zgS mlX5_98 stX5_in iniX5 cdX5_in) rfl rfl rfl (by decide +kernel) ⟨Nat.le_of_ble_eq_true rfl, Nat.le_of_ble_eq_true rfl⟩) rfl hl.1 rfl (Nat.le_of_ble_eq_true rfl) dX5_about_55 ⟨Nat.zero_le _, Nat.zero_le _⟩ (fun r_25 σ24 H locs q26 hP hS => ?_)
          obtain ⟨rfl, q26⟩ := q26
          rw [q26] at hP
          refine zg_ifneB (tgt := 64) C dX5_about_58 (by decide) (fun c_27 => ?_) (fun c_27 => ?_)
          · have b_28 := mIn_t c_27
            refine zg_iconst C dX5_about_64 ?_
            refine zg_istore (lv' := [(4, .int (jI 0)), (0, .ref (a 0)), (1, .int (jI x)), (2, .int (jI y)), (3, .int (jI w))]) C dX5_about_65 hl (by decide) rfl (fun ls hl => ?_)
            refine zg_iconst C dX5_about_67 ?_
            refine zg_istore (lv' := [(5, .int (jI 0)), (4, .int (jI 0)), (0, .ref (a 0)), (1, .int (jI x)), (2, .int (jI y)), (3, .int (jI w))]) C dX5_about_68 hl (by decide) rfl (fun ls hl => ?_)
            exact lpX5_about_70 σ hR κ hM hG x y w x0 x1 y0 y1 w0 w1 (by assumption) (by omega) C X 402 0 0 _ _ _ (by omega) (by omega) (by omega) rfl hP hS (lv_sub hl [2, 3, 4, 5, 1, 0] rfl)
          · have b_29 := mIn_f c_27
            refine zg_bipush C dX5_about_61 (by decide) ?_
            refine zg_iret C hP hS dX5_about_63 ?_
            exact ⟨congrArg jI (by grind [kAboR, mIn]), rfl⟩
        · refine zg_aload_n C dX5_about_42 rfl (lv_at hl 0 rfl) ?_
          refine zg_get (j := 22) C X hP (by decide) lyM_0 rfl (zmem uwX5) (by decide) (C.tb flX5_72) (fun _ h9 => h9) rfl dX5_about_43 ?_
          refine zg_iload_n C dX5_about_46 rfl (lv_at hl 1 rfl) ?_
          refine zg_iald (t0 := 0) C X hP (by decide) lyM_20 rfl (by decide) (by omega) (by omega) dX5_about_47 ?_
          rw [rr_20 hM (x := x) (by omega) (by omega)]
          have b_30 := rgS_20_4 hG.1 (r := x.toNat) (by omega)
          have b_31 := rgM_20 hR ((x).toNat)
          refine zg_iret C hP hS dX5_about_48 ?_
          exact ⟨congrArg jI (by grind [kAboR]), rfl⟩
      · refine zg_aload_n C dX5_about_25 rfl (lv_at hl 0 rfl) ?_
        refine zg_get (j := 21) C X hP (by decide) lyM_0 rfl (zmem uwX5) (by decide) (C.tb flX5_69) (fun _ h9 => h9) rfl dX5_about_26 ?_
        refine zg_bipush C dX5_about_29 (by decide) ?_
        refine zg_iload_n C dX5_about_31 rfl (lv_at hl 1 rfl) ?_
        refine zg_imul C dX5_about_32 ?_
        refine zg_iload_n C dX5_about_33 rfl (lv_at hl 2 rfl) ?_
        refine zg_iadd C dX5_about_34 ?_
        refine zg_iald (t0 := 0) C X hP (by decide) lyM_19 rfl (by decide) (by omega) (by omega) dX5_about_35 ?_
        rw [rr_19 hM (x := x) (d := y) (by omega) (by omega) (by omega) (by omega)]
        have b_32 := rgS_21 hG.1 (r := x.toNat) (by omega) y.toNat
        have b_33 := rgM_19 hR (((6 * x) + y).toNat)
        refine zg_iret C hP hS dX5_about_36 ?_
        exact ⟨congrArg jI (by grind [kAboR]), rfl⟩
    · refine zg_iload_n C dX5_about_11 rfl (lv_at hl 2 rfl) ?_
      refine zg_callS C X hP hS (kX5_isReplica l σ hR κ hM hG y (by omega) (by omega)) (cwS 1 C.ts (zgS mlX5_102 stX5_isReplica iniX5 cdX5_isReplica) rfl rfl rfl (by decide +kernel) ⟨Nat.le_of_ble_eq_true rfl, Nat.le_of_ble_eq_true rfl⟩) rfl hl.1 rfl (Nat.le_of_ble_eq_true rfl) dX5_about_12 ⟨Nat.zero_le _, Nat.zero_le _⟩ (fun r_35 σ34 H locs q36 hP hS => ?_)
      obtain ⟨rfl, q36⟩ := q36
      rw [q36] at hP
      refine zg_ifneB (tgt := 21) C dX5_about_15 (by decide) (fun c_37 => ?_) (fun c_37 => ?_)
      · have b_38 := kIsR_t c_37
        refine zg_iload_n C dX5_about_21 rfl (lv_at hl 3 rfl) ?_
        refine zg_if_ne (tgt := 37) C (by omega) (by omega) dX5_about_22 (by decide) (fun c_39 => ?_) (fun c_39 => ?_)
        · refine zg_iload_n C dX5_about_37 rfl (lv_at hl 3 rfl) ?_
          refine zg_iconst C dX5_about_38 ?_
          refine zg_icmp_ne (tgt := 49) C (by omega) (by omega) (by omega) (by omega) dX5_about_39 (by decide) (fun c_40 => ?_) (fun c_40 => ?_)
          · refine zg_iload_n C dX5_about_49 rfl (lv_at hl 3 rfl) ?_
            refine zg_i2l C (by omega) (by omega) dX5_about_50 ?_
            refine zg_lconst C 1 rfl dX5_about_51 ?_
            refine zg_ldc2 (v := 3) C (C.tb klX5_201) rfl dX5_about_52 ?_
            refine zg_callS C X hP hS (kX5_in l σ hR κ hM hG w 1 3 (by omega) (by omega) (by omega) (by omega) (by omega) (by omega)) (cwS 3 C.ts (zgS mlX5_98 stX5_in iniX5 cdX5_in) rfl rfl rfl (by decide +kernel) ⟨Nat.le_of_ble_eq_true rfl, Nat.le_of_ble_eq_true rfl⟩) rfl hl.1 rfl (Nat.le_of_ble_eq_true rfl) dX5_about_55 ⟨Nat.zero_le _, Nat.zero_le _⟩ (fun r_42 σ41 H locs q43 hP hS => ?_)
            obtain ⟨rfl, q43⟩ := q43
            rw [q43] at hP
            refine zg_ifneB (tgt := 64) C dX5_about_58 (by decide) (fun c_44 => ?_) (fun c_44 => ?_)
            · have b_45 := mIn_t c_44
              refine zg_iconst C dX5_about_64 ?_
              refine zg_istore (lv' := [(4, .int (jI 0)), (0, .ref (a 0)), (1, .int (jI x)), (2, .int (jI y)), (3, .int (jI w))]) C dX5_about_65 hl (by decide) rfl (fun ls hl => ?_)
              refine zg_iconst C dX5_about_67 ?_
              refine zg_istore (lv' := [(5, .int (jI 0)), (4, .int (jI 0)), (0, .ref (a 0)), (1, .int (jI x)), (2, .int (jI y)), (3, .int (jI w))]) C dX5_about_68 hl (by decide) rfl (fun ls hl => ?_)
              exact lpX5_about_70 σ hR κ hM hG x y w x0 x1 y0 y1 w0 w1 (by assumption) (by omega) C X 402 0 0 _ _ _ (by omega) (by omega) (by omega) rfl hP hS (lv_sub hl [2, 3, 4, 5, 1, 0] rfl)
            · have b_46 := mIn_f c_44
              refine zg_bipush C dX5_about_61 (by decide) ?_
              refine zg_iret C hP hS dX5_about_63 ?_
              exact ⟨congrArg jI (by grind [kAboR, mIn]), rfl⟩
          · refine zg_aload_n C dX5_about_42 rfl (lv_at hl 0 rfl) ?_
            refine zg_get (j := 22) C X hP (by decide) lyM_0 rfl (zmem uwX5) (by decide) (C.tb flX5_72) (fun _ h9 => h9) rfl dX5_about_43 ?_
            refine zg_iload_n C dX5_about_46 rfl (lv_at hl 1 rfl) ?_
            refine zg_iald (t0 := 0) C X hP (by decide) lyM_20 rfl (by decide) (by omega) (by omega) dX5_about_47 ?_
            rw [rr_20 hM (x := x) (by omega) (by omega)]
            have b_47 := rgS_20_4 hG.1 (r := x.toNat) (by omega)
            have b_48 := rgM_20 hR ((x).toNat)
            refine zg_iret C hP hS dX5_about_48 ?_
            exact ⟨congrArg jI (by grind [kAboR]), rfl⟩
        · refine zg_aload_n C dX5_about_25 rfl (lv_at hl 0 rfl) ?_
          refine zg_get (j := 21) C X hP (by decide) lyM_0 rfl (zmem uwX5) (by decide) (C.tb flX5_69) (fun _ h9 => h9) rfl dX5_about_26 ?_
          refine zg_bipush C dX5_about_29 (by decide) ?_
          refine zg_iload_n C dX5_about_31 rfl (lv_at hl 1 rfl) ?_
          refine zg_imul C dX5_about_32 ?_
          refine zg_iload_n C dX5_about_33 rfl (lv_at hl 2 rfl) ?_
          refine zg_iadd C dX5_about_34 ?_
          refine zg_iald (t0 := 0) C X hP (by decide) lyM_19 rfl (by decide) (by omega) (by omega) dX5_about_35 ?_
          rw [rr_19 hM (x := x) (d := y) (by omega) (by omega) (by omega) (by omega)]
          have b_49 := rgS_21 hG.1 (r := x.toNat) (by omega) y.toNat
          have b_50 := rgM_19 hR (((6 * x) + y).toNat)
          refine zg_iret C hP hS dX5_about_36 ?_
          exact ⟨congrArg jI (by grind [kAboR]), rfl⟩
      · have b_51 := kIsR_f c_37
        refine zg_bipush C dX5_about_18 (by decide) ?_
        refine zg_iret C hP hS dX5_about_20 ?_
        exact ⟨congrArg jI (by grind [kAboR]), rfl⟩
set_option maxHeartbeats 4000000 in
set_option maxRecDepth 100000 in
theorem lpX5_same_19 {l : Launch} {D : va_G} {a : Nat → Nat} {cI cZ : ClassId} {p : Program} {e : Env} {s : State} {m : MethodId} {below : List Frame} {meth : Method} {c : Code} {A : Nat → Prop} (σ : Zt) (hR : rgM σ) (κ : Zt) (hM : RR κ σ) (hG : kMid κ) (x : Int) (y : Int) (x0 : -2147483648 ≤ x) (x1 : x < 2147483648) (y0 : -2147483648 ≤ y) (y1 : y < 2147483648) (xR : kIsR x = true) (yR : kIsR y = true) (C : zk p s m ([.ref (a 0), .int (jI x), .int (jI y)] : List Value).toArray meth c cX5_same 5 (some .int) wsX5_same RX5) (X : zx D vwCl (tyM cI cZ) A a 28 s) :
    ∀ (n : Nat) (i : Int) (H : Heap) (locs : List Loc) (ls : Array Slot), ((401 - i).toNat < n) → (0 ≤ i) → (i ≤ κ 11 4) → (kSame κ x.toNat y.toNat (κ 11 4).toNat 0 = kSame κ x.toNat y.toNat (κ 11 4 - i).toNat i.toNat) → va_P D vwCl (zw 28 (layM cI cZ a) a σ) H → va_S A s.heap H locs → lv_has ls 5 [(0, .ref (a 0)), (1, .int (jI x)), (2, .int (jI y)), (3, .int (jI i))] →
      W p l e ({ frames := 2, cells := 0, slots := 0, locals := 49 }) s m ([.ref (a 0), .int (jI x), .int (jI y)] : List Value).toArray below meth c H locs 0 0 (MQ below (va_Qi (fun r_ u_ => r_ = jI (kSamR κ x y) ∧ u_ = σ) (fun (u : Zt) t => va_P D vwCl (zw 28 (layM cI cZ a) a u) t.heap) A) ([.ref (a 0), .int (jI x), .int (jI y)] : List Value).toArray s 0 0 A) (F0 m 19 ls []) := by
  intro n
  induction n with
  | zero =>
    intro i  H locs ls hn i0 i1 hE hP hS hl
    exact absurd hn (by omega)
  | succ n ih =>
    intro i  H locs ls hn i0 i1 hE hP hS hl
    have bT := rgS_1_10 hG.1
    have bP := rgS_11_4 hG.1
    have bPT := hG.e.1
    have bx := kIsR_t xR
    have by_ := kIsR_t yR
    refine zg_iload_n C dX5_same_19 rfl (lv_at hl 3 rfl) ?_
    refine zg_aload_n C dX5_same_20 rfl (lv_at hl 0 rfl) ?_
    refine zg_get (j := 15) C X hP (by decide) lyM_0 rfl (zmem uwX5) (by decide) (C.tb flX5_110) (fun _ h9 => h9) rfl dX5_same_21 ?_
    rw [rr_0_15 hM]
    have b_1 := rgS_11_4 hG.1
    have b_2 := rgM_0_15 hR
    refine zg_icmp_ge (tgt := 87) C (by omega) (by omega) (by omega) (by omega) dX5_same_24 (by decide) (fun c_3 => ?_) (fun c_3 => ?_)
    · refine zg_iconst C dX5_same_87 ?_
      refine zg_iret C hP hS dX5_same_88 ?_
      exact ⟨congrArg jI (by unfold kSamR; rw [if_pos xR, if_pos yR, hE, kSame_end (by assumption)]), rfl⟩
    · refine zg_aload_n C dX5_same_27 rfl (lv_at hl 0 rfl) ?_
      refine zg_get (j := 16) C X hP (by decide) lyM_0 rfl (zmem uwX5) (by decide) (C.tb flX5_54) (fun _ h9 => h9) rfl dX5_same_28 ?_
      refine zg_iload_n C dX5_same_31 rfl (lv_at hl 3 rfl) ?_
      refine zg_iald (t0 := 0) C X hP (by decide) lyM_14 rfl (by decide) (by omega) (by omega) dX5_same_32 ?_
      rw [rr_14 hM]
      have b_4 := rgS_14 hG.1 (i).toNat
      have b_5 := rgM_14 hR ((i).toNat)
      refine zg_istore (lv' := [(4, .int (jI (κ 14 (i).toNat))), (0, .ref (a 0)), (1, .int (jI x)), (2, .int (jI y)), (3, .int (jI i))]) C dX5_same_33 hl (by decide) rfl (fun ls hl => ?_)
      have bO := (hG.e.2.1 i.toNat (by omega)).1
      refine zg_aload_n C dX5_same_35 rfl (lv_at hl 1 rfl) ?_
      refine zg_iload_n C dX5_same_36 rfl (lv_at hl 2 rfl) ?_
      refine zg_iload C dX5_same_37 (lv_at hl 0 rfl) ?_
      refine zg_callV C X hP hS (kX5_lives l σ hR κ hM hG x (κ 14 (i).toNat) (by omega) (by omega) (by omega) (by omega)) (cwV 2 C.ts (zgV mlX5_113 imX5_lives slX5_lives iniX5 cdX5_lives) rfl rfl rfl (by decide +kernel) ⟨Nat.le_of_ble_eq_true rfl, Nat.le_of_ble_eq_true rfl⟩) (by decide) lyM_0 rfl rfl rfl hl.1 rfl (Nat.le_of_ble_eq_true rfl) dX5_same_39 ⟨Nat.zero_le _, Nat.zero_le _⟩ (fun r_7 σ6 H locs q8 hP hS => ?_)
      obtain ⟨rfl, q8⟩ := q8
      rw [q8] at hP
      refine zg_aload_n C dX5_same_42 rfl (lv_at hl 1 rfl) ?_
      refine zg_iload_n C dX5_same_43 rfl (lv_at hl 3 rfl) ?_
      refine zg_iload C dX5_same_44 (lv_at hl 0 rfl) ?_
      refine zg_callV C X hP hS (kX5_lives l σ hR κ hM hG y (κ 14 (i).toNat) (by omega) (by omega) (by omega) (by omega)) (cwV 2 C.ts (zgV mlX5_113 imX5_lives slX5_lives iniX5 cdX5_lives) rfl rfl rfl (by decide +kernel) ⟨Nat.le_of_ble_eq_true rfl, Nat.le_of_ble_eq_true rfl⟩) (by decide) lyM_0 rfl rfl rfl hl.1 rfl (Nat.le_of_ble_eq_true rfl) dX5_same_46 ⟨Nat.zero_le _, Nat.zero_le _⟩ (fun r_10 σ9 H locs q11 hP hS => ?_)
      obtain ⟨rfl, q11⟩ := q11
      rw [q11] at hP
      have b_13 := bI_01 (kAlive κ y.toNat (κ 14 (i).toNat))
      have b_14 := bI_01 (kAlive κ x.toNat (κ 14 (i).toNat))
      refine zg_icmp_ne (tgt := 79) C (by omega) (by omega) (by omega) (by omega) dX5_same_49 (by decide) (fun c_12 => ?_) (fun c_12 => ?_)
      · refine zg_iconst C dX5_same_79 ?_
        refine zg_iret C hP hS dX5_same_80 ?_
        exact ⟨congrArg jI (by unfold kSamR; rw [if_pos xR, if_pos yR, hE, kSame_no (by assumption) (by grind [kAlike, bI_inj])]), rfl⟩
      · refine zg_aload_n C dX5_same_52 rfl (lv_at hl 1 rfl) ?_
        refine zg_iload_n C dX5_same_53 rfl (lv_at hl 2 rfl) ?_
        refine zg_iload C dX5_same_54 (lv_at hl 0 rfl) ?_
        refine zg_callV C X hP hS (kX5_lives l σ hR κ hM hG x (κ 14 (i).toNat) (by omega) (by omega) (by omega) (by omega)) (cwV 2 C.ts (zgV mlX5_113 imX5_lives slX5_lives iniX5 cdX5_lives) rfl rfl rfl (by decide +kernel) ⟨Nat.le_of_ble_eq_true rfl, Nat.le_of_ble_eq_true rfl⟩) (by decide) lyM_0 rfl rfl rfl hl.1 rfl (Nat.le_of_ble_eq_true rfl) dX5_same_56 ⟨Nat.zero_le _, Nat.zero_le _⟩ (fun r_16 σ15 H locs q17 hP hS => ?_)
        obtain ⟨rfl, q17⟩ := q17
        rw [q17] at hP
        refine zg_ifeqB (tgt := 81) C dX5_same_59 (by decide) (fun c_18 => ?_) (fun c_18 => ?_)
        · refine zg_iinc (k := 4) (lv' := [(3, .int (jI (i + 1))), (4, .int (jI (κ 14 (i).toNat))), (0, .ref (a 0)), (1, .int (jI x)), (2, .int (jI y))]) C dX5_same_81 hl rfl (by decide) rfl (fun ls hl => ?_)
          refine zg_goto (tgt := 19) C dX5_same_84 (by decide) ?_
          exact ih (i + 1) _ _ _ (by omega) (by omega) (by omega) (hE.trans (kSame_go (by omega) (by assumption) (by grind [kAlike, bI_inj]))) hP hS (lv_sub hl [2, 3, 4, 0] rfl)
        · refine zg_aload_n C dX5_same_62 rfl (lv_at hl 1 rfl) ?_
          refine zg_iload_n C dX5_same_63 rfl (lv_at hl 2 rfl) ?_
          refine zg_iload C dX5_same_64 (lv_at hl 0 rfl) ?_
          refine zg_callV C X hP hS (kX5_kindsOf l σ hR κ hM hG x (κ 14 (i).toNat) (by omega) (by omega) (by omega) (by omega)) (cwV 2 C.ts (zgV mlX5_203 imX5_kindsOf slX5_kindsOf iniX5 cdX5_kindsOf) rfl rfl rfl (by decide +kernel) ⟨Nat.le_of_ble_eq_true rfl, Nat.le_of_ble_eq_true rfl⟩) (by decide) lyM_0 rfl rfl rfl hl.1 rfl (Nat.le_of_ble_eq_true rfl) dX5_same_66 ⟨Nat.zero_le _, Nat.zero_le _⟩ (fun r_20 σ19 H locs q21 hP hS => ?_)
          obtain ⟨rfl, q21⟩ := q21
          have b_22 := kKinds_rg κ x.toNat (κ 14 (i).toNat)
          rw [q21] at hP
          refine zg_aload_n C dX5_same_69 rfl (lv_at hl 1 rfl) ?_
          refine zg_iload_n C dX5_same_70 rfl (lv_at hl 3 rfl) ?_
          refine zg_iload C dX5_same_71 (lv_at hl 0 rfl) ?_
          refine zg_callV C X hP hS (kX5_kindsOf l σ hR κ hM hG y (κ 14 (i).toNat) (by omega) (by omega) (by omega) (by omega)) (cwV 2 C.ts (zgV mlX5_203 imX5_kindsOf slX5_kindsOf iniX5 cdX5_kindsOf) rfl rfl rfl (by decide +kernel) ⟨Nat.le_of_ble_eq_true rfl, Nat.le_of_ble_eq_true rfl⟩) (by decide) lyM_0 rfl rfl rfl hl.1 rfl (Nat.le_of_ble_eq_true rfl) dX5_same_73 ⟨Nat.zero_le _, Nat.zero_le _⟩ (fun r_24 σ23 H locs q25 hP hS => ?_)
          obtain ⟨rfl, q25⟩ := q25
          have b_26 := kKinds_rg κ y.toNat (κ 14 (i).toNat)
          rw [q25] at hP
          refine zg_icmp_eq (tgt := 81) C (by omega) (by omega) (by omega) (by omega) dX5_same_76 (by decide) (fun c_27 => ?_) (fun c_27 => ?_)
          · refine zg_iinc (k := 4) (lv' := [(3, .int (jI (i + 1))), (4, .int (jI (κ 14 (i).toNat))), (0, .ref (a 0)), (1, .int (jI x)), (2, .int (jI y))]) C dX5_same_81 hl rfl (by decide) rfl (fun ls hl => ?_)
            refine zg_goto (tgt := 19) C dX5_same_84 (by decide) ?_
            exact ih (i + 1) _ _ _ (by omega) (by omega) (by omega) (hE.trans (kSame_go (by omega) (by assumption) (by grind [kAlike, bI_inj]))) hP hS (lv_sub hl [2, 3, 4, 0] rfl)
          · refine zg_iconst C dX5_same_79 ?_
            refine zg_iret C hP hS dX5_same_80 ?_
            exact ⟨congrArg jI (by unfold kSamR; rw [if_pos xR, if_pos yR, hE, kSame_no (by assumption) (by grind [kAlike, bI_inj])]), rfl⟩
set_option maxHeartbeats 4000000 in
set_option maxRecDepth 100000 in
theorem kX5_same (l : Launch) {D : va_G} {a : Nat → Nat} {cI cZ : ClassId} (σ : Zt) (hR : rgM σ) (κ : Zt) (hM : RR κ σ) (hG : kMid κ) (x : Int) (y : Int) (x0 : -2147483648 ≤ x) (x1 : x < 2147483648) (y0 : -2147483648 ≤ y) (y1 : y < 2147483648) : zc l D vwCl (tyM cI cZ) 28 (layM cI cZ a) a yX5_same wsX5_same ({ frames := 2, cells := 0, slots := 0, locals := 49 }) [.ref (a 0), .int (jI x), .int (jI y)] σ (fun r_ u_ => r_ = jI (kSamR κ x y) ∧ u_ = σ) := by
  refine zc_of (cc := cX5_same) (maxL := 5) (ret := some .int) (own := RX5) (by decide) rfl rfl (Nat.le_of_ble_eq_true rfl) rfl ?_
  intro p e s m below meth c A ls C X hP hS hl
  have bT := rgS_1_10 hG.1
  have bP := rgS_11_4 hG.1
  have bPT := hG.e.1
  refine zg_iload_n C dX5_same_0 rfl (lv_at hl 1 rfl) ?_
  refine zg_callS C X hP hS (kX5_isReplica l σ hR κ hM hG x (by omega) (by omega)) (cwS 1 C.ts (zgS mlX5_102 stX5_isReplica iniX5 cdX5_isReplica) rfl rfl rfl (by decide +kernel) ⟨Nat.le_of_ble_eq_true rfl, Nat.le_of_ble_eq_true rfl⟩) rfl hl.1 rfl (Nat.le_of_ble_eq_true rfl) dX5_same_1 ⟨Nat.zero_le _, Nat.zero_le _⟩ (fun r_29 σ28 H locs q30 hP hS => ?_)
  obtain ⟨rfl, q30⟩ := q30
  rw [q30] at hP
  refine zg_ifeqB (tgt := 14) C dX5_same_4 (by decide) (fun c_31 => ?_) (fun c_31 => ?_)
  · have b_32 := kIsR_f c_31
    refine zg_bipush C dX5_same_14 (by decide) ?_
    refine zg_iret C hP hS dX5_same_16 ?_
    exact ⟨congrArg jI (by grind [kSamR]), rfl⟩
  · have b_33 := kIsR_t c_31
    refine zg_iload_n C dX5_same_7 rfl (lv_at hl 2 rfl) ?_
    refine zg_callS C X hP hS (kX5_isReplica l σ hR κ hM hG y (by omega) (by omega)) (cwS 1 C.ts (zgS mlX5_102 stX5_isReplica iniX5 cdX5_isReplica) rfl rfl rfl (by decide +kernel) ⟨Nat.le_of_ble_eq_true rfl, Nat.le_of_ble_eq_true rfl⟩) rfl hl.1 rfl (Nat.le_of_ble_eq_true rfl) dX5_same_8 ⟨Nat.zero_le _, Nat.zero_le _⟩ (fun r_35 σ34 H locs q36 hP hS => ?_)
    obtain ⟨rfl, q36⟩ := q36
    rw [q36] at hP
    refine zg_ifneB (tgt := 17) C dX5_same_11 (by decide) (fun c_37 => ?_) (fun c_37 => ?_)
    · have b_38 := kIsR_t c_37
      refine zg_iconst C dX5_same_17 ?_
      refine zg_istore_n (lv' := [(3, .int (jI 0)), (0, .ref (a 0)), (1, .int (jI x)), (2, .int (jI y))]) C dX5_same_18 rfl hl (by decide) rfl (fun ls hl => ?_)
      exact lpX5_same_19 σ hR κ hM hG x y x0 x1 y0 y1 (by assumption) (by assumption) C X 402 0 _ _ _ (by omega) (by omega) (by omega) (by rw [Int.sub_zero]; rfl) hP hS (lv_sub hl [1, 2, 3, 0] rfl)
    · have b_39 := kIsR_f c_37
      refine zg_bipush C dX5_same_14 (by decide) ?_
      refine zg_iret C hP hS dX5_same_16 ?_
      exact ⟨congrArg jI (by grind [kSamR]), rfl⟩
