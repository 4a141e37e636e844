set_option maxHeartbeats 4000000 in
set_option maxRecDepth 100000 in
theorem kX4_stream (l : Launch) {D : va_G} {a : Nat → Nat} {cI cZ cR : ClassId} (σ : Zt) (hR : rgS σ) (x : Int) (v : Int) (x0 : -2147483648 ≤ x) (x1 : x < 2147483648) (v0 : -2147483648 ≤ v) (v1 : v < 2147483648) (hp : kPre σ) : zc l D vwCl (tyS cI cZ cR) 56 (layS cI cZ cR a) a yX4_stream wsX4_stream ({ frames := 1, cells := 0, slots := 0, locals := 20 }) [.ref (a 0), .int (jI x), .int (jI v)] σ (fun r_ u_ => r_ = jI (kStrR σ x) ∧ u_ = kStrS σ x v) := by
  refine zc_of (cc := cX4_stream) (maxL := 4) (ret := some .int) (own := RX4) (by decide) rfl rfl (Nat.le_of_ble_eq_true rfl) rfl ?_
  intro p e s m below meth c A ls C X hP hS hl
  refine zg_iload_n C dX4_stream_0 rfl (lv_at hl 1 rfl) ?_
  refine zg_callS C X hP hS (kX4_isReplica l σ hR x (by omega) (by omega)) (cwS 1 C.ts (zgS mlX4_39 stX4_isReplica iniX4 cdX4_isReplica) rfl rfl rfl (by decide +kernel) ⟨Nat.le_of_ble_eq_true rfl, Nat.le_of_ble_eq_true rfl⟩) rfl hl.1 rfl (Nat.le_of_ble_eq_true rfl) dX4_stream_1 ⟨Nat.zero_le _, Nat.zero_le _⟩ (fun r_2 σ1 H locs q3 hP hS => ?_)
  obtain ⟨rfl, q3⟩ := q3
  rw [q3] at hP
  refine zg_ifneB (tgt := 10) C dX4_stream_4 (by decide) (fun c_4 => ?_) (fun c_4 => ?_)
  · have b_5 := kIsR_t c_4
    refine zg_aload_n C dX4_stream_10 rfl (lv_at hl 0 rfl) ?_
    refine zg_get (j := 3) C X hP (by decide) lyS_0 rfl (zmem uwX4) (by decide) (C.tb flX4_32) (fun _ h9 => h9) rfl dX4_stream_11 ?_
    refine zg_iload_n C dX4_stream_14 rfl (lv_at hl 1 rfl) ?_
    have hr6 : (x).toNat < 6 := by omega
    refine zg_aald (t0 := 2) C X hP (by decide) lyS_19 rfl (by decide) (by omega) (by omega) rfl dX4_stream_15 ?_
    refine zg_get (j := 3) C X hP (hkS_20 hr6) (lyS_20 hr6) rfl (zmem uwX2) (by decide) (C.tb flX4_43) (fun _ h9 => h9) rfl dX4_stream_16 ?_
    refine zg_istore_n (lv' := [(3, .int (jI (σ (20 + 6 * (x).toNat) 3))), (0, .ref (a 0)), (1, .int (jI x)), (2, .int (jI v))]) C dX4_stream_19 rfl hl (by decide) rfl (fun ls hl => ?_)
    refine zg_aload_n C dX4_stream_20 rfl (lv_at hl 1 rfl) ?_
    refine zg_get (j := 3) C X hP (by decide) lyS_0 rfl (zmem uwX4) (by decide) (C.tb flX4_32) (fun _ h9 => h9) rfl dX4_stream_21 ?_
    refine zg_iload_n C dX4_stream_24 rfl (lv_at hl 2 rfl) ?_
    have hr7 : (x).toNat < 6 := by omega
    refine zg_aald (t0 := 2) C X hP (by decide) lyS_19 rfl (by decide) (by omega) (by omega) rfl dX4_stream_25 ?_
    refine zg_iload_n C dX4_stream_26 rfl (lv_at hl 3 rfl) ?_
    refine zg_put (j := 3) (v := v) C X hP hS (hkS_20 hr7) (lyS_20 hr7) rfl (zmem uwX2) tyX2 tyX2_ok nmX2 (by decide) (C.tb flX4_43) (fun _ h9 => h9) rfl (by decide +kernel) (Nat.le_of_ble_eq_true rfl) (by rw [(lyS_20 hr7)]; rfl) dX4_stream_27 (fun H locs hP hS => ?_)
    obtain ⟨σ8, e9⟩ : ∃ z_ : Zt, z_ = zu σ (20 + 6 * (x).toNat) 3 v := ⟨_, rfl⟩
    rw [← e9] at hP
    have w_11 : σ8 (20 + 6 * (x).toNat) 3 = v := by rw [e9]; exact zu_same _ _ _ _
    have hR10 : rgS σ8 := by rw [e9]; exact rzS_20_3 hR hr7
    refine zg_iload_n C dX4_stream_30 rfl (lv_at hl 0 rfl) ?_
    refine zg_iret C hP hS dX4_stream_31 ?_
    subst e9
    exact ⟨congrArg jI (by simp [kStrR, c_4]), by simp [kStrS, c_4]⟩
  · have b_12 := kIsR_f c_4
    refine zg_bipush C dX4_stream_7 (by decide) ?_
    refine zg_iret C hP hS dX4_stream_9 ?_
    exact ⟨congrArg jI (by simp [kStrR, c_4]), by simp [kStrS, c_4]⟩
set_option maxHeartbeats 4000000 in
set_option maxRecDepth 100000 in
theorem kX4_type (l : Launch) {D : va_G} {a : Nat → Nat} {cI cZ cR : ClassId} (σ : Zt) (hR : rgS σ) (x : Int) (q : Int) (v : Int) (x0 : -2147483648 ≤ x) (x1 : x < 2147483648) (q0 : -2147483648 ≤ q) (q1 : q < 2147483648) (v0 : -2147483648 ≤ v) (v1 : v < 2147483648) (hp : kPre σ) : zc l D vwCl (tyS cI cZ cR) 56 (layS cI cZ cR a) a yX4_type wsX4_type ({ frames := 5, cells := 0, slots := 0, locals := 111 }) [.ref (a 0), .int (jI x), .int (jI q), .int (jI v)] σ (fun r_ u_ => r_ = jI (kTypR σ x q v) ∧ u_ = kTypS σ x q v) := by
  refine zc_of (cc := cX4_type) (maxL := 4) (ret := some .int) (own := RX4) (by decide) rfl rfl (Nat.le_of_ble_eq_true rfl) rfl ?_
  intro p e s m below meth c A ls C X hP hS hl
  refine zg_iload_n C dX4_type_0 rfl (lv_at hl 1 rfl) ?_
  refine zg_callS C X hP hS (kX4_isReplica l σ hR x (by omega) (by omega)) (cwS 1 C.ts (zgS mlX4_39 stX4_isReplica iniX4 cdX4_isReplica) rfl rfl rfl (by decide +kernel) ⟨Nat.le_of_ble_eq_true rfl, Nat.le_of_ble_eq_true rfl⟩) rfl hl.1 rfl (Nat.le_of_ble_eq_true rfl) dX4_type_1 ⟨Nat.zero_le _, Nat.zero_le _⟩ (fun r_2 σ1 H locs q3 hP hS => ?_)
  obtain ⟨rfl, q3⟩ := q3
  rw [q3] at hP
  refine zg_ifneB (tgt := 10) C dX4_type_4 (by decide) (fun c_4 => ?_) (fun c_4 => ?_)
  · have b_5 := kIsR_t c_4
    refine zg_aload_n C dX4_type_10 rfl (lv_at hl 0 rfl) ?_
    refine zg_get (j := 3) C X hP (by decide) lyS_0 rfl (zmem uwX4) (by decide) (C.tb flX4_32) (fun _ h9 => h9) rfl dX4_type_11 ?_
    refine zg_iload_n C dX4_type_14 rfl (lv_at hl 1 rfl) ?_
    have hr6 : (x).toNat < 6 := by omega
    refine zg_aald (t0 := 2) C X hP (by decide) lyS_19 rfl (by decide) (by omega) (by omega) rfl dX4_type_15 ?_
    refine zg_iload_n C dX4_type_16 rfl (lv_at hl 2 rfl) ?_
    refine zg_callV C X hP hS (kX2_hasGap l σ hR ((x).toNat) hr6 q (by omega) (by omega)) (cwV 1 C.ts (zgV mlX4_47 imX2_hasGap slX2_hasGap iniX2 cdX2_hasGap) rfl rfl rfl (by decide +kernel) ⟨Nat.le_of_ble_eq_true rfl, Nat.le_of_ble_eq_true rfl⟩) (hkS_20 hr6) (lyS_20 hr6) rfl rfl rfl hl.1 rfl (Nat.le_of_ble_eq_true rfl) dX4_type_17 ⟨Nat.zero_le _, Nat.zero_le _⟩ (fun r_8 σ7 H locs q9 hP hS => ?_)
    obtain ⟨rfl, q9⟩ := q9
    rw [q9] at hP
    refine zg_ifeqB (tgt := 30) C dX4_type_20 (by decide) (fun c_10 => ?_) (fun c_10 => ?_)
    · refine zg_bipush C dX4_type_30 (by decide) ?_
      refine zg_iret C hP hS dX4_type_32 ?_
      exact ⟨congrArg jI (by simp [kTypR, c_4, c_10]), by simp [kTypS, c_4, c_10]⟩
    · have b_11 := kGap_t c_10
      refine zg_iload_n C dX4_type_23 rfl (lv_at hl 3 rfl) ?_
      refine zg_callS C X hP hS (kX4_isByte l σ hR v (by omega) (by omega)) (cwS 1 C.ts (zgS mlX4_50 stX4_isByte iniX4 cdX4_isByte) rfl rfl rfl (by decide +kernel) ⟨Nat.le_of_ble_eq_true rfl, Nat.le_of_ble_eq_true rfl⟩) rfl hl.1 rfl (Nat.le_of_ble_eq_true rfl) dX4_type_24 ⟨Nat.zero_le _, Nat.zero_le _⟩ (fun r_13 σ12 H locs q14 hP hS => ?_)
      obtain ⟨rfl, q14⟩ := q14
      rw [q14] at hP
      refine zg_ifneB (tgt := 33) C dX4_type_27 (by decide) (fun c_15 => ?_) (fun c_15 => ?_)
      · have b_16 := kIsB_t c_15
        refine zg_aload_n C dX4_type_33 rfl (lv_at hl 0 rfl) ?_
        refine zg_aload_n C dX4_type_34 rfl (lv_at hl 0 rfl) ?_
        refine zg_get (j := 3) C X hP (by decide) lyS_0 rfl (zmem uwX4) (by decide) (C.tb flX4_32) (fun _ h9 => h9) rfl dX4_type_35 ?_
        refine zg_iload_n C dX4_type_38 rfl (lv_at hl 1 rfl) ?_
        have hr17 : (x).toNat < 6 := by omega
        refine zg_aald (t0 := 2) C X hP (by decide) lyS_19 rfl (by decide) (by omega) (by omega) rfl dX4_type_39 ?_
        refine zg_iload_n C dX4_type_40 rfl (lv_at hl 2 rfl) ?_
        refine zg_iload_n C dX4_type_41 rfl (lv_at hl 3 rfl) ?_
        refine zg_callV C X hP hS (kX4_putSign l σ hR ((x).toNat) hr17 q v (by omega) (by omega) (by omega) (by omega) hp.1 hp.2.1 (hp.2.2.1 _ (by omega)).1 (hp.2.2.1 _ (by omega)).2 (kBefore_bk hR hp _ _)) (cwV 3 C.ts (zgV mlX4_53 imX4_putSign slX4_putSign iniX4 cdX4_putSign) rfl rfl rfl (by decide +kernel) ⟨Nat.le_of_ble_eq_true rfl, Nat.le_of_ble_eq_true rfl⟩) (by decide) lyS_0 rfl rfl rfl hl.1 rfl (Nat.le_of_ble_eq_true rfl) dX4_type_42 ⟨Nat.zero_le _, Nat.zero_le _⟩ (fun r_19 σ18 H locs q20 hP hS => ?_)
        obtain ⟨rfl, q20⟩ := q20
        have b_21 := kPutR_rg hR ((x).toNat) q
        have hR22 : rgS σ18 := by rw [q20]; exact kPutS_rg hR (by omega) (by omega) (by omega) hp.1 hp.2.1 (hp.2.2.1 _ (by omega)).1 (hp.2.2.1 _ (by omega)).2 (kBefore_bk hR hp _ _)
        refine zg_iret C hP hS dX4_type_45 ?_
        subst q20
        exact ⟨congrArg jI (by simp [kTypR, c_4, c_10, c_15]), by simp [kTypS, c_4, c_10, c_15]⟩
      · have b_23 := kIsB_f c_15
        refine zg_bipush C dX4_type_30 (by decide) ?_
        refine zg_iret C hP hS dX4_type_32 ?_
        exact ⟨congrArg jI (by simp [kTypR, c_4, c_10, c_15]), by simp [kTypS, c_4, c_10, c_15]⟩
  · have b_24 := kIsR_f c_4
    refine zg_bipush C dX4_type_7 (by decide) ?_
    refine zg_iret C hP hS dX4_type_9 ?_
    exact ⟨congrArg jI (by simp [kTypR, c_4]), by simp [kTypS, c_4]⟩
set_option maxHeartbeats 4000000 in
set_option maxRecDepth 100000 in
theorem kX4_erase (l : Launch) {D : va_G} {a : Nat → Nat} {cI cZ cR : ClassId} (σ : Zt) (hR : rgS σ) (x : Int) (q : Int) (x0 : -2147483648 ≤ x) (x1 : x < 2147483648) (q0 : -2147483648 ≤ q) (q1 : q < 2147483648) (hp : kPre σ) : zc l D vwCl (tyS cI cZ cR) 56 (layS cI cZ cR a) a yX4_erase wsX4_erase ({ frames := 3, cells := 0, slots := 0, locals := 72 }) [.ref (a 0), .int (jI x), .int (jI q)] σ (fun r_ u_ => r_ = jI (kEraR σ x q) ∧ u_ = kEraS σ x q) := by
  refine zc_of (cc := cX4_erase) (maxL := 4) (ret := some .int) (own := RX4) (by decide) rfl rfl (Nat.le_of_ble_eq_true rfl) rfl ?_
  intro p e s m below meth c A ls C X hP hS hl
  refine zg_iload_n C dX4_erase_0 rfl (lv_at hl 1 rfl) ?_
  refine zg_callS C X hP hS (kX4_isReplica l σ hR x (by omega) (by omega)) (cwS 1 C.ts (zgS mlX4_39 stX4_isReplica iniX4 cdX4_isReplica) rfl rfl rfl (by decide +kernel) ⟨Nat.le_of_ble_eq_true rfl, Nat.le_of_ble_eq_true rfl⟩) rfl hl.1 rfl (Nat.le_of_ble_eq_true rfl) dX4_erase_1 ⟨Nat.zero_le _, Nat.zero_le _⟩ (fun r_2 σ1 H locs q3 hP hS => ?_)
  obtain ⟨rfl, q3⟩ := q3
  rw [q3] at hP
  refine zg_ifneB (tgt := 10) C dX4_erase_4 (by decide) (fun c_4 => ?_) (fun c_4 => ?_)
  · have b_5 := kIsR_t c_4
    refine zg_aload_n C dX4_erase_10 rfl (lv_at hl 0 rfl) ?_
    refine zg_get (j := 3) C X hP (by decide) lyS_0 rfl (zmem uwX4) (by decide) (C.tb flX4_32) (fun _ h9 => h9) rfl dX4_erase_11 ?_
    refine zg_iload_n C dX4_erase_14 rfl (lv_at hl 1 rfl) ?_
    have hr6 : (x).toNat < 6 := by omega
    refine zg_aald (t0 := 2) C X hP (by decide) lyS_19 rfl (by decide) (by omega) (by omega) rfl dX4_erase_15 ?_
    refine zg_iload_n C dX4_erase_16 rfl (lv_at hl 2 rfl) ?_
    refine zg_callV C X hP hS (kX2_signAt l σ hR ((x).toNat) hr6 q (by omega) (by omega)) (cwV 1 C.ts (zgV mlX4_57 imX2_signAt slX2_signAt iniX2 cdX2_signAt) rfl rfl rfl (by decide +kernel) ⟨Nat.le_of_ble_eq_true rfl, Nat.le_of_ble_eq_true rfl⟩) (hkS_20 hr6) (lyS_20 hr6) rfl rfl rfl hl.1 rfl (Nat.le_of_ble_eq_true rfl) dX4_erase_17 ⟨Nat.zero_le _, Nat.zero_le _⟩ (fun r_8 σ7 H locs q9 hP hS => ?_)
    obtain ⟨rfl, q9⟩ := q9
    have b_10 := kSignAt_rg hR ((x).toNat) q
    rw [q9] at hP
    refine zg_istore_n (lv' := [(3, .int (jI (kSignAt σ ((x).toNat) q))), (0, .ref (a 0)), (1, .int (jI x)), (2, .int (jI q))]) C dX4_erase_20 rfl hl (by decide) rfl (fun ls hl => ?_)
    refine zg_iload_n C dX4_erase_21 rfl (lv_at hl 0 rfl) ?_
    refine zg_iconst C dX4_erase_22 ?_
    refine zg_icmp_ne (tgt := 29) C (by omega) (by omega) (by omega) (by omega) dX4_erase_23 (by decide) (fun c_11 => ?_) (fun c_11 => ?_)
    · refine zg_aload_n C dX4_erase_29 rfl (lv_at hl 1 rfl) ?_
      refine zg_get (j := 0) C X hP (by decide) lyS_0 rfl (zmem uwX4) (by decide) (C.tb flX4_10) (fun _ h9 => h9) rfl dX4_erase_30 ?_
      refine zg_callV C X hP hS (kX0_isFull l σ hR) (cwV 0 C.ts (zgV mlX4_61 imX0_isFull slX0_isFull iniX0 cdX0_isFull) rfl rfl rfl (by decide +kernel) ⟨Nat.le_of_ble_eq_true rfl, Nat.le_of_ble_eq_true rfl⟩) (by decide) lyS_1 rfl rfl rfl hl.1 rfl (Nat.le_of_ble_eq_true rfl) dX4_erase_33 ⟨Nat.zero_le _, Nat.zero_le _⟩ (fun r_13 σ12 H locs q14 hP hS => ?_)
      obtain ⟨rfl, q14⟩ := q14
      rw [q14] at hP
      refine zg_ifeqB (tgt := 44) C dX4_erase_36 (by decide) (fun c_15 => ?_) (fun c_15 => ?_)
      · have b_16 := kFull_f c_15
        refine zg_aload_n C dX4_erase_44 rfl (lv_at hl 1 rfl) ?_
        refine zg_aload_n C dX4_erase_45 rfl (lv_at hl 1 rfl) ?_
        refine zg_get (j := 3) C X hP (by decide) lyS_0 rfl (zmem uwX4) (by decide) (C.tb flX4_32) (fun _ h9 => h9) rfl dX4_erase_46 ?_
        refine zg_iload_n C dX4_erase_49 rfl (lv_at hl 2 rfl) ?_
        have hr17 : (x).toNat < 6 := by omega
        refine zg_aald (t0 := 2) C X hP (by decide) lyS_19 rfl (by decide) (by omega) (by omega) rfl dX4_erase_50 ?_
        refine zg_iconst C dX4_erase_51 ?_
        refine zg_iconst C dX4_erase_52 ?_
        refine zg_iload_n C dX4_erase_53 rfl (lv_at hl 0 rfl) ?_
        refine zg_iload_n C dX4_erase_54 rfl (lv_at hl 0 rfl) ?_
        refine zg_callV C X hP hS (kX4_perform l σ hR ((x).toNat) hr17 1 0 (kSignAt σ ((x).toNat) q) (kSignAt σ ((x).toNat) q) (by omega) (by have h9 := hp.1; omega) (by have h9 := (hp.2.2.1 _ (by omega : x.toNat < 6)).1; omega) (by have h9 := (hp.2.2.1 _ (by omega : x.toNat < 6)).2; omega) (by omega) (by omega) (by omega) (by omega) (by omega) (by omega) (by omega) (by omega)) (cwV 5 C.ts (zgV mlX4_65 imX4_perform slX4_perform iniX4 cdX4_perform) rfl rfl rfl (by decide +kernel) ⟨Nat.le_of_ble_eq_true rfl, Nat.le_of_ble_eq_true rfl⟩) (by decide) lyS_0 rfl rfl rfl hl.1 rfl (Nat.le_of_ble_eq_true rfl) dX4_erase_55 ⟨Nat.zero_le _, Nat.zero_le _⟩ (fun r_19 σ18 H locs q20 hP hS => ?_)
        obtain ⟨rfl, q20⟩ := q20
        have hR21 : rgS σ18 := by rw [q20]; exact kPerform_rg hR (by omega) (by omega) (by have h9 := hp.1; omega) (by have h9 := (hp.2.2.1 _ (by omega : x.toNat < 6)).1; omega) (by have h9 := (hp.2.2.1 _ (by omega : x.toNat < 6)).2; omega) (by omega) (by omega) (by omega) (by omega) (by omega) (by omega) (by omega) (by omega)
        refine zg_iret C hP hS dX4_erase_58 ?_
        subst q20
        exact ⟨congrArg jI (by simp [kEraR, c_4, c_11, c_15]), by simp [kEraS, c_4, c_11, c_15]⟩
      · refine zg_bipush C dX4_erase_39 (by decide) ?_
        refine zg_goto (tgt := 58) C dX4_erase_41 (by decide) ?_
        refine zg_iret C hP hS dX4_erase_58 ?_
        exact ⟨congrArg jI (by simp [kEraR, c_4, c_11, c_15]), by simp [kEraS, c_4, c_11, c_15]⟩
    · refine zg_bipush C dX4_erase_26 (by decide) ?_
      refine zg_iret C hP hS dX4_erase_28 ?_
      exact ⟨congrArg jI (by simp [kEraR, c_4, c_11]), by simp [kEraS, c_4, c_11]⟩
  · have b_22 := kIsR_f c_4
    refine zg_bipush C dX4_erase_7 (by decide) ?_
    refine zg_iret C hP hS dX4_erase_9 ?_
    exact ⟨congrArg jI (by simp [kEraR, c_4]), by simp [kEraS, c_4]⟩
set_option maxHeartbeats 4000000 in
set_option maxRecDepth 100000 in
theorem kX4_undo (l : Launch) {D : va_G} {a : Nat → Nat} {cI cZ cR : ClassId} (σ : Zt) (hR : rgS σ) (x : Int) (x0 : -2147483648 ≤ x) (x1 : x < 2147483648) (hp : kPre σ) : zc l D vwCl (tyS cI cZ cR) 56 (layS cI cZ cR a) a yX4_undo wsX4_undo ({ frames := 3, cells := 0, slots := 0, locals := 72 }) [.ref (a 0), .int (jI x)] σ (fun r_ u_ => r_ = jI (kUndR σ x) ∧ u_ = kUndS σ x) := by
  refine zc_of (cc := cX4_undo) (maxL := 5) (ret := some .int) (own := RX4) (by decide) rfl rfl (Nat.le_of_ble_eq_true rfl) rfl ?_
  intro p e s m below meth c A ls C X hP hS hl
  refine zg_iload_n C dX4_undo_0 rfl (lv_at hl 1 rfl) ?_
  refine zg_callS C X hP hS (kX4_isReplica l σ hR x (by omega) (by omega)) (cwS 1 C.ts (zgS mlX4_39 stX4_isReplica iniX4 cdX4_isReplica) rfl rfl rfl (by decide +kernel) ⟨Nat.le_of_ble_eq_true rfl, Nat.le_of_ble_eq_true rfl⟩) rfl hl.1 rfl (Nat.le_of_ble_eq_true rfl) dX4_undo_1 ⟨Nat.zero_le _, Nat.zero_le _⟩ (fun r_2 σ1 H locs q3 hP hS => ?_)
  obtain ⟨rfl, q3⟩ := q3
  rw [q3] at hP
  refine zg_ifneB (tgt := 10) C dX4_undo_4 (by decide) (fun c_4 => ?_) (fun c_4 => ?_)
  · have b_5 := kIsR_t c_4
    refine zg_aload_n C dX4_undo_10 rfl (lv_at hl 0 rfl) ?_
    refine zg_get (j := 0) C X hP (by decide) lyS_0 rfl (zmem uwX4) (by decide) (C.tb flX4_10) (fun _ h9 => h9) rfl dX4_undo_11 ?_
    refine zg_iload_n C dX4_undo_14 rfl (lv_at hl 1 rfl) ?_
    refine zg_callV C X hP hS (kX0_lastToUndo l σ hR x (by omega) (by omega)) (cwV 1 C.ts (zgV mlX4_69 imX0_lastToUndo slX0_lastToUndo iniX0 cdX0_lastToUndo) rfl rfl rfl (by decide +kernel) ⟨Nat.le_of_ble_eq_true rfl, Nat.le_of_ble_eq_true rfl⟩) (by decide) lyS_1 rfl rfl rfl hl.1 rfl (Nat.le_of_ble_eq_true rfl) dX4_undo_15 ⟨Nat.zero_le _, Nat.zero_le _⟩ (fun r_7 σ6 H locs q8 hP hS => ?_)
    obtain ⟨rfl, q8⟩ := q8
    have b_9 := kLast_rg σ x (σ 1 10).toNat
    have b_10 := rgS_1_10 hR
    rw [q8] at hP
    refine zg_istore_n (lv' := [(2, .int (jI (kLast σ x (σ 1 10).toNat))), (0, .ref (a 0)), (1, .int (jI x))]) C dX4_undo_18 rfl hl (by decide) rfl (fun ls hl => ?_)
    refine zg_iload_n C dX4_undo_19 rfl (lv_at hl 0 rfl) ?_
    refine zg_iconst C dX4_undo_20 ?_
    refine zg_icmp_ne (tgt := 27) C (by omega) (by omega) (by omega) (by omega) dX4_undo_21 (by decide) (fun c_11 => ?_) (fun c_11 => ?_)
    · refine zg_aload_n C dX4_undo_27 rfl (lv_at hl 1 rfl) ?_
      refine zg_get (j := 0) C X hP (by decide) lyS_0 rfl (zmem uwX4) (by decide) (C.tb flX4_10) (fun _ h9 => h9) rfl dX4_undo_28 ?_
      refine zg_callV C X hP hS (kX0_isFull l σ hR) (cwV 0 C.ts (zgV mlX4_61 imX0_isFull slX0_isFull iniX0 cdX0_isFull) rfl rfl rfl (by decide +kernel) ⟨Nat.le_of_ble_eq_true rfl, Nat.le_of_ble_eq_true rfl⟩) (by decide) lyS_1 rfl rfl rfl hl.1 rfl (Nat.le_of_ble_eq_true rfl) dX4_undo_31 ⟨Nat.zero_le _, Nat.zero_le _⟩ (fun r_13 σ12 H locs q14 hP hS => ?_)
      obtain ⟨rfl, q14⟩ := q14
      rw [q14] at hP
      refine zg_ifeqB (tgt := 40) C dX4_undo_34 (by decide) (fun c_15 => ?_) (fun c_15 => ?_)
      · have b_16 := kFull_f c_15
        refine zg_aload_n C dX4_undo_40 rfl (lv_at hl 1 rfl) ?_
        refine zg_get (j := 0) C X hP (by decide) lyS_0 rfl (zmem uwX4) (by decide) (C.tb flX4_10) (fun _ h9 => h9) rfl dX4_undo_41 ?_
        refine zg_get (j := 5) C X hP (by decide) lyS_1 rfl (zmem uwX0) (by decide) (C.tb flX4_72) (fun _ h9 => h9) rfl dX4_undo_44 ?_
        refine zg_iload_n C dX4_undo_47 rfl (lv_at hl 0 rfl) ?_
        refine zg_iald (t0 := 0) C X hP (by decide) lyS_7 rfl (by decide) (by omega) (by omega) dX4_undo_48 ?_
        have b_17 := rgS_7 hR ((kLast σ x (σ 1 10).toNat).toNat)
        refine zg_istore_n (lv' := [(3, .int (jI (σ 7 (kLast σ x (σ 1 10).toNat).toNat))), (2, .int (jI (kLast σ x (σ 1 10).toNat))), (0, .ref (a 0)), (1, .int (jI x))]) C dX4_undo_49 rfl hl (by decide) rfl (fun ls hl => ?_)
        refine zg_aload_n C dX4_undo_50 rfl (lv_at hl 2 rfl) ?_
        refine zg_aload_n C dX4_undo_51 rfl (lv_at hl 2 rfl) ?_
        refine zg_get (j := 3) C X hP (by decide) lyS_0 rfl (zmem uwX4) (by decide) (C.tb flX4_32) (fun _ h9 => h9) rfl dX4_undo_52 ?_
        refine zg_iload_n C dX4_undo_55 rfl (lv_at hl 3 rfl) ?_
        have hr18 : (x).toNat < 6 := by omega
        refine zg_aald (t0 := 2) C X hP (by decide) lyS_19 rfl (by decide) (by omega) (by omega) rfl dX4_undo_56 ?_
        refine zg_aload_n C dX4_undo_57 rfl (lv_at hl 2 rfl) ?_
        refine zg_get (j := 0) C X hP (by decide) lyS_0 rfl (zmem uwX4) (by decide) (C.tb flX4_10) (fun _ h9 => h9) rfl dX4_undo_58 ?_
        refine zg_get (j := 3) C X hP (by decide) lyS_1 rfl (zmem uwX0) (by decide) (C.tb flX4_76) (fun _ h9 => h9) rfl dX4_undo_61 ?_
        refine zg_iload_n C dX4_undo_64 rfl (lv_at hl 1 rfl) ?_
        refine zg_iald (t0 := 0) C X hP (by decide) lyS_5 rfl (by decide) (by omega) (by omega) dX4_undo_65 ?_
        have b_19 := rgS_5 hR ((kLast σ x (σ 1 10).toNat).toNat)
        refine zg_if_ne (tgt := 73) C (by omega) (by omega) dX4_undo_66 (by decide) (fun c_20 => ?_) (fun c_20 => ?_)
        · refine zg_iconst C dX4_undo_73 ?_
          refine zg_iconst C dX4_undo_74 ?_
          refine zg_iload_n C dX4_undo_75 rfl (lv_at hl 0 rfl) ?_
          refine zg_iload_n C dX4_undo_76 rfl (lv_at hl 0 rfl) ?_
          refine zg_callV C X hP hS (kX4_perform l σ hR ((x).toNat) hr18 2 0 (σ 7 (kLast σ x (σ 1 10).toNat).toNat) (σ 7 (kLast σ x (σ 1 10).toNat).toNat) (by omega) (by have h9 := hp.1; omega) (by have h9 := (hp.2.2.1 _ (by omega : x.toNat < 6)).1; omega) (by have h9 := (hp.2.2.1 _ (by omega : x.toNat < 6)).2; omega) (by omega) (by omega) (by omega) (by omega) (by omega) (by omega) (by omega) (by omega)) (cwV 5 C.ts (zgV mlX4_65 imX4_perform slX4_perform iniX4 cdX4_perform) rfl rfl rfl (by decide +kernel) ⟨Nat.le_of_ble_eq_true rfl, Nat.le_of_ble_eq_true rfl⟩) (by decide) lyS_0 rfl rfl rfl hl.1 rfl (Nat.le_of_ble_eq_true rfl) dX4_undo_77 ⟨Nat.zero_le _, Nat.zero_le _⟩ (fun r_22 σ21 H locs q23 hP hS => ?_)
          obtain ⟨rfl, q23⟩ := q23
          have hR24 : rgS σ21 := by rw [q23]; exact kPerform_rg hR (by omega) (by omega) (by have h9 := hp.1; omega) (by have h9 := (hp.2.2.1 _ (by omega : x.toNat < 6)).1; omega) (by have h9 := (hp.2.2.1 _ (by omega : x.toNat < 6)).2; omega) (by omega) (by omega) (by omega) (by omega) (by omega) (by omega) (by omega) (by omega)
          refine zg_istore (lv' := [(4, .int (jI (σ 1 10))), (3, .int (jI (σ 7 (kLast σ x (σ 1 10).toNat).toNat))), (2, .int (jI (kLast σ x (σ 1 10).toNat))), (0, .ref (a 0)), (1, .int (jI x))]) C dX4_undo_80 hl (by decide) rfl (fun ls hl => ?_)
          refine zg_aload_n C dX4_undo_82 rfl (lv_at hl 3 rfl) ?_
          refine zg_get (j := 0) C X hP (by decide) lyS_0 rfl (zmem uwX4) (by decide) (C.tb flX4_10) (fun _ h9 => h9) rfl dX4_undo_83 ?_
          refine zg_get (j := 7) C X hP (by decide) lyS_1 rfl (zmem uwX0) (by decide) (C.tb flX4_79) (fun _ h9 => h9) rfl dX4_undo_86 ?_
          refine zg_iload_n C dX4_undo_89 rfl (lv_at hl 2 rfl) ?_
          refine zg_iconst C dX4_undo_90 ?_
          refine zg_zast (t0 := 1) (b := false) C X hP hS (by decide) (fun x => lyS_9) rfl (by decide) (by omega) (by omega) dX4_undo_91 (fun H locs hP hS => ?_)
          have b_25 := bI_01 false
          obtain ⟨σ26, e27⟩ : ∃ z_ : Zt, z_ = zu σ21 9 (kLast σ x (σ 1 10).toNat).toNat (bI false) := ⟨_, rfl⟩
          rw [← e27] at hP
          have w_29 : σ26 9 (kLast σ x (σ 1 10).toNat).toNat = bI false := by rw [e27]; exact zu_same _ _ _ _
          have hR28 : rgS σ26 := by rw [e27]; exact rzS_9 hR24 (by omega) (by omega)
          refine zg_aload_n C dX4_undo_92 rfl (lv_at hl 3 rfl) ?_
          refine zg_get (j := 0) C X hP (by decide) lyS_0 rfl (zmem uwX4) (by decide) (C.tb flX4_10) (fun _ h9 => h9) rfl dX4_undo_93 ?_
          refine zg_get (j := 7) C X hP (by decide) lyS_1 rfl (zmem uwX0) (by decide) (C.tb flX4_79) (fun _ h9 => h9) rfl dX4_undo_96 ?_
          refine zg_iload C dX4_undo_99 (lv_at hl 0 rfl) ?_
          refine zg_iconst C dX4_undo_101 ?_
          refine zg_zast (t0 := 1) (b := false) C X hP hS (by decide) (fun x => lyS_9) rfl (by decide) (by omega) (by omega) dX4_undo_102 (fun H locs hP hS => ?_)
          have b_30 := bI_01 false
          obtain ⟨σ31, e32⟩ : ∃ z_ : Zt, z_ = zu σ26 9 (σ 1 10).toNat (bI false) := ⟨_, rfl⟩
          rw [← e32] at hP
          have w_34 : σ31 9 (σ 1 10).toNat = bI false := by rw [e32]; exact zu_same _ _ _ _
          have hR33 : rgS σ31 := by rw [e32]; exact rzS_9 hR28 (by omega) (by omega)
          refine zg_iload C dX4_undo_103 (lv_at hl 0 rfl) ?_
          refine zg_iret C hP hS dX4_undo_105 ?_
          subst q23 e27 e32
          exact ⟨congrArg jI (by simp [kUndR, kULast, c_4, c_11, c_15, c_20]), by simp [kUndS, kULast, bI, c_4, c_11, c_15, c_20]⟩
        · refine zg_iconst C dX4_undo_69 ?_
          refine zg_goto (tgt := 74) C dX4_undo_70 (by decide) ?_
          refine zg_iconst C dX4_undo_74 ?_
          refine zg_iload_n C dX4_undo_75 rfl (lv_at hl 0 rfl) ?_
          refine zg_iload_n C dX4_undo_76 rfl (lv_at hl 0 rfl) ?_
          refine zg_callV C X hP hS (kX4_perform l σ hR ((x).toNat) hr18 1 0 (σ 7 (kLast σ x (σ 1 10).toNat).toNat) (σ 7 (kLast σ x (σ 1 10).toNat).toNat) (by omega) (by have h9 := hp.1; omega) (by have h9 := (hp.2.2.1 _ (by omega : x.toNat < 6)).1; omega) (by have h9 := (hp.2.2.1 _ (by omega : x.toNat < 6)).2; omega) (by omega) (by omega) (by omega) (by omega) (by omega) (by omega) (by omega) (by omega)) (cwV 5 C.ts (zgV mlX4_65 imX4_perform slX4_perform iniX4 cdX4_perform) rfl rfl rfl (by decide +kernel) ⟨Nat.le_of_ble_eq_true rfl, Nat.le_of_ble_eq_true rfl⟩) (by decide) lyS_0 rfl rfl rfl hl.1 rfl (Nat.le_of_ble_eq_true rfl) dX4_undo_77 ⟨Nat.zero_le _, Nat.zero_le _⟩ (fun r_36 σ35 H locs q37 hP hS => ?_)
          obtain ⟨rfl, q37⟩ := q37
          have hR38 : rgS σ35 := by rw [q37]; exact kPerform_rg hR (by omega) (by omega) (by have h9 := hp.1; omega) (by have h9 := (hp.2.2.1 _ (by omega : x.toNat < 6)).1; omega) (by have h9 := (hp.2.2.1 _ (by omega : x.toNat < 6)).2; omega) (by omega) (by omega) (by omega) (by omega) (by omega) (by omega) (by omega) (by omega)
          refine zg_istore (lv' := [(4, .int (jI (σ 1 10))), (3, .int (jI (σ 7 (kLast σ x (σ 1 10).toNat).toNat))), (2, .int (jI (kLast σ x (σ 1 10).toNat))), (0, .ref (a 0)), (1, .int (jI x))]) C dX4_undo_80 hl (by decide) rfl (fun ls hl => ?_)
          refine zg_aload_n C dX4_undo_82 rfl (lv_at hl 3 rfl) ?_
          refine zg_get (j := 0) C X hP (by decide) lyS_0 rfl (zmem uwX4) (by decide) (C.tb flX4_10) (fun _ h9 => h9) rfl dX4_undo_83 ?_
          refine zg_get (j := 7) C X hP (by decide) lyS_1 rfl (zmem uwX0) (by decide) (C.tb flX4_79) (fun _ h9 => h9) rfl dX4_undo_86 ?_
          refine zg_iload_n C dX4_undo_89 rfl (lv_at hl 2 rfl) ?_
          refine zg_iconst C dX4_undo_90 ?_
          refine zg_zast (t0 := 1) (b := false) C X hP hS (by decide) (fun x => lyS_9) rfl (by decide) (by omega) (by omega) dX4_undo_91 (fun H locs hP hS => ?_)
          have b_39 := bI_01 false
          obtain ⟨σ40, e41⟩ : ∃ z_ : Zt, z_ = zu σ35 9 (kLast σ x (σ 1 10).toNat).toNat (bI false) := ⟨_, rfl⟩
          rw [← e41] at hP
          have w_43 : σ40 9 (kLast σ x (σ 1 10).toNat).toNat = bI false := by rw [e41]; exact zu_same _ _ _ _
          have hR42 : rgS σ40 := by rw [e41]; exact rzS_9 hR38 (by omega) (by omega)
          refine zg_aload_n C dX4_undo_92 rfl (lv_at hl 3 rfl) ?_
          refine zg_get (j := 0) C X hP (by decide) lyS_0 rfl (zmem uwX4) (by decide) (C.tb flX4_10) (fun _ h9 => h9) rfl dX4_undo_93 ?_
          refine zg_get (j := 7) C X hP (by decide) lyS_1 rfl (zmem uwX0) (by decide) (C.tb flX4_79) (fun _ h9 => h9) rfl dX4_undo_96 ?_
          refine zg_iload C dX4_undo_99 (lv_at hl 0 rfl) ?_
          refine zg_iconst C dX4_undo_101 ?_
          refine zg_zast (t0 := 1) (b := false) C X hP hS (by decide) (fun x => lyS_9) rfl (by decide) (by omega) (by omega) dX4_undo_102 (fun H locs hP hS => ?_)
          have b_44 := bI_01 false
          obtain ⟨σ45, e46⟩ : ∃ z_ : Zt, z_ = zu σ40 9 (σ 1 10).toNat (bI false) := ⟨_, rfl⟩
          rw [← e46] at hP
          have w_48 : σ45 9 (σ 1 10).toNat = bI false := by rw [e46]; exact zu_same _ _ _ _
          have hR47 : rgS σ45 := by rw [e46]; exact rzS_9 hR42 (by omega) (by omega)
          refine zg_iload C dX4_undo_103 (lv_at hl 0 rfl) ?_
          refine zg_iret C hP hS dX4_undo_105 ?_
          subst q37 e41 e46
          exact ⟨congrArg jI (by simp [kUndR, kULast, c_4, c_11, c_15, c_20]), by simp [kUndS, kULast, bI, c_4, c_11, c_15, c_20]⟩
      · refine zg_bipush C dX4_undo_37 (by decide) ?_
        refine zg_iret C hP hS dX4_undo_39 ?_
        exact ⟨congrArg jI (by simp [kUndR, kULast, c_4, c_11, c_15]), by simp [kUndS, kULast, bI, c_4, c_11, c_15]⟩
    · refine zg_bipush C dX4_undo_24 (by decide) ?_
      refine zg_iret C hP hS dX4_undo_26 ?_
      exact ⟨congrArg jI (by simp [kUndR, kULast, c_4, c_11]), by simp [kUndS, kULast, bI, c_4, c_11]⟩
  · have b_49 := kIsR_f c_4
    refine zg_bipush C dX4_undo_7 (by decide) ?_
    refine zg_iret C hP hS dX4_undo_9 ?_
    exact ⟨congrArg jI (by simp [kUndR, kULast, c_4]), by simp [kUndS, kULast, bI, c_4]⟩
set_option maxHeartbeats 4000000 in
set_option maxRecDepth 100000 in
theorem kX4_mark (l : Launch) {D : va_G} {a : Nat → Nat} {cI cZ cR : ClassId} (σ : Zt) (hR : rgS σ) (x : Int) (f : Int) (t : Int) (k : Int) (on : Bool) (x0 : -2147483648 ≤ x) (x1 : x < 2147483648) (f0 : -2147483648 ≤ f) (f1 : f < 2147483648) (t0 : -2147483648 ≤ t) (t1 : t < 2147483648) (k0 : -2147483648 ≤ k) (k1 : k < 2147483648) (hp : kPre σ) : zc l D vwCl (tyS cI cZ cR) 56 (layS cI cZ cR a) a yX4_mark wsX4_mark ({ frames := 3, cells := 0, slots := 0, locals := 72 }) [.ref (a 0), .int (jI x), .int (jI f), .int (jI t), .int (jI k), .int (jI (bI on))] σ (fun r_ u_ => r_ = jI (kMarR σ x f t k) ∧ u_ = kMarS σ x f t k on) := by
  refine zc_of (cc := cX4_mark) (maxL := 8) (ret := some .int) (own := RX4) (by decide) rfl rfl (Nat.le_of_ble_eq_true rfl) rfl ?_
  intro p e s m below meth c A ls C X hP hS hl
  refine zg_iload_n C dX4_mark_0 rfl (lv_at hl 1 rfl) ?_
  refine zg_callS C X hP hS (kX4_isReplica l σ hR x (by omega) (by omega)) (cwS 1 C.ts (zgS mlX4_39 stX4_isReplica iniX4 cdX4_isReplica) rfl rfl rfl (by decide +kernel) ⟨Nat.le_of_ble_eq_true rfl, Nat.le_of_ble_eq_true rfl⟩) rfl hl.1 rfl (Nat.le_of_ble_eq_true rfl) dX4_mark_1 ⟨Nat.zero_le _, Nat.zero_le _⟩ (fun r_2 σ1 H locs q3 hP hS => ?_)
  obtain ⟨rfl, q3⟩ := q3
  rw [q3] at hP
  refine zg_ifneB (tgt := 10) C dX4_mark_4 (by decide) (fun c_4 => ?_) (fun c_4 => ?_)
  · have b_5 := kIsR_t c_4
    refine zg_aload_n C dX4_mark_10 rfl (lv_at hl 0 rfl) ?_
    refine zg_get (j := 3) C X hP (by decide) lyS_0 rfl (zmem uwX4) (by decide) (C.tb flX4_32) (fun _ h9 => h9) rfl dX4_mark_11 ?_
    refine zg_iload_n C dX4_mark_14 rfl (lv_at hl 1 rfl) ?_
    have hr6 : (x).toNat < 6 := by omega
    refine zg_aald (t0 := 2) C X hP (by decide) lyS_19 rfl (by decide) (by omega) (by omega) rfl dX4_mark_15 ?_
    refine zg_iload_n C dX4_mark_16 rfl (lv_at hl 2 rfl) ?_
    refine zg_callV C X hP hS (kX2_signAt l σ hR ((x).toNat) hr6 f (by omega) (by omega)) (cwV 1 C.ts (zgV mlX4_57 imX2_signAt slX2_signAt iniX2 cdX2_signAt) rfl rfl rfl (by decide +kernel) ⟨Nat.le_of_ble_eq_true rfl, Nat.le_of_ble_eq_true rfl⟩) (hkS_20 hr6) (lyS_20 hr6) rfl rfl rfl hl.1 rfl (Nat.le_of_ble_eq_true rfl) dX4_mark_17 ⟨Nat.zero_le _, Nat.zero_le _⟩ (fun r_8 σ7 H locs q9 hP hS => ?_)
    obtain ⟨rfl, q9⟩ := q9
    have b_10 := kSignAt_rg hR ((x).toNat) f
    rw [q9] at hP
    refine zg_istore (lv' := [(6, .int (jI (kSignAt σ ((x).toNat) f))), (0, .ref (a 0)), (1, .int (jI x)), (2, .int (jI f)), (3, .int (jI t)), (4, .int (jI k)), (5, .int (jI (bI on)))]) C dX4_mark_20 hl (by decide) rfl (fun ls hl => ?_)
    refine zg_aload_n C dX4_mark_22 rfl (lv_at hl 1 rfl) ?_
    refine zg_get (j := 3) C X hP (by decide) lyS_0 rfl (zmem uwX4) (by decide) (C.tb flX4_32) (fun _ h9 => h9) rfl dX4_mark_23 ?_
    refine zg_iload_n C dX4_mark_26 rfl (lv_at hl 2 rfl) ?_
    have hr11 : (x).toNat < 6 := by omega
    refine zg_aald (t0 := 2) C X hP (by decide) lyS_19 rfl (by decide) (by omega) (by omega) rfl dX4_mark_27 ?_
    refine zg_iload_n C dX4_mark_28 rfl (lv_at hl 4 rfl) ?_
    refine zg_callV C X hP hS (kX2_signAt l σ hR ((x).toNat) hr11 t (by omega) (by omega)) (cwV 1 C.ts (zgV mlX4_57 imX2_signAt slX2_signAt iniX2 cdX2_signAt) rfl rfl rfl (by decide +kernel) ⟨Nat.le_of_ble_eq_true rfl, Nat.le_of_ble_eq_true rfl⟩) (hkS_20 hr11) (lyS_20 hr11) rfl rfl rfl hl.1 rfl (Nat.le_of_ble_eq_true rfl) dX4_mark_29 ⟨Nat.zero_le _, Nat.zero_le _⟩ (fun r_13 σ12 H locs q14 hP hS => ?_)
    obtain ⟨rfl, q14⟩ := q14
    have b_15 := kSignAt_rg hR ((x).toNat) t
    rw [q14] at hP
    refine zg_istore (lv' := [(7, .int (jI (kSignAt σ ((x).toNat) t))), (6, .int (jI (kSignAt σ ((x).toNat) f))), (0, .ref (a 0)), (1, .int (jI x)), (2, .int (jI f)), (3, .int (jI t)), (4, .int (jI k)), (5, .int (jI (bI on)))]) C dX4_mark_32 hl (by decide) rfl (fun ls hl => ?_)
    refine zg_iload C dX4_mark_34 (lv_at hl 1 rfl) ?_
    refine zg_iconst C dX4_mark_36 ?_
    refine zg_icmp_eq (tgt := 63) C (by omega) (by omega) (by omega) (by omega) dX4_mark_37 (by decide) (fun c_16 => ?_) (fun c_16 => ?_)
    · refine zg_bipush C dX4_mark_63 (by decide) ?_
      refine zg_iret C hP hS dX4_mark_65 ?_
      have h9 : kMarB σ x f t k = false := by grind [kMarB]
      exact ⟨congrArg jI (by simp [kMarR, h9, c_4, c_16]), by simp [kMarS, h9, c_4, c_16]⟩
    · refine zg_iload C dX4_mark_40 (lv_at hl 0 rfl) ?_
      refine zg_iconst C dX4_mark_42 ?_
      refine zg_icmp_eq (tgt := 63) C (by omega) (by omega) (by omega) (by omega) dX4_mark_43 (by decide) (fun c_17 => ?_) (fun c_17 => ?_)
      · refine zg_bipush C dX4_mark_63 (by decide) ?_
        refine zg_iret C hP hS dX4_mark_65 ?_
        have h9 : kMarB σ x f t k = false := by grind [kMarB]
        exact ⟨congrArg jI (by simp [kMarR, h9, c_4, c_16, c_17]), by simp [kMarS, h9, c_4, c_16, c_17]⟩
      · refine zg_iload_n C dX4_mark_46 rfl (lv_at hl 4 rfl) ?_
        refine zg_iload_n C dX4_mark_47 rfl (lv_at hl 5 rfl) ?_
        refine zg_icmp_gt (tgt := 63) C (by omega) (by omega) (by omega) (by omega) dX4_mark_48 (by decide) (fun c_18 => ?_) (fun c_18 => ?_)
        · refine zg_bipush C dX4_mark_63 (by decide) ?_
          refine zg_iret C hP hS dX4_mark_65 ?_
          have h9 : kMarB σ x f t k = false := by grind [kMarB]
          exact ⟨congrArg jI (by simp [kMarR, h9, c_4, c_16, c_17, c_18]), by simp [kMarS, h9, c_4, c_16, c_17, c_18]⟩
        · refine zg_iload C dX4_mark_51 (lv_at hl 6 rfl) ?_
          refine zg_if_lt (tgt := 63) C (by omega) (by omega) dX4_mark_53 (by decide) (fun c_19 => ?_) (fun c_19 => ?_)
          · refine zg_bipush C dX4_mark_63 (by decide) ?_
            refine zg_iret C hP hS dX4_mark_65 ?_
            have h9 : kMarB σ x f t k = false := by grind [kMarB]
            exact ⟨congrArg jI (by simp [kMarR, h9, c_4, c_16, c_17, c_18, c_19]), by simp [kMarS, h9, c_4, c_16, c_17, c_18, c_19]⟩
          · refine zg_iload C dX4_mark_56 (lv_at hl 6 rfl) ?_
            refine zg_bipush C dX4_mark_58 (by decide) ?_
            refine zg_icmp_lt (tgt := 66) C (by omega) (by omega) (by omega) (by omega) dX4_mark_60 (by decide) (fun c_20 => ?_) (fun c_20 => ?_)
            · refine zg_aload_n C dX4_mark_66 rfl (lv_at hl 2 rfl) ?_
              refine zg_get (j := 0) C X hP (by decide) lyS_0 rfl (zmem uwX4) (by decide) (C.tb flX4_10) (fun _ h9 => h9) rfl dX4_mark_67 ?_
              refine zg_callV C X hP hS (kX0_isFull l σ hR) (cwV 0 C.ts (zgV mlX4_61 imX0_isFull slX0_isFull iniX0 cdX0_isFull) rfl rfl rfl (by decide +kernel) ⟨Nat.le_of_ble_eq_true rfl, Nat.le_of_ble_eq_true rfl⟩) (by decide) lyS_1 rfl rfl rfl hl.1 rfl (Nat.le_of_ble_eq_true rfl) dX4_mark_70 ⟨Nat.zero_le _, Nat.zero_le _⟩ (fun r_22 σ21 H locs q23 hP hS => ?_)
              obtain ⟨rfl, q23⟩ := q23
              rw [q23] at hP
              refine zg_ifeqB (tgt := 79) C dX4_mark_73 (by decide) (fun c_24 => ?_) (fun c_24 => ?_)
              · have b_25 := kFull_f c_24
                refine zg_aload_n C dX4_mark_79 rfl (lv_at hl 2 rfl) ?_
                refine zg_aload_n C dX4_mark_80 rfl (lv_at hl 2 rfl) ?_
                refine zg_get (j := 3) C X hP (by decide) lyS_0 rfl (zmem uwX4) (by decide) (C.tb flX4_32) (fun _ h9 => h9) rfl dX4_mark_81 ?_
                refine zg_iload_n C dX4_mark_84 rfl (lv_at hl 3 rfl) ?_
                have hr26 : (x).toNat < 6 := by omega
                refine zg_aald (t0 := 2) C X hP (by decide) lyS_19 rfl (by decide) (by omega) (by omega) rfl dX4_mark_85 ?_
                refine zg_iconst C dX4_mark_86 ?_
                refine zg_iload C dX4_mark_87 (lv_at hl 7 rfl) ?_
                refine zg_ifeqB (tgt := 100) C dX4_mark_89 (by decide) (fun c_27 => ?_) (fun c_27 => ?_)
                · refine zg_iload C dX4_mark_100 (lv_at hl 6 rfl) ?_
                  refine zg_iload C dX4_mark_102 (lv_at hl 1 rfl) ?_
                  refine zg_iload C dX4_mark_104 (lv_at hl 0 rfl) ?_
                  refine zg_callV C X hP hS (kX4_perform l σ hR ((x).toNat) hr26 3 k (kSignAt σ ((x).toNat) f) (kSignAt σ ((x).toNat) t) (by omega) (by have h9 := hp.1; omega) (by have h9 := (hp.2.2.1 _ (by omega : x.toNat < 6)).1; omega) (by have h9 := (hp.2.2.1 _ (by omega : x.toNat < 6)).2; omega) (by omega) (by omega) (by omega) (by omega) (by omega) (by omega) (by omega) (by omega)) (cwV 5 C.ts (zgV mlX4_65 imX4_perform slX4_perform iniX4 cdX4_perform) rfl rfl rfl (by decide +kernel) ⟨Nat.le_of_ble_eq_true rfl, Nat.le_of_ble_eq_true rfl⟩) (by decide) lyS_0 rfl rfl rfl hl.1 rfl (Nat.le_of_ble_eq_true rfl) dX4_mark_106 ⟨Nat.zero_le _, Nat.zero_le _⟩ (fun r_29 σ28 H locs q30 hP hS => ?_)
                  obtain ⟨rfl, q30⟩ := q30
                  have hR31 : rgS σ28 := by rw [q30]; exact kPerform_rg hR (by omega) (by omega) (by have h9 := hp.1; omega) (by have h9 := (hp.2.2.1 _ (by omega : x.toNat < 6)).1; omega) (by have h9 := (hp.2.2.1 _ (by omega : x.toNat < 6)).2; omega) (by omega) (by omega) (by omega) (by omega) (by omega) (by omega) (by omega) (by omega)
                  refine zg_iret C hP hS dX4_mark_109 ?_
                  subst q30
                  have h9 : kMarB σ x f t k = true := by grind [kMarB]
                  exact ⟨congrArg jI (by simp [kMarR, h9, c_4, c_16, c_17, c_18, c_19, c_20, c_24, c_27]), by simp [kMarS, h9, c_4, c_16, c_17, c_18, c_19, c_20, c_24, c_27]⟩
                · refine zg_iload C dX4_mark_92 (lv_at hl 6 rfl) ?_
                  refine zg_bipush C dX4_mark_94 (by decide) ?_
                  refine zg_iadd C dX4_mark_96 ?_
                  refine zg_goto (tgt := 102) C dX4_mark_97 (by decide) ?_
                  refine zg_iload C dX4_mark_102 (lv_at hl 1 rfl) ?_
                  refine zg_iload C dX4_mark_104 (lv_at hl 0 rfl) ?_
                  refine zg_callV C X hP hS (kX4_perform l σ hR ((x).toNat) hr26 3 (k + 8) (kSignAt σ ((x).toNat) f) (kSignAt σ ((x).toNat) t) (by omega) (by have h9 := hp.1; omega) (by have h9 := (hp.2.2.1 _ (by omega : x.toNat < 6)).1; omega) (by have h9 := (hp.2.2.1 _ (by omega : x.toNat < 6)).2; omega) (by omega) (by omega) (by omega) (by omega) (by omega) (by omega) (by omega) (by omega)) (cwV 5 C.ts (zgV mlX4_65 imX4_perform slX4_perform iniX4 cdX4_perform) rfl rfl rfl (by decide +kernel) ⟨Nat.le_of_ble_eq_true rfl, Nat.le_of_ble_eq_true rfl⟩) (by decide) lyS_0 rfl rfl rfl hl.1 rfl (Nat.le_of_ble_eq_true rfl) dX4_mark_106 ⟨Nat.zero_le _, Nat.zero_le _⟩ (fun r_33 σ32 H locs q34 hP hS => ?_)
                  obtain ⟨rfl, q34⟩ := q34
                  have hR35 : rgS σ32 := by rw [q34]; exact kPerform_rg hR (by omega) (by omega) (by have h9 := hp.1; omega) (by have h9 := (hp.2.2.1 _ (by omega : x.toNat < 6)).1; omega) (by have h9 := (hp.2.2.1 _ (by omega : x.toNat < 6)).2; omega) (by omega) (by omega) (by omega) (by omega) (by omega) (by omega) (by omega) (by omega)
                  refine zg_iret C hP hS dX4_mark_109 ?_
                  subst q34
                  have h9 : kMarB σ x f t k = true := by grind [kMarB]
                  exact ⟨congrArg jI (by simp [kMarR, h9, c_4, c_16, c_17, c_18, c_19, c_20, c_24, c_27]), by simp [kMarS, h9, c_4, c_16, c_17, c_18, c_19, c_20, c_24, c_27]⟩
              · refine zg_bipush C dX4_mark_76 (by decide) ?_
                refine zg_iret C hP hS dX4_mark_78 ?_
                have h9 : kMarB σ x f t k = true := by grind [kMarB]
                exact ⟨congrArg jI (by simp [kMarR, h9, c_4, c_16, c_17, c_18, c_19, c_20, c_24]), by simp [kMarS, h9, c_4, c_16, c_17, c_18, c_19, c_20, c_24]⟩
            · refine zg_bipush C dX4_mark_63 (by decide) ?_
              refine zg_iret C hP hS dX4_mark_65 ?_
              have h9 : kMarB σ x f t k = false := by grind [kMarB]
              exact ⟨congrArg jI (by simp [kMarR, h9, c_4, c_16, c_17, c_18, c_19, c_20]), by simp [kMarS, h9, c_4, c_16, c_17, c_18, c_19, c_20]⟩
  · have b_36 := kIsR_f c_4
    refine zg_bipush C dX4_mark_7 (by decide) ?_
    refine zg_iret C hP hS dX4_mark_9 ?_
    exact ⟨congrArg jI (by simp [kMarR, c_4]), by simp [kMarS, c_4]⟩
set_option maxHeartbeats 4000000 in
set_option maxRecDepth 100000 in
theorem kX4_deliver (l : Launch) {D : va_G} {a : Nat → Nat} {cI cZ cR : ClassId} (σ : Zt) (hR : rgS σ) (i : Int) (i0 : -2147483648 ≤ i) (i1 : i < 2147483648) (hp : kPre σ) : zc l D vwCl (tyS cI cZ cR) 56 (layS cI cZ cR a) a yX4_deliver wsX4_deliver ({ frames := 5, cells := 0, slots := 0, locals := 106 }) [.ref (a 0), .int (jI i)] σ (fun r_ u_ => r_ = jI (kDelR σ i) ∧ u_ = kDelS σ i) := by
  refine zc_of (cc := cX4_deliver) (maxL := 4) (ret := some .int) (own := RX4) (by decide) rfl rfl (Nat.le_of_ble_eq_true rfl) rfl ?_
  intro p e s m below meth c A ls C X hP hS hl
  refine zg_aload_n C dX4_deliver_0 rfl (lv_at hl 0 rfl) ?_
  refine zg_get (j := 2) C X hP (by decide) lyS_0 rfl (zmem uwX4) (by decide) (C.tb flX4_26) (fun _ h9 => h9) rfl dX4_deliver_1 ?_
  refine zg_iload_n C dX4_deliver_4 rfl (lv_at hl 1 rfl) ?_
  refine zg_callV C X hP hS (kX3_holds l σ hR i (by omega) (by omega)) (cwV 1 C.ts (zgV mlX4_83 imX3_holds slX3_holds iniX3 cdX3_holds) rfl rfl rfl (by decide +kernel) ⟨Nat.le_of_ble_eq_true rfl, Nat.le_of_ble_eq_true rfl⟩) (by decide) lyS_16 rfl rfl rfl hl.1 rfl (Nat.le_of_ble_eq_true rfl) dX4_deliver_5 ⟨Nat.zero_le _, Nat.zero_le _⟩ (fun r_2 σ1 H locs q3 hP hS => ?_)
  obtain ⟨rfl, q3⟩ := q3
  have b_4 := rgS_16_2 hR
  rw [q3] at hP
  refine zg_ifneB (tgt := 14) C dX4_deliver_8 (by decide) (fun c_5 => ?_) (fun c_5 => ?_)
  · have b_6 := kHolds_t c_5
    refine zg_aload_n C dX4_deliver_14 rfl (lv_at hl 0 rfl) ?_
    refine zg_get (j := 2) C X hP (by decide) lyS_0 rfl (zmem uwX4) (by decide) (C.tb flX4_26) (fun _ h9 => h9) rfl dX4_deliver_15 ?_
    refine zg_get (j := 0) C X hP (by decide) lyS_16 rfl (zmem uwX3) (by decide) (C.tb flX4_86) (fun _ h9 => h9) rfl dX4_deliver_18 ?_
    refine zg_iload_n C dX4_deliver_21 rfl (lv_at hl 1 rfl) ?_
    refine zg_iald (t0 := 0) C X hP (by decide) lyS_17 rfl (by decide) (by omega) (by omega) dX4_deliver_22 ?_
    have b_7 := rgS_17 hR ((i).toNat)
    refine zg_istore_n (lv' := [(2, .int (jI (σ 17 (i).toNat))), (0, .ref (a 0)), (1, .int (jI i))]) C dX4_deliver_23 rfl hl (by decide) rfl (fun ls hl => ?_)
    refine zg_aload_n C dX4_deliver_24 rfl (lv_at hl 1 rfl) ?_
    refine zg_get (j := 2) C X hP (by decide) lyS_0 rfl (zmem uwX4) (by decide) (C.tb flX4_26) (fun _ h9 => h9) rfl dX4_deliver_25 ?_
    refine zg_get (j := 1) C X hP (by decide) lyS_16 rfl (zmem uwX3) (by decide) (C.tb flX4_89) (fun _ h9 => h9) rfl dX4_deliver_28 ?_
    refine zg_iload_n C dX4_deliver_31 rfl (lv_at hl 2 rfl) ?_
    refine zg_iald (t0 := 0) C X hP (by decide) lyS_18 rfl (by decide) (by omega) (by omega) dX4_deliver_32 ?_
    have b_8 := rgS_18 hR ((i).toNat)
    refine zg_istore_n (lv' := [(3, .int (jI (σ 18 (i).toNat))), (2, .int (jI (σ 17 (i).toNat))), (0, .ref (a 0)), (1, .int (jI i))]) C dX4_deliver_33 rfl hl (by decide) rfl (fun ls hl => ?_)
    refine zg_aload_n C dX4_deliver_34 rfl (lv_at hl 2 rfl) ?_
    refine zg_get (j := 2) C X hP (by decide) lyS_0 rfl (zmem uwX4) (by decide) (C.tb flX4_26) (fun _ h9 => h9) rfl dX4_deliver_35 ?_
    refine zg_iload_n C dX4_deliver_38 rfl (lv_at hl 3 rfl) ?_
    refine zg_callVv C X hP hS (kX3_drop l σ hR i (by omega) (by omega)) (cwV 1 C.ts (zgV mlX4_92 imX3_drop slX3_drop iniX3 cdX3_drop) rfl rfl rfl (by decide +kernel) ⟨Nat.le_of_ble_eq_true rfl, Nat.le_of_ble_eq_true rfl⟩) (by decide) lyS_16 rfl rfl rfl hl.1 rfl (Nat.le_of_ble_eq_true rfl) dX4_deliver_39 ⟨Nat.zero_le _, Nat.zero_le _⟩ (fun σ9 H locs q11 hP hS => ?_)
    have hR12 : rgS σ9 := by rw [q11]; exact kDropS_rg hR (by omega) (by omega)
    refine zg_aload_n C dX4_deliver_42 rfl (lv_at hl 2 rfl) ?_
    refine zg_get (j := 3) C X hP (by decide) lyS_0 rfl (zmem uwX4) (by decide) (C.tb flX4_32) (fun _ h9 => h9) rfl dX4_deliver_43 ?_
    refine zg_iload_n C dX4_deliver_46 rfl (lv_at hl 0 rfl) ?_
    have hr13 : (σ 18 (i).toNat).toNat < 6 := by omega
    refine zg_aald (t0 := 2) C X hP (by decide) lyS_19 rfl (by decide) (by omega) (by omega) rfl dX4_deliver_47 ?_
    refine zg_iload_n C dX4_deliver_48 rfl (lv_at hl 1 rfl) ?_
    refine zg_callV C X hP hS (kX2_receive l σ9 hR12 ((σ 18 (i).toNat).toNat) hr13 (σ 17 (i).toNat) (by omega) (by omega) (by rw [q11]; intro g1 g2; rw [kDropS_fr (by omega) (by omega) (by omega)] at g2 ⊢; refine hp.2.2.2.2.1 _ (by omega) (σ 17 i.toNat) (by omega) (hp.2.2.2.2.2 _ (by omega)) ?_ g2; rw [kDid, kDropS_fr (by omega) (by omega) (by omega), kDropS_fr (by omega) (by omega) (by omega), kDropS_fr (by omega) (by omega) (by omega)] at g1; exact g1)) (cwV 1 C.ts (zgV mlX4_96 imX2_receive slX2_receive iniX2 cdX2_receive) rfl rfl rfl (by decide +kernel) ⟨Nat.le_of_ble_eq_true rfl, Nat.le_of_ble_eq_true rfl⟩) (hkS_20 hr13) (lyS_20 hr13) rfl rfl rfl hl.1 rfl (Nat.le_of_ble_eq_true rfl) dX4_deliver_49 ⟨Nat.zero_le _, Nat.zero_le _⟩ (fun r_15 σ14 H locs q16 hP hS => ?_)
    obtain ⟨rfl, q16⟩ := q16
    have hR17 : rgS σ14 := by rw [q16]; exact kRecS_rg hR12 (by omega) (by omega) (by omega) (by rw [q11]; intro g1 g2; rw [kDropS_fr (by omega) (by omega) (by omega)] at g2 ⊢; refine hp.2.2.2.2.1 _ (by omega) (σ 17 i.toNat) (by omega) (hp.2.2.2.2.2 _ (by omega)) ?_ g2; rw [kDid, kDropS_fr (by omega) (by omega) (by omega), kDropS_fr (by omega) (by omega) (by omega), kDropS_fr (by omega) (by omega) (by omega)] at g1; exact g1)
    refine zg_iret C hP hS dX4_deliver_52 ?_
    subst q11 q16
    exact ⟨congrArg jI (by simp [kDelR, c_5]), by simp [kDelS, c_5]⟩
  · refine zg_bipush C dX4_deliver_11 (by decide) ?_
    refine zg_iret C hP hS dX4_deliver_13 ?_
    exact ⟨congrArg jI (by simp [kDelR, c_5]), by simp [kDelS, c_5]⟩
set_option maxHeartbeats 4000000 in
set_option maxRecDepth 100000 in
theorem kX4_lose (l : Launch) {D : va_G} {a : Nat → Nat} {cI cZ cR : ClassId} (σ : Zt) (hR : rgS σ) (i : Int) (i0 : -2147483648 ≤ i) (i1 : i < 2147483648) (hp : kPre σ) : zc l D vwCl (tyS cI cZ cR) 56 (layS cI cZ cR a) a yX4_lose wsX4_lose ({ frames := 1, cells := 0, slots := 0, locals := 22 }) [.ref (a 0), .int (jI i)] σ (fun r_ u_ => r_ = jI (kLosR σ i) ∧ u_ = kLosS σ i) := by
  refine zc_of (cc := cX4_lose) (maxL := 2) (ret := some .int) (own := RX4) (by decide) rfl rfl (Nat.le_of_ble_eq_true rfl) rfl ?_
  intro p e s m below meth c A ls C X hP hS hl
  refine zg_aload_n C dX4_lose_0 rfl (lv_at hl 0 rfl) ?_
  refine zg_get (j := 2) C X hP (by decide) lyS_0 rfl (zmem uwX4) (by decide) (C.tb flX4_26) (fun _ h9 => h9) rfl dX4_lose_1 ?_
  refine zg_iload_n C dX4_lose_4 rfl (lv_at hl 1 rfl) ?_
  refine zg_callV C X hP hS (kX3_holds l σ hR i (by omega) (by omega)) (cwV 1 C.ts (zgV mlX4_83 imX3_holds slX3_holds iniX3 cdX3_holds) rfl rfl rfl (by decide +kernel) ⟨Nat.le_of_ble_eq_true rfl, Nat.le_of_ble_eq_true rfl⟩) (by decide) lyS_16 rfl rfl rfl hl.1 rfl (Nat.le_of_ble_eq_true rfl) dX4_lose_5 ⟨Nat.zero_le _, Nat.zero_le _⟩ (fun r_2 σ1 H locs q3 hP hS => ?_)
  obtain ⟨rfl, q3⟩ := q3
  have b_4 := rgS_16_2 hR
  rw [q3] at hP
  refine zg_ifneB (tgt := 14) C dX4_lose_8 (by decide) (fun c_5 => ?_) (fun c_5 => ?_)
  · have b_6 := kHolds_t c_5
    refine zg_aload_n C dX4_lose_14 rfl (lv_at hl 0 rfl) ?_
    refine zg_get (j := 2) C X hP (by decide) lyS_0 rfl (zmem uwX4) (by decide) (C.tb flX4_26) (fun _ h9 => h9) rfl dX4_lose_15 ?_
    refine zg_iload_n C dX4_lose_18 rfl (lv_at hl 1 rfl) ?_
    refine zg_callVv C X hP hS (kX3_drop l σ hR i (by omega) (by omega)) (cwV 1 C.ts (zgV mlX4_92 imX3_drop slX3_drop iniX3 cdX3_drop) rfl rfl rfl (by decide +kernel) ⟨Nat.le_of_ble_eq_true rfl, Nat.le_of_ble_eq_true rfl⟩) (by decide) lyS_16 rfl rfl rfl hl.1 rfl (Nat.le_of_ble_eq_true rfl) dX4_lose_19 ⟨Nat.zero_le _, Nat.zero_le _⟩ (fun σ7 H locs q9 hP hS => ?_)
    have hR10 : rgS σ7 := by rw [q9]; exact kDropS_rg hR (by omega) (by omega)
    refine zg_aload_n C dX4_lose_22 rfl (lv_at hl 0 rfl) ?_
    refine zg_get (j := 2) C X hP (by decide) lyS_0 rfl (zmem uwX4) (by decide) (C.tb flX4_26) (fun _ h9 => h9) rfl dX4_lose_23 ?_
    refine zg_get (j := 2) C X hP (by decide) lyS_16 rfl (zmem uwX3) (by decide) (C.tb flX4_99) (fun _ h9 => h9) rfl dX4_lose_26 ?_
    have b_11 := rgS_16_2 hR10
    refine zg_iret C hP hS dX4_lose_29 ?_
    subst q9
    exact ⟨congrArg jI (by simp [kLosR, kDropS_16, c_5]), by simp [kLosS, c_5]⟩
  · refine zg_bipush C dX4_lose_11 (by decide) ?_
    refine zg_iret C hP hS dX4_lose_13 ?_
    exact ⟨congrArg jI (by simp [kLosR, kDropS_16, c_5]), by simp [kLosS, c_5]⟩
set_option maxHeartbeats 4000000 in
set_option maxRecDepth 100000 in
theorem kX4_repeat (l : Launch) {D : va_G} {a : Nat → Nat} {cI cZ cR : ClassId} (σ : Zt) (hR : rgS σ) (i : Int) (i0 : -2147483648 ≤ i) (i1 : i < 2147483648) (hp : kPre σ) : zc l D vwCl (tyS cI cZ cR) 56 (layS cI cZ cR a) a yX4_repeat wsX4_repeat ({ frames := 2, cells := 0, slots := 0, locals := 42 }) [.ref (a 0), .int (jI i)] σ (fun r_ u_ => r_ = jI (kRepR σ i) ∧ u_ = kRepS σ i) := by
  refine zc_of (cc := cX4_repeat) (maxL := 2) (ret := some .int) (own := RX4) (by decide) rfl rfl (Nat.le_of_ble_eq_true rfl) rfl ?_
  intro p e s m below meth c A ls C X hP hS hl
  refine zg_aload_n C dX4_repeat_0 rfl (lv_at hl 0 rfl) ?_
  refine zg_get (j := 2) C X hP (by decide) lyS_0 rfl (zmem uwX4) (by decide) (C.tb flX4_26) (fun _ h9 => h9) rfl dX4_repeat_1 ?_
  refine zg_iload_n C dX4_repeat_4 rfl (lv_at hl 1 rfl) ?_
  refine zg_callV C X hP hS (kX3_holds l σ hR i (by omega) (by omega)) (cwV 1 C.ts (zgV mlX4_83 imX3_holds slX3_holds iniX3 cdX3_holds) rfl rfl rfl (by decide +kernel) ⟨Nat.le_of_ble_eq_true rfl, Nat.le_of_ble_eq_true rfl⟩) (by decide) lyS_16 rfl rfl rfl hl.1 rfl (Nat.le_of_ble_eq_true rfl) dX4_repeat_5 ⟨Nat.zero_le _, Nat.zero_le _⟩ (fun r_2 σ1 H locs q3 hP hS => ?_)
  obtain ⟨rfl, q3⟩ := q3
  have b_4 := rgS_16_2 hR
  rw [q3] at hP
  refine zg_ifneB (tgt := 14) C dX4_repeat_8 (by decide) (fun c_5 => ?_) (fun c_5 => ?_)
  · have b_6 := kHolds_t c_5
    refine zg_aload_n C dX4_repeat_14 rfl (lv_at hl 0 rfl) ?_
    refine zg_get (j := 2) C X hP (by decide) lyS_0 rfl (zmem uwX4) (by decide) (C.tb flX4_26) (fun _ h9 => h9) rfl dX4_repeat_15 ?_
    refine zg_callV C X hP hS (kX3_isFull l σ hR) (cwV 0 C.ts (zgV mlX4_102 imX3_isFull slX3_isFull iniX3 cdX3_isFull) rfl rfl rfl (by decide +kernel) ⟨Nat.le_of_ble_eq_true rfl, Nat.le_of_ble_eq_true rfl⟩) (by decide) lyS_16 rfl rfl rfl hl.1 rfl (Nat.le_of_ble_eq_true rfl) dX4_repeat_18 ⟨Nat.zero_le _, Nat.zero_le _⟩ (fun r_8 σ7 H locs q9 hP hS => ?_)
    obtain ⟨rfl, q9⟩ := q9
    rw [q9] at hP
    refine zg_ifeqB (tgt := 27) C dX4_repeat_21 (by decide) (fun c_10 => ?_) (fun c_10 => ?_)
    · have b_11 := kWayF_f c_10
      refine zg_aload_n C dX4_repeat_27 rfl (lv_at hl 0 rfl) ?_
      refine zg_get (j := 2) C X hP (by decide) lyS_0 rfl (zmem uwX4) (by decide) (C.tb flX4_26) (fun _ h9 => h9) rfl dX4_repeat_28 ?_
      refine zg_aload_n C dX4_repeat_31 rfl (lv_at hl 0 rfl) ?_
      refine zg_get (j := 2) C X hP (by decide) lyS_0 rfl (zmem uwX4) (by decide) (C.tb flX4_26) (fun _ h9 => h9) rfl dX4_repeat_32 ?_
      refine zg_get (j := 0) C X hP (by decide) lyS_16 rfl (zmem uwX3) (by decide) (C.tb flX4_86) (fun _ h9 => h9) rfl dX4_repeat_35 ?_
      refine zg_iload_n C dX4_repeat_38 rfl (lv_at hl 1 rfl) ?_
      refine zg_iald (t0 := 0) C X hP (by decide) lyS_17 rfl (by decide) (by omega) (by omega) dX4_repeat_39 ?_
      have b_12 := rgS_17 hR ((i).toNat)
      refine zg_aload_n C dX4_repeat_40 rfl (lv_at hl 0 rfl) ?_
      refine zg_get (j := 2) C X hP (by decide) lyS_0 rfl (zmem uwX4) (by decide) (C.tb flX4_26) (fun _ h9 => h9) rfl dX4_repeat_41 ?_
      refine zg_get (j := 1) C X hP (by decide) lyS_16 rfl (zmem uwX3) (by decide) (C.tb flX4_89) (fun _ h9 => h9) rfl dX4_repeat_44 ?_
      refine zg_iload_n C dX4_repeat_47 rfl (lv_at hl 1 rfl) ?_
      refine zg_iald (t0 := 0) C X hP (by decide) lyS_18 rfl (by decide) (by omega) (by omega) dX4_repeat_48 ?_
      have b_13 := rgS_18 hR ((i).toNat)
      refine zg_callVv C X hP hS (kX3_send l σ hR (σ 17 (i).toNat) (σ 18 (i).toNat) (by omega) (by omega) (by omega) (by omega)) (cwV 2 C.ts (zgV mlX4_103 imX3_send slX3_send iniX3 cdX3_send) rfl rfl rfl (by decide +kernel) ⟨Nat.le_of_ble_eq_true rfl, Nat.le_of_ble_eq_true rfl⟩) (by decide) lyS_16 rfl rfl rfl hl.1 rfl (Nat.le_of_ble_eq_true rfl) dX4_repeat_49 ⟨Nat.zero_le _, Nat.zero_le _⟩ (fun σ14 H locs q16 hP hS => ?_)
      have hR17 : rgS σ14 := by rw [q16]; exact kSend_rg hR (by omega) (by omega) (by omega) (by omega)
      refine zg_aload_n C dX4_repeat_52 rfl (lv_at hl 0 rfl) ?_
      refine zg_get (j := 2) C X hP (by decide) lyS_0 rfl (zmem uwX4) (by decide) (C.tb flX4_26) (fun _ h9 => h9) rfl dX4_repeat_53 ?_
      refine zg_get (j := 2) C X hP (by decide) lyS_16 rfl (zmem uwX3) (by decide) (C.tb flX4_99) (fun _ h9 => h9) rfl dX4_repeat_56 ?_
      have b_18 := rgS_16_2 hR17
      refine zg_iret C hP hS dX4_repeat_59 ?_
      subst q16
      exact ⟨congrArg jI (by first | (simp [kRepR, c_5, c_10]; done) | (rw [kSend_16 (by omega)]; simp [kRepR, c_5, c_10])), by simp [kRepS, c_5, c_10]⟩
    · have b_19 := kWayF_t c_10
      refine zg_bipush C dX4_repeat_24 (by decide) ?_
      refine zg_iret C hP hS dX4_repeat_26 ?_
      exact ⟨congrArg jI (by first | (simp [kRepR, c_5, c_10]; done) | (rw [kSend_16 (by omega)]; simp [kRepR, c_5, c_10])), by simp [kRepS, c_5, c_10]⟩
  · refine zg_bipush C dX4_repeat_11 (by decide) ?_
    refine zg_iret C hP hS dX4_repeat_13 ?_
    exact ⟨congrArg jI (by first | (simp [kRepR, c_5]; done) | (rw [kSend_16 (by omega)]; simp [kRepR, c_5])), by simp [kRepS, c_5]⟩
set_option maxHeartbeats 4000000 in
set_option maxRecDepth 100000 in
theorem kX4_length (l : Launch) {D : va_G} {a : Nat → Nat} {cI cZ cR : ClassId} (σ : Zt) (hR : rgS σ) (x : Int) (x0 : -2147483648 ≤ x) (x1 : x < 2147483648) (hp : kPre σ) : zc l D vwCl (tyS cI cZ cR) 56 (layS cI cZ cR a) a yX4_length wsX4_length ({ frames := 4, cells := 0, slots := 0, locals := 85 }) [.ref (a 0), .int (jI x)] σ (fun r_ u_ => r_ = jI (kLenR σ x) ∧ u_ = σ) := by
  refine zc_of (cc := cX4_length) (maxL := 2) (ret := some .int) (own := RX4) (by decide) rfl rfl (Nat.le_of_ble_eq_true rfl) rfl ?_
  intro p e s m below meth c A ls C X hP hS hl
  refine zg_iload_n C dX4_length_0 rfl (lv_at hl 1 rfl) ?_
  refine zg_callS C X hP hS (kX4_isReplica l σ hR x (by omega) (by omega)) (cwS 1 C.ts (zgS mlX4_39 stX4_isReplica iniX4 cdX4_isReplica) rfl rfl rfl (by decide +kernel) ⟨Nat.le_of_ble_eq_true rfl, Nat.le_of_ble_eq_true rfl⟩) rfl hl.1 rfl (Nat.le_of_ble_eq_true rfl) dX4_length_1 ⟨Nat.zero_le _, Nat.zero_le _⟩ (fun r_2 σ1 H locs q3 hP hS => ?_)
  obtain ⟨rfl, q3⟩ := q3
  rw [q3] at hP
  refine zg_ifeqB (tgt := 19) C dX4_length_4 (by decide) (fun c_4 => ?_) (fun c_4 => ?_)
  · have b_5 := kIsR_f c_4
    refine zg_bipush C dX4_length_19 (by decide) ?_
    refine zg_iret C hP hS dX4_length_21 ?_
    exact ⟨congrArg jI (by simp [kLenR, c_4]), rfl⟩
  · have b_6 := kIsR_t c_4
    refine zg_aload_n C dX4_length_7 rfl (lv_at hl 0 rfl) ?_
    refine zg_get (j := 3) C X hP (by decide) lyS_0 rfl (zmem uwX4) (by decide) (C.tb flX4_32) (fun _ h9 => h9) rfl dX4_length_8 ?_
    refine zg_iload_n C dX4_length_11 rfl (lv_at hl 1 rfl) ?_
    have hr7 : (x).toNat < 6 := by omega
    refine zg_aald (t0 := 2) C X hP (by decide) lyS_19 rfl (by decide) (by omega) (by omega) rfl dX4_length_12 ?_
    refine zg_callV C X hP hS (kX2_textLength l σ hR ((x).toNat) hr7) (cwV 0 C.ts (zgV mlX4_115 imX2_textLength slX2_textLength iniX2 cdX2_textLength) rfl rfl rfl (by decide +kernel) ⟨Nat.le_of_ble_eq_true rfl, Nat.le_of_ble_eq_true rfl⟩) (hkS_20 hr7) (lyS_20 hr7) rfl rfl rfl hl.1 rfl (Nat.le_of_ble_eq_true rfl) dX4_length_13 ⟨Nat.zero_le _, Nat.zero_le _⟩ (fun r_9 σ8 H locs q10 hP hS => ?_)
    obtain ⟨rfl, q10⟩ := q10
    have b_11 := kLen_rg hR ((x).toNat)
    rw [q10] at hP
    refine zg_goto (tgt := 21) C dX4_length_16 (by decide) ?_
    refine zg_iret C hP hS dX4_length_21 ?_
    exact ⟨congrArg jI (by simp [kLenR, c_4]), rfl⟩
set_option maxHeartbeats 4000000 in
set_option maxRecDepth 100000 in
theorem kX4_cursor (l : Launch) {D : va_G} {a : Nat → Nat} {cI cZ cR : ClassId} (σ : Zt) (hR : rgS σ) (x : Int) (k : Int) (q : Int) (x0 : -2147483648 ≤ x) (x1 : x < 2147483648) (k0 : -2147483648 ≤ k) (k1 : k < 2147483648) (q0 : -2147483648 ≤ q) (q1 : q < 2147483648) (hp : kPre σ) : zc l D vwCl (tyS cI cZ cR) 56 (layS cI cZ cR a) a yX4_cursor wsX4_cursor ({ frames := 5, cells := 0, slots := 0, locals := 106 }) [.ref (a 0), .int (jI x), .int (jI k), .int (jI q)] σ (fun r_ u_ => r_ = jI (kCurR σ x k q) ∧ u_ = kCurS σ x k q) := by
  refine zc_of (cc := cX4_cursor) (maxL := 5) (ret := some .int) (own := RX4) (by decide) rfl rfl (Nat.le_of_ble_eq_true rfl) rfl ?_
  intro p e s m below meth c A ls C X hP hS hl
  refine zg_iload_n C dX4_cursor_0 rfl (lv_at hl 1 rfl) ?_
  refine zg_callS C X hP hS (kX4_isReplica l σ hR x (by omega) (by omega)) (cwS 1 C.ts (zgS mlX4_39 stX4_isReplica iniX4 cdX4_isReplica) rfl rfl rfl (by decide +kernel) ⟨Nat.le_of_ble_eq_true rfl, Nat.le_of_ble_eq_true rfl⟩) rfl hl.1 rfl (Nat.le_of_ble_eq_true rfl) dX4_cursor_1 ⟨Nat.zero_le _, Nat.zero_le _⟩ (fun r_2 σ1 H locs q3 hP hS => ?_)
  obtain ⟨rfl, q3⟩ := q3
  rw [q3] at hP
  refine zg_ifneB (tgt := 10) C dX4_cursor_4 (by decide) (fun c_4 => ?_) (fun c_4 => ?_)
  · have b_5 := kIsR_t c_4
    refine zg_iload_n C dX4_cursor_10 rfl (lv_at hl 2 rfl) ?_
    refine zg_callS C X hP hS (kX4_isCursor l σ hR k (by omega) (by omega)) (cwS 1 C.ts (zgS mlX4_150 stX4_isCursor iniX4 cdX4_isCursor) rfl rfl rfl (by decide +kernel) ⟨Nat.le_of_ble_eq_true rfl, Nat.le_of_ble_eq_true rfl⟩) rfl hl.1 rfl (Nat.le_of_ble_eq_true rfl) dX4_cursor_11 ⟨Nat.zero_le _, Nat.zero_le _⟩ (fun r_7 σ6 H locs q8 hP hS => ?_)
    obtain ⟨rfl, q8⟩ := q8
    rw [q8] at hP
    refine zg_ifeqB (tgt := 30) C dX4_cursor_14 (by decide) (fun c_9 => ?_) (fun c_9 => ?_)
    · have b_10 := kIsC_f c_9
      refine zg_bipush C dX4_cursor_30 (by decide) ?_
      refine zg_iret C hP hS dX4_cursor_32 ?_
      exact ⟨congrArg jI (by simp [kCurR, c_4, c_9]), by simp [kCurS, c_4, c_9]⟩
    · have b_11 := kIsC_t c_9
      refine zg_aload_n C dX4_cursor_17 rfl (lv_at hl 0 rfl) ?_
      refine zg_get (j := 3) C X hP (by decide) lyS_0 rfl (zmem uwX4) (by decide) (C.tb flX4_32) (fun _ h9 => h9) rfl dX4_cursor_18 ?_
      refine zg_iload_n C dX4_cursor_21 rfl (lv_at hl 1 rfl) ?_
      have hr12 : (x).toNat < 6 := by omega
      refine zg_aald (t0 := 2) C X hP (by decide) lyS_19 rfl (by decide) (by omega) (by omega) rfl dX4_cursor_22 ?_
      refine zg_iload_n C dX4_cursor_23 rfl (lv_at hl 3 rfl) ?_
      refine zg_callV C X hP hS (kX2_hasGap l σ hR ((x).toNat) hr12 q (by omega) (by omega)) (cwV 1 C.ts (zgV mlX4_47 imX2_hasGap slX2_hasGap iniX2 cdX2_hasGap) rfl rfl rfl (by decide +kernel) ⟨Nat.le_of_ble_eq_true rfl, Nat.le_of_ble_eq_true rfl⟩) (hkS_20 hr12) (lyS_20 hr12) rfl rfl rfl hl.1 rfl (Nat.le_of_ble_eq_true rfl) dX4_cursor_24 ⟨Nat.zero_le _, Nat.zero_le _⟩ (fun r_14 σ13 H locs q15 hP hS => ?_)
      obtain ⟨rfl, q15⟩ := q15
      rw [q15] at hP
      refine zg_ifneB (tgt := 33) C dX4_cursor_27 (by decide) (fun c_16 => ?_) (fun c_16 => ?_)
      · have b_17 := kGap_t c_16
        refine zg_aload_n C dX4_cursor_33 rfl (lv_at hl 0 rfl) ?_
        refine zg_get (j := 3) C X hP (by decide) lyS_0 rfl (zmem uwX4) (by decide) (C.tb flX4_32) (fun _ h9 => h9) rfl dX4_cursor_34 ?_
        refine zg_iload_n C dX4_cursor_37 rfl (lv_at hl 1 rfl) ?_
        have hr18 : (x).toNat < 6 := by omega
        refine zg_aald (t0 := 2) C X hP (by decide) lyS_19 rfl (by decide) (by omega) (by omega) rfl dX4_cursor_38 ?_
        refine zg_iload_n C dX4_cursor_39 rfl (lv_at hl 2 rfl) ?_
        refine zg_callV C X hP hS (kX2_cursorPlace l σ hR ((x).toNat) hr18 k (by omega) (by omega)) (cwV 1 C.ts (zgV mlX4_153 imX2_cursorPlace slX2_cursorPlace iniX2 cdX2_cursorPlace) rfl rfl rfl (by decide +kernel) ⟨Nat.le_of_ble_eq_true rfl, Nat.le_of_ble_eq_true rfl⟩) (hkS_20 hr18) (lyS_20 hr18) rfl rfl rfl hl.1 rfl (Nat.le_of_ble_eq_true rfl) dX4_cursor_40 ⟨Nat.zero_le _, Nat.zero_le _⟩ (fun r_20 σ19 H locs q21 hP hS => ?_)
        obtain ⟨rfl, q21⟩ := q21
        rw [q21] at hP
        refine zg_istore (lv' := [(4, .int (jI (kCur σ ((x).toNat) k))), (0, .ref (a 0)), (1, .int (jI x)), (2, .int (jI k)), (3, .int (jI q))]) C dX4_cursor_43 hl (by decide) rfl (fun ls hl => ?_)
        refine zg_aload_n C dX4_cursor_45 rfl (lv_at hl 1 rfl) ?_
        refine zg_get (j := 3) C X hP (by decide) lyS_0 rfl (zmem uwX4) (by decide) (C.tb flX4_32) (fun _ h9 => h9) rfl dX4_cursor_46 ?_
        refine zg_iload_n C dX4_cursor_49 rfl (lv_at hl 2 rfl) ?_
        have hr22 : (x).toNat < 6 := by omega
        refine zg_aald (t0 := 2) C X hP (by decide) lyS_19 rfl (by decide) (by omega) (by omega) rfl dX4_cursor_50 ?_
        refine zg_get (j := 10) C X hP (hkS_20 hr22) (lyS_20 hr22) rfl (zmem uwX2) (by decide) (C.tb flX4_156) (fun _ h9 => h9) rfl dX4_cursor_51 ?_
        refine zg_iload_n C dX4_cursor_54 rfl (lv_at hl 3 rfl) ?_
        refine zg_aload_n C dX4_cursor_55 rfl (lv_at hl 1 rfl) ?_
        refine zg_get (j := 3) C X hP (by decide) lyS_0 rfl (zmem uwX4) (by decide) (C.tb flX4_32) (fun _ h9 => h9) rfl dX4_cursor_56 ?_
        refine zg_iload_n C dX4_cursor_59 rfl (lv_at hl 2 rfl) ?_
        have hr23 : (x).toNat < 6 := by omega
        refine zg_aald (t0 := 2) C X hP (by decide) lyS_19 rfl (by decide) (by omega) (by omega) rfl dX4_cursor_60 ?_
        refine zg_iload_n C dX4_cursor_61 rfl (lv_at hl 4 rfl) ?_
        refine zg_callV C X hP hS (kX2_signBefore l σ hR ((x).toNat) hr23 q (by omega) (by omega)) (cwV 1 C.ts (zgV mlX4_159 imX2_signBefore slX2_signBefore iniX2 cdX2_signBefore) rfl rfl rfl (by decide +kernel) ⟨Nat.le_of_ble_eq_true rfl, Nat.le_of_ble_eq_true rfl⟩) (hkS_20 hr23) (lyS_20 hr23) rfl rfl rfl hl.1 rfl (Nat.le_of_ble_eq_true rfl) dX4_cursor_62 ⟨Nat.zero_le _, Nat.zero_le _⟩ (fun r_25 σ24 H locs q26 hP hS => ?_)
        obtain ⟨rfl, q26⟩ := q26
        have b_27 := kBefore_rg hR ((x).toNat) q
        rw [q26] at hP
        refine zg_iast (t0 := 0) C X hP hS (hkS_24 hr22) (fun x => (lyS_24 hr22)) rfl (by decide) (by omega) (by omega) dX4_cursor_65 (fun H locs hP hS => ?_)
        obtain ⟨σ28, e29⟩ : ∃ z_ : Zt, z_ = zu σ (24 + 6 * (x).toNat) (k).toNat (kBefore σ ((x).toNat) q) := ⟨_, rfl⟩
        rw [← e29] at hP
        have w_31 : σ28 (24 + 6 * (x).toNat) (k).toNat = kBefore σ ((x).toNat) q := by rw [e29]; exact zu_same _ _ _ _
        have hR30 : rgS σ28 := by rw [e29]; exact rzS_24 hR hr22 (by omega) (by omega)
        refine zg_iload C dX4_cursor_66 (lv_at hl 0 rfl) ?_
        refine zg_iret C hP hS dX4_cursor_68 ?_
        subst e29
        exact ⟨congrArg jI (by simp [kCurR, c_4, c_9, c_16]), by simp [kCurS, c_4, c_9, c_16]⟩
      · refine zg_bipush C dX4_cursor_30 (by decide) ?_
        refine zg_iret C hP hS dX4_cursor_32 ?_
        exact ⟨congrArg jI (by simp [kCurR, c_4, c_9, c_16]), by simp [kCurS, c_4, c_9, c_16]⟩
  · have b_32 := kIsR_f c_4
    refine zg_bipush C dX4_cursor_7 (by decide) ?_
    refine zg_iret C hP hS dX4_cursor_9 ?_
    exact ⟨congrArg jI (by simp [kCurR, c_4]), by simp [kCurS, c_4]⟩
set_option maxHeartbeats 4000000 in
set_option maxRecDepth 100000 in
theorem kX4_at (l : Launch) {D : va_G} {a : Nat → Nat} {cI cZ cR : ClassId} (σ : Zt) (hR : rgS σ) (x : Int) (k : Int) (x0 : -2147483648 ≤ x) (x1 : x < 2147483648) (k0 : -2147483648 ≤ k) (k1 : k < 2147483648) (hp : kPre σ) : zc l D vwCl (tyS cI cZ cR) 56 (layS cI cZ cR a) a yX4_at wsX4_at ({ frames := 4, cells := 0, slots := 0, locals := 87 }) [.ref (a 0), .int (jI x), .int (jI k)] σ (fun r_ u_ => r_ = jI (kAtR σ x k) ∧ u_ = σ) := by
  refine zc_of (cc := cX4_at) (maxL := 3) (ret := some .int) (own := RX4) (by decide) rfl rfl (Nat.le_of_ble_eq_true rfl) rfl ?_
  intro p e s m below meth c A ls C X hP hS hl
  refine zg_iload_n C dX4_at_0 rfl (lv_at hl 1 rfl) ?_
  refine zg_callS C X hP hS (kX4_isReplica l σ hR x (by omega) (by omega)) (cwS 1 C.ts (zgS mlX4_39 stX4_isReplica iniX4 cdX4_isReplica) rfl rfl rfl (by decide +kernel) ⟨Nat.le_of_ble_eq_true rfl, Nat.le_of_ble_eq_true rfl⟩) rfl hl.1 rfl (Nat.le_of_ble_eq_true rfl) dX4_at_1 ⟨Nat.zero_le _, Nat.zero_le _⟩ (fun r_2 σ1 H locs q3 hP hS => ?_)
  obtain ⟨rfl, q3⟩ := q3
  rw [q3] at hP
  refine zg_ifneB (tgt := 10) C dX4_at_4 (by decide) (fun c_4 => ?_) (fun c_4 => ?_)
  · have b_5 := kIsR_t c_4
    refine zg_iload_n C dX4_at_10 rfl (lv_at hl 2 rfl) ?_
    refine zg_callS C X hP hS (kX4_isCursor l σ hR k (by omega) (by omega)) (cwS 1 C.ts (zgS mlX4_150 stX4_isCursor iniX4 cdX4_isCursor) rfl rfl rfl (by decide +kernel) ⟨Nat.le_of_ble_eq_true rfl, Nat.le_of_ble_eq_true rfl⟩) rfl hl.1 rfl (Nat.le_of_ble_eq_true rfl) dX4_at_11 ⟨Nat.zero_le _, Nat.zero_le _⟩ (fun r_7 σ6 H locs q8 hP hS => ?_)
    obtain ⟨rfl, q8⟩ := q8
    rw [q8] at hP
    refine zg_ifeqB (tgt := 30) C dX4_at_14 (by decide) (fun c_9 => ?_) (fun c_9 => ?_)
    · have b_10 := kIsC_f c_9
      refine zg_bipush C dX4_at_30 (by decide) ?_
      refine zg_iret C hP hS dX4_at_32 ?_
      exact ⟨congrArg jI (by simp [kAtR, c_4, c_9]), rfl⟩
    · have b_11 := kIsC_t c_9
      refine zg_aload_n C dX4_at_17 rfl (lv_at hl 0 rfl) ?_
      refine zg_get (j := 3) C X hP (by decide) lyS_0 rfl (zmem uwX4) (by decide) (C.tb flX4_32) (fun _ h9 => h9) rfl dX4_at_18 ?_
      refine zg_iload_n C dX4_at_21 rfl (lv_at hl 1 rfl) ?_
      have hr12 : (x).toNat < 6 := by omega
      refine zg_aald (t0 := 2) C X hP (by decide) lyS_19 rfl (by decide) (by omega) (by omega) rfl dX4_at_22 ?_
      refine zg_iload_n C dX4_at_23 rfl (lv_at hl 2 rfl) ?_
      refine zg_callV C X hP hS (kX2_cursorPlace l σ hR ((x).toNat) hr12 k (by omega) (by omega)) (cwV 1 C.ts (zgV mlX4_153 imX2_cursorPlace slX2_cursorPlace iniX2 cdX2_cursorPlace) rfl rfl rfl (by decide +kernel) ⟨Nat.le_of_ble_eq_true rfl, Nat.le_of_ble_eq_true rfl⟩) (hkS_20 hr12) (lyS_20 hr12) rfl rfl rfl hl.1 rfl (Nat.le_of_ble_eq_true rfl) dX4_at_24 ⟨Nat.zero_le _, Nat.zero_le _⟩ (fun r_14 σ13 H locs q15 hP hS => ?_)
      obtain ⟨rfl, q15⟩ := q15
      rw [q15] at hP
      refine zg_goto (tgt := 32) C dX4_at_27 (by decide) ?_
      refine zg_iret C hP hS dX4_at_32 ?_
      exact ⟨congrArg jI (by simp [kAtR, c_4, c_9]), rfl⟩
  · have b_16 := kIsR_f c_4
    refine zg_bipush C dX4_at_7 (by decide) ?_
    refine zg_iret C hP hS dX4_at_9 ?_
    exact ⟨congrArg jI (by simp [kAtR, c_4]), rfl⟩
set_option maxHeartbeats 4000000 in
set_option maxRecDepth 100000 in
theorem kX4_message (l : Launch) {D : va_G} {a : Nat → Nat} {cI cZ cR : ClassId} (σ : Zt) (hR : rgS σ) (i : Int) (w : Int) (i0 : -2147483648 ≤ i) (i1 : i < 2147483648) (w0 : -2147483648 ≤ w) (w1 : w < 2147483648) (hp : kPre σ) : zc l D vwCl (tyS cI cZ cR) 56 (layS cI cZ cR a) a yX4_message wsX4_message ({ frames := 1, cells := 0, slots := 0, locals := 21 }) [.ref (a 0), .int (jI i), .int (jI w)] σ (fun r_ u_ => r_ = jI (kMesR σ i w) ∧ u_ = σ) := by
  refine zc_of (cc := cX4_message) (maxL := 3) (ret := some .int) (own := RX4) (by decide) rfl rfl (Nat.le_of_ble_eq_true rfl) rfl ?_
  intro p e s m below meth c A ls C X hP hS hl
  refine zg_aload_n C dX4_message_0 rfl (lv_at hl 0 rfl) ?_
  refine zg_get (j := 2) C X hP (by decide) lyS_0 rfl (zmem uwX4) (by decide) (C.tb flX4_26) (fun _ h9 => h9) rfl dX4_message_1 ?_
  refine zg_iload_n C dX4_message_4 rfl (lv_at hl 1 rfl) ?_
  refine zg_callV C X hP hS (kX3_holds l σ hR i (by omega) (by omega)) (cwV 1 C.ts (zgV mlX4_83 imX3_holds slX3_holds iniX3 cdX3_holds) rfl rfl rfl (by decide +kernel) ⟨Nat.le_of_ble_eq_true rfl, Nat.le_of_ble_eq_true rfl⟩) (by decide) lyS_16 rfl rfl rfl hl.1 rfl (Nat.le_of_ble_eq_true rfl) dX4_message_5 ⟨Nat.zero_le _, Nat.zero_le _⟩ (fun r_2 σ1 H locs q3 hP hS => ?_)
  obtain ⟨rfl, q3⟩ := q3
  have b_4 := rgS_16_2 hR
  rw [q3] at hP
  refine zg_ifneB (tgt := 14) C dX4_message_8 (by decide) (fun c_5 => ?_) (fun c_5 => ?_)
  · have b_6 := kHolds_t c_5
    refine zg_iload_n C dX4_message_14 rfl (lv_at hl 2 rfl) ?_
    refine zg_if_ne (tgt := 30) C (by omega) (by omega) dX4_message_15 (by decide) (fun c_7 => ?_) (fun c_7 => ?_)
    · refine zg_iload_n C dX4_message_30 rfl (lv_at hl 2 rfl) ?_
      refine zg_iconst C dX4_message_31 ?_
      refine zg_icmp_ne (tgt := 47) C (by omega) (by omega) (by omega) (by omega) dX4_message_32 (by decide) (fun c_8 => ?_) (fun c_8 => ?_)
      · refine zg_bipush C dX4_message_47 (by decide) ?_
        refine zg_iret C hP hS dX4_message_49 ?_
        exact ⟨congrArg jI (by simp [kMesR, c_5, c_7, c_8]), rfl⟩
      · refine zg_aload_n C dX4_message_35 rfl (lv_at hl 0 rfl) ?_
        refine zg_get (j := 2) C X hP (by decide) lyS_0 rfl (zmem uwX4) (by decide) (C.tb flX4_26) (fun _ h9 => h9) rfl dX4_message_36 ?_
        refine zg_get (j := 1) C X hP (by decide) lyS_16 rfl (zmem uwX3) (by decide) (C.tb flX4_89) (fun _ h9 => h9) rfl dX4_message_39 ?_
        refine zg_iload_n C dX4_message_42 rfl (lv_at hl 1 rfl) ?_
        refine zg_iald (t0 := 0) C X hP (by decide) lyS_18 rfl (by decide) (by omega) (by omega) dX4_message_43 ?_
        have b_9 := rgS_18 hR ((i).toNat)
        refine zg_goto (tgt := 49) C dX4_message_44 (by decide) ?_
        refine zg_iret C hP hS dX4_message_49 ?_
        exact ⟨congrArg jI (by simp [kMesR, c_5, c_7, c_8]), rfl⟩
    · refine zg_aload_n C dX4_message_18 rfl (lv_at hl 0 rfl) ?_
      refine zg_get (j := 2) C X hP (by decide) lyS_0 rfl (zmem uwX4) (by decide) (C.tb flX4_26) (fun _ h9 => h9) rfl dX4_message_19 ?_
      refine zg_get (j := 0) C X hP (by decide) lyS_16 rfl (zmem uwX3) (by decide) (C.tb flX4_86) (fun _ h9 => h9) rfl dX4_message_22 ?_
      refine zg_iload_n C dX4_message_25 rfl (lv_at hl 1 rfl) ?_
      refine zg_iald (t0 := 0) C X hP (by decide) lyS_17 rfl (by decide) (by omega) (by omega) dX4_message_26 ?_
      have b_10 := rgS_17 hR ((i).toNat)
      refine zg_goto (tgt := 49) C dX4_message_27 (by decide) ?_
      refine zg_iret C hP hS dX4_message_49 ?_
      exact ⟨congrArg jI (by simp [kMesR, c_5, c_7]), rfl⟩
  · refine zg_bipush C dX4_message_11 (by decide) ?_
    refine zg_iret C hP hS dX4_message_13 ?_
    exact ⟨congrArg jI (by simp [kMesR, c_5]), rfl⟩
set_option maxHeartbeats 4000000 in
set_option maxRecDepth 100000 in
theorem kX4_about (l : Launch) {D : va_G} {a : Nat → Nat} {cI cZ cR : ClassId} (σ : Zt) (hR : rgS σ) (x : Int) (y : Int) (w : Int) (x0 : -2147483648 ≤ x) (x1 : x < 2147483648) (y0 : -2147483648 ≤ y) (y1 : y < 2147483648) (w0 : -2147483648 ≤ w) (w1 : w < 2147483648) (hp : kPre σ) : zc l D vwCl (tyS cI cZ cR) 56 (layS cI cZ cR a) a yX4_about wsX4_about ({ frames := 1, cells := 0, slots := 0, locals := 20 }) [.ref (a 0), .int (jI x), .int (jI y), .int (jI w)] σ (fun r_ u_ => r_ = jI (kAboR σ x y w) ∧ u_ = σ) := by
  refine zc_of (cc := cX4_about) (maxL := 4) (ret := some .int) (own := RX4) (by decide) rfl rfl (Nat.le_of_ble_eq_true rfl) rfl ?_
  intro p e s m below meth c A ls C X hP hS hl
  refine zg_iload_n C dX4_about_0 rfl (lv_at hl 1 rfl) ?_
  refine zg_callS C X hP hS (kX4_isReplica l σ hR x (by omega) (by omega)) (cwS 1 C.ts (zgS mlX4_39 stX4_isReplica iniX4 cdX4_isReplica) rfl rfl rfl (by decide +kernel) ⟨Nat.le_of_ble_eq_true rfl, Nat.le_of_ble_eq_true rfl⟩) rfl hl.1 rfl (Nat.le_of_ble_eq_true rfl) dX4_about_1 ⟨Nat.zero_le _, Nat.zero_le _⟩ (fun r_2 σ1 H locs q3 hP hS => ?_)
  obtain ⟨rfl, q3⟩ := q3
  rw [q3] at hP
  refine zg_ifneB (tgt := 10) C dX4_about_4 (by decide) (fun c_4 => ?_) (fun c_4 => ?_)
  · have b_5 := kIsR_t c_4
    refine zg_iload_n C dX4_about_10 rfl (lv_at hl 3 rfl) ?_
    rcases (show (w < 0 ∨ 3 < w) ∨ w = 0 ∨ w = 1 ∨ w = 2 ∨ w = 3 by omega) with c_6 | c_6 | c_6 | c_6 | c_6
    · refine zg_tswO (tgt := 94) C (by omega) (by omega) dX4_about_11 c_6 (by decide) ?_
      refine zg_bipush C dX4_about_94 (by decide) ?_
      refine zg_iret C hP hS dX4_about_96 ?_
      exact ⟨congrArg jI (by first | (simp [kAboR, c_4, c_6]; done) | grind [kAboR]), rfl⟩
    · refine zg_tswI (v := 0) (tgt := 40) (off := 29) C c_6 (by decide) (by decide) dX4_about_11 (by decide) (by decide) (by decide) (by decide) ?_
      refine zg_iload_n C dX4_about_40 rfl (lv_at hl 2 rfl) ?_
      refine zg_callS C X hP hS (kX4_isReplica l σ hR y (by omega) (by omega)) (cwS 1 C.ts (zgS mlX4_39 stX4_isReplica iniX4 cdX4_isReplica) rfl rfl rfl (by decide +kernel) ⟨Nat.le_of_ble_eq_true rfl, Nat.le_of_ble_eq_true rfl⟩) rfl hl.1 rfl (Nat.le_of_ble_eq_true rfl) dX4_about_41 ⟨Nat.zero_le _, Nat.zero_le _⟩ (fun r_8 σ7 H locs q9 hP hS => ?_)
      obtain ⟨rfl, q9⟩ := q9
      rw [q9] at hP
      refine zg_ifeqB (tgt := 61) C dX4_about_44 (by decide) (fun c_10 => ?_) (fun c_10 => ?_)
      · have b_11 := kIsR_f c_10
        refine zg_bipush C dX4_about_61 (by decide) ?_
        refine zg_iret C hP hS dX4_about_63 ?_
        exact ⟨congrArg jI (by first | (simp [kAboR, c_4, c_6, c_10]; done) | grind [kAboR]), rfl⟩
      · have b_12 := kIsR_t c_10
        refine zg_aload_n C dX4_about_47 rfl (lv_at hl 0 rfl) ?_
        refine zg_get (j := 3) C X hP (by decide) lyS_0 rfl (zmem uwX4) (by decide) (C.tb flX4_32) (fun _ h9 => h9) rfl dX4_about_48 ?_
        refine zg_iload_n C dX4_about_51 rfl (lv_at hl 1 rfl) ?_
        have hr13 : (x).toNat < 6 := by omega
        refine zg_aald (t0 := 2) C X hP (by decide) lyS_19 rfl (by decide) (by omega) (by omega) rfl dX4_about_52 ?_
        refine zg_get (j := 7) C X hP (hkS_20 hr13) (lyS_20 hr13) rfl (zmem uwX2) (by decide) (C.tb flX4_162) (fun _ h9 => h9) rfl dX4_about_53 ?_
        refine zg_iload_n C dX4_about_56 rfl (lv_at hl 2 rfl) ?_
        refine zg_iald (t0 := 0) C X hP (hkS_21 hr13) (lyS_21 hr13) rfl (by decide) (by omega) (by omega) dX4_about_57 ?_
        have b_14 := rgS_21 hR hr13 ((y).toNat)
        refine zg_goto (tgt := 63) C dX4_about_58 (by decide) ?_
        refine zg_iret C hP hS dX4_about_63 ?_
        exact ⟨congrArg jI (by first | (simp [kAboR, c_4, c_6, c_10]; done) | grind [kAboR]), rfl⟩
    · refine zg_tswI (v := 1) (tgt := 64) (off := 53) C c_6 (by decide) (by decide) dX4_about_11 (by decide) (by decide) (by decide) (by decide) ?_
      refine zg_aload_n C dX4_about_64 rfl (lv_at hl 0 rfl) ?_
      refine zg_get (j := 3) C X hP (by decide) lyS_0 rfl (zmem uwX4) (by decide) (C.tb flX4_32) (fun _ h9 => h9) rfl dX4_about_65 ?_
      refine zg_iload_n C dX4_about_68 rfl (lv_at hl 1 rfl) ?_
      have hr15 : (x).toNat < 6 := by omega
      refine zg_aald (t0 := 2) C X hP (by decide) lyS_19 rfl (by decide) (by omega) (by omega) rfl dX4_about_69 ?_
      refine zg_get (j := 6) C X hP (hkS_20 hr15) (lyS_20 hr15) rfl (zmem uwX2) (by decide) (C.tb flX4_165) (fun _ h9 => h9) rfl dX4_about_70 ?_
      have b_16 := rgS_20_6 hR hr15
      refine zg_iret C hP hS dX4_about_73 ?_
      exact ⟨congrArg jI (by first | (simp [kAboR, c_4, c_6]; done) | grind [kAboR]), rfl⟩
    · refine zg_tswI (v := 2) (tgt := 74) (off := 63) C c_6 (by decide) (by decide) dX4_about_11 (by decide) (by decide) (by decide) (by decide) ?_
      refine zg_aload_n C dX4_about_74 rfl (lv_at hl 0 rfl) ?_
      refine zg_get (j := 3) C X hP (by decide) lyS_0 rfl (zmem uwX4) (by decide) (C.tb flX4_32) (fun _ h9 => h9) rfl dX4_about_75 ?_
      refine zg_iload_n C dX4_about_78 rfl (lv_at hl 1 rfl) ?_
      have hr17 : (x).toNat < 6 := by omega
      refine zg_aald (t0 := 2) C X hP (by decide) lyS_19 rfl (by decide) (by omega) (by omega) rfl dX4_about_79 ?_
      refine zg_get (j := 4) C X hP (hkS_20 hr17) (lyS_20 hr17) rfl (zmem uwX2) (by decide) (C.tb flX4_168) (fun _ h9 => h9) rfl dX4_about_80 ?_
      have b_18 := rgS_20_4 hR hr17
      refine zg_iret C hP hS dX4_about_83 ?_
      exact ⟨congrArg jI (by first | (simp [kAboR, c_4, c_6]; done) | grind [kAboR]), rfl⟩
    · refine zg_tswI (v := 3) (tgt := 84) (off := 73) C c_6 (by decide) (by decide) dX4_about_11 (by decide) (by decide) (by decide) (by decide) ?_
      refine zg_aload_n C dX4_about_84 rfl (lv_at hl 0 rfl) ?_
      refine zg_get (j := 3) C X hP (by decide) lyS_0 rfl (zmem uwX4) (by decide) (C.tb flX4_32) (fun _ h9 => h9) rfl dX4_about_85 ?_
      refine zg_iload_n C dX4_about_88 rfl (lv_at hl 1 rfl) ?_
      have hr19 : (x).toNat < 6 := by omega
      refine zg_aald (t0 := 2) C X hP (by decide) lyS_19 rfl (by decide) (by omega) (by omega) rfl dX4_about_89 ?_
      refine zg_get (j := 5) C X hP (hkS_20 hr19) (lyS_20 hr19) rfl (zmem uwX2) (by decide) (C.tb flX4_171) (fun _ h9 => h9) rfl dX4_about_90 ?_
      refine zg_iret C hP hS dX4_about_93 ?_
      exact ⟨congrArg jI (by first | (simp [kAboR, c_4, c_6]; done) | grind [kAboR]), rfl⟩
  · have b_20 := kIsR_f c_4
    refine zg_bipush C dX4_about_7 (by decide) ?_
    refine zg_iret C hP hS dX4_about_9 ?_
    exact ⟨congrArg jI (by first | (simp [kAboR, c_4]; done) | grind [kAboR]), rfl⟩
set_option maxHeartbeats 4000000 in
set_option maxRecDepth 100000 in
theorem kX4_deed (l : Launch) {D : va_G} {a : Nat → Nat} {cI cZ cR : ClassId} (σ : Zt) (hR : rgS σ) (d : Int) (w : Int) (d0 : -2147483648 ≤ d) (d1 : d < 2147483648) (w0 : -2147483648 ≤ w) (w1 : w < 2147483648) (hp : kPre σ) : zc l D vwCl (tyS cI cZ cR) 56 (layS cI cZ cR a) a yX4_deed wsX4_deed ({ frames := 0, cells := 0, slots := 0, locals := 0 }) [.ref (a 0), .int (jI d), .int (jI w)] σ (fun r_ u_ => r_ = jI (kDeeR σ d w) ∧ u_ = σ) := by
  refine zc_of (cc := cX4_deed) (maxL := 3) (ret := some .int) (own := RX4) (by decide) rfl rfl (Nat.le_of_ble_eq_true rfl) rfl ?_
  intro p e s m below meth c A ls C X hP hS hl
  refine zg_iload_n C dX4_deed_0 rfl (lv_at hl 1 rfl) ?_
  refine zg_if_lt (tgt := 15) C (by omega) (by omega) dX4_deed_1 (by decide) (fun c_1 => ?_) (fun c_1 => ?_)
  · refine zg_bipush C dX4_deed_15 (by decide) ?_
    refine zg_iret C hP hS dX4_deed_17 ?_
    exact ⟨congrArg jI (by first | (simp [kDeeR, c_1]; done) | grind [kDeeR]), rfl⟩
  · refine zg_iload_n C dX4_deed_4 rfl (lv_at hl 1 rfl) ?_
    refine zg_aload_n C dX4_deed_5 rfl (lv_at hl 0 rfl) ?_
    refine zg_get (j := 0) C X hP (by decide) lyS_0 rfl (zmem uwX4) (by decide) (C.tb flX4_10) (fun _ h9 => h9) rfl dX4_deed_6 ?_
    refine zg_get (j := 10) C X hP (by decide) lyS_1 rfl (zmem uwX0) (by decide) (C.tb flX4_111) (fun _ h9 => h9) rfl dX4_deed_9 ?_
    have b_2 := rgS_1_10 hR
    refine zg_icmp_lt (tgt := 18) C (by omega) (by omega) (by omega) (by omega) dX4_deed_12 (by decide) (fun c_3 => ?_) (fun c_3 => ?_)
    · refine zg_iload_n C dX4_deed_18 rfl (lv_at hl 2 rfl) ?_
      rcases (show (w < 0 ∨ 5 < w) ∨ w = 0 ∨ w = 1 ∨ w = 2 ∨ w = 3 ∨ w = 4 ∨ w = 5 by omega) with c_4 | c_4 | c_4 | c_4 | c_4 | c_4 | c_4
      · refine zg_tswO (tgt := 116) C (by omega) (by omega) dX4_deed_19 c_4 (by decide) ?_
        refine zg_bipush C dX4_deed_116 (by decide) ?_
        refine zg_iret C hP hS dX4_deed_118 ?_
        exact ⟨congrArg jI (by first | (simp [kDeeR, c_1, c_3, c_4]; done) | grind [kDeeR]), rfl⟩
      · refine zg_tswI (v := 0) (tgt := 56) (off := 37) C c_4 (by decide) (by decide) dX4_deed_19 (by decide) (by decide) (by decide) (by decide) ?_
        refine zg_aload_n C dX4_deed_56 rfl (lv_at hl 0 rfl) ?_
        refine zg_get (j := 0) C X hP (by decide) lyS_0 rfl (zmem uwX4) (by decide) (C.tb flX4_10) (fun _ h9 => h9) rfl dX4_deed_57 ?_
        refine zg_get (j := 0) C X hP (by decide) lyS_1 rfl (zmem uwX0) (by decide) (C.tb flX4_182) (fun _ h9 => h9) rfl dX4_deed_60 ?_
        refine zg_iload_n C dX4_deed_63 rfl (lv_at hl 1 rfl) ?_
        refine zg_iald (t0 := 0) C X hP (by decide) lyS_2 rfl (by decide) (by omega) (by omega) dX4_deed_64 ?_
        have b_5 := rgS_2 hR ((d).toNat)
        refine zg_iret C hP hS dX4_deed_65 ?_
        exact ⟨congrArg jI (by first | (simp [kDeeR, c_1, c_3, c_4]; done) | grind [kDeeR]), rfl⟩
      · refine zg_tswI (v := 1) (tgt := 66) (off := 47) C c_4 (by decide) (by decide) dX4_deed_19 (by decide) (by decide) (by decide) (by decide) ?_
        refine zg_aload_n C dX4_deed_66 rfl (lv_at hl 0 rfl) ?_
        refine zg_get (j := 0) C X hP (by decide) lyS_0 rfl (zmem uwX4) (by decide) (C.tb flX4_10) (fun _ h9 => h9) rfl dX4_deed_67 ?_
        refine zg_get (j := 1) C X hP (by decide) lyS_1 rfl (zmem uwX0) (by decide) (C.tb flX4_185) (fun _ h9 => h9) rfl dX4_deed_70 ?_
        refine zg_iload_n C dX4_deed_73 rfl (lv_at hl 1 rfl) ?_
        refine zg_iald (t0 := 0) C X hP (by decide) lyS_3 rfl (by decide) (by omega) (by omega) dX4_deed_74 ?_
        have b_6 := rgS_3 hR ((d).toNat)
        refine zg_iret C hP hS dX4_deed_75 ?_
        exact ⟨congrArg jI (by first | (simp [kDeeR, c_1, c_3, c_4]; done) | grind [kDeeR]), rfl⟩
      · refine zg_tswI (v := 2) (tgt := 76) (off := 57) C c_4 (by decide) (by decide) dX4_deed_19 (by decide) (by decide) (by decide) (by decide) ?_
        refine zg_aload_n C dX4_deed_76 rfl (lv_at hl 0 rfl) ?_
        refine zg_get (j := 0) C X hP (by decide) lyS_0 rfl (zmem uwX4) (by decide) (C.tb flX4_10) (fun _ h9 => h9) rfl dX4_deed_77 ?_
        refine zg_get (j := 2) C X hP (by decide) lyS_1 rfl (zmem uwX0) (by decide) (C.tb flX4_188) (fun _ h9 => h9) rfl dX4_deed_80 ?_
        refine zg_iload_n C dX4_deed_83 rfl (lv_at hl 1 rfl) ?_
        refine zg_iald (t0 := 0) C X hP (by decide) lyS_4 rfl (by decide) (by omega) (by omega) dX4_deed_84 ?_
        have b_7 := rgS_4 hR ((d).toNat)
        refine zg_iret C hP hS dX4_deed_85 ?_
        exact ⟨congrArg jI (by first | (simp [kDeeR, c_1, c_3, c_4]; done) | grind [kDeeR]), rfl⟩
      · refine zg_tswI (v := 3) (tgt := 86) (off := 67) C c_4 (by decide) (by decide) dX4_deed_19 (by decide) (by decide) (by decide) (by decide) ?_
        refine zg_aload_n C dX4_deed_86 rfl (lv_at hl 0 rfl) ?_
        refine zg_get (j := 0) C X hP (by decide) lyS_0 rfl (zmem uwX4) (by decide) (C.tb flX4_10) (fun _ h9 => h9) rfl dX4_deed_87 ?_
        refine zg_get (j := 3) C X hP (by decide) lyS_1 rfl (zmem uwX0) (by decide) (C.tb flX4_76) (fun _ h9 => h9) rfl dX4_deed_90 ?_
        refine zg_iload_n C dX4_deed_93 rfl (lv_at hl 1 rfl) ?_
        refine zg_iald (t0 := 0) C X hP (by decide) lyS_5 rfl (by decide) (by omega) (by omega) dX4_deed_94 ?_
        have b_8 := rgS_5 hR ((d).toNat)
        refine zg_iret C hP hS dX4_deed_95 ?_
        exact ⟨congrArg jI (by first | (simp [kDeeR, c_1, c_3, c_4]; done) | grind [kDeeR]), rfl⟩
      · refine zg_tswI (v := 4) (tgt := 96) (off := 77) C c_4 (by decide) (by decide) dX4_deed_19 (by decide) (by decide) (by decide) (by decide) ?_
        refine zg_aload_n C dX4_deed_96 rfl (lv_at hl 0 rfl) ?_
        refine zg_get (j := 0) C X hP (by decide) lyS_0 rfl (zmem uwX4) (by decide) (C.tb flX4_10) (fun _ h9 => h9) rfl dX4_deed_97 ?_
        refine zg_get (j := 4) C X hP (by decide) lyS_1 rfl (zmem uwX0) (by decide) (C.tb flX4_118) (fun _ h9 => h9) rfl dX4_deed_100 ?_
        refine zg_iload_n C dX4_deed_103 rfl (lv_at hl 1 rfl) ?_
        refine zg_iald (t0 := 0) C X hP (by decide) lyS_6 rfl (by decide) (by omega) (by omega) dX4_deed_104 ?_
        have b_9 := rgS_6 hR ((d).toNat)
        refine zg_iret C hP hS dX4_deed_105 ?_
        exact ⟨congrArg jI (by first | (simp [kDeeR, c_1, c_3, c_4]; done) | grind [kDeeR]), rfl⟩
      · refine zg_tswI (v := 5) (tgt := 106) (off := 87) C c_4 (by decide) (by decide) dX4_deed_19 (by decide) (by decide) (by decide) (by decide) ?_
        refine zg_aload_n C dX4_deed_106 rfl (lv_at hl 0 rfl) ?_
        refine zg_get (j := 0) C X hP (by decide) lyS_0 rfl (zmem uwX4) (by decide) (C.tb flX4_10) (fun _ h9 => h9) rfl dX4_deed_107 ?_
        refine zg_get (j := 5) C X hP (by decide) lyS_1 rfl (zmem uwX0) (by decide) (C.tb flX4_72) (fun _ h9 => h9) rfl dX4_deed_110 ?_
        refine zg_iload_n C dX4_deed_113 rfl (lv_at hl 1 rfl) ?_
        refine zg_iald (t0 := 0) C X hP (by decide) lyS_7 rfl (by decide) (by omega) (by omega) dX4_deed_114 ?_
        have b_10 := rgS_7 hR ((d).toNat)
        refine zg_iret C hP hS dX4_deed_115 ?_
        exact ⟨congrArg jI (by first | (simp [kDeeR, c_1, c_3, c_4]; done) | grind [kDeeR]), rfl⟩
    · refine zg_bipush C dX4_deed_15 (by decide) ?_
      refine zg_iret C hP hS dX4_deed_17 ?_
      exact ⟨congrArg jI (by first | (simp [kDeeR, c_1, c_3]; done) | grind [kDeeR]), rfl⟩
set_option maxHeartbeats 4000000 in
set_option maxRecDepth 100000 in
theorem kX4_count (l : Launch) {D : va_G} {a : Nat → Nat} {cI cZ cR : ClassId} (σ : Zt) (hR : rgS σ) (w : Int) (w0 : -2147483648 ≤ w) (w1 : w < 2147483648) (hp : kPre σ) : zc l D vwCl (tyS cI cZ cR) 56 (layS cI cZ cR a) a yX4_count wsX4_count ({ frames := 0, cells := 0, slots := 0, locals := 0 }) [.ref (a 0), .int (jI w)] σ (fun r_ u_ => r_ = jI (kCouR σ w) ∧ u_ = σ) := by
  refine zc_of (cc := cX4_count) (maxL := 2) (ret := some .int) (own := RX4) (by decide) rfl rfl (Nat.le_of_ble_eq_true rfl) rfl ?_
  intro p e s m below meth c A ls C X hP hS hl
  refine zg_iload_n C dX4_count_0 rfl (lv_at hl 1 rfl) ?_
  rcases (show (w < 0 ∨ 2 < w) ∨ w = 0 ∨ w = 1 ∨ w = 2 by omega) with c_1 | c_1 | c_1 | c_1
  · refine zg_tswO (tgt := 52) C (by omega) (by omega) dX4_count_1 c_1 (by decide) ?_
    refine zg_bipush C dX4_count_52 (by decide) ?_
    refine zg_iret C hP hS dX4_count_54 ?_
    exact ⟨congrArg jI (by first | (simp [kCouR, c_1]; done) | grind [kCouR]), rfl⟩
  · refine zg_tswI (v := 0) (tgt := 28) (off := 27) C c_1 (by decide) (by decide) dX4_count_1 (by decide) (by decide) (by decide) (by decide) ?_
    refine zg_aload_n C dX4_count_28 rfl (lv_at hl 0 rfl) ?_
    refine zg_get (j := 0) C X hP (by decide) lyS_0 rfl (zmem uwX4) (by decide) (C.tb flX4_10) (fun _ h9 => h9) rfl dX4_count_29 ?_
    refine zg_get (j := 10) C X hP (by decide) lyS_1 rfl (zmem uwX0) (by decide) (C.tb flX4_111) (fun _ h9 => h9) rfl dX4_count_32 ?_
    have b_2 := rgS_1_10 hR
    refine zg_iret C hP hS dX4_count_35 ?_
    exact ⟨congrArg jI (by first | (simp [kCouR, c_1]; done) | grind [kCouR]), rfl⟩
  · refine zg_tswI (v := 1) (tgt := 36) (off := 35) C c_1 (by decide) (by decide) dX4_count_1 (by decide) (by decide) (by decide) (by decide) ?_
    refine zg_aload_n C dX4_count_36 rfl (lv_at hl 0 rfl) ?_
    refine zg_get (j := 2) C X hP (by decide) lyS_0 rfl (zmem uwX4) (by decide) (C.tb flX4_26) (fun _ h9 => h9) rfl dX4_count_37 ?_
    refine zg_get (j := 2) C X hP (by decide) lyS_16 rfl (zmem uwX3) (by decide) (C.tb flX4_99) (fun _ h9 => h9) rfl dX4_count_40 ?_
    have b_3 := rgS_16_2 hR
    refine zg_iret C hP hS dX4_count_43 ?_
    exact ⟨congrArg jI (by first | (simp [kCouR, c_1]; done) | grind [kCouR]), rfl⟩
  · refine zg_tswI (v := 2) (tgt := 44) (off := 43) C c_1 (by decide) (by decide) dX4_count_1 (by decide) (by decide) (by decide) (by decide) ?_
    refine zg_aload_n C dX4_count_44 rfl (lv_at hl 0 rfl) ?_
    refine zg_get (j := 2) C X hP (by decide) lyS_0 rfl (zmem uwX4) (by decide) (C.tb flX4_26) (fun _ h9 => h9) rfl dX4_count_45 ?_
    refine zg_get (j := 3) C X hP (by decide) lyS_16 rfl (zmem uwX3) (by decide) (C.tb flX4_190) (fun _ h9 => h9) rfl dX4_count_48 ?_
    refine zg_iret C hP hS dX4_count_51 ?_
    exact ⟨congrArg jI (by first | (simp [kCouR, c_1]; done) | grind [kCouR]), rfl⟩
