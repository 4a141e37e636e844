set_option maxHeartbeats 4000000 in
set_option maxRecDepth 100000 in
theorem kX5_signOf (l : Launch) {D : va_G} {a : Nat → Nat} {cI cZ : ClassId} (σ : Zt) (hR : rgM σ) (κ : Zt) (hM : RR κ σ) (hG : kMid κ) (x : Int) (q : Int) (x0 : -2147483648 ≤ x) (x1 : x < 2147483648) (q0 : -2147483648 ≤ q) (q1 : q < 2147483648) : zc l D vwCl (tyM cI cZ) 28 (layM cI cZ a) a yX5_signOf wsX5_signOf ({ frames := 3, cells := 0, slots := 0, locals := 69 }) [.ref (a 0), .int (jI x), .int (jI q)] σ (fun r_ u_ => r_ = jI (kOf κ x q) ∧ rgM u_ ∧ RR κ u_ ∧ kMid κ ∧ u_ 0 0 = bI (decide (kOf κ x q = -1))) := by
  refine zc_of (cc := cX5_signOf) (maxL := 3) (ret := some .int) (own := RX5) (by decide) rfl rfl (Nat.le_of_ble_eq_true rfl) rfl ?_
  intro p e s m below meth c A ls C X hP hS hl
  have bT := rgS_1_10 hG.1
  have bP := rgS_11_4 hG.1
  have bPT := hG.e.1
  refine zg_aload_n C dX5_signOf_0 rfl (lv_at hl 0 rfl) ?_
  refine zg_iload_n C dX5_signOf_1 rfl (lv_at hl 1 rfl) ?_
  refine zg_callS C X hP hS (kX5_isReplica l σ hR κ hM hG x (by omega) (by omega)) (cwS 1 C.ts (zgS mlX5_102 stX5_isReplica iniX5 cdX5_isReplica) rfl rfl rfl (by decide +kernel) ⟨Nat.le_of_ble_eq_true rfl, Nat.le_of_ble_eq_true rfl⟩) rfl hl.1 rfl (Nat.le_of_ble_eq_true rfl) dX5_signOf_2 ⟨Nat.zero_le _, Nat.zero_le _⟩ (fun r_2 σ1 H locs q3 hP hS => ?_)
  obtain ⟨rfl, q3⟩ := q3
  rw [q3] at hP
  refine zg_ifeqB (tgt := 25) C dX5_signOf_5 (by decide) (fun c_4 => ?_) (fun c_4 => ?_)
  · have b_5 := kIsR_f c_4
    refine zg_iconst C dX5_signOf_25 ?_
    refine zg_goto (tgt := 30) C dX5_signOf_26 (by decide) ?_
    refine zg_put (j := 0) (v := 1) C X hP hS (by decide) lyM_0 rfl (zmem uwX5) tyX5 tyX5_ok nmX5 (by decide) (C.tb flX5_1) (fun _ h9 => h9) rfl (by decide +kernel) (Nat.le_of_ble_eq_true rfl) (by rw [lyM_0]; rfl) dX5_signOf_30 (fun H locs hP hS => ?_)
    obtain ⟨σ6, e7⟩ : ∃ z_ : Zt, z_ = zu σ 0 0 1 := ⟨_, rfl⟩
    rw [← e7] at hP
    have w_9 : σ6 0 0 = 1 := by rw [e7]; exact zu_same _ _ _ _
    have hR8 : rgM σ6 := by rw [e7]; exact rzM_0_0 hR (by omega) (by omega)
    have hM10 : RR κ σ6 := by rw [e7]; exact RR_keep hM (by decide)
    have h4 := congrFun (congrFun e7 0) 0
    rw [zu_same] at h4
    refine zg_aload_n C dX5_signOf_33 rfl (lv_at hl 0 rfl) ?_
    refine zg_get (j := 0) C X hP (by decide) lyM_0 rfl (zmem uwX5) (by decide) (C.tb flX5_1) (fun _ h9 => h9) rfl dX5_signOf_34 ?_
    have b_11 := rgM_0_0 hR8
    refine zg_if_le (tgt := 44) C (by omega) (by omega) dX5_signOf_37 (by decide) (fun c_12 => ?_) (fun c_12 => ?_)
    · refine zg_aload_n C dX5_signOf_44 rfl (lv_at hl 0 rfl) ?_
      refine zg_iload_n C dX5_signOf_45 rfl (lv_at hl 1 rfl) ?_
      refine zg_iload_n C dX5_signOf_46 rfl (lv_at hl 2 rfl) ?_
      refine zg_callV C X hP hS (kX5_signAt l σ6 hR8 κ hM10 hG x q (by omega) (by omega) (by omega) (by omega)) (cwV 2 C.ts (zgV mlX5_162 imX5_signAt slX5_signAt iniX5 cdX5_signAt) rfl rfl rfl (by decide +kernel) ⟨Nat.le_of_ble_eq_true rfl, Nat.le_of_ble_eq_true rfl⟩) (by decide) lyM_0 rfl rfl rfl hl.1 rfl (Nat.le_of_ble_eq_true rfl) dX5_signOf_47 ⟨Nat.zero_le _, Nat.zero_le _⟩ (fun r_14 σ13 H locs q15 hP hS => ?_)
      obtain ⟨rfl, q15⟩ := q15
      have b_16 := kSignAt_rg hG.1 x.toNat q
      rw [q15] at hP
      refine zg_iret C hP hS dX5_signOf_50 ?_
      have h9 : κ = κ := by rfl
      exact ⟨congrArg jI (by first | (exfalso; omega) | (unfold kOf; rw [if_pos (by assumption)]; done) | (unfold kOf; rw [if_pos (by assumption)]; symm; rw [kSignAt_len hG.1]; omega) | (unfold kOf; rw [if_neg (by simp [c_4, c_12])])), hR8, (by rw [h9]; exact hM10), (by rw [h9]; exact hG), (by rw [h4]; first | (rw [decide_eq_true (by unfold kOf; rw [if_pos (by assumption), kSignAt_len hG.1]; omega)]; rfl) | (rw [decide_eq_true (by unfold kOf; rw [if_neg (by simp [c_4, c_12])])]; rfl) | (rw [decide_eq_false (by unfold kOf; rw [if_pos (by assumption), kSignAt_len hG.1]; omega)]; rfl))⟩
    · refine zg_iconst C dX5_signOf_40 ?_
      refine zg_goto (tgt := 50) C dX5_signOf_41 (by decide) ?_
      refine zg_iret C hP hS dX5_signOf_50 ?_
      have h9 : κ = κ := by rfl
      exact ⟨congrArg jI (by first | (exfalso; omega) | (unfold kOf; rw [if_pos (by assumption)]; done) | (unfold kOf; rw [if_pos (by assumption)]; symm; rw [kSignAt_len hG.1]; omega) | (unfold kOf; rw [if_neg (by simp [c_4, c_12])])), hR8, (by rw [h9]; exact hM10), (by rw [h9]; exact hG), (by rw [h4]; first | (rw [decide_eq_true (by unfold kOf; rw [if_pos (by assumption), kSignAt_len hG.1]; omega)]; rfl) | (rw [decide_eq_true (by unfold kOf; rw [if_neg (by simp [c_4, c_12])])]; rfl) | (rw [decide_eq_false (by unfold kOf; rw [if_pos (by assumption), kSignAt_len hG.1]; omega)]; rfl))⟩
  · have b_17 := kIsR_t c_4
    refine zg_iload_n C dX5_signOf_8 rfl (lv_at hl 2 rfl) ?_
    refine zg_i2l C (by omega) (by omega) dX5_signOf_9 ?_
    refine zg_lconst C 0 rfl dX5_signOf_10 ?_
    refine zg_aload_n C dX5_signOf_11 rfl (lv_at hl 0 rfl) ?_
    refine zg_iload_n C dX5_signOf_12 rfl (lv_at hl 1 rfl) ?_
    refine zg_callV C X hP hS (kX5_sizeOf l σ hR κ hM hG x (by omega) (by omega)) (cwV 1 C.ts (zgV mlX5_177 imX5_sizeOf slX5_sizeOf iniX5 cdX5_sizeOf) rfl rfl rfl (by decide +kernel) ⟨Nat.le_of_ble_eq_true rfl, Nat.le_of_ble_eq_true rfl⟩) (by decide) lyM_0 rfl rfl rfl hl.1 rfl (Nat.le_of_ble_eq_true rfl) dX5_signOf_13 ⟨Nat.zero_le _, Nat.zero_le _⟩ (fun r_19 σ18 H locs q20 hP hS => ?_)
    obtain ⟨rfl, q20⟩ := q20
    have b_21 := kLen_rg hG.1 x.toNat
    rw [q20] at hP
    refine zg_iconst C dX5_signOf_16 ?_
    refine zg_isub C dX5_signOf_17 ?_
    refine zg_i2l C (by omega) (by omega) dX5_signOf_18 ?_
    refine zg_callS C X hP hS (kX5_in l σ hR κ hM hG q 0 ((kLen κ x.toNat) - 1) (by omega) (by omega) (by omega) (by omega) (by omega) (by omega)) (cwS 3 C.ts (zgS mlX5_98 stX5_in iniX5 cdX5_in) rfl rfl rfl (by decide +kernel) ⟨Nat.le_of_ble_eq_true rfl, Nat.le_of_ble_eq_true rfl⟩) rfl hl.1 rfl (Nat.le_of_ble_eq_true rfl) dX5_signOf_19 ⟨Nat.zero_le _, Nat.zero_le _⟩ (fun r_23 σ22 H locs q24 hP hS => ?_)
    obtain ⟨rfl, q24⟩ := q24
    rw [q24] at hP
    refine zg_ifneB (tgt := 29) C dX5_signOf_22 (by decide) (fun c_25 => ?_) (fun c_25 => ?_)
    · have b_26 := mIn_t c_25
      refine zg_iconst C dX5_signOf_29 ?_
      refine zg_put (j := 0) (v := 0) C X hP hS (by decide) lyM_0 rfl (zmem uwX5) tyX5 tyX5_ok nmX5 (by decide) (C.tb flX5_1) (fun _ h9 => h9) rfl (by decide +kernel) (Nat.le_of_ble_eq_true rfl) (by rw [lyM_0]; rfl) dX5_signOf_30 (fun H locs hP hS => ?_)
      obtain ⟨σ27, e28⟩ : ∃ z_ : Zt, z_ = zu σ 0 0 0 := ⟨_, rfl⟩
      rw [← e28] at hP
      have w_30 : σ27 0 0 = 0 := by rw [e28]; exact zu_same _ _ _ _
      have hR29 : rgM σ27 := by rw [e28]; exact rzM_0_0 hR (by omega) (by omega)
      have hM31 : RR κ σ27 := by rw [e28]; exact RR_keep hM (by decide)
      have h4 := congrFun (congrFun e28 0) 0
      rw [zu_same] at h4
      refine zg_aload_n C dX5_signOf_33 rfl (lv_at hl 0 rfl) ?_
      refine zg_get (j := 0) C X hP (by decide) lyM_0 rfl (zmem uwX5) (by decide) (C.tb flX5_1) (fun _ h9 => h9) rfl dX5_signOf_34 ?_
      have b_32 := rgM_0_0 hR29
      refine zg_if_le (tgt := 44) C (by omega) (by omega) dX5_signOf_37 (by decide) (fun c_33 => ?_) (fun c_33 => ?_)
      · refine zg_aload_n C dX5_signOf_44 rfl (lv_at hl 0 rfl) ?_
        refine zg_iload_n C dX5_signOf_45 rfl (lv_at hl 1 rfl) ?_
        refine zg_iload_n C dX5_signOf_46 rfl (lv_at hl 2 rfl) ?_
        refine zg_callV C X hP hS (kX5_signAt l σ27 hR29 κ hM31 hG x q (by omega) (by omega) (by omega) (by omega)) (cwV 2 C.ts (zgV mlX5_162 imX5_signAt slX5_signAt iniX5 cdX5_signAt) rfl rfl rfl (by decide +kernel) ⟨Nat.le_of_ble_eq_true rfl, Nat.le_of_ble_eq_true rfl⟩) (by decide) lyM_0 rfl rfl rfl hl.1 rfl (Nat.le_of_ble_eq_true rfl) dX5_signOf_47 ⟨Nat.zero_le _, Nat.zero_le _⟩ (fun r_35 σ34 H locs q36 hP hS => ?_)
        obtain ⟨rfl, q36⟩ := q36
        have b_37 := kSignAt_rg hG.1 x.toNat q
        rw [q36] at hP
        refine zg_iret C hP hS dX5_signOf_50 ?_
        have h9 : κ = κ := by rfl
        exact ⟨congrArg jI (by first | (exfalso; omega) | (unfold kOf; rw [if_pos (by assumption)]; done) | (unfold kOf; rw [if_pos (by assumption)]; symm; rw [kSignAt_len hG.1]; omega) | (unfold kOf; rw [if_neg (by simp [c_4, c_25, c_33])])), hR29, (by rw [h9]; exact hM31), (by rw [h9]; exact hG), (by rw [h4]; first | (rw [decide_eq_true (by unfold kOf; rw [if_pos (by assumption), kSignAt_len hG.1]; omega)]; rfl) | (rw [decide_eq_true (by unfold kOf; rw [if_neg (by simp [c_4, c_25, c_33])])]; rfl) | (rw [decide_eq_false (by unfold kOf; rw [if_pos (by assumption), kSignAt_len hG.1]; omega)]; rfl))⟩
      · refine zg_iconst C dX5_signOf_40 ?_
        refine zg_goto (tgt := 50) C dX5_signOf_41 (by decide) ?_
        refine zg_iret C hP hS dX5_signOf_50 ?_
        have h9 : κ = κ := by rfl
        exact ⟨congrArg jI (by first | (exfalso; omega) | (unfold kOf; rw [if_pos (by assumption)]; done) | (unfold kOf; rw [if_pos (by assumption)]; symm; rw [kSignAt_len hG.1]; omega) | (unfold kOf; rw [if_neg (by simp [c_4, c_25, c_33])])), hR29, (by rw [h9]; exact hM31), (by rw [h9]; exact hG), (by rw [h4]; first | (rw [decide_eq_true (by unfold kOf; rw [if_pos (by assumption), kSignAt_len hG.1]; omega)]; rfl) | (rw [decide_eq_true (by unfold kOf; rw [if_neg (by simp [c_4, c_25, c_33])])]; rfl) | (rw [decide_eq_false (by unfold kOf; rw [if_pos (by assumption), kSignAt_len hG.1]; omega)]; rfl))⟩
    · have b_38 := mIn_f c_25
      refine zg_iconst C dX5_signOf_25 ?_
      refine zg_goto (tgt := 30) C dX5_signOf_26 (by decide) ?_
      refine zg_put (j := 0) (v := 1) C X hP hS (by decide) lyM_0 rfl (zmem uwX5) tyX5 tyX5_ok nmX5 (by decide) (C.tb flX5_1) (fun _ h9 => h9) rfl (by decide +kernel) (Nat.le_of_ble_eq_true rfl) (by rw [lyM_0]; rfl) dX5_signOf_30 (fun H locs hP hS => ?_)
      obtain ⟨σ39, e40⟩ : ∃ z_ : Zt, z_ = zu σ 0 0 1 := ⟨_, rfl⟩
      rw [← e40] at hP
      have w_42 : σ39 0 0 = 1 := by rw [e40]; exact zu_same _ _ _ _
      have hR41 : rgM σ39 := by rw [e40]; exact rzM_0_0 hR (by omega) (by omega)
      have hM43 : RR κ σ39 := by rw [e40]; exact RR_keep hM (by decide)
      have h4 := congrFun (congrFun e40 0) 0
      rw [zu_same] at h4
      refine zg_aload_n C dX5_signOf_33 rfl (lv_at hl 0 rfl) ?_
      refine zg_get (j := 0) C X hP (by decide) lyM_0 rfl (zmem uwX5) (by decide) (C.tb flX5_1) (fun _ h9 => h9) rfl dX5_signOf_34 ?_
      have b_44 := rgM_0_0 hR41
      refine zg_if_le (tgt := 44) C (by omega) (by omega) dX5_signOf_37 (by decide) (fun c_45 => ?_) (fun c_45 => ?_)
      · refine zg_aload_n C dX5_signOf_44 rfl (lv_at hl 0 rfl) ?_
        refine zg_iload_n C dX5_signOf_45 rfl (lv_at hl 1 rfl) ?_
        refine zg_iload_n C dX5_signOf_46 rfl (lv_at hl 2 rfl) ?_
        refine zg_callV C X hP hS (kX5_signAt l σ39 hR41 κ hM43 hG x q (by omega) (by omega) (by omega) (by omega)) (cwV 2 C.ts (zgV mlX5_162 imX5_signAt slX5_signAt iniX5 cdX5_signAt) rfl rfl rfl (by decide +kernel) ⟨Nat.le_of_ble_eq_true rfl, Nat.le_of_ble_eq_true rfl⟩) (by decide) lyM_0 rfl rfl rfl hl.1 rfl (Nat.le_of_ble_eq_true rfl) dX5_signOf_47 ⟨Nat.zero_le _, Nat.zero_le _⟩ (fun r_47 σ46 H locs q48 hP hS => ?_)
        obtain ⟨rfl, q48⟩ := q48
        have b_49 := kSignAt_rg hG.1 x.toNat q
        rw [q48] at hP
        refine zg_iret C hP hS dX5_signOf_50 ?_
        have h9 : κ = κ := by rfl
        exact ⟨congrArg jI (by first | (exfalso; omega) | (unfold kOf; rw [if_pos (by assumption)]; done) | (unfold kOf; rw [if_pos (by assumption)]; symm; rw [kSignAt_len hG.1]; omega) | (unfold kOf; rw [if_neg (by simp [c_4, c_25, c_45])])), hR41, (by rw [h9]; exact hM43), (by rw [h9]; exact hG), (by rw [h4]; first | (rw [decide_eq_true (by unfold kOf; rw [if_pos (by assumption), kSignAt_len hG.1]; omega)]; rfl) | (rw [decide_eq_true (by unfold kOf; rw [if_neg (by simp [c_4, c_25, c_45])])]; rfl) | (rw [decide_eq_false (by unfold kOf; rw [if_pos (by assumption), kSignAt_len hG.1]; omega)]; rfl))⟩
      · refine zg_iconst C dX5_signOf_40 ?_
        refine zg_goto (tgt := 50) C dX5_signOf_41 (by decide) ?_
        refine zg_iret C hP hS dX5_signOf_50 ?_
        have h9 : κ = κ := by rfl
        exact ⟨congrArg jI (by first | (exfalso; omega) | (unfold kOf; rw [if_pos (by assumption)]; done) | (unfold kOf; rw [if_pos (by assumption)]; symm; rw [kSignAt_len hG.1]; omega) | (unfold kOf; rw [if_neg (by simp [c_4, c_25, c_45])])), hR41, (by rw [h9]; exact hM43), (by rw [h9]; exact hG), (by rw [h4]; first | (rw [decide_eq_true (by unfold kOf; rw [if_pos (by assumption), kSignAt_len hG.1]; omega)]; rfl) | (rw [decide_eq_true (by unfold kOf; rw [if_neg (by simp [c_4, c_25, c_45])])]; rfl) | (rw [decide_eq_false (by unfold kOf; rw [if_pos (by assumption), kSignAt_len hG.1]; omega)]; rfl))⟩
set_option maxHeartbeats 4000000 in
set_option maxRecDepth 100000 in
theorem kX5_sign (l : Launch) {D : va_G} {a : Nat → Nat} {cI cZ : ClassId} (σ : Zt) (hR : rgM σ) (κ : Zt) (hM : RR κ σ) (hG : kMid κ) (x : Int) (q : Int) (x0 : -2147483648 ≤ x) (x1 : x < 2147483648) (q0 : -2147483648 ≤ q) (q1 : q < 2147483648) : zc l D vwCl (tyM cI cZ) 28 (layM cI cZ a) a yX5_sign wsX5_sign ({ frames := 4, cells := 0, slots := 0, locals := 91 }) [.ref (a 0), .int (jI x), .int (jI q)] σ (fun r_ u_ => r_ = jI (kSigR κ x q) ∧ rgM u_ ∧ RR κ u_ ∧ kMid κ ∧ u_ 0 0 = bI (decide (kOf κ x q = -1))) := by
  refine zc_of (cc := cX5_sign) (maxL := 4) (ret := some .int) (own := RX5) (by decide) rfl rfl (Nat.le_of_ble_eq_true rfl) rfl ?_
  intro p e s m below meth c A ls C X hP hS hl
  have bT := rgS_1_10 hG.1
  have bP := rgS_11_4 hG.1
  have bPT := hG.e.1
  have bf := kOf_ok hG x q
  have bg := kOf_rg hG.1 x q
  refine zg_aload_n C dX5_sign_0 rfl (lv_at hl 0 rfl) ?_
  refine zg_iload_n C dX5_sign_1 rfl (lv_at hl 1 rfl) ?_
  refine zg_iload_n C dX5_sign_2 rfl (lv_at hl 2 rfl) ?_
  refine zg_callV C X hP hS (kX5_signOf l σ hR κ hM hG x q (by omega) (by omega) (by omega) (by omega)) (cwV 2 C.ts (zgV mlX5_198 imX5_signOf slX5_signOf iniX5 cdX5_signOf) rfl rfl rfl (by decide +kernel) ⟨Nat.le_of_ble_eq_true rfl, Nat.le_of_ble_eq_true rfl⟩) (by decide) lyM_0 rfl rfl rfl hl.1 rfl (Nat.le_of_ble_eq_true rfl) dX5_sign_3 ⟨Nat.zero_le _, Nat.zero_le _⟩ (fun r_2 σ1 H locs q3 hP hS => ?_)
  obtain ⟨rfl, q3⟩ := q3
  have b_4 := kOf_rg hG.1 x q
  have b_5 := kOf_ok hG x q
  obtain ⟨hR6, hM7, -, hx10⟩ := q3
  refine zg_istore_n (lv' := [(3, .int (jI (kOf κ x q))), (0, .ref (a 0)), (1, .int (jI x)), (2, .int (jI q))]) C dX5_sign_6 rfl hl (by decide) rfl (fun ls hl => ?_)
  refine zg_iload_n C dX5_sign_7 rfl (lv_at hl 0 rfl) ?_
  refine zg_iconst C dX5_sign_8 ?_
  refine zg_icmp_ne (tgt := 16) C (by omega) (by omega) (by omega) (by omega) dX5_sign_9 (by decide) (fun c_11 => ?_) (fun c_11 => ?_)
  · refine zg_aload_n C dX5_sign_16 rfl (lv_at hl 1 rfl) ?_
    refine zg_get (j := 6) C X hP (by decide) lyM_0 rfl (zmem uwX5) (by decide) (C.tb flX5_26) (fun _ h9 => h9) rfl dX5_sign_17 ?_
    refine zg_iload_n C dX5_sign_20 rfl (lv_at hl 0 rfl) ?_
    refine zg_iald (t0 := 0) C X hP (by decide) lyM_5 rfl (by decide) (by omega) (by omega) dX5_sign_21 ?_
    rw [rr_5 hM7]
    have b_12 := rgS_6 hG.1 (kOf κ x q).toNat
    have b_13 := rgM_5 hR6 ((kOf κ x q).toNat)
    refine zg_iret C hP hS dX5_sign_22 ?_
    have h9 : κ = κ := by rfl
    exact ⟨congrArg jI (by unfold kSigR; first | rw [if_pos (by assumption)] | rw [if_neg (by assumption)]), hR6, (by rw [h9]; exact hM7), (by rw [h9]; exact hG), hx10⟩
  · refine zg_iconst C dX5_sign_12 ?_
    refine zg_goto (tgt := 22) C dX5_sign_13 (by decide) ?_
    refine zg_iret C hP hS dX5_sign_22 ?_
    have h9 : κ = κ := by rfl
    exact ⟨congrArg jI (by unfold kSigR; first | rw [if_pos (by assumption)] | rw [if_neg (by assumption)]), hR6, (by rw [h9]; exact hM7), (by rw [h9]; exact hG), hx10⟩
set_option maxHeartbeats 4000000 in
set_option maxRecDepth 100000 in
theorem kX5_kinds (l : Launch) {D : va_G} {a : Nat → Nat} {cI cZ : ClassId} (σ : Zt) (hR : rgM σ) (κ : Zt) (hM : RR κ σ) (hG : kMid κ) (x : Int) (q : Int) (x0 : -2147483648 ≤ x) (x1 : x < 2147483648) (q0 : -2147483648 ≤ q) (q1 : q < 2147483648) : zc l D vwCl (tyM cI cZ) 28 (layM cI cZ a) a yX5_kinds wsX5_kinds ({ frames := 4, cells := 0, slots := 0, locals := 91 }) [.ref (a 0), .int (jI x), .int (jI q)] σ (fun r_ u_ => r_ = jI (kKinR κ x q) ∧ rgM u_ ∧ RR κ u_ ∧ kMid κ ∧ u_ 0 0 = bI (decide (kOf κ x q = -1))) := by
  refine zc_of (cc := cX5_kinds) (maxL := 4) (ret := some .int) (own := RX5) (by decide) rfl rfl (Nat.le_of_ble_eq_true rfl) rfl ?_
  intro p e s m below meth c A ls C X hP hS hl
  have bT := rgS_1_10 hG.1
  have bP := rgS_11_4 hG.1
  have bPT := hG.e.1
  have bf := kOf_ok hG x q
  have bg := kOf_rg hG.1 x q
  refine zg_aload_n C dX5_kinds_0 rfl (lv_at hl 0 rfl) ?_
  refine zg_iload_n C dX5_kinds_1 rfl (lv_at hl 1 rfl) ?_
  refine zg_iload_n C dX5_kinds_2 rfl (lv_at hl 2 rfl) ?_
  refine zg_callV C X hP hS (kX5_signOf l σ hR κ hM hG x q (by omega) (by omega) (by omega) (by omega)) (cwV 2 C.ts (zgV mlX5_198 imX5_signOf slX5_signOf iniX5 cdX5_signOf) rfl rfl rfl (by decide +kernel) ⟨Nat.le_of_ble_eq_true rfl, Nat.le_of_ble_eq_true rfl⟩) (by decide) lyM_0 rfl rfl rfl hl.1 rfl (Nat.le_of_ble_eq_true rfl) dX5_kinds_3 ⟨Nat.zero_le _, Nat.zero_le _⟩ (fun r_2 σ1 H locs q3 hP hS => ?_)
  obtain ⟨rfl, q3⟩ := q3
  have b_4 := kOf_rg hG.1 x q
  have b_5 := kOf_ok hG x q
  obtain ⟨hR6, hM7, -, hx10⟩ := q3
  refine zg_istore_n (lv' := [(3, .int (jI (kOf κ x q))), (0, .ref (a 0)), (1, .int (jI x)), (2, .int (jI q))]) C dX5_kinds_6 rfl hl (by decide) rfl (fun ls hl => ?_)
  refine zg_iload_n C dX5_kinds_7 rfl (lv_at hl 0 rfl) ?_
  refine zg_iconst C dX5_kinds_8 ?_
  refine zg_icmp_ne (tgt := 16) C (by omega) (by omega) (by omega) (by omega) dX5_kinds_9 (by decide) (fun c_11 => ?_) (fun c_11 => ?_)
  · have bz := kIsR_t (bf.resolve_left (by assumption)).2.2.2
    refine zg_aload_n C dX5_kinds_16 rfl (lv_at hl 1 rfl) ?_
    refine zg_iload_n C dX5_kinds_17 rfl (lv_at hl 2 rfl) ?_
    refine zg_iload_n C dX5_kinds_18 rfl (lv_at hl 0 rfl) ?_
    refine zg_callV C X hP hS (kX5_kindsOf l σ1 hR6 κ hM7 hG x (kOf κ x q) (by omega) (by omega) (by omega) (by omega)) (cwV 2 C.ts (zgV mlX5_203 imX5_kindsOf slX5_kindsOf iniX5 cdX5_kindsOf) rfl rfl rfl (by decide +kernel) ⟨Nat.le_of_ble_eq_true rfl, Nat.le_of_ble_eq_true rfl⟩) (by decide) lyM_0 rfl rfl rfl hl.1 rfl (Nat.le_of_ble_eq_true rfl) dX5_kinds_19 ⟨Nat.zero_le _, Nat.zero_le _⟩ (fun r_13 σ12 H locs q14 hP hS => ?_)
    obtain ⟨rfl, q14⟩ := q14
    have b_15 := kKinds_rg κ x.toNat (kOf κ x q)
    rw [q14] at hP
    refine zg_iret C hP hS dX5_kinds_22 ?_
    have h9 : κ = κ := by rfl
    exact ⟨congrArg jI (by unfold kKinR; first | rw [if_pos (by assumption)] | rw [if_neg (by assumption)]), hR6, (by rw [h9]; exact hM7), (by rw [h9]; exact hG), hx10⟩
  · refine zg_iconst C dX5_kinds_12 ?_
    refine zg_goto (tgt := 22) C dX5_kinds_13 (by decide) ?_
    refine zg_iret C hP hS dX5_kinds_22 ?_
    have h9 : κ = κ := by rfl
    exact ⟨congrArg jI (by unfold kKinR; first | rw [if_pos (by assumption)] | rw [if_neg (by assumption)]), hR6, (by rw [h9]; exact hM7), (by rw [h9]; exact hG), hx10⟩
set_option maxHeartbeats 4000000 in
set_option maxRecDepth 100000 in
theorem kX5_path (l : Launch) {D : va_G} {a : Nat → Nat} {cI cZ : ClassId} (σ : Zt) (hR : rgM σ) (κ : Zt) (hM : RR κ σ) (hG : kMid κ) (x : Int) (q : Int) (k : Int) (w : Int) (x0 : -2147483648 ≤ x) (x1 : x < 2147483648) (q0 : -2147483648 ≤ q) (q1 : q < 2147483648) (k0 : -2147483648 ≤ k) (k1 : k < 2147483648) (w0 : -2147483648 ≤ w) (w1 : w < 2147483648) : zc l D vwCl (tyM cI cZ) 28 (layM cI cZ a) a yX5_path wsX5_path ({ frames := 4, cells := 0, slots := 0, locals := 91 }) [.ref (a 0), .int (jI x), .int (jI q), .int (jI k), .int (jI w)] σ (fun r_ u_ => r_ = jI (kPatR κ x q k w) ∧ rgM u_ ∧ RR κ u_ ∧ kMid κ ∧ u_ 0 0 = bI (kPatT κ x q k w)) := by
  refine zc_of (cc := cX5_path) (maxL := 7) (ret := some .int) (own := RX5) (by decide) rfl rfl (Nat.le_of_ble_eq_true rfl) rfl ?_
  intro p e s m below meth c A ls C X hP hS hl
  have bT := rgS_1_10 hG.1
  have bP := rgS_11_4 hG.1
  have bPT := hG.e.1
  have bf := kOf_ok hG x q
  have bg := kOf_rg hG.1 x q
  have bl := rgS_13 hG.1 (kOf κ x q).toNat
  refine zg_aload_n C dX5_path_0 rfl (lv_at hl 0 rfl) ?_
  refine zg_iload_n C dX5_path_1 rfl (lv_at hl 1 rfl) ?_
  refine zg_iload_n C dX5_path_2 rfl (lv_at hl 2 rfl) ?_
  refine zg_callV C X hP hS (kX5_signOf l σ hR κ hM hG x q (by omega) (by omega) (by omega) (by omega)) (cwV 2 C.ts (zgV mlX5_198 imX5_signOf slX5_signOf iniX5 cdX5_signOf) rfl rfl rfl (by decide +kernel) ⟨Nat.le_of_ble_eq_true rfl, Nat.le_of_ble_eq_true rfl⟩) (by decide) lyM_0 rfl rfl rfl hl.1 rfl (Nat.le_of_ble_eq_true rfl) dX5_path_3 ⟨Nat.zero_le _, Nat.zero_le _⟩ (fun r_2 σ1 H locs q3 hP hS => ?_)
  obtain ⟨rfl, q3⟩ := q3
  have b_4 := kOf_rg hG.1 x q
  have b_5 := kOf_ok hG x q
  obtain ⟨hR6, hM7, -, hx10⟩ := q3
  refine zg_istore (lv' := [(5, .int (jI (kOf κ x q))), (0, .ref (a 0)), (1, .int (jI x)), (2, .int (jI q)), (3, .int (jI k)), (4, .int (jI w))]) C dX5_path_6 hl (by decide) rfl (fun ls hl => ?_)
  refine zg_iload C dX5_path_8 (lv_at hl 0 rfl) ?_
  refine zg_iconst C dX5_path_10 ?_
  refine zg_icmp_eq (tgt := 49) C (by omega) (by omega) (by omega) (by omega) dX5_path_11 (by decide) (fun c_11 => ?_) (fun c_11 => ?_)
  · refine zg_aload_n C dX5_path_49 rfl (lv_at hl 1 rfl) ?_
    refine zg_iconst C dX5_path_50 ?_
    refine zg_put (j := 0) (v := 1) C X hP hS (by decide) lyM_0 rfl (zmem uwX5) tyX5 tyX5_ok nmX5 (by decide) (C.tb flX5_1) (fun _ h9 => h9) rfl (by decide +kernel) (Nat.le_of_ble_eq_true rfl) (by rw [lyM_0]; rfl) dX5_path_51 (fun H locs hP hS => ?_)
    obtain ⟨σ12, e13⟩ : ∃ z_ : Zt, z_ = zu σ1 0 0 1 := ⟨_, rfl⟩
    rw [← e13] at hP
    have w_15 : σ12 0 0 = 1 := by rw [e13]; exact zu_same _ _ _ _
    have hR14 : rgM σ12 := by rw [e13]; exact rzM_0_0 hR6 (by omega) (by omega)
    have hM16 : RR κ σ12 := by rw [e13]; exact RR_keep hM7 (by decide)
    have h4 := congrFun (congrFun e13 0) 0
    rw [zu_same] at h4
    refine zg_iconst C dX5_path_54 ?_
    refine zg_iret C hP hS dX5_path_55 ?_
    have h5 : kPatT κ x q k w = true := by unfold kPatT; grind
    have h9 : κ = κ := by rfl
    exact ⟨congrArg jI (by grind [kPatR]), hR14, (by rw [h9]; exact hM16), (by rw [h9]; exact hG), (by rw [h4, h5]; rfl)⟩
  · refine zg_iload C dX5_path_14 (lv_at hl 5 rfl) ?_
    refine zg_i2l C (by omega) (by omega) dX5_path_16 ?_
    refine zg_lconst C 0 rfl dX5_path_17 ?_
    refine zg_ldc2 (v := 3) C (C.tb klX5_201) rfl dX5_path_18 ?_
    refine zg_callS C X hP hS (kX5_in l σ1 hR6 κ hM7 hG w 0 3 (by omega) (by omega) (by omega) (by omega) (by omega) (by omega)) (cwS 3 C.ts (zgS mlX5_98 stX5_in iniX5 cdX5_in) rfl rfl rfl (by decide +kernel) ⟨Nat.le_of_ble_eq_true rfl, Nat.le_of_ble_eq_true rfl⟩) rfl hl.1 rfl (Nat.le_of_ble_eq_true rfl) dX5_path_21 ⟨Nat.zero_le _, Nat.zero_le _⟩ (fun r_18 σ17 H locs q19 hP hS => ?_)
    obtain ⟨rfl, q19⟩ := q19
    rw [q19] at hP
    refine zg_ifeqB (tgt := 49) C dX5_path_24 (by decide) (fun c_20 => ?_) (fun c_20 => ?_)
    · have b_21 := mIn_f c_20
      refine zg_aload_n C dX5_path_49 rfl (lv_at hl 1 rfl) ?_
      refine zg_iconst C dX5_path_50 ?_
      refine zg_put (j := 0) (v := 1) C X hP hS (by decide) lyM_0 rfl (zmem uwX5) tyX5 tyX5_ok nmX5 (by decide) (C.tb flX5_1) (fun _ h9 => h9) rfl (by decide +kernel) (Nat.le_of_ble_eq_true rfl) (by rw [lyM_0]; rfl) dX5_path_51 (fun H locs hP hS => ?_)
      obtain ⟨σ22, e23⟩ : ∃ z_ : Zt, z_ = zu σ1 0 0 1 := ⟨_, rfl⟩
      rw [← e23] at hP
      have w_25 : σ22 0 0 = 1 := by rw [e23]; exact zu_same _ _ _ _
      have hR24 : rgM σ22 := by rw [e23]; exact rzM_0_0 hR6 (by omega) (by omega)
      have hM26 : RR κ σ22 := by rw [e23]; exact RR_keep hM7 (by decide)
      have h4 := congrFun (congrFun e23 0) 0
      rw [zu_same] at h4
      refine zg_iconst C dX5_path_54 ?_
      refine zg_iret C hP hS dX5_path_55 ?_
      have h5 : kPatT κ x q k w = true := by unfold kPatT; grind
      have h9 : κ = κ := by rfl
      exact ⟨congrArg jI (by grind [kPatR]), hR24, (by rw [h9]; exact hM26), (by rw [h9]; exact hG), (by rw [h4, h5]; rfl)⟩
    · have b_27 := mIn_t c_20
      refine zg_iload C dX5_path_27 (lv_at hl 5 rfl) ?_
      refine zg_if_le (tgt := 56) C (by omega) (by omega) dX5_path_29 (by decide) (fun c_28 => ?_) (fun c_28 => ?_)
      · refine zg_bipush C dX5_path_56 (by decide) ?_
        refine zg_iload C dX5_path_58 (lv_at hl 0 rfl) ?_
        refine zg_imul C dX5_path_60 ?_
        refine zg_iload_n C dX5_path_61 rfl (lv_at hl 4 rfl) ?_
        refine zg_iadd C dX5_path_62 ?_
        refine zg_iconst C dX5_path_63 ?_
        refine zg_isub C dX5_path_64 ?_
        refine zg_istore (lv' := [(6, .int (jI (((12 * (kOf κ x q)) + k) - 1))), (5, .int (jI (kOf κ x q))), (0, .ref (a 0)), (1, .int (jI x)), (2, .int (jI q)), (3, .int (jI k)), (4, .int (jI w))]) C dX5_path_65 hl (by decide) rfl (fun ls hl => ?_)
        refine zg_iload C dX5_path_67 (lv_at hl 6 rfl) ?_
        refine zg_if_ne (tgt := 82) C (by omega) (by omega) dX5_path_69 (by decide) (fun c_29 => ?_) (fun c_29 => ?_)
        · refine zg_iload C dX5_path_82 (lv_at hl 6 rfl) ?_
          refine zg_iconst C dX5_path_84 ?_
          refine zg_icmp_ne (tgt := 98) C (by omega) (by omega) (by omega) (by omega) dX5_path_85 (by decide) (fun c_30 => ?_) (fun c_30 => ?_)
          · refine zg_iload C dX5_path_98 (lv_at hl 6 rfl) ?_
            refine zg_iconst C dX5_path_100 ?_
            refine zg_icmp_ne (tgt := 114) C (by omega) (by omega) (by omega) (by omega) dX5_path_101 (by decide) (fun c_31 => ?_) (fun c_31 => ?_)
            · refine zg_aload_n C dX5_path_114 rfl (lv_at hl 2 rfl) ?_
              refine zg_get (j := 14) C X hP (by decide) lyM_0 rfl (zmem uwX5) (by decide) (C.tb flX5_51) (fun _ h9 => h9) rfl dX5_path_115 ?_
              refine zg_iload C dX5_path_118 (lv_at hl 0 rfl) ?_
              refine zg_iald (t0 := 0) C X hP (by decide) lyM_13 rfl (by decide) (by omega) (by omega) dX5_path_120 ?_
              have b_32 := rgM_13 hR6 ((((12 * (kOf κ x q)) + k) - 1).toNat)
              refine zg_iret C hP hS dX5_path_121 ?_
              have h5 : kPatT κ x q k w = false := by unfold kPatT; grind [mIn]
              have h9 : κ = κ := by rfl
              exact ⟨congrArg jI (by unfold kPatR; rw [if_neg (by simp [h5])]; first | rw [if_pos (by assumption)] | (rw [if_neg (by assumption), if_pos (by assumption), (rr_lev3 hM7 hR6 (by omega) (by omega) (by omega) (by omega)).1]) | (rw [if_neg (by assumption), if_neg (by assumption), if_pos (by assumption), (rr_lev3 hM7 hR6 (by omega) (by omega) (by omega) (by omega)).2.1]) | (rw [if_neg (by assumption), if_neg (by assumption), if_neg (by assumption), (rr_lev3 hM7 hR6 (by omega) (by omega) (by omega) (by omega)).2.2])), hR6, (by rw [h9]; exact hM7), (by rw [h9]; exact hG), (by rw [hx10, h5, decide_eq_false (by assumption)])⟩
            · refine zg_aload_n C dX5_path_104 rfl (lv_at hl 2 rfl) ?_
              refine zg_get (j := 13) C X hP (by decide) lyM_0 rfl (zmem uwX5) (by decide) (C.tb flX5_48) (fun _ h9 => h9) rfl dX5_path_105 ?_
              refine zg_iload C dX5_path_108 (lv_at hl 0 rfl) ?_
              refine zg_iald (t0 := 0) C X hP (by decide) lyM_12 rfl (by decide) (by omega) (by omega) dX5_path_110 ?_
              have b_33 := rgM_12 hR6 ((((12 * (kOf κ x q)) + k) - 1).toNat)
              refine zg_goto (tgt := 121) C dX5_path_111 (by decide) ?_
              refine zg_iret C hP hS dX5_path_121 ?_
              have h5 : kPatT κ x q k w = false := by unfold kPatT; grind [mIn]
              have h9 : κ = κ := by rfl
              exact ⟨congrArg jI (by unfold kPatR; rw [if_neg (by simp [h5])]; first | rw [if_pos (by assumption)] | (rw [if_neg (by assumption), if_pos (by assumption), (rr_lev3 hM7 hR6 (by omega) (by omega) (by omega) (by omega)).1]) | (rw [if_neg (by assumption), if_neg (by assumption), if_pos (by assumption), (rr_lev3 hM7 hR6 (by omega) (by omega) (by omega) (by omega)).2.1]) | (rw [if_neg (by assumption), if_neg (by assumption), if_neg (by assumption), (rr_lev3 hM7 hR6 (by omega) (by omega) (by omega) (by omega)).2.2])), hR6, (by rw [h9]; exact hM7), (by rw [h9]; exact hG), (by rw [hx10, h5, decide_eq_false (by assumption)])⟩
          · refine zg_aload_n C dX5_path_88 rfl (lv_at hl 2 rfl) ?_
            refine zg_get (j := 12) C X hP (by decide) lyM_0 rfl (zmem uwX5) (by decide) (C.tb flX5_45) (fun _ h9 => h9) rfl dX5_path_89 ?_
            refine zg_iload C dX5_path_92 (lv_at hl 0 rfl) ?_
            refine zg_iald (t0 := 0) C X hP (by decide) lyM_11 rfl (by decide) (by omega) (by omega) dX5_path_94 ?_
            have b_34 := rgM_11 hR6 ((((12 * (kOf κ x q)) + k) - 1).toNat)
            refine zg_goto (tgt := 121) C dX5_path_95 (by decide) ?_
            refine zg_iret C hP hS dX5_path_121 ?_
            have h5 : kPatT κ x q k w = false := by unfold kPatT; grind [mIn]
            have h9 : κ = κ := by rfl
            exact ⟨congrArg jI (by unfold kPatR; rw [if_neg (by simp [h5])]; first | rw [if_pos (by assumption)] | (rw [if_neg (by assumption), if_pos (by assumption), (rr_lev3 hM7 hR6 (by omega) (by omega) (by omega) (by omega)).1]) | (rw [if_neg (by assumption), if_neg (by assumption), if_pos (by assumption), (rr_lev3 hM7 hR6 (by omega) (by omega) (by omega) (by omega)).2.1]) | (rw [if_neg (by assumption), if_neg (by assumption), if_neg (by assumption), (rr_lev3 hM7 hR6 (by omega) (by omega) (by omega) (by omega)).2.2])), hR6, (by rw [h9]; exact hM7), (by rw [h9]; exact hG), (by rw [hx10, h5, decide_eq_false (by assumption)])⟩
        · refine zg_aload_n C dX5_path_72 rfl (lv_at hl 2 rfl) ?_
          refine zg_get (j := 11) C X hP (by decide) lyM_0 rfl (zmem uwX5) (by decide) (C.tb flX5_42) (fun _ h9 => h9) rfl dX5_path_73 ?_
          refine zg_iload C dX5_path_76 (lv_at hl 1 rfl) ?_
          refine zg_iald (t0 := 0) C X hP (by decide) lyM_10 rfl (by decide) (by omega) (by omega) dX5_path_78 ?_
          rw [rr_10 hM7]
          have b_35 := rgS_13 hG.1 (kOf κ x q).toNat
          have b_36 := rgM_10 hR6 ((kOf κ x q).toNat)
          refine zg_goto (tgt := 121) C dX5_path_79 (by decide) ?_
          refine zg_iret C hP hS dX5_path_121 ?_
          have h5 : kPatT κ x q k w = false := by unfold kPatT; grind [mIn]
          have h9 : κ = κ := by rfl
          exact ⟨congrArg jI (by unfold kPatR; rw [if_neg (by simp [h5])]; first | rw [if_pos (by assumption)] | (rw [if_neg (by assumption), if_pos (by assumption), (rr_lev3 hM7 hR6 (by omega) (by omega) (by omega) (by omega)).1]) | (rw [if_neg (by assumption), if_neg (by assumption), if_pos (by assumption), (rr_lev3 hM7 hR6 (by omega) (by omega) (by omega) (by omega)).2.1]) | (rw [if_neg (by assumption), if_neg (by assumption), if_neg (by assumption), (rr_lev3 hM7 hR6 (by omega) (by omega) (by omega) (by omega)).2.2])), hR6, (by rw [h9]; exact hM7), (by rw [h9]; exact hG), (by rw [hx10, h5, decide_eq_false (by assumption)])⟩
      · refine zg_iload_n C dX5_path_32 rfl (lv_at hl 4 rfl) ?_
        refine zg_i2l C (by omega) (by omega) dX5_path_33 ?_
        refine zg_lconst C 1 rfl dX5_path_34 ?_
        refine zg_aload_n C dX5_path_35 rfl (lv_at hl 1 rfl) ?_
        refine zg_get (j := 11) C X hP (by decide) lyM_0 rfl (zmem uwX5) (by decide) (C.tb flX5_42) (fun _ h9 => h9) rfl dX5_path_36 ?_
        refine zg_iload C dX5_path_39 (lv_at hl 0 rfl) ?_
        refine zg_iald (t0 := 0) C X hP (by decide) lyM_10 rfl (by decide) (by omega) (by omega) dX5_path_41 ?_
        rw [rr_10 hM7]
        have b_37 := rgS_13 hG.1 (kOf κ x q).toNat
        have b_38 := rgM_10 hR6 ((kOf κ x q).toNat)
        refine zg_i2l C (by omega) (by omega) dX5_path_42 ?_
        refine zg_callS C X hP hS (kX5_in l σ1 hR6 κ hM7 hG k 1 (κ 13 (kOf κ x q).toNat) (by omega) (by omega) (by omega) (by omega) (by omega) (by omega)) (cwS 3 C.ts (zgS mlX5_98 stX5_in iniX5 cdX5_in) rfl rfl rfl (by decide +kernel) ⟨Nat.le_of_ble_eq_true rfl, Nat.le_of_ble_eq_true rfl⟩) rfl hl.1 rfl (Nat.le_of_ble_eq_true rfl) dX5_path_43 ⟨Nat.zero_le _, Nat.zero_le _⟩ (fun r_40 σ39 H locs q41 hP hS => ?_)
        obtain ⟨rfl, q41⟩ := q41
        rw [q41] at hP
        refine zg_ifneB (tgt := 56) C dX5_path_46 (by decide) (fun c_42 => ?_) (fun c_42 => ?_)
        · have b_43 := mIn_t c_42
          refine zg_bipush C dX5_path_56 (by decide) ?_
          refine zg_iload C dX5_path_58 (lv_at hl 0 rfl) ?_
          refine zg_imul C dX5_path_60 ?_
          refine zg_iload_n C dX5_path_61 rfl (lv_at hl 4 rfl) ?_
          refine zg_iadd C dX5_path_62 ?_
          refine zg_iconst C dX5_path_63 ?_
          refine zg_isub C dX5_path_64 ?_
          refine zg_istore (lv' := [(6, .int (jI (((12 * (kOf κ x q)) + k) - 1))), (5, .int (jI (kOf κ x q))), (0, .ref (a 0)), (1, .int (jI x)), (2, .int (jI q)), (3, .int (jI k)), (4, .int (jI w))]) C dX5_path_65 hl (by decide) rfl (fun ls hl => ?_)
          refine zg_iload C dX5_path_67 (lv_at hl 6 rfl) ?_
          refine zg_if_ne (tgt := 82) C (by omega) (by omega) dX5_path_69 (by decide) (fun c_44 => ?_) (fun c_44 => ?_)
          · refine zg_iload C dX5_path_82 (lv_at hl 6 rfl) ?_
            refine zg_iconst C dX5_path_84 ?_
            refine zg_icmp_ne (tgt := 98) C (by omega) (by omega) (by omega) (by omega) dX5_path_85 (by decide) (fun c_45 => ?_) (fun c_45 => ?_)
            · refine zg_iload C dX5_path_98 (lv_at hl 6 rfl) ?_
              refine zg_iconst C dX5_path_100 ?_
              refine zg_icmp_ne (tgt := 114) C (by omega) (by omega) (by omega) (by omega) dX5_path_101 (by decide) (fun c_46 => ?_) (fun c_46 => ?_)
              · refine zg_aload_n C dX5_path_114 rfl (lv_at hl 2 rfl) ?_
                refine zg_get (j := 14) C X hP (by decide) lyM_0 rfl (zmem uwX5) (by decide) (C.tb flX5_51) (fun _ h9 => h9) rfl dX5_path_115 ?_
                refine zg_iload C dX5_path_118 (lv_at hl 0 rfl) ?_
                refine zg_iald (t0 := 0) C X hP (by decide) lyM_13 rfl (by decide) (by omega) (by omega) dX5_path_120 ?_
                have b_47 := rgM_13 hR6 ((((12 * (kOf κ x q)) + k) - 1).toNat)
                refine zg_iret C hP hS dX5_path_121 ?_
                have h5 : kPatT κ x q k w = false := by unfold kPatT; grind [mIn]
                have h9 : κ = κ := by rfl
                exact ⟨congrArg jI (by unfold kPatR; rw [if_neg (by simp [h5])]; first | rw [if_pos (by assumption)] | (rw [if_neg (by assumption), if_pos (by assumption), (rr_lev3 hM7 hR6 (by omega) (by omega) (by omega) (by omega)).1]) | (rw [if_neg (by assumption), if_neg (by assumption), if_pos (by assumption), (rr_lev3 hM7 hR6 (by omega) (by omega) (by omega) (by omega)).2.1]) | (rw [if_neg (by assumption), if_neg (by assumption), if_neg (by assumption), (rr_lev3 hM7 hR6 (by omega) (by omega) (by omega) (by omega)).2.2])), hR6, (by rw [h9]; exact hM7), (by rw [h9]; exact hG), (by rw [hx10, h5, decide_eq_false (by assumption)])⟩
              · refine zg_aload_n C dX5_path_104 rfl (lv_at hl 2 rfl) ?_
                refine zg_get (j := 13) C X hP (by decide) lyM_0 rfl (zmem uwX5) (by decide) (C.tb flX5_48) (fun _ h9 => h9) rfl dX5_path_105 ?_
                refine zg_iload C dX5_path_108 (lv_at hl 0 rfl) ?_
                refine zg_iald (t0 := 0) C X hP (by decide) lyM_12 rfl (by decide) (by omega) (by omega) dX5_path_110 ?_
                have b_48 := rgM_12 hR6 ((((12 * (kOf κ x q)) + k) - 1).toNat)
                refine zg_goto (tgt := 121) C dX5_path_111 (by decide) ?_
                refine zg_iret C hP hS dX5_path_121 ?_
                have h5 : kPatT κ x q k w = false := by unfold kPatT; grind [mIn]
                have h9 : κ = κ := by rfl
                exact ⟨congrArg jI (by unfold kPatR; rw [if_neg (by simp [h5])]; first | rw [if_pos (by assumption)] | (rw [if_neg (by assumption), if_pos (by assumption), (rr_lev3 hM7 hR6 (by omega) (by omega) (by omega) (by omega)).1]) | (rw [if_neg (by assumption), if_neg (by assumption), if_pos (by assumption), (rr_lev3 hM7 hR6 (by omega) (by omega) (by omega) (by omega)).2.1]) | (rw [if_neg (by assumption), if_neg (by assumption), if_neg (by assumption), (rr_lev3 hM7 hR6 (by omega) (by omega) (by omega) (by omega)).2.2])), hR6, (by rw [h9]; exact hM7), (by rw [h9]; exact hG), (by rw [hx10, h5, decide_eq_false (by assumption)])⟩
            · refine zg_aload_n C dX5_path_88 rfl (lv_at hl 2 rfl) ?_
              refine zg_get (j := 12) C X hP (by decide) lyM_0 rfl (zmem uwX5) (by decide) (C.tb flX5_45) (fun _ h9 => h9) rfl dX5_path_89 ?_
              refine zg_iload C dX5_path_92 (lv_at hl 0 rfl) ?_
              refine zg_iald (t0 := 0) C X hP (by decide) lyM_11 rfl (by decide) (by omega) (by omega) dX5_path_94 ?_
              have b_49 := rgM_11 hR6 ((((12 * (kOf κ x q)) + k) - 1).toNat)
              refine zg_goto (tgt := 121) C dX5_path_95 (by decide) ?_
              refine zg_iret C hP hS dX5_path_121 ?_
              have h5 : kPatT κ x q k w = false := by unfold kPatT; grind [mIn]
              have h9 : κ = κ := by rfl
              exact ⟨congrArg jI (by unfold kPatR; rw [if_neg (by simp [h5])]; first | rw [if_pos (by assumption)] | (rw [if_neg (by assumption), if_pos (by assumption), (rr_lev3 hM7 hR6 (by omega) (by omega) (by omega) (by omega)).1]) | (rw [if_neg (by assumption), if_neg (by assumption), if_pos (by assumption), (rr_lev3 hM7 hR6 (by omega) (by omega) (by omega) (by omega)).2.1]) | (rw [if_neg (by assumption), if_neg (by assumption), if_neg (by assumption), (rr_lev3 hM7 hR6 (by omega) (by omega) (by omega) (by omega)).2.2])), hR6, (by rw [h9]; exact hM7), (by rw [h9]; exact hG), (by rw [hx10, h5, decide_eq_false (by assumption)])⟩
          · refine zg_aload_n C dX5_path_72 rfl (lv_at hl 2 rfl) ?_
            refine zg_get (j := 11) C X hP (by decide) lyM_0 rfl (zmem uwX5) (by decide) (C.tb flX5_42) (fun _ h9 => h9) rfl dX5_path_73 ?_
            refine zg_iload C dX5_path_76 (lv_at hl 1 rfl) ?_
            refine zg_iald (t0 := 0) C X hP (by decide) lyM_10 rfl (by decide) (by omega) (by omega) dX5_path_78 ?_
            rw [rr_10 hM7]
            have b_50 := rgS_13 hG.1 (kOf κ x q).toNat
            have b_51 := rgM_10 hR6 ((kOf κ x q).toNat)
            refine zg_goto (tgt := 121) C dX5_path_79 (by decide) ?_
            refine zg_iret C hP hS dX5_path_121 ?_
            have h5 : kPatT κ x q k w = false := by unfold kPatT; grind [mIn]
            have h9 : κ = κ := by rfl
            exact ⟨congrArg jI (by unfold kPatR; rw [if_neg (by simp [h5])]; first | rw [if_pos (by assumption)] | (rw [if_neg (by assumption), if_pos (by assumption), (rr_lev3 hM7 hR6 (by omega) (by omega) (by omega) (by omega)).1]) | (rw [if_neg (by assumption), if_neg (by assumption), if_pos (by assumption), (rr_lev3 hM7 hR6 (by omega) (by omega) (by omega) (by omega)).2.1]) | (rw [if_neg (by assumption), if_neg (by assumption), if_neg (by assumption), (rr_lev3 hM7 hR6 (by omega) (by omega) (by omega) (by omega)).2.2])), hR6, (by rw [h9]; exact hM7), (by rw [h9]; exact hG), (by rw [hx10, h5, decide_eq_false (by assumption)])⟩
        · have b_52 := mIn_f c_42
          refine zg_aload_n C dX5_path_49 rfl (lv_at hl 1 rfl) ?_
          refine zg_iconst C dX5_path_50 ?_
          refine zg_put (j := 0) (v := 1) C X hP hS (by decide) lyM_0 rfl (zmem uwX5) tyX5 tyX5_ok nmX5 (by decide) (C.tb flX5_1) (fun _ h9 => h9) rfl (by decide +kernel) (Nat.le_of_ble_eq_true rfl) (by rw [lyM_0]; rfl) dX5_path_51 (fun H locs hP hS => ?_)
          obtain ⟨σ53, e54⟩ : ∃ z_ : Zt, z_ = zu σ1 0 0 1 := ⟨_, rfl⟩
          rw [← e54] at hP
          have w_56 : σ53 0 0 = 1 := by rw [e54]; exact zu_same _ _ _ _
          have hR55 : rgM σ53 := by rw [e54]; exact rzM_0_0 hR6 (by omega) (by omega)
          have hM57 : RR κ σ53 := by rw [e54]; exact RR_keep hM7 (by decide)
          have h4 := congrFun (congrFun e54 0) 0
          rw [zu_same] at h4
          refine zg_iconst C dX5_path_54 ?_
          refine zg_iret C hP hS dX5_path_55 ?_
          have h5 : kPatT κ x q k w = true := by unfold kPatT; grind
          have h9 : κ = κ := by rfl
          exact ⟨congrArg jI (by grind [kPatR]), hR55, (by rw [h9]; exact hM57), (by rw [h9]; exact hG), (by rw [h4, h5]; rfl)⟩
