set_option maxHeartbeats 4000000 in
set_option maxRecDepth 100000 in
theorem kX4_isReplica (l : Launch) {D : va_G} {a : Nat → Nat} {cI cZ cR : ClassId} (σ : Zt) (hR : rgS σ) (x : Int) (x0 : -2147483648 ≤ x) (x1 : x < 2147483648) : zc l D vwCl (tyS cI cZ cR) 56 (layS cI cZ cR a) a yX4_isReplica wsX4_isReplica ({ frames := 0, cells := 0, slots := 0, locals := 0 }) [.int (jI x)] σ (fun r_ u_ => r_ = jI (bI (kIsR x)) ∧ u_ = σ) := by
  refine zc_of (cc := cX4_isReplica) (maxL := 1) (ret := some .boolean) (own := RX4) (by decide) rfl rfl (Nat.le_of_ble_eq_true rfl) rfl ?_
  intro p e s m below meth c A ls C X hP hS hl
  refine zg_iload_n C dX4_isReplica_0 rfl (lv_at hl 0 rfl) ?_
  refine zg_if_lt (tgt := 14) C (by omega) (by omega) dX4_isReplica_1 (by decide) (fun c_1 => ?_) (fun c_1 => ?_)
  · refine zg_iconst C dX4_isReplica_14 ?_
    refine zg_zret (b := false) C hP hS dX4_isReplica_15 ?_
    exact ⟨congrArg (fun b => jI (bI b)) (by grind [kIsR]), rfl⟩
  · refine zg_iload_n C dX4_isReplica_4 rfl (lv_at hl 0 rfl) ?_
    refine zg_bipush C dX4_isReplica_5 (by decide) ?_
    refine zg_icmp_ge (tgt := 14) C (by omega) (by omega) (by omega) (by omega) dX4_isReplica_7 (by decide) (fun c_2 => ?_) (fun c_2 => ?_)
    · refine zg_iconst C dX4_isReplica_14 ?_
      refine zg_zret (b := false) C hP hS dX4_isReplica_15 ?_
      exact ⟨congrArg (fun b => jI (bI b)) (by grind [kIsR]), rfl⟩
    · refine zg_iconst C dX4_isReplica_10 ?_
      refine zg_goto (tgt := 15) C dX4_isReplica_11 (by decide) ?_
      refine zg_zret (b := true) C hP hS dX4_isReplica_15 ?_
      exact ⟨congrArg (fun b => jI (bI b)) (by grind [kIsR]), rfl⟩
set_option maxHeartbeats 4000000 in
set_option maxRecDepth 100000 in
theorem kX4_isCursor (l : Launch) {D : va_G} {a : Nat → Nat} {cI cZ cR : ClassId} (σ : Zt) (hR : rgS σ) (x : Int) (x0 : -2147483648 ≤ x) (x1 : x < 2147483648) : zc l D vwCl (tyS cI cZ cR) 56 (layS cI cZ cR a) a yX4_isCursor wsX4_isCursor ({ frames := 0, cells := 0, slots := 0, locals := 0 }) [.int (jI x)] σ (fun r_ u_ => r_ = jI (bI (kIsC x)) ∧ u_ = σ) := by
  refine zc_of (cc := cX4_isCursor) (maxL := 1) (ret := some .boolean) (own := RX4) (by decide) rfl rfl (Nat.le_of_ble_eq_true rfl) rfl ?_
  intro p e s m below meth c A ls C X hP hS hl
  refine zg_iload_n C dX4_isCursor_0 rfl (lv_at hl 0 rfl) ?_
  refine zg_if_lt (tgt := 13) C (by omega) (by omega) dX4_isCursor_1 (by decide) (fun c_1 => ?_) (fun c_1 => ?_)
  · refine zg_iconst C dX4_isCursor_13 ?_
    refine zg_zret (b := false) C hP hS dX4_isCursor_14 ?_
    exact ⟨congrArg (fun b => jI (bI b)) (by grind [kIsC]), rfl⟩
  · refine zg_iload_n C dX4_isCursor_4 rfl (lv_at hl 0 rfl) ?_
    refine zg_iconst C dX4_isCursor_5 ?_
    refine zg_icmp_ge (tgt := 13) C (by omega) (by omega) (by omega) (by omega) dX4_isCursor_6 (by decide) (fun c_2 => ?_) (fun c_2 => ?_)
    · refine zg_iconst C dX4_isCursor_13 ?_
      refine zg_zret (b := false) C hP hS dX4_isCursor_14 ?_
      exact ⟨congrArg (fun b => jI (bI b)) (by grind [kIsC]), rfl⟩
    · refine zg_iconst C dX4_isCursor_9 ?_
      refine zg_goto (tgt := 14) C dX4_isCursor_10 (by decide) ?_
      refine zg_zret (b := true) C hP hS dX4_isCursor_14 ?_
      exact ⟨congrArg (fun b => jI (bI b)) (by grind [kIsC]), rfl⟩
set_option maxHeartbeats 4000000 in
set_option maxRecDepth 100000 in
theorem kX4_isByte (l : Launch) {D : va_G} {a : Nat → Nat} {cI cZ cR : ClassId} (σ : Zt) (hR : rgS σ) (x : Int) (x0 : -2147483648 ≤ x) (x1 : x < 2147483648) : zc l D vwCl (tyS cI cZ cR) 56 (layS cI cZ cR a) a yX4_isByte wsX4_isByte ({ frames := 0, cells := 0, slots := 0, locals := 0 }) [.int (jI x)] σ (fun r_ u_ => r_ = jI (bI (kIsB x)) ∧ u_ = σ) := by
  refine zc_of (cc := cX4_isByte) (maxL := 1) (ret := some .boolean) (own := RX4) (by decide) rfl rfl (Nat.le_of_ble_eq_true rfl) rfl ?_
  intro p e s m below meth c A ls C X hP hS hl
  refine zg_iload_n C dX4_isByte_0 rfl (lv_at hl 0 rfl) ?_
  refine zg_bipush C dX4_isByte_1 (by decide) ?_
  refine zg_icmp_lt (tgt := 16) C (by omega) (by omega) (by omega) (by omega) dX4_isByte_3 (by decide) (fun c_1 => ?_) (fun c_1 => ?_)
  · refine zg_iconst C dX4_isByte_16 ?_
    refine zg_zret (b := false) C hP hS dX4_isByte_17 ?_
    exact ⟨congrArg (fun b => jI (bI b)) (by grind [kIsB]), rfl⟩
  · refine zg_iload_n C dX4_isByte_6 rfl (lv_at hl 0 rfl) ?_
    refine zg_bipush C dX4_isByte_7 (by decide) ?_
    refine zg_icmp_gt (tgt := 16) C (by omega) (by omega) (by omega) (by omega) dX4_isByte_9 (by decide) (fun c_2 => ?_) (fun c_2 => ?_)
    · refine zg_iconst C dX4_isByte_16 ?_
      refine zg_zret (b := false) C hP hS dX4_isByte_17 ?_
      exact ⟨congrArg (fun b => jI (bI b)) (by grind [kIsB]), rfl⟩
    · refine zg_iconst C dX4_isByte_12 ?_
      refine zg_goto (tgt := 17) C dX4_isByte_13 (by decide) ?_
      refine zg_zret (b := true) C hP hS dX4_isByte_17 ?_
      exact ⟨congrArg (fun b => jI (bI b)) (by grind [kIsB]), rfl⟩
set_option maxHeartbeats 4000000 in
set_option maxRecDepth 100000 in
theorem kX1_digitOf (l : Launch) {D : va_G} {a : Nat → Nat} {cI cZ cR : ClassId} (σ : Zt) (hR : rgS σ) (x : Int) (x0 : 0 ≤ x) (x1 : x < 16777216) : zc l D vwCl (tyS cI cZ cR) 56 (layS cI cZ cR a) a yX1_digitOf wsX1_digitOf ({ frames := 0, cells := 0, slots := 0, locals := 0 }) [.int (jI x)] σ (fun r_ u_ => r_ = jI (kDigit x) ∧ u_ = σ) := by
  refine zc_of (cc := cX1_digitOf) (maxL := 1) (ret := some .int) (own := RX1) (by decide) rfl rfl (Nat.le_of_ble_eq_true rfl) rfl ?_
  intro p e s m below meth c A ls C X hP hS hl
  refine zg_iload_n C dX1_digitOf_0 rfl (lv_at hl 0 rfl) ?_
  refine zg_bipush C dX1_digitOf_1 (by decide) ?_
  refine zg_iushr C 12 (by decide) dX1_digitOf_3 ?_
  refine zg_iret C hP hS dX1_digitOf_4 ?_
  exact ⟨congrArg jI (by unfold kDigit; omega), rfl⟩
set_option maxHeartbeats 4000000 in
set_option maxRecDepth 100000 in
theorem kX1_siteOf (l : Launch) {D : va_G} {a : Nat → Nat} {cI cZ cR : ClassId} (σ : Zt) (hR : rgS σ) (x : Int) (x0 : 0 ≤ x) (x1 : x < 16777216) : zc l D vwCl (tyS cI cZ cR) 56 (layS cI cZ cR a) a yX1_siteOf wsX1_siteOf ({ frames := 0, cells := 0, slots := 0, locals := 0 }) [.int (jI x)] σ (fun r_ u_ => r_ = jI (kSite x) ∧ u_ = σ) := by
  refine zc_of (cc := cX1_siteOf) (maxL := 1) (ret := some .int) (own := RX1) (by decide) rfl rfl (Nat.le_of_ble_eq_true rfl) rfl ?_
  intro p e s m below meth c A ls C X hP hS hl
  refine zg_iload_n C dX1_siteOf_0 rfl (lv_at hl 0 rfl) ?_
  refine zg_bipush C dX1_siteOf_1 (by decide) ?_
  refine zg_iushr C 9 (by decide) dX1_siteOf_3 ?_
  refine zg_bipush C dX1_siteOf_4 (by decide) ?_
  refine zg_iand C 3 (by decide) (by omega) (by omega) dX1_siteOf_6 ?_
  refine zg_iret C hP hS dX1_siteOf_7 ?_
  exact ⟨congrArg jI (by unfold kSite; omega), rfl⟩
set_option maxHeartbeats 4000000 in
set_option maxRecDepth 100000 in
theorem kX1_countOf (l : Launch) {D : va_G} {a : Nat → Nat} {cI cZ cR : ClassId} (σ : Zt) (hR : rgS σ) (x : Int) (x0 : 0 ≤ x) (x1 : x < 16777216) : zc l D vwCl (tyS cI cZ cR) 56 (layS cI cZ cR a) a yX1_countOf wsX1_countOf ({ frames := 0, cells := 0, slots := 0, locals := 0 }) [.int (jI x)] σ (fun r_ u_ => r_ = jI (kCount x) ∧ u_ = σ) := by
  refine zc_of (cc := cX1_countOf) (maxL := 1) (ret := some .int) (own := RX1) (by decide) rfl rfl (Nat.le_of_ble_eq_true rfl) rfl ?_
  intro p e s m below meth c A ls C X hP hS hl
  refine zg_iload_n C dX1_countOf_0 rfl (lv_at hl 0 rfl) ?_
  refine zg_sipush C dX1_countOf_1 (by decide) ?_
  refine zg_iand C 9 (by decide) (by omega) (by omega) dX1_countOf_4 ?_
  refine zg_iret C hP hS dX1_countOf_5 ?_
  exact ⟨congrArg jI (by unfold kCount; omega), rfl⟩
set_option maxHeartbeats 4000000 in
set_option maxRecDepth 100000 in
theorem kX1_makeLevel (l : Launch) {D : va_G} {a : Nat → Nat} {cI cZ cR : ClassId} (σ : Zt) (hR : rgS σ) (u : Int) (q : Int) (t : Int) (u0 : 0 ≤ u) (u1 : u < 4096) (q0 : 0 ≤ q) (q1 : q < 8) (t0 : 0 ≤ t) (t1 : t < 512) : zc l D vwCl (tyS cI cZ cR) 56 (layS cI cZ cR a) a yX1_makeLevel wsX1_makeLevel ({ frames := 0, cells := 0, slots := 0, locals := 0 }) [.int (jI u), .int (jI q), .int (jI t)] σ (fun r_ u_ => r_ = jI (kMake u q t) ∧ u_ = σ) := by
  refine zc_of (cc := cX1_makeLevel) (maxL := 3) (ret := some .int) (own := RX1) (by decide) rfl rfl (Nat.le_of_ble_eq_true rfl) rfl ?_
  intro p e s m below meth c A ls C X hP hS hl
  refine zg_iload_n C dX1_makeLevel_0 rfl (lv_at hl 0 rfl) ?_
  refine zg_bipush C dX1_makeLevel_1 (by decide) ?_
  refine zg_shl C 12 (by decide) (by omega) (by omega) dX1_makeLevel_3 ?_
  refine zg_iload_n C dX1_makeLevel_4 rfl (lv_at hl 1 rfl) ?_
  refine zg_bipush C dX1_makeLevel_5 (by decide) ?_
  refine zg_shl C 9 (by decide) (by omega) (by omega) dX1_makeLevel_7 ?_
  refine zg_or C 12 u (by omega) rfl (by omega) (by omega) (by omega) dX1_makeLevel_8 ?_
  refine zg_iload_n C dX1_makeLevel_9 rfl (lv_at hl 2 rfl) ?_
  refine zg_or C 9 (u * 8 + q) (by omega) (by omega) (by omega) (by omega) (by omega) dX1_makeLevel_10 ?_
  refine zg_iret C hP hS dX1_makeLevel_11 ?_
  exact ⟨congrArg jI (by unfold kMake; omega), rfl⟩
set_option maxHeartbeats 4000000 in
set_option maxRecDepth 100000 in
theorem kX1_baseOf (l : Launch) {D : va_G} {a : Nat → Nat} {cI cZ cR : ClassId} (σ : Zt) (hR : rgS σ) (k : Int) (k0 : 1 ≤ k) (k1 : k ≤ 12) : zc l D vwCl (tyS cI cZ cR) 56 (layS cI cZ cR a) a yX1_baseOf wsX1_baseOf ({ frames := 1, cells := 0, slots := 0, locals := 21 }) [.int (jI k)] σ (fun r_ u_ => r_ = jI (kBase k) ∧ u_ = σ) := by
  refine zc_of (cc := cX1_baseOf) (maxL := 1) (ret := some .int) (own := RX1) (by decide) rfl rfl (Nat.le_of_ble_eq_true rfl) rfl ?_
  intro p e s m below meth c A ls C X hP hS hl
  refine zg_iconst C dX1_baseOf_0 ?_
  refine zg_iload_n C dX1_baseOf_1 rfl (lv_at hl 0 rfl) ?_
  refine zg_iconst C dX1_baseOf_2 ?_
  refine zg_iadd C dX1_baseOf_3 ?_
  refine zg_bipush C dX1_baseOf_4 (by decide) ?_
  refine zg_mmin C (by omega) (by omega) (by omega) (by omega) hl.1 (List.mem_cons_of_mem _ mlX1_24) (List.mem_cons_of_mem _ stMath_min) (List.mem_cons_of_mem _ iniMath) (List.mem_cons_of_mem _ cdMath_min) (Nat.le_of_ble_eq_true rfl) (Nat.le_of_ble_eq_true rfl) (Nat.zero_le _) (Nat.zero_le _) dX1_baseOf_6 ?_
  refine zg_shl C ((min (k + 3) 12).toNat) (sh_amt (by omega) (by omega)) (by omega) (by have := kBase_rg k0 k1; unfold kBase at this; omega) dX1_baseOf_9 ?_
  refine zg_iret C hP hS dX1_baseOf_10 ?_
  exact ⟨congrArg jI (by unfold kBase; omega), rfl⟩
set_option maxHeartbeats 4000000 in
set_option maxRecDepth 100000 in
theorem kX1_levelOf (l : Launch) {D : va_G} {a : Nat → Nat} {cI cZ cR : ClassId} (σ : Zt) (hR : rgS σ) (d : Int) (k : Int) (d0 : -1 ≤ d) (d1 : d < 400) (k0 : 1 ≤ k) (k1 : k ≤ 12) : zc l D vwCl (tyS cI cZ cR) 56 (layS cI cZ cR a) a yX1_levelOf wsX1_levelOf ({ frames := 0, cells := 0, slots := 0, locals := 0 }) [.ref (a 11), .int (jI d), .int (jI k)] σ (fun r_ u_ => r_ = jI (kLevel σ d k) ∧ u_ = σ) := by
  refine zc_of (cc := cX1_levelOf) (maxL := 3) (ret := some .int) (own := RX1) (by decide) rfl rfl (Nat.le_of_ble_eq_true rfl) rfl ?_
  intro p e s m below meth c A ls C X hP hS hl
  refine zg_iload_n C dX1_levelOf_0 rfl (lv_at hl 1 rfl) ?_
  refine zg_iconst C dX1_levelOf_1 ?_
  refine zg_icmp_eq (tgt := 15) C (by omega) (by omega) (by omega) (by omega) dX1_levelOf_2 (by decide) (fun c_1 => ?_) (fun c_1 => ?_)
  · refine zg_iconst C dX1_levelOf_15 ?_
    refine zg_goto (tgt := 32) C dX1_levelOf_16 (by decide) ?_
    refine zg_iret C hP hS dX1_levelOf_32 ?_
    exact ⟨congrArg jI (by unfold kLevel; first | rw [if_pos (by omega)] | rw [if_neg (by omega)]), rfl⟩
  · refine zg_iload_n C dX1_levelOf_5 rfl (lv_at hl 2 rfl) ?_
    refine zg_aload_n C dX1_levelOf_6 rfl (lv_at hl 0 rfl) ?_
    refine zg_get (j := 1) C X hP (by decide) lyS_11 rfl (zmem uwX1) (by decide) (C.tb flX1_15) (fun _ h9 => h9) rfl dX1_levelOf_7 ?_
    refine zg_iload_n C dX1_levelOf_10 rfl (lv_at hl 1 rfl) ?_
    refine zg_iald (t0 := 0) C X hP (by decide) lyS_13 rfl (by decide) (by omega) (by omega) dX1_levelOf_11 ?_
    have b_2 := rgS_13 hR ((d).toNat)
    refine zg_icmp_le (tgt := 19) C (by omega) (by omega) (by omega) (by omega) dX1_levelOf_12 (by decide) (fun c_3 => ?_) (fun c_3 => ?_)
    · refine zg_aload_n C dX1_levelOf_19 rfl (lv_at hl 0 rfl) ?_
      refine zg_get (j := 0) C X hP (by decide) lyS_11 rfl (zmem uwX1) (by decide) (C.tb flX1_9) (fun _ h9 => h9) rfl dX1_levelOf_20 ?_
      refine zg_iload_n C dX1_levelOf_23 rfl (lv_at hl 1 rfl) ?_
      refine zg_bipush C dX1_levelOf_24 (by decide) ?_
      refine zg_imul C dX1_levelOf_26 ?_
      refine zg_iload_n C dX1_levelOf_27 rfl (lv_at hl 2 rfl) ?_
      refine zg_iadd C dX1_levelOf_28 ?_
      refine zg_iconst C dX1_levelOf_29 ?_
      refine zg_isub C dX1_levelOf_30 ?_
      refine zg_iald (t0 := 0) C X hP (by decide) lyS_12 rfl (by decide) (by omega) (by omega) dX1_levelOf_31 ?_
      have b_4 := rgS_12 hR ((((d * 12) + k) - 1).toNat)
      refine zg_iret C hP hS dX1_levelOf_32 ?_
      exact ⟨congrArg jI (by unfold kLevel; first | rw [if_pos (by omega)] | rw [if_neg (by omega)]), rfl⟩
    · refine zg_iconst C dX1_levelOf_15 ?_
      refine zg_goto (tgt := 32) C dX1_levelOf_16 (by decide) ?_
      refine zg_iret C hP hS dX1_levelOf_32 ?_
      exact ⟨congrArg jI (by unfold kLevel; first | rw [if_pos (by omega)] | rw [if_neg (by omega)]), rfl⟩
set_option maxHeartbeats 4000000 in
set_option maxRecDepth 100000 in
theorem kX1_lastDigit (l : Launch) {D : va_G} {a : Nat → Nat} {cI cZ cR : ClassId} (σ : Zt) (hR : rgS σ) (k : Int) (lo : Int) (hi : Int) (co : Int) (k0 : 1 ≤ k) (k1 : k ≤ 12) (lo0 : 0 ≤ lo) (lo1 : lo + 1 < hi) (hi1 : hi ≤ 4096) (co0 : 0 ≤ co) (co1 : co < 65536) : zc l D vwCl (tyS cI cZ cR) 56 (layS cI cZ cR a) a yX1_lastDigit wsX1_lastDigit ({ frames := 1, cells := 0, slots := 0, locals := 21 }) [.int (jI k), .int (jI lo), .int (jI hi), .int (jI co)] σ (fun r_ u_ => r_ = jI (kLastD k lo hi co) ∧ u_ = σ) := by
  refine zc_of (cc := cX1_lastDigit) (maxL := 5) (ret := some .int) (own := RX1) (by decide) rfl rfl (Nat.le_of_ble_eq_true rfl) rfl ?_
  intro p e s m below meth c A ls C X hP hS hl
  refine zg_iconst C dX1_lastDigit_0 ?_
  refine zg_iload_n C dX1_lastDigit_1 rfl (lv_at hl 3 rfl) ?_
  refine zg_bipush C dX1_lastDigit_2 (by decide) ?_
  refine zg_iload_n C dX1_lastDigit_4 rfl (lv_at hl 2 rfl) ?_
  refine zg_iload_n C dX1_lastDigit_5 rfl (lv_at hl 1 rfl) ?_
  refine zg_isub C dX1_lastDigit_6 ?_
  refine zg_iconst C dX1_lastDigit_7 ?_
  refine zg_isub C dX1_lastDigit_8 ?_
  refine zg_mmin C (by omega) (by omega) (by omega) (by omega) hl.1 (List.mem_cons_of_mem _ mlX1_24) (List.mem_cons_of_mem _ stMath_min) (List.mem_cons_of_mem _ iniMath) (List.mem_cons_of_mem _ cdMath_min) (Nat.le_of_ble_eq_true rfl) (Nat.le_of_ble_eq_true rfl) (Nat.zero_le _) (Nat.zero_le _) dX1_lastDigit_9 ?_
  refine zg_irem C (by omega) (by omega) (by omega) (by omega) dX1_lastDigit_12 ?_
  refine zg_iadd C dX1_lastDigit_13 ?_
  refine zg_istore (lv' := [(4, .int (jI (1 + (co % (min 10 ((hi - lo) - 1)))))), (0, .int (jI k)), (1, .int (jI lo)), (2, .int (jI hi)), (3, .int (jI co))]) C dX1_lastDigit_14 hl (by decide) rfl (fun ls hl => ?_)
  refine zg_iload_n C dX1_lastDigit_16 rfl (lv_at hl 1 rfl) ?_
  refine zg_iconst C dX1_lastDigit_17 ?_
  refine zg_irem C (by omega) (by omega) (by omega) (by omega) dX1_lastDigit_18 ?_
  refine zg_iconst C dX1_lastDigit_19 ?_
  refine zg_icmp_ne (tgt := 30) C (by omega) (by omega) (by omega) (by omega) dX1_lastDigit_20 (by decide) (fun c_1 => ?_) (fun c_1 => ?_)
  · refine zg_iload_n C dX1_lastDigit_30 rfl (lv_at hl 3 rfl) ?_
    refine zg_iload C dX1_lastDigit_31 (lv_at hl 0 rfl) ?_
    refine zg_isub C dX1_lastDigit_33 ?_
    refine zg_iret C hP hS dX1_lastDigit_34 ?_
    exact ⟨congrArg jI (by unfold kLastD; first | rw [if_pos (by assumption)] | rw [if_neg (by assumption)]), rfl⟩
  · refine zg_iload_n C dX1_lastDigit_23 rfl (lv_at hl 2 rfl) ?_
    refine zg_iload C dX1_lastDigit_24 (lv_at hl 0 rfl) ?_
    refine zg_iadd C dX1_lastDigit_26 ?_
    refine zg_goto (tgt := 34) C dX1_lastDigit_27 (by decide) ?_
    refine zg_iret C hP hS dX1_lastDigit_34 ?_
    exact ⟨congrArg jI (by unfold kLastD; first | rw [if_pos (by assumption)] | rw [if_neg (by assumption)]), rfl⟩
