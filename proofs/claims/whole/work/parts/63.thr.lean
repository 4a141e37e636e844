set_option maxHeartbeats 4000000 in
set_option maxRecDepth 100000 in
theorem kX4_livingSignT (l : Launch) {D : va_G} {a : Nat → Nat} {cI cZ cR : ClassId} (σ : Zt) (hR : rgS σ) (x : Int) (q : Int) (x0 : -2147483648 ≤ x) (x1 : x < 2147483648) (q0 : -2147483648 ≤ q) (q1 : q < 2147483648) (hn : kOf σ x q = -1) (hl0 : l.stackTraces = false) : zxt l D vwCl (tyS cI cZ cR) 56 (layS cI cZ cR a) a yX4_livingSign wsX4_livingSign ({ frames := 6, cells := 1, slots := 6, locals := 82 }) [.ref (a 0), .int (jI x), .int (jI q)] σ := by
  refine zxt_of (cc := cX4_livingSign) (maxL := 4) (ret := some .int) (own := RX4) (by decide) rfl rfl (Nat.le_of_ble_eq_true rfl) rfl ?_
  intro p e s m below meth c A ls C X hP hz hcov hl
  refine zg_iload_n C dX4_livingSign_0 rfl (lv_at hl 1 rfl) ?_
  refine zr_callS C X hP (kX4_isReplicaR l σ hR x (by omega) (by omega)) (cwS 1 C.ts (zgS mlX4_39 stX4_isReplica iniX4 cdX4_isReplica) rfl rfl rfl (by decide +kernel) ⟨Nat.le_of_ble_eq_true rfl, Nat.le_of_ble_eq_true rfl⟩) rfl hl.1 rfl (Nat.le_of_ble_eq_true rfl) dX4_livingSign_1 ⟨Nat.zero_le _, Nat.zero_le _⟩ (fun r_2 q3 => ?_)
  subst q3
  refine zg_ifeqB (tgt := 20) C dX4_livingSign_4 (by decide) (fun c_4 => ?_) (fun c_4 => ?_)
  · have b_5 := kIsR_f c_4
    refine zg_iconst C dX4_livingSign_20 ?_
    refine zg_istore_n (lv' := [(3, .int (jI (-1))), (0, .ref (a 0)), (1, .int (jI x)), (2, .int (jI q))]) C dX4_livingSign_21 rfl hl (by decide) rfl (fun ls hl => ?_)
    refine zg_iload_n C dX4_livingSign_22 rfl (lv_at hl 0 rfl) ?_
    refine zg_iconst C dX4_livingSign_23 ?_
    refine zg_icmp_ne (tgt := 37) C (by omega) (by omega) (by omega) (by omega) dX4_livingSign_24 (by decide) (fun c_6 => ?_) (fun c_6 => ?_)
    · exact absurd c_6 (by decide)
    · exact zx_throw hl0 C hz zs193 hcov clX_128 iniX dX4_livingSign_27 dX4_livingSign_30 dX4_livingSign_31 dX4_livingSign_33 dX4_livingSign_36 hl.1 (Nat.le_of_ble_eq_true rfl) (Nat.le_of_ble_eq_true rfl) (Nat.le_of_ble_eq_true rfl) (Nat.le_of_ble_eq_true rfl)
  · have b_7 := kIsR_t c_4
    refine zg_aload_n C dX4_livingSign_7 rfl (lv_at hl 0 rfl) ?_
    refine zg_get (j := 3) C X hP (by decide) lyS_0 rfl (zmem uwX4) (by decide) (C.tb flX4_32) (fun _ h9 => h9) rfl dX4_livingSign_8 ?_
    refine zg_iload_n C dX4_livingSign_11 rfl (lv_at hl 1 rfl) ?_
    have hr8 : (x).toNat < 6 := by omega
    refine zg_aald (t0 := 2) C X hP (by decide) lyS_19 rfl (by decide) (by omega) (by omega) rfl dX4_livingSign_12 ?_
    refine zg_iload_n C dX4_livingSign_13 rfl (lv_at hl 2 rfl) ?_
    refine zr_callV C X hP (kX2_signAtR l σ hR ((x).toNat) hr8 q (by omega) (by omega)) (cwV 1 C.ts (zgV mlX4_57 imX2_signAt slX2_signAt iniX2 cdX2_signAt) rfl rfl rfl (by decide +kernel) ⟨Nat.le_of_ble_eq_true rfl, Nat.le_of_ble_eq_true rfl⟩) (hkS_20 hr8) (lyS_20 hr8) rfl rfl rfl hl.1 rfl (Nat.le_of_ble_eq_true rfl) dX4_livingSign_14 ⟨Nat.zero_le _, Nat.zero_le _⟩ (fun r_10 q11 => ?_)
    subst q11
    have b_12 := kSignAt_rg hR ((x).toNat) q
    refine zg_goto (tgt := 21) C dX4_livingSign_17 (by decide) ?_
    refine zg_istore_n (lv' := [(3, .int (jI (kSignAt σ ((x).toNat) q))), (0, .ref (a 0)), (1, .int (jI x)), (2, .int (jI q))]) C dX4_livingSign_21 rfl hl (by decide) rfl (fun ls hl => ?_)
    refine zg_iload_n C dX4_livingSign_22 rfl (lv_at hl 0 rfl) ?_
    refine zg_iconst C dX4_livingSign_23 ?_
    refine zg_icmp_ne (tgt := 37) C (by omega) (by omega) (by omega) (by omega) dX4_livingSign_24 (by decide) (fun c_13 => ?_) (fun c_13 => ?_)
    · exact absurd hn (by grind [kOf])
    · exact zx_throw hl0 C hz zs193 hcov clX_128 iniX dX4_livingSign_27 dX4_livingSign_30 dX4_livingSign_31 dX4_livingSign_33 dX4_livingSign_36 hl.1 (Nat.le_of_ble_eq_true rfl) (Nat.le_of_ble_eq_true rfl) (Nat.le_of_ble_eq_true rfl) (Nat.le_of_ble_eq_true rfl)
set_option maxHeartbeats 4000000 in
set_option maxRecDepth 100000 in
theorem kX4_signT (l : Launch) {D : va_G} {a : Nat → Nat} {cI cZ cR : ClassId} (σ : Zt) (hR : rgS σ) (x : Int) (q : Int) (x0 : -2147483648 ≤ x) (x1 : x < 2147483648) (q0 : -2147483648 ≤ q) (q1 : q < 2147483648) (hn : kOf σ x q = -1) (hl0 : l.stackTraces = false) : zxt l D vwCl (tyS cI cZ cR) 56 (layS cI cZ cR a) a yX4_sign wsX4_sign ({ frames := 7, cells := 1, slots := 6, locals := 105 }) [.ref (a 0), .int (jI x), .int (jI q)] σ := by
  refine zxt_of (cc := cX4_sign) (maxL := 3) (ret := some .int) (own := RX4) (by decide) rfl rfl (Nat.le_of_ble_eq_true rfl) rfl ?_
  intro p e s m below meth c A ls C X hP hz hcov hl
  refine zg_aload_n C dX4_sign_0 rfl (lv_at hl 0 rfl) ?_
  refine zg_get (j := 0) C X hP (by decide) lyS_0 rfl (zmem uwX4) (by decide) (C.tb flX4_10) (fun _ h9 => h9) rfl dX4_sign_1 ?_
  refine zg_get (j := 4) C X hP (by decide) lyS_1 rfl (zmem uwX0) (by decide) (C.tb flX4_118) (fun _ h9 => h9) rfl dX4_sign_4 ?_
  refine zg_aload_n C dX4_sign_7 rfl (lv_at hl 0 rfl) ?_
  refine zg_iload_n C dX4_sign_8 rfl (lv_at hl 1 rfl) ?_
  refine zg_iload_n C dX4_sign_9 rfl (lv_at hl 2 rfl) ?_
  exact zx_callT C X hP hz hcov (kX4_livingSignT l σ hR x q (by omega) (by omega) (by omega) (by omega) hn hl0) (cwV 2 C.ts (zgV mlX4_121 imX4_livingSign slX4_livingSign iniX4 cdX4_livingSign) rfl rfl rfl (by decide +kernel) ⟨Nat.le_of_ble_eq_true rfl, Nat.le_of_ble_eq_true rfl⟩) (by decide) lyS_0 rfl rfl rfl hl.1 rfl (Nat.le_of_ble_eq_true rfl) dX4_sign_10 ⟨Nat.le_of_ble_eq_true rfl, Nat.le_of_ble_eq_true rfl⟩
set_option maxHeartbeats 4000000 in
set_option maxRecDepth 100000 in
theorem kX4_pathT (l : Launch) {D : va_G} {a : Nat → Nat} {cI cZ cR : ClassId} (σ : Zt) (hR : rgS σ) (x : Int) (q : Int) (k : Int) (w : Int) (x0 : -2147483648 ≤ x) (x1 : x < 2147483648) (q0 : -2147483648 ≤ q) (q1 : q < 2147483648) (k0 : -2147483648 ≤ k) (k1 : k < 2147483648) (w0 : -2147483648 ≤ w) (w1 : w < 2147483648) (hn : kOf σ x q = -1) (hl0 : l.stackTraces = false) : zxt l D vwCl (tyS cI cZ cR) 56 (layS cI cZ cR a) a yX4_path wsX4_path ({ frames := 7, cells := 1, slots := 6, locals := 105 }) [.ref (a 0), .int (jI x), .int (jI q), .int (jI k), .int (jI w)] σ := by
  refine zxt_of (cc := cX4_path) (maxL := 8) (ret := some .int) (own := RX4) (by decide) rfl rfl (Nat.le_of_ble_eq_true rfl) rfl ?_
  intro p e s m below meth c A ls C X hP hz hcov hl
  refine zg_aload_n C dX4_path_0 rfl (lv_at hl 0 rfl) ?_
  refine zg_iload_n C dX4_path_1 rfl (lv_at hl 1 rfl) ?_
  refine zg_iload_n C dX4_path_2 rfl (lv_at hl 2 rfl) ?_
  exact zx_callT C X hP hz hcov (kX4_livingSignT l σ hR x q (by omega) (by omega) (by omega) (by omega) hn hl0) (cwV 2 C.ts (zgV mlX4_121 imX4_livingSign slX4_livingSign iniX4 cdX4_livingSign) rfl rfl rfl (by decide +kernel) ⟨Nat.le_of_ble_eq_true rfl, Nat.le_of_ble_eq_true rfl⟩) (by decide) lyS_0 rfl rfl rfl hl.1 rfl (Nat.le_of_ble_eq_true rfl) dX4_path_3 ⟨Nat.le_of_ble_eq_true rfl, Nat.le_of_ble_eq_true rfl⟩
set_option maxHeartbeats 4000000 in
set_option maxRecDepth 100000 in
theorem kX4_kindsT (l : Launch) {D : va_G} {a : Nat → Nat} {cI cZ cR : ClassId} (σ : Zt) (hR : rgS σ) (x : Int) (q : Int) (x0 : -2147483648 ≤ x) (x1 : x < 2147483648) (q0 : -2147483648 ≤ q) (q1 : q < 2147483648) (hn : kOf σ x q = -1) (hl0 : l.stackTraces = false) : zxt l D vwCl (tyS cI cZ cR) 56 (layS cI cZ cR a) a yX4_kinds wsX4_kinds ({ frames := 7, cells := 1, slots := 6, locals := 105 }) [.ref (a 0), .int (jI x), .int (jI q)] σ := by
  refine zxt_of (cc := cX4_kinds) (maxL := 4) (ret := some .int) (own := RX4) (by decide) rfl rfl (Nat.le_of_ble_eq_true rfl) rfl ?_
  intro p e s m below meth c A ls C X hP hz hcov hl
  refine zg_aload_n C dX4_kinds_0 rfl (lv_at hl 0 rfl) ?_
  refine zg_iload_n C dX4_kinds_1 rfl (lv_at hl 1 rfl) ?_
  refine zg_iload_n C dX4_kinds_2 rfl (lv_at hl 2 rfl) ?_
  exact zx_callT C X hP hz hcov (kX4_livingSignT l σ hR x q (by omega) (by omega) (by omega) (by omega) hn hl0) (cwV 2 C.ts (zgV mlX4_121 imX4_livingSign slX4_livingSign iniX4 cdX4_livingSign) rfl rfl rfl (by decide +kernel) ⟨Nat.le_of_ble_eq_true rfl, Nat.le_of_ble_eq_true rfl⟩) (by decide) lyS_0 rfl rfl rfl hl.1 rfl (Nat.le_of_ble_eq_true rfl) dX4_kinds_3 ⟨Nat.le_of_ble_eq_true rfl, Nat.le_of_ble_eq_true rfl⟩
set_option maxHeartbeats 4000000 in
set_option maxRecDepth 100000 in
theorem kX4_pathU (l : Launch) {D : va_G} {a : Nat → Nat} {cI cZ cR : ClassId} (σ : Zt) (hR : rgS σ) (x : Int) (q : Int) (k : Int) (w : Int) (x0 : -2147483648 ≤ x) (x1 : x < 2147483648) (q0 : -2147483648 ≤ q) (q1 : q < 2147483648) (k0 : -2147483648 ≤ k) (k1 : k < 2147483648) (w0 : -2147483648 ≤ w) (w1 : w < 2147483648) (hn1 : kOf σ x q ≠ -1) (hn : kPatT σ x q k w = true) (hl0 : l.stackTraces = false) : zxt l D vwCl (tyS cI cZ cR) 56 (layS cI cZ cR a) a yX4_path wsX4_path ({ frames := 6, cells := 1, slots := 6, locals := 88 }) [.ref (a 0), .int (jI x), .int (jI q), .int (jI k), .int (jI w)] σ := by
  refine zxt_of (cc := cX4_path) (maxL := 8) (ret := some .int) (own := RX4) (by decide) rfl rfl (Nat.le_of_ble_eq_true rfl) rfl ?_
  intro p e s m below meth c A ls C X hP hz hcov hl
  refine zg_aload_n C dX4_path_0 rfl (lv_at hl 0 rfl) ?_
  refine zg_iload_n C dX4_path_1 rfl (lv_at hl 1 rfl) ?_
  refine zg_iload_n C dX4_path_2 rfl (lv_at hl 2 rfl) ?_
  refine zr_callV C X hP (kX4_livingSignR l σ hR x q (by omega) (by omega) (by omega) (by omega) hn1) (cwV 2 C.ts (zgV mlX4_121 imX4_livingSign slX4_livingSign iniX4 cdX4_livingSign) rfl rfl rfl (by decide +kernel) ⟨Nat.le_of_ble_eq_true rfl, Nat.le_of_ble_eq_true rfl⟩) (by decide) lyS_0 rfl rfl rfl hl.1 rfl (Nat.le_of_ble_eq_true rfl) dX4_path_3 ⟨Nat.zero_le _, Nat.zero_le _⟩ (fun r_2 q3 => ?_)
  subst q3
  have b_4 := kOf_rg hR x q
  refine zg_istore (lv' := [(5, .int (jI (kOf σ x q))), (0, .ref (a 0)), (1, .int (jI x)), (2, .int (jI q)), (3, .int (jI k)), (4, .int (jI w))]) C dX4_path_6 hl (by decide) rfl (fun ls hl => ?_)
  refine zg_aload_n C dX4_path_8 rfl (lv_at hl 1 rfl) ?_
  refine zg_get (j := 1) C X hP (by decide) lyS_0 rfl (zmem uwX4) (by decide) (C.tb flX4_19) (fun _ h9 => h9) rfl dX4_path_9 ?_
  refine zg_get (j := 1) C X hP (by decide) lyS_11 rfl (zmem uwX1) (by decide) (C.tb flX4_125) (fun _ h9 => h9) rfl dX4_path_12 ?_
  refine zg_iload C dX4_path_15 (lv_at hl 0 rfl) ?_
  refine zg_iald (t0 := 0) C X hP (by decide) lyS_13 rfl (by decide) (by omega) (by omega) dX4_path_17 ?_
  have b_5 := rgS_13 hR ((kOf σ x q).toNat)
  refine zg_istore (lv' := [(6, .int (jI (σ 13 (kOf σ x q).toNat))), (5, .int (jI (kOf σ x q))), (0, .ref (a 0)), (1, .int (jI x)), (2, .int (jI q)), (3, .int (jI k)), (4, .int (jI w))]) C dX4_path_18 hl (by decide) rfl (fun ls hl => ?_)
  refine zg_iload C dX4_path_20 (lv_at hl 6 rfl) ?_
  refine zg_if_ne (tgt := 28) C (by omega) (by omega) dX4_path_22 (by decide) (fun c_6 => ?_) (fun c_6 => ?_)
  · refine zg_iload C dX4_path_28 (lv_at hl 6 rfl) ?_
    refine zg_if_lt (tgt := 50) C (by omega) (by omega) dX4_path_30 (by decide) (fun c_7 => ?_) (fun c_7 => ?_)
    · exact zx_throw hl0 C hz zs130 hcov clX_128 iniX dX4_path_50 dX4_path_53 dX4_path_54 dX4_path_56 dX4_path_59 hl.1 (Nat.le_of_ble_eq_true rfl) (Nat.le_of_ble_eq_true rfl) (Nat.le_of_ble_eq_true rfl) (Nat.le_of_ble_eq_true rfl)
    · refine zg_iload C dX4_path_33 (lv_at hl 6 rfl) ?_
      refine zg_iconst C dX4_path_35 ?_
      refine zg_icmp_gt (tgt := 50) C (by omega) (by omega) (by omega) (by omega) dX4_path_36 (by decide) (fun c_8 => ?_) (fun c_8 => ?_)
      · exact zx_throw hl0 C hz zs130 hcov clX_128 iniX dX4_path_50 dX4_path_53 dX4_path_54 dX4_path_56 dX4_path_59 hl.1 (Nat.le_of_ble_eq_true rfl) (Nat.le_of_ble_eq_true rfl) (Nat.le_of_ble_eq_true rfl) (Nat.le_of_ble_eq_true rfl)
      · refine zg_iload_n C dX4_path_39 rfl (lv_at hl 5 rfl) ?_
        refine zg_iconst C dX4_path_40 ?_
        refine zg_icmp_lt (tgt := 50) C (by omega) (by omega) (by omega) (by omega) dX4_path_41 (by decide) (fun c_9 => ?_) (fun c_9 => ?_)
        · exact zx_throw hl0 C hz zs130 hcov clX_128 iniX dX4_path_50 dX4_path_53 dX4_path_54 dX4_path_56 dX4_path_59 hl.1 (Nat.le_of_ble_eq_true rfl) (Nat.le_of_ble_eq_true rfl) (Nat.le_of_ble_eq_true rfl) (Nat.le_of_ble_eq_true rfl)
        · refine zg_iload_n C dX4_path_44 rfl (lv_at hl 5 rfl) ?_
          refine zg_iload C dX4_path_45 (lv_at hl 0 rfl) ?_
          refine zg_icmp_le (tgt := 60) C (by omega) (by omega) (by omega) (by omega) dX4_path_47 (by decide) (fun c_10 => ?_) (fun c_10 => ?_)
          · exact absurd hn (by grind [kPatT, mIn])
          · exact zx_throw hl0 C hz zs130 hcov clX_128 iniX dX4_path_50 dX4_path_53 dX4_path_54 dX4_path_56 dX4_path_59 hl.1 (Nat.le_of_ble_eq_true rfl) (Nat.le_of_ble_eq_true rfl) (Nat.le_of_ble_eq_true rfl) (Nat.le_of_ble_eq_true rfl)
  · exact absurd hn (by grind [kPatT, mIn])
