set_option maxHeartbeats 4000000 in
set_option maxRecDepth 100000 in
theorem kX4_livingSign (l : Launch) {D : va_G} {a : Nat → Nat} {cI cZ cR : ClassId} (σ : Zt) (hR : rgS σ) (x : Int) (q : Int) (x0 : -2147483648 ≤ x) (x1 : x < 2147483648) (q0 : -2147483648 ≤ q) (q1 : q < 2147483648) (hn : kOf σ x q ≠ -1) : zc l D vwCl (tyS cI cZ cR) 56 (layS cI cZ cR a) a yX4_livingSign wsX4_livingSign ({ frames := 3, cells := 0, slots := 0, locals := 65 }) [.ref (a 0), .int (jI x), .int (jI q)] σ (fun r_ u_ => r_ = jI (kOf σ x q) ∧ u_ = σ) := by
  refine zc_of (cc := cX4_livingSign) (maxL := 4) (ret := some .int) (own := RX4) (by decide) rfl rfl (Nat.le_of_ble_eq_true rfl) rfl ?_
  intro p e s m below meth c A ls C X hP hS hl
  refine zg_iload_n C dX4_livingSign_0 rfl (lv_at hl 1 rfl) ?_
  refine zg_callS C X hP hS (kX4_isReplica l σ hR x (by omega) (by omega)) (cwS 1 C.ts (zgS mlX4_39 stX4_isReplica iniX4 cdX4_isReplica) rfl rfl rfl (by decide +kernel) ⟨Nat.le_of_ble_eq_true rfl, Nat.le_of_ble_eq_true rfl⟩) rfl hl.1 rfl (Nat.le_of_ble_eq_true rfl) dX4_livingSign_1 ⟨Nat.zero_le _, Nat.zero_le _⟩ (fun r_2 σ1 H locs q3 hP hS => ?_)
  obtain ⟨rfl, q3⟩ := q3
  rw [q3] at hP
  refine zg_ifeqB (tgt := 20) C dX4_livingSign_4 (by decide) (fun c_4 => ?_) (fun c_4 => ?_)
  · have b_5 := kIsR_f c_4
    refine zg_iconst C dX4_livingSign_20 ?_
    refine zg_istore_n (lv' := [(3, .int (jI (-1))), (0, .ref (a 0)), (1, .int (jI x)), (2, .int (jI q))]) C dX4_livingSign_21 rfl hl (by decide) rfl (fun ls hl => ?_)
    refine zg_iload_n C dX4_livingSign_22 rfl (lv_at hl 0 rfl) ?_
    refine zg_iconst C dX4_livingSign_23 ?_
    refine zg_icmp_ne (tgt := 37) C (by omega) (by omega) (by omega) (by omega) dX4_livingSign_24 (by decide) (fun c_6 => ?_) (fun c_6 => ?_)
    · exact absurd c_6 (by decide)
    · exact absurd (show kOf σ x q = -1 by grind [kOf]) hn
  · have b_7 := kIsR_t c_4
    refine zg_aload_n C dX4_livingSign_7 rfl (lv_at hl 0 rfl) ?_
    refine zg_get (j := 3) C X hP (by decide) lyS_0 rfl (zmem uwX4) (by decide) (C.tb flX4_32) (fun _ h9 => h9) rfl dX4_livingSign_8 ?_
    refine zg_iload_n C dX4_livingSign_11 rfl (lv_at hl 1 rfl) ?_
    have hr8 : (x).toNat < 6 := by omega
    refine zg_aald (t0 := 2) C X hP (by decide) lyS_19 rfl (by decide) (by omega) (by omega) rfl dX4_livingSign_12 ?_
    refine zg_iload_n C dX4_livingSign_13 rfl (lv_at hl 2 rfl) ?_
    refine zg_callV C X hP hS (kX2_signAt l σ hR ((x).toNat) hr8 q (by omega) (by omega)) (cwV 1 C.ts (zgV mlX4_57 imX2_signAt slX2_signAt iniX2 cdX2_signAt) rfl rfl rfl (by decide +kernel) ⟨Nat.le_of_ble_eq_true rfl, Nat.le_of_ble_eq_true rfl⟩) (hkS_20 hr8) (lyS_20 hr8) rfl rfl rfl hl.1 rfl (Nat.le_of_ble_eq_true rfl) dX4_livingSign_14 ⟨Nat.zero_le _, Nat.zero_le _⟩ (fun r_10 σ9 H locs q11 hP hS => ?_)
    obtain ⟨rfl, q11⟩ := q11
    have b_12 := kSignAt_rg hR ((x).toNat) q
    rw [q11] at hP
    refine zg_goto (tgt := 21) C dX4_livingSign_17 (by decide) ?_
    refine zg_istore_n (lv' := [(3, .int (jI (kSignAt σ ((x).toNat) q))), (0, .ref (a 0)), (1, .int (jI x)), (2, .int (jI q))]) C dX4_livingSign_21 rfl hl (by decide) rfl (fun ls hl => ?_)
    refine zg_iload_n C dX4_livingSign_22 rfl (lv_at hl 0 rfl) ?_
    refine zg_iconst C dX4_livingSign_23 ?_
    refine zg_icmp_ne (tgt := 37) C (by omega) (by omega) (by omega) (by omega) dX4_livingSign_24 (by decide) (fun c_13 => ?_) (fun c_13 => ?_)
    · refine zg_iload_n C dX4_livingSign_37 rfl (lv_at hl 0 rfl) ?_
      refine zg_iret C hP hS dX4_livingSign_38 ?_
      exact ⟨congrArg jI (by grind [kOf]), rfl⟩
    · exact absurd (show kOf σ x q = -1 by grind [kOf]) hn
set_option maxHeartbeats 4000000 in
set_option maxRecDepth 100000 in
theorem kX4_sign (l : Launch) {D : va_G} {a : Nat → Nat} {cI cZ cR : ClassId} (σ : Zt) (hR : rgS σ) (x : Int) (q : Int) (x0 : -2147483648 ≤ x) (x1 : x < 2147483648) (q0 : -2147483648 ≤ q) (q1 : q < 2147483648) (hn : kOf σ x q ≠ -1) : zc l D vwCl (tyS cI cZ cR) 56 (layS cI cZ cR a) a yX4_sign wsX4_sign ({ frames := 4, cells := 0, slots := 0, locals := 88 }) [.ref (a 0), .int (jI x), .int (jI q)] σ (fun r_ u_ => r_ = jI (kSigR σ x q) ∧ u_ = σ) := by
  refine zc_of (cc := cX4_sign) (maxL := 3) (ret := some .int) (own := RX4) (by decide) rfl rfl (Nat.le_of_ble_eq_true rfl) rfl ?_
  intro p e s m below meth c A ls C X hP hS hl
  refine zg_aload_n C dX4_sign_0 rfl (lv_at hl 0 rfl) ?_
  refine zg_get (j := 0) C X hP (by decide) lyS_0 rfl (zmem uwX4) (by decide) (C.tb flX4_10) (fun _ h9 => h9) rfl dX4_sign_1 ?_
  refine zg_get (j := 4) C X hP (by decide) lyS_1 rfl (zmem uwX0) (by decide) (C.tb flX4_118) (fun _ h9 => h9) rfl dX4_sign_4 ?_
  refine zg_aload_n C dX4_sign_7 rfl (lv_at hl 0 rfl) ?_
  refine zg_iload_n C dX4_sign_8 rfl (lv_at hl 1 rfl) ?_
  refine zg_iload_n C dX4_sign_9 rfl (lv_at hl 2 rfl) ?_
  refine zg_callV C X hP hS (kX4_livingSign l σ hR x q (by omega) (by omega) (by omega) (by omega) hn) (cwV 2 C.ts (zgV mlX4_121 imX4_livingSign slX4_livingSign iniX4 cdX4_livingSign) rfl rfl rfl (by decide +kernel) ⟨Nat.le_of_ble_eq_true rfl, Nat.le_of_ble_eq_true rfl⟩) (by decide) lyS_0 rfl rfl rfl hl.1 rfl (Nat.le_of_ble_eq_true rfl) dX4_sign_10 ⟨Nat.zero_le _, Nat.zero_le _⟩ (fun r_2 σ1 H locs q3 hP hS => ?_)
  obtain ⟨rfl, q3⟩ := q3
  have b_4 := kOf_rg hR x q
  rw [q3] at hP
  refine zg_iald (t0 := 0) C X hP (by decide) lyS_6 rfl (by decide) (by omega) (by omega) dX4_sign_13 ?_
  have b_5 := rgS_6 hR ((kOf σ x q).toNat)
  refine zg_iret C hP hS dX4_sign_14 ?_
  exact ⟨congrArg jI (by grind [kSigR]), rfl⟩
set_option maxHeartbeats 4000000 in
set_option maxRecDepth 100000 in
theorem kX4_path (l : Launch) {D : va_G} {a : Nat → Nat} {cI cZ cR : ClassId} (σ : Zt) (hR : rgS σ) (x : Int) (q : Int) (k : Int) (w : Int) (x0 : -2147483648 ≤ x) (x1 : x < 2147483648) (q0 : -2147483648 ≤ q) (q1 : q < 2147483648) (k0 : -2147483648 ≤ k) (k1 : k < 2147483648) (w0 : -2147483648 ≤ w) (w1 : w < 2147483648) (hn : kPatT σ x q k w = false) (hn1 : kOf σ x q ≠ -1) : zc l D vwCl (tyS cI cZ cR) 56 (layS cI cZ cR a) a yX4_path wsX4_path ({ frames := 4, cells := 0, slots := 0, locals := 88 }) [.ref (a 0), .int (jI x), .int (jI q), .int (jI k), .int (jI w)] σ (fun r_ u_ => r_ = jI (kPatR σ x q k w) ∧ u_ = σ) := by
  refine zc_of (cc := cX4_path) (maxL := 8) (ret := some .int) (own := RX4) (by decide) rfl rfl (Nat.le_of_ble_eq_true rfl) rfl ?_
  intro p e s m below meth c A ls C X hP hS hl
  refine zg_aload_n C dX4_path_0 rfl (lv_at hl 0 rfl) ?_
  refine zg_iload_n C dX4_path_1 rfl (lv_at hl 1 rfl) ?_
  refine zg_iload_n C dX4_path_2 rfl (lv_at hl 2 rfl) ?_
  refine zg_callV C X hP hS (kX4_livingSign l σ hR x q (by omega) (by omega) (by omega) (by omega) hn1) (cwV 2 C.ts (zgV mlX4_121 imX4_livingSign slX4_livingSign iniX4 cdX4_livingSign) rfl rfl rfl (by decide +kernel) ⟨Nat.le_of_ble_eq_true rfl, Nat.le_of_ble_eq_true rfl⟩) (by decide) lyS_0 rfl rfl rfl hl.1 rfl (Nat.le_of_ble_eq_true rfl) dX4_path_3 ⟨Nat.zero_le _, Nat.zero_le _⟩ (fun r_2 σ1 H locs q3 hP hS => ?_)
  obtain ⟨rfl, q3⟩ := q3
  have b_4 := kOf_rg hR x q
  rw [q3] at hP
  refine zg_istore (lv' := [(5, .int (jI (kOf σ x q))), (0, .ref (a 0)), (1, .int (jI x)), (2, .int (jI q)), (3, .int (jI k)), (4, .int (jI w))]) C dX4_path_6 hl (by decide) rfl (fun ls hl => ?_)
  refine zg_aload_n C dX4_path_8 rfl (lv_at hl 1 rfl) ?_
  refine zg_get (j := 1) C X hP (by decide) lyS_0 rfl (zmem uwX4) (by decide) (C.tb flX4_19) (fun _ h9 => h9) rfl dX4_path_9 ?_
  refine zg_get (j := 1) C X hP (by decide) lyS_11 rfl (zmem uwX1) (by decide) (C.tb flX4_125) (fun _ h9 => h9) rfl dX4_path_12 ?_
  refine zg_iload C dX4_path_15 (lv_at hl 0 rfl) ?_
  refine zg_iald (t0 := 0) C X hP (by decide) lyS_13 rfl (by decide) (by omega) (by omega) dX4_path_17 ?_
  have b_5 := rgS_13 hR ((kOf σ x q).toNat)
  refine zg_istore (lv' := [(6, .int (jI (σ 13 (kOf σ x q).toNat))), (5, .int (jI (kOf σ x q))), (0, .ref (a 0)), (1, .int (jI x)), (2, .int (jI q)), (3, .int (jI k)), (4, .int (jI w))]) C dX4_path_18 hl (by decide) rfl (fun ls hl => ?_)
  refine zg_iload C dX4_path_20 (lv_at hl 6 rfl) ?_
  refine zg_if_ne (tgt := 28) C (by omega) (by omega) dX4_path_22 (by decide) (fun c_6 => ?_) (fun c_6 => ?_)
  · refine zg_iload C dX4_path_28 (lv_at hl 6 rfl) ?_
    refine zg_if_lt (tgt := 50) C (by omega) (by omega) dX4_path_30 (by decide) (fun c_7 => ?_) (fun c_7 => ?_)
    · exact absurd hn (by grind [kPatT, mIn])
    · refine zg_iload C dX4_path_33 (lv_at hl 6 rfl) ?_
      refine zg_iconst C dX4_path_35 ?_
      refine zg_icmp_gt (tgt := 50) C (by omega) (by omega) (by omega) (by omega) dX4_path_36 (by decide) (fun c_8 => ?_) (fun c_8 => ?_)
      · exact absurd hn (by grind [kPatT, mIn])
      · refine zg_iload_n C dX4_path_39 rfl (lv_at hl 5 rfl) ?_
        refine zg_iconst C dX4_path_40 ?_
        refine zg_icmp_lt (tgt := 50) C (by omega) (by omega) (by omega) (by omega) dX4_path_41 (by decide) (fun c_9 => ?_) (fun c_9 => ?_)
        · exact absurd hn (by grind [kPatT, mIn])
        · refine zg_iload_n C dX4_path_44 rfl (lv_at hl 5 rfl) ?_
          refine zg_iload C dX4_path_45 (lv_at hl 0 rfl) ?_
          refine zg_icmp_le (tgt := 60) C (by omega) (by omega) (by omega) (by omega) dX4_path_47 (by decide) (fun c_10 => ?_) (fun c_10 => ?_)
          · refine zg_aload_n C dX4_path_60 rfl (lv_at hl 2 rfl) ?_
            refine zg_get (j := 1) C X hP (by decide) lyS_0 rfl (zmem uwX4) (by decide) (C.tb flX4_19) (fun _ h9 => h9) rfl dX4_path_61 ?_
            refine zg_iload C dX4_path_64 (lv_at hl 1 rfl) ?_
            refine zg_iload_n C dX4_path_66 rfl (lv_at hl 5 rfl) ?_
            refine zg_callV C X hP hS (kX1_levelOf l σ hR (kOf σ x q) k (by omega) (by omega) (by omega) (by omega)) (cwV 2 C.ts (zgV mlX4_135 imX1_levelOf slX1_levelOf iniX1 cdX1_levelOf) rfl rfl rfl (by decide +kernel) ⟨Nat.le_of_ble_eq_true rfl, Nat.le_of_ble_eq_true rfl⟩) (by decide) lyS_11 rfl rfl rfl hl.1 rfl (Nat.le_of_ble_eq_true rfl) dX4_path_67 ⟨Nat.zero_le _, Nat.zero_le _⟩ (fun r_12 σ11 H locs q13 hP hS => ?_)
            obtain ⟨rfl, q13⟩ := q13
            have b_14 := kLevel_rg hR (kOf σ x q) k
            rw [q13] at hP
            refine zg_istore (lv' := [(7, .int (jI (kLevel σ (kOf σ x q) k))), (6, .int (jI (σ 13 (kOf σ x q).toNat))), (5, .int (jI (kOf σ x q))), (0, .ref (a 0)), (1, .int (jI x)), (2, .int (jI q)), (3, .int (jI k)), (4, .int (jI w))]) C dX4_path_70 hl (by decide) rfl (fun ls hl => ?_)
            refine zg_iload C dX4_path_72 (lv_at hl 7 rfl) ?_
            refine zg_iconst C dX4_path_74 ?_
            refine zg_icmp_ne (tgt := 86) C (by omega) (by omega) (by omega) (by omega) dX4_path_75 (by decide) (fun c_15 => ?_) (fun c_15 => ?_)
            · refine zg_iload C dX4_path_86 (lv_at hl 7 rfl) ?_
              refine zg_iconst C dX4_path_88 ?_
              refine zg_icmp_ne (tgt := 100) C (by omega) (by omega) (by omega) (by omega) dX4_path_89 (by decide) (fun c_16 => ?_) (fun c_16 => ?_)
              · refine zg_iload C dX4_path_100 (lv_at hl 0 rfl) ?_
                refine zg_callS C X hP hS (kX1_countOf l σ hR (kLevel σ (kOf σ x q) k) (by omega) (by omega)) (va_cwS 1 C.ts (zgT mlX4_144 stX1_countOf iniX1 cdX1_countOf) rfl rfl rfl (by decide +kernel) ⟨Nat.le_of_ble_eq_true rfl, Nat.le_of_ble_eq_true rfl⟩) rfl hl.1 rfl (Nat.le_of_ble_eq_true rfl) dX4_path_102 ⟨Nat.zero_le _, Nat.zero_le _⟩ (fun r_18 σ17 H locs q19 hP hS => ?_)
                obtain ⟨rfl, q19⟩ := q19
                rw [q19] at hP
                refine zg_iret C hP hS dX4_path_105 ?_
                exact ⟨congrArg jI (by rw [kPatR, hn]; grind), rfl⟩
              · refine zg_iload C dX4_path_92 (lv_at hl 0 rfl) ?_
                refine zg_callS C X hP hS (kX1_siteOf l σ hR (kLevel σ (kOf σ x q) k) (by omega) (by omega)) (va_cwS 1 C.ts (zgT mlX4_141 stX1_siteOf iniX1 cdX1_siteOf) rfl rfl rfl (by decide +kernel) ⟨Nat.le_of_ble_eq_true rfl, Nat.le_of_ble_eq_true rfl⟩) rfl hl.1 rfl (Nat.le_of_ble_eq_true rfl) dX4_path_94 ⟨Nat.zero_le _, Nat.zero_le _⟩ (fun r_21 σ20 H locs q22 hP hS => ?_)
                obtain ⟨rfl, q22⟩ := q22
                rw [q22] at hP
                refine zg_goto (tgt := 105) C dX4_path_97 (by decide) ?_
                refine zg_iret C hP hS dX4_path_105 ?_
                exact ⟨congrArg jI (by rw [kPatR, hn]; grind), rfl⟩
            · refine zg_iload C dX4_path_78 (lv_at hl 0 rfl) ?_
              refine zg_callS C X hP hS (kX1_digitOf l σ hR (kLevel σ (kOf σ x q) k) (by omega) (by omega)) (va_cwS 1 C.ts (zgT mlX4_138 stX1_digitOf iniX1 cdX1_digitOf) rfl rfl rfl (by decide +kernel) ⟨Nat.le_of_ble_eq_true rfl, Nat.le_of_ble_eq_true rfl⟩) rfl hl.1 rfl (Nat.le_of_ble_eq_true rfl) dX4_path_80 ⟨Nat.zero_le _, Nat.zero_le _⟩ (fun r_24 σ23 H locs q25 hP hS => ?_)
              obtain ⟨rfl, q25⟩ := q25
              have b_26 := kDigit_rg (x := (kLevel σ (kOf σ x q) k)) (by omega) (by omega)
              rw [q25] at hP
              refine zg_goto (tgt := 105) C dX4_path_83 (by decide) ?_
              refine zg_iret C hP hS dX4_path_105 ?_
              exact ⟨congrArg jI (by rw [kPatR, hn]; grind), rfl⟩
          · exact absurd hn (by grind [kPatT, mIn])
  · refine zg_iload C dX4_path_25 (lv_at hl 0 rfl) ?_
    refine zg_iret C hP hS dX4_path_27 ?_
    exact ⟨congrArg jI (by rw [kPatR, hn]; grind), rfl⟩
set_option maxHeartbeats 4000000 in
set_option maxRecDepth 100000 in
theorem kX4_kinds (l : Launch) {D : va_G} {a : Nat → Nat} {cI cZ cR : ClassId} (σ : Zt) (hR : rgS σ) (x : Int) (q : Int) (x0 : -2147483648 ≤ x) (x1 : x < 2147483648) (q0 : -2147483648 ≤ q) (q1 : q < 2147483648) (hn : kOf σ x q ≠ -1) (hx : kIsR x = true) : zc l D vwCl (tyS cI cZ cR) 56 (layS cI cZ cR a) a yX4_kinds wsX4_kinds ({ frames := 4, cells := 0, slots := 0, locals := 88 }) [.ref (a 0), .int (jI x), .int (jI q)] σ (fun r_ u_ => r_ = jI (kKinR σ x q) ∧ zq σ u_) := by
  refine zc_of (cc := cX4_kinds) (maxL := 4) (ret := some .int) (own := RX4) (by decide) rfl rfl (Nat.le_of_ble_eq_true rfl) rfl ?_
  intro p e s m below meth c A ls C X hP hS hl
  have b_x := kIsR_t hx
  refine zg_aload_n C dX4_kinds_0 rfl (lv_at hl 0 rfl) ?_
  refine zg_iload_n C dX4_kinds_1 rfl (lv_at hl 1 rfl) ?_
  refine zg_iload_n C dX4_kinds_2 rfl (lv_at hl 2 rfl) ?_
  refine zg_callV C X hP hS (kX4_livingSign l σ hR x q (by omega) (by omega) (by omega) (by omega) hn) (cwV 2 C.ts (zgV mlX4_121 imX4_livingSign slX4_livingSign iniX4 cdX4_livingSign) rfl rfl rfl (by decide +kernel) ⟨Nat.le_of_ble_eq_true rfl, Nat.le_of_ble_eq_true rfl⟩) (by decide) lyS_0 rfl rfl rfl hl.1 rfl (Nat.le_of_ble_eq_true rfl) dX4_kinds_3 ⟨Nat.zero_le _, Nat.zero_le _⟩ (fun r_2 σ1 H locs q3 hP hS => ?_)
  obtain ⟨rfl, q3⟩ := q3
  have b_4 := kOf_rg hR x q
  rw [q3] at hP
  refine zg_istore_n (lv' := [(3, .int (jI (kOf σ x q))), (0, .ref (a 0)), (1, .int (jI x)), (2, .int (jI q))]) C dX4_kinds_6 rfl hl (by decide) rfl (fun ls hl => ?_)
  refine zg_aload_n C dX4_kinds_7 rfl (lv_at hl 1 rfl) ?_
  refine zg_get (j := 3) C X hP (by decide) lyS_0 rfl (zmem uwX4) (by decide) (C.tb flX4_32) (fun _ h9 => h9) rfl dX4_kinds_8 ?_
  refine zg_iload_n C dX4_kinds_11 rfl (lv_at hl 2 rfl) ?_
  have hr5 : (x).toNat < 6 := by omega
  refine zg_aald (t0 := 2) C X hP (by decide) lyS_19 rfl (by decide) (by omega) (by omega) rfl dX4_kinds_12 ?_
  refine zg_iload_n C dX4_kinds_13 rfl (lv_at hl 0 rfl) ?_
  refine zg_callV C X hP hS (kX2_kindsOf l σ hR ((x).toNat) hr5 (kOf σ x q) (by omega) (by omega)) (cwV 1 C.ts (zgV mlX4_147 imX2_kindsOf slX2_kindsOf iniX2 cdX2_kindsOf) rfl rfl rfl (by decide +kernel) ⟨Nat.le_of_ble_eq_true rfl, Nat.le_of_ble_eq_true rfl⟩) (hkS_20 hr5) (lyS_20 hr5) rfl rfl rfl hl.1 rfl (Nat.le_of_ble_eq_true rfl) dX4_kinds_14 ⟨Nat.zero_le _, Nat.zero_le _⟩ (fun r_7 σ6 H locs q8 hP hS => ?_)
  obtain ⟨rfl, q8⟩ := q8
  have b_9 := kKinds_rg σ ((x).toNat) (kOf σ x q)
  have hR10 : rgS σ6 := q8.1
  refine zg_iret C hP hS dX4_kinds_17 ?_
  exact ⟨congrArg jI (by grind [kKinR]), q8⟩
