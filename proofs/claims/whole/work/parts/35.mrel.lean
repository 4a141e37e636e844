set_option maxHeartbeats 4000000 in
set_option maxRecDepth 100000 in
theorem kX5_can (l : Launch) {D : va_G} {a : Nat → Nat} {cI cZ : ClassId} (σ : Zt) (hR : rgM σ) (κ : Zt) (hM : RR κ σ) (hG : kMid κ) (x : Int) (d : Int) (x0 : 0 ≤ x) (x1 : x < 6) (d0 : 0 ≤ d) (d1 : d < κ 1 10) : zc l D vwCl (tyM cI cZ) 28 (layM cI cZ a) a yX5_can wsX5_can ({ frames := 1, cells := 0, slots := 0, locals := 22 }) [.ref (a 0), .int (jI x), .int (jI d)] σ (fun r_ u_ => r_ = jI (bI (kReady κ x.toNat d)) ∧ u_ = σ) := by
  refine zc_of (cc := cX5_can) (maxL := 5) (ret := some .boolean) (own := RX5) (by decide) rfl rfl (Nat.le_of_ble_eq_true rfl) rfl ?_
  intro p e s m below meth c A ls C X hP hS hl
  have bT := rgS_1_10 hG.1
  have bP := rgS_11_4 hG.1
  have bPT := hG.e.1
  have bD := hG.d d.toNat (by omega)
  have b2 := rgS_2 hG.1 d.toNat
  refine zg_aload_n C dX5_can_0 rfl (lv_at hl 0 rfl) ?_
  refine zg_get (j := 21) C X hP (by decide) lyM_0 rfl (zmem uwX5) (by decide) (C.tb flX5_69) (fun _ h9 => h9) rfl dX5_can_1 ?_
  refine zg_bipush C dX5_can_4 (by decide) ?_
  refine zg_iload_n C dX5_can_6 rfl (lv_at hl 1 rfl) ?_
  refine zg_imul C dX5_can_7 ?_
  refine zg_aload_n C dX5_can_8 rfl (lv_at hl 0 rfl) ?_
  refine zg_get (j := 2) C X hP (by decide) lyM_0 rfl (zmem uwX5) (by decide) (C.tb flX5_13) (fun _ h9 => h9) rfl dX5_can_9 ?_
  refine zg_iload_n C dX5_can_12 rfl (lv_at hl 2 rfl) ?_
  refine zg_iald (t0 := 0) C X hP (by decide) lyM_1 rfl (by decide) (by omega) (by omega) dX5_can_13 ?_
  rw [rr_1 hM]
  have b_1 := rgS_2 hG.1 (d).toNat
  have b_2 := rgM_1 hR ((d).toNat)
  refine zg_iadd C dX5_can_14 ?_
  refine zg_iald (t0 := 0) C X hP (by decide) lyM_19 rfl (by decide) (by omega) (by omega) dX5_can_15 ?_
  rw [rr_19 hM (x := x) (d := (κ 2 (d).toNat)) (by omega) (by omega) (by omega) (by omega)]
  have b_3 := rgS_21 hG.1 (r := x.toNat) (by omega) (κ 2 (d).toNat).toNat
  have b_4 := rgM_19 hR (((6 * x) + (κ 2 (d).toNat)).toNat)
  refine zg_aload_n C dX5_can_16 rfl (lv_at hl 0 rfl) ?_
  refine zg_get (j := 3) C X hP (by decide) lyM_0 rfl (zmem uwX5) (by decide) (C.tb flX5_17) (fun _ h9 => h9) rfl dX5_can_17 ?_
  refine zg_iload_n C dX5_can_20 rfl (lv_at hl 2 rfl) ?_
  refine zg_iald (t0 := 0) C X hP (by decide) lyM_2 rfl (by decide) (by omega) (by omega) dX5_can_21 ?_
  rw [rr_2 hM]
  have b_5 := rgS_3 hG.1 (d).toNat
  have b_6 := rgM_2 hR ((d).toNat)
  refine zg_iconst C dX5_can_22 ?_
  refine zg_isub C dX5_can_23 ?_
  refine zg_icmp_ne (tgt := 31) C (by omega) (by omega) (by omega) (by omega) dX5_can_24 (by decide) (fun c_7 => ?_) (fun c_7 => ?_)
  · refine zg_iconst C dX5_can_31 ?_
    refine zg_istore_n (lv' := [(3, .int (jI 0)), (0, .ref (a 0)), (1, .int (jI x)), (2, .int (jI d))]) C dX5_can_32 rfl hl (by decide) rfl (fun ls hl => ?_)
    refine zg_aload_n C dX5_can_33 rfl (lv_at hl 1 rfl) ?_
    refine zg_get (j := 5) C X hP (by decide) lyM_0 rfl (zmem uwX5) (by decide) (C.tb flX5_23) (fun _ h9 => h9) rfl dX5_can_34 ?_
    refine zg_iload_n C dX5_can_37 rfl (lv_at hl 3 rfl) ?_
    refine zg_iald (t0 := 0) C X hP (by decide) lyM_4 rfl (by decide) (by omega) (by omega) dX5_can_38 ?_
    rw [rr_4 hM]
    have b_8 := rgS_5 hG.1 (d).toNat
    have b_9 := rgM_4 hR ((d).toNat)
    refine zg_if_eq (tgt := 80) C (by omega) (by omega) dX5_can_39 (by decide) (fun c_10 => ?_) (fun c_10 => ?_)
    · refine zg_iconst C dX5_can_80 ?_
      refine zg_goto (tgt := 85) C dX5_can_81 (by decide) ?_
      refine zg_istore (lv' := [(4, .int (jI 1)), (3, .int (jI 0)), (0, .ref (a 0)), (1, .int (jI x)), (2, .int (jI d))]) C dX5_can_85 hl (by decide) rfl (fun ls hl => ?_)
      refine zg_iload_n C dX5_can_87 rfl (lv_at hl 1 rfl) ?_
      refine zg_if_eq (tgt := 100) C (by omega) (by omega) dX5_can_88 (by decide) (fun c_11 => ?_) (fun c_11 => ?_)
      · refine zg_iconst C dX5_can_100 ?_
        refine zg_zret (b := false) C hP hS dX5_can_101 ?_
        exact ⟨congrArg (fun b => jI (bI b)) (by grind [kReady]), rfl⟩
      · exact absurd c_11 (by decide)
    · refine zg_aload_n C dX5_can_42 rfl (lv_at hl 1 rfl) ?_
      refine zg_iload_n C dX5_can_43 rfl (lv_at hl 2 rfl) ?_
      refine zg_aload_n C dX5_can_44 rfl (lv_at hl 1 rfl) ?_
      refine zg_get (j := 7) C X hP (by decide) lyM_0 rfl (zmem uwX5) (by decide) (C.tb flX5_29) (fun _ h9 => h9) rfl dX5_can_45 ?_
      refine zg_iload_n C dX5_can_48 rfl (lv_at hl 3 rfl) ?_
      refine zg_iald (t0 := 0) C X hP (by decide) lyM_6 rfl (by decide) (by omega) (by omega) dX5_can_49 ?_
      rw [rr_6 hM]
      have b_12 := rgS_7 hG.1 (d).toNat
      have b_13 := rgM_6 hR ((d).toNat)
      refine zg_callV C X hP hS (kX5_has l σ hR κ hM hG x (κ 7 (d).toNat) (by omega) (by omega) (by omega) (by omega)) (cwV 2 C.ts (zgV mlX5_106 imX5_has slX5_has iniX5 cdX5_has) rfl rfl rfl (by decide +kernel) ⟨Nat.le_of_ble_eq_true rfl, Nat.le_of_ble_eq_true rfl⟩) (by decide) lyM_0 rfl rfl rfl hl.1 rfl (Nat.le_of_ble_eq_true rfl) dX5_can_50 ⟨Nat.zero_le _, Nat.zero_le _⟩ (fun r_15 σ14 H locs q16 hP hS => ?_)
      obtain ⟨rfl, q16⟩ := q16
      rw [q16] at hP
      refine zg_ifeqB (tgt := 84) C dX5_can_53 (by decide) (fun c_17 => ?_) (fun c_17 => ?_)
      · refine zg_iconst C dX5_can_84 ?_
        refine zg_istore (lv' := [(4, .int (jI 0)), (3, .int (jI 0)), (0, .ref (a 0)), (1, .int (jI x)), (2, .int (jI d))]) C dX5_can_85 hl (by decide) rfl (fun ls hl => ?_)
        refine zg_iload_n C dX5_can_87 rfl (lv_at hl 1 rfl) ?_
        refine zg_if_eq (tgt := 100) C (by omega) (by omega) dX5_can_88 (by decide) (fun c_18 => ?_) (fun c_18 => ?_)
        · refine zg_iconst C dX5_can_100 ?_
          refine zg_zret (b := false) C hP hS dX5_can_101 ?_
          exact ⟨congrArg (fun b => jI (bI b)) (by grind [kReady]), rfl⟩
        · exact absurd c_18 (by decide)
      · refine zg_aload_n C dX5_can_56 rfl (lv_at hl 1 rfl) ?_
        refine zg_get (j := 5) C X hP (by decide) lyM_0 rfl (zmem uwX5) (by decide) (C.tb flX5_23) (fun _ h9 => h9) rfl dX5_can_57 ?_
        refine zg_iload_n C dX5_can_60 rfl (lv_at hl 3 rfl) ?_
        refine zg_iald (t0 := 0) C X hP (by decide) lyM_4 rfl (by decide) (by omega) (by omega) dX5_can_61 ?_
        rw [rr_4 hM]
        have b_19 := rgS_5 hG.1 (d).toNat
        have b_20 := rgM_4 hR ((d).toNat)
        refine zg_iconst C dX5_can_62 ?_
        refine zg_icmp_ne (tgt := 80) C (by omega) (by omega) (by omega) (by omega) dX5_can_63 (by decide) (fun c_21 => ?_) (fun c_21 => ?_)
        · refine zg_iconst C dX5_can_80 ?_
          refine zg_goto (tgt := 85) C dX5_can_81 (by decide) ?_
          refine zg_istore (lv' := [(4, .int (jI 1)), (3, .int (jI 0)), (0, .ref (a 0)), (1, .int (jI x)), (2, .int (jI d))]) C dX5_can_85 hl (by decide) rfl (fun ls hl => ?_)
          refine zg_iload_n C dX5_can_87 rfl (lv_at hl 1 rfl) ?_
          refine zg_if_eq (tgt := 100) C (by omega) (by omega) dX5_can_88 (by decide) (fun c_22 => ?_) (fun c_22 => ?_)
          · refine zg_iconst C dX5_can_100 ?_
            refine zg_zret (b := false) C hP hS dX5_can_101 ?_
            exact ⟨congrArg (fun b => jI (bI b)) (by grind [kReady]), rfl⟩
          · exact absurd c_22 (by decide)
        · refine zg_aload_n C dX5_can_66 rfl (lv_at hl 1 rfl) ?_
          refine zg_iload_n C dX5_can_67 rfl (lv_at hl 2 rfl) ?_
          refine zg_aload_n C dX5_can_68 rfl (lv_at hl 1 rfl) ?_
          refine zg_get (j := 8) C X hP (by decide) lyM_0 rfl (zmem uwX5) (by decide) (C.tb flX5_32) (fun _ h9 => h9) rfl dX5_can_69 ?_
          refine zg_iload_n C dX5_can_72 rfl (lv_at hl 3 rfl) ?_
          refine zg_iald (t0 := 0) C X hP (by decide) lyM_7 rfl (by decide) (by omega) (by omega) dX5_can_73 ?_
          rw [rr_7 hM (d := (d).toNat) (by assumption)]
          have b_23 := rgS_8 hG.1 (d).toNat
          have b_24 := rgM_7 hR ((d).toNat)
          refine zg_callV C X hP hS (kX5_has l σ hR κ hM hG x (κ 8 (d).toNat) (by omega) (by omega) (by omega) (by omega)) (cwV 2 C.ts (zgV mlX5_106 imX5_has slX5_has iniX5 cdX5_has) rfl rfl rfl (by decide +kernel) ⟨Nat.le_of_ble_eq_true rfl, Nat.le_of_ble_eq_true rfl⟩) (by decide) lyM_0 rfl rfl rfl hl.1 rfl (Nat.le_of_ble_eq_true rfl) dX5_can_74 ⟨Nat.zero_le _, Nat.zero_le _⟩ (fun r_26 σ25 H locs q27 hP hS => ?_)
          obtain ⟨rfl, q27⟩ := q27
          rw [q27] at hP
          refine zg_ifeqB (tgt := 84) C dX5_can_77 (by decide) (fun c_28 => ?_) (fun c_28 => ?_)
          · refine zg_iconst C dX5_can_84 ?_
            refine zg_istore (lv' := [(4, .int (jI 0)), (3, .int (jI 0)), (0, .ref (a 0)), (1, .int (jI x)), (2, .int (jI d))]) C dX5_can_85 hl (by decide) rfl (fun ls hl => ?_)
            refine zg_iload_n C dX5_can_87 rfl (lv_at hl 1 rfl) ?_
            refine zg_if_eq (tgt := 100) C (by omega) (by omega) dX5_can_88 (by decide) (fun c_29 => ?_) (fun c_29 => ?_)
            · refine zg_iconst C dX5_can_100 ?_
              refine zg_zret (b := false) C hP hS dX5_can_101 ?_
              exact ⟨congrArg (fun b => jI (bI b)) (by grind [kReady]), rfl⟩
            · exact absurd c_29 (by decide)
          · refine zg_iconst C dX5_can_80 ?_
            refine zg_goto (tgt := 85) C dX5_can_81 (by decide) ?_
            refine zg_istore (lv' := [(4, .int (jI 1)), (3, .int (jI 0)), (0, .ref (a 0)), (1, .int (jI x)), (2, .int (jI d))]) C dX5_can_85 hl (by decide) rfl (fun ls hl => ?_)
            refine zg_iload_n C dX5_can_87 rfl (lv_at hl 1 rfl) ?_
            refine zg_if_eq (tgt := 100) C (by omega) (by omega) dX5_can_88 (by decide) (fun c_30 => ?_) (fun c_30 => ?_)
            · refine zg_iconst C dX5_can_100 ?_
              refine zg_zret (b := false) C hP hS dX5_can_101 ?_
              exact ⟨congrArg (fun b => jI (bI b)) (by grind [kReady]), rfl⟩
            · exact absurd c_30 (by decide)
  · refine zg_iconst C dX5_can_27 ?_
    refine zg_goto (tgt := 32) C dX5_can_28 (by decide) ?_
    refine zg_istore_n (lv' := [(3, .int (jI 1)), (0, .ref (a 0)), (1, .int (jI x)), (2, .int (jI d))]) C dX5_can_32 rfl hl (by decide) rfl (fun ls hl => ?_)
    refine zg_aload_n C dX5_can_33 rfl (lv_at hl 1 rfl) ?_
    refine zg_get (j := 5) C X hP (by decide) lyM_0 rfl (zmem uwX5) (by decide) (C.tb flX5_23) (fun _ h9 => h9) rfl dX5_can_34 ?_
    refine zg_iload_n C dX5_can_37 rfl (lv_at hl 3 rfl) ?_
    refine zg_iald (t0 := 0) C X hP (by decide) lyM_4 rfl (by decide) (by omega) (by omega) dX5_can_38 ?_
    rw [rr_4 hM]
    have b_31 := rgS_5 hG.1 (d).toNat
    have b_32 := rgM_4 hR ((d).toNat)
    refine zg_if_eq (tgt := 80) C (by omega) (by omega) dX5_can_39 (by decide) (fun c_33 => ?_) (fun c_33 => ?_)
    · refine zg_iconst C dX5_can_80 ?_
      refine zg_goto (tgt := 85) C dX5_can_81 (by decide) ?_
      refine zg_istore (lv' := [(4, .int (jI 1)), (3, .int (jI 1)), (0, .ref (a 0)), (1, .int (jI x)), (2, .int (jI d))]) C dX5_can_85 hl (by decide) rfl (fun ls hl => ?_)
      refine zg_iload_n C dX5_can_87 rfl (lv_at hl 1 rfl) ?_
      refine zg_if_eq (tgt := 100) C (by omega) (by omega) dX5_can_88 (by decide) (fun c_34 => ?_) (fun c_34 => ?_)
      · exact absurd c_34 (by decide)
      · refine zg_iload C dX5_can_91 (lv_at hl 0 rfl) ?_
        refine zg_if_eq (tgt := 100) C (by omega) (by omega) dX5_can_93 (by decide) (fun c_35 => ?_) (fun c_35 => ?_)
        · exact absurd c_35 (by decide)
        · refine zg_iconst C dX5_can_96 ?_
          refine zg_goto (tgt := 101) C dX5_can_97 (by decide) ?_
          refine zg_zret (b := true) C hP hS dX5_can_101 ?_
          exact ⟨congrArg (fun b => jI (bI b)) (by grind [kReady]), rfl⟩
    · refine zg_aload_n C dX5_can_42 rfl (lv_at hl 1 rfl) ?_
      refine zg_iload_n C dX5_can_43 rfl (lv_at hl 2 rfl) ?_
      refine zg_aload_n C dX5_can_44 rfl (lv_at hl 1 rfl) ?_
      refine zg_get (j := 7) C X hP (by decide) lyM_0 rfl (zmem uwX5) (by decide) (C.tb flX5_29) (fun _ h9 => h9) rfl dX5_can_45 ?_
      refine zg_iload_n C dX5_can_48 rfl (lv_at hl 3 rfl) ?_
      refine zg_iald (t0 := 0) C X hP (by decide) lyM_6 rfl (by decide) (by omega) (by omega) dX5_can_49 ?_
      rw [rr_6 hM]
      have b_36 := rgS_7 hG.1 (d).toNat
      have b_37 := rgM_6 hR ((d).toNat)
      refine zg_callV C X hP hS (kX5_has l σ hR κ hM hG x (κ 7 (d).toNat) (by omega) (by omega) (by omega) (by omega)) (cwV 2 C.ts (zgV mlX5_106 imX5_has slX5_has iniX5 cdX5_has) rfl rfl rfl (by decide +kernel) ⟨Nat.le_of_ble_eq_true rfl, Nat.le_of_ble_eq_true rfl⟩) (by decide) lyM_0 rfl rfl rfl hl.1 rfl (Nat.le_of_ble_eq_true rfl) dX5_can_50 ⟨Nat.zero_le _, Nat.zero_le _⟩ (fun r_39 σ38 H locs q40 hP hS => ?_)
      obtain ⟨rfl, q40⟩ := q40
      rw [q40] at hP
      refine zg_ifeqB (tgt := 84) C dX5_can_53 (by decide) (fun c_41 => ?_) (fun c_41 => ?_)
      · refine zg_iconst C dX5_can_84 ?_
        refine zg_istore (lv' := [(4, .int (jI 0)), (3, .int (jI 1)), (0, .ref (a 0)), (1, .int (jI x)), (2, .int (jI d))]) C dX5_can_85 hl (by decide) rfl (fun ls hl => ?_)
        refine zg_iload_n C dX5_can_87 rfl (lv_at hl 1 rfl) ?_
        refine zg_if_eq (tgt := 100) C (by omega) (by omega) dX5_can_88 (by decide) (fun c_42 => ?_) (fun c_42 => ?_)
        · exact absurd c_42 (by decide)
        · refine zg_iload C dX5_can_91 (lv_at hl 0 rfl) ?_
          refine zg_if_eq (tgt := 100) C (by omega) (by omega) dX5_can_93 (by decide) (fun c_43 => ?_) (fun c_43 => ?_)
          · refine zg_iconst C dX5_can_100 ?_
            refine zg_zret (b := false) C hP hS dX5_can_101 ?_
            exact ⟨congrArg (fun b => jI (bI b)) (by grind [kReady]), rfl⟩
          · exact absurd c_43 (by decide)
      · refine zg_aload_n C dX5_can_56 rfl (lv_at hl 1 rfl) ?_
        refine zg_get (j := 5) C X hP (by decide) lyM_0 rfl (zmem uwX5) (by decide) (C.tb flX5_23) (fun _ h9 => h9) rfl dX5_can_57 ?_
        refine zg_iload_n C dX5_can_60 rfl (lv_at hl 3 rfl) ?_
        refine zg_iald (t0 := 0) C X hP (by decide) lyM_4 rfl (by decide) (by omega) (by omega) dX5_can_61 ?_
        rw [rr_4 hM]
        have b_44 := rgS_5 hG.1 (d).toNat
        have b_45 := rgM_4 hR ((d).toNat)
        refine zg_iconst C dX5_can_62 ?_
        refine zg_icmp_ne (tgt := 80) C (by omega) (by omega) (by omega) (by omega) dX5_can_63 (by decide) (fun c_46 => ?_) (fun c_46 => ?_)
        · refine zg_iconst C dX5_can_80 ?_
          refine zg_goto (tgt := 85) C dX5_can_81 (by decide) ?_
          refine zg_istore (lv' := [(4, .int (jI 1)), (3, .int (jI 1)), (0, .ref (a 0)), (1, .int (jI x)), (2, .int (jI d))]) C dX5_can_85 hl (by decide) rfl (fun ls hl => ?_)
          refine zg_iload_n C dX5_can_87 rfl (lv_at hl 1 rfl) ?_
          refine zg_if_eq (tgt := 100) C (by omega) (by omega) dX5_can_88 (by decide) (fun c_47 => ?_) (fun c_47 => ?_)
          · exact absurd c_47 (by decide)
          · refine zg_iload C dX5_can_91 (lv_at hl 0 rfl) ?_
            refine zg_if_eq (tgt := 100) C (by omega) (by omega) dX5_can_93 (by decide) (fun c_48 => ?_) (fun c_48 => ?_)
            · exact absurd c_48 (by decide)
            · refine zg_iconst C dX5_can_96 ?_
              refine zg_goto (tgt := 101) C dX5_can_97 (by decide) ?_
              refine zg_zret (b := true) C hP hS dX5_can_101 ?_
              exact ⟨congrArg (fun b => jI (bI b)) (by grind [kReady]), rfl⟩
        · refine zg_aload_n C dX5_can_66 rfl (lv_at hl 1 rfl) ?_
          refine zg_iload_n C dX5_can_67 rfl (lv_at hl 2 rfl) ?_
          refine zg_aload_n C dX5_can_68 rfl (lv_at hl 1 rfl) ?_
          refine zg_get (j := 8) C X hP (by decide) lyM_0 rfl (zmem uwX5) (by decide) (C.tb flX5_32) (fun _ h9 => h9) rfl dX5_can_69 ?_
          refine zg_iload_n C dX5_can_72 rfl (lv_at hl 3 rfl) ?_
          refine zg_iald (t0 := 0) C X hP (by decide) lyM_7 rfl (by decide) (by omega) (by omega) dX5_can_73 ?_
          rw [rr_7 hM (d := (d).toNat) (by assumption)]
          have b_49 := rgS_8 hG.1 (d).toNat
          have b_50 := rgM_7 hR ((d).toNat)
          refine zg_callV C X hP hS (kX5_has l σ hR κ hM hG x (κ 8 (d).toNat) (by omega) (by omega) (by omega) (by omega)) (cwV 2 C.ts (zgV mlX5_106 imX5_has slX5_has iniX5 cdX5_has) rfl rfl rfl (by decide +kernel) ⟨Nat.le_of_ble_eq_true rfl, Nat.le_of_ble_eq_true rfl⟩) (by decide) lyM_0 rfl rfl rfl hl.1 rfl (Nat.le_of_ble_eq_true rfl) dX5_can_74 ⟨Nat.zero_le _, Nat.zero_le _⟩ (fun r_52 σ51 H locs q53 hP hS => ?_)
          obtain ⟨rfl, q53⟩ := q53
          rw [q53] at hP
          refine zg_ifeqB (tgt := 84) C dX5_can_77 (by decide) (fun c_54 => ?_) (fun c_54 => ?_)
          · refine zg_iconst C dX5_can_84 ?_
            refine zg_istore (lv' := [(4, .int (jI 0)), (3, .int (jI 1)), (0, .ref (a 0)), (1, .int (jI x)), (2, .int (jI d))]) C dX5_can_85 hl (by decide) rfl (fun ls hl => ?_)
            refine zg_iload_n C dX5_can_87 rfl (lv_at hl 1 rfl) ?_
            refine zg_if_eq (tgt := 100) C (by omega) (by omega) dX5_can_88 (by decide) (fun c_55 => ?_) (fun c_55 => ?_)
            · exact absurd c_55 (by decide)
            · refine zg_iload C dX5_can_91 (lv_at hl 0 rfl) ?_
              refine zg_if_eq (tgt := 100) C (by omega) (by omega) dX5_can_93 (by decide) (fun c_56 => ?_) (fun c_56 => ?_)
              · refine zg_iconst C dX5_can_100 ?_
                refine zg_zret (b := false) C hP hS dX5_can_101 ?_
                exact ⟨congrArg (fun b => jI (bI b)) (by grind [kReady]), rfl⟩
              · exact absurd c_56 (by decide)
          · refine zg_iconst C dX5_can_80 ?_
            refine zg_goto (tgt := 85) C dX5_can_81 (by decide) ?_
            refine zg_istore (lv' := [(4, .int (jI 1)), (3, .int (jI 1)), (0, .ref (a 0)), (1, .int (jI x)), (2, .int (jI d))]) C dX5_can_85 hl (by decide) rfl (fun ls hl => ?_)
            refine zg_iload_n C dX5_can_87 rfl (lv_at hl 1 rfl) ?_
            refine zg_if_eq (tgt := 100) C (by omega) (by omega) dX5_can_88 (by decide) (fun c_57 => ?_) (fun c_57 => ?_)
            · exact absurd c_57 (by decide)
            · refine zg_iload C dX5_can_91 (lv_at hl 0 rfl) ?_
              refine zg_if_eq (tgt := 100) C (by omega) (by omega) dX5_can_93 (by decide) (fun c_58 => ?_) (fun c_58 => ?_)
              · exact absurd c_58 (by decide)
              · refine zg_iconst C dX5_can_96 ?_
                refine zg_goto (tgt := 101) C dX5_can_97 (by decide) ?_
                refine zg_zret (b := true) C hP hS dX5_can_101 ?_
                exact ⟨congrArg (fun b => jI (bI b)) (by grind [kReady]), rfl⟩
set_option maxHeartbeats 4000000 in
set_option maxRecDepth 100000 in
theorem lpX5_placeOf_17 {l : Launch} {D : va_G} {a : Nat → Nat} {cI cZ : ClassId} {p : Program} {e : Env} {s : State} {m : MethodId} {below : List Frame} {meth : Method} {c : Code} {A : Nat → Prop} (σ : Zt) (hR : rgM σ) (κ : Zt) (hM : RR κ σ) (hG : kMid κ) (x : Int) (k : Int) (x0 : 0 ≤ x) (x1 : x < 6) (k0 : 0 ≤ k) (k1 : k < 4)  (C : zk p s m ([.ref (a 0), .int (jI x), .int (jI k)] : List Value).toArray meth c cX5_placeOf 6 (some .int) wsX5_placeOf RX5) (X : zx D vwCl (tyM cI cZ) A a 28 s) :
    ∀ (n : Nat) (al i : Int) (H : Heap) (locs : List Loc) (ls : Array Slot), ((401 - i).toNat < n) → (0 ≤ i) → (i ≤ 400) → (κ (24 + 6 * x.toNat) k.toNat = -1 → i = 0) → (κ (24 + 6 * x.toNat) k.toNat ≠ -1 → i ≤ κ 15 (κ (24 + 6 * x.toNat) k.toNat).toNat + 1) → (al = kCnt κ x.toNat i.toNat) → va_P D vwCl (zw 28 (layM cI cZ a) a σ) H → va_S A s.heap H locs → lv_has ls 6 [(0, .ref (a 0)), (1, .int (jI x)), (2, .int (jI k)), (3, .int (jI (κ (24 + 6 * x.toNat) k.toNat))), (4, .int (jI al)), (5, .int (jI i))] →
      W p l e ({ frames := 2, cells := 0, slots := 0, locals := 45 }) s m ([.ref (a 0), .int (jI x), .int (jI k)] : List Value).toArray below meth c H locs 0 0 (MQ below (va_Qi (fun r_ u_ => r_ = jI (kCur κ x.toNat k) ∧ u_ = σ) (fun (u : Zt) t => va_P D vwCl (zw 28 (layM cI cZ a) a u) t.heap) A) ([.ref (a 0), .int (jI x), .int (jI k)] : List Value).toArray s 0 0 A) (F0 m 17 ls []) := by
  intro n
  induction n with
  | zero =>
    intro al i  H locs ls hn i0 i1 hC hI hE hP hS hl
    exact absurd hn (by omega)
  | succ n ih =>
    intro al i  H locs ls hn i0 i1 hC hI hE hP hS hl
    have bT := rgS_1_10 hG.1
    have bP := rgS_11_4 hG.1
    have bPT := hG.e.1
    have bK := hG.k x.toNat (by omega) k.toNat (by omega)
    have bC := rgS_24 hG.1 (r := x.toNat) (by omega) k.toNat
    refine zg_iload_n C dX5_placeOf_17 rfl (lv_at hl 3 rfl) ?_
    refine zg_iconst C dX5_placeOf_18 ?_
    refine zg_icmp_eq (tgt := 64) C (by omega) (by omega) (by omega) (by omega) dX5_placeOf_19 (by decide) (fun c_1 => ?_) (fun c_1 => ?_)
    · refine zg_iload C dX5_placeOf_64 (lv_at hl 4 rfl) ?_
      refine zg_iret C hP hS dX5_placeOf_66 ?_
      exact ⟨congrArg jI (by unfold kCur; first | (rw [if_pos (by assumption), hE, hC (by assumption)]; rfl) | (rw [if_neg (by assumption), hE, show i = κ 15 (κ (24 + 6 * x.toNat) k.toNat).toNat + 1 by have := hI (by assumption); omega])), rfl⟩
    · refine zg_iload C dX5_placeOf_22 (lv_at hl 5 rfl) ?_
      refine zg_aload_n C dX5_placeOf_24 rfl (lv_at hl 0 rfl) ?_
      refine zg_get (j := 17) C X hP (by decide) lyM_0 rfl (zmem uwX5) (by decide) (C.tb flX5_57) (fun _ h9 => h9) rfl dX5_placeOf_25 ?_
      refine zg_iload_n C dX5_placeOf_28 rfl (lv_at hl 3 rfl) ?_
      refine zg_iald (t0 := 0) C X hP (by decide) lyM_15 rfl (by decide) (by omega) (by omega) dX5_placeOf_29 ?_
      rw [rr_15 hM]
      have b_2 := rgS_15 hG.1 ((κ (24 + 6 * x.toNat) k.toNat)).toNat
      have b_3 := rgM_15 hR (((κ (24 + 6 * x.toNat) k.toNat)).toNat)
      refine zg_icmp_gt (tgt := 64) C (by omega) (by omega) (by omega) (by omega) dX5_placeOf_30 (by decide) (fun c_4 => ?_) (fun c_4 => ?_)
      · refine zg_iload C dX5_placeOf_64 (lv_at hl 4 rfl) ?_
        refine zg_iret C hP hS dX5_placeOf_66 ?_
        exact ⟨congrArg jI (by unfold kCur; first | (rw [if_pos (by assumption), hE, hC (by assumption)]; rfl) | (rw [if_neg (by assumption), hE, show i = κ 15 (κ (24 + 6 * x.toNat) k.toNat).toNat + 1 by have := hI (by assumption); omega])), rfl⟩
      · have bR := (hG.e.2.2 (κ (24 + 6 * x.toNat) k.toNat).toNat (by omega) (by omega)).1
        have bO := (hG.e.2.1 i.toNat (by omega)).1
        refine zg_iload C dX5_placeOf_33 (lv_at hl 4 rfl) ?_
        refine zg_aload_n C dX5_placeOf_35 rfl (lv_at hl 0 rfl) ?_
        refine zg_iload_n C dX5_placeOf_36 rfl (lv_at hl 1 rfl) ?_
        refine zg_aload_n C dX5_placeOf_37 rfl (lv_at hl 0 rfl) ?_
        refine zg_get (j := 16) C X hP (by decide) lyM_0 rfl (zmem uwX5) (by decide) (C.tb flX5_54) (fun _ h9 => h9) rfl dX5_placeOf_38 ?_
        refine zg_iload C dX5_placeOf_41 (lv_at hl 5 rfl) ?_
        refine zg_iald (t0 := 0) C X hP (by decide) lyM_14 rfl (by decide) (by omega) (by omega) dX5_placeOf_43 ?_
        rw [rr_14 hM]
        have b_5 := rgS_14 hG.1 (i).toNat
        have b_6 := rgM_14 hR ((i).toNat)
        refine zg_callV C X hP hS (kX5_lives l σ hR κ hM hG x (κ 14 (i).toNat) (by omega) (by omega) (by omega) (by omega)) (cwV 2 C.ts (zgV mlX5_113 imX5_lives slX5_lives iniX5 cdX5_lives) rfl rfl rfl (by decide +kernel) ⟨Nat.le_of_ble_eq_true rfl, Nat.le_of_ble_eq_true rfl⟩) (by decide) lyM_0 rfl rfl rfl hl.1 rfl (Nat.le_of_ble_eq_true rfl) dX5_placeOf_44 ⟨Nat.zero_le _, Nat.zero_le _⟩ (fun r_8 σ7 H locs q9 hP hS => ?_)
        obtain ⟨rfl, q9⟩ := q9
        rw [q9] at hP
        refine zg_ifeqB (tgt := 54) C dX5_placeOf_47 (by decide) (fun c_10 => ?_) (fun c_10 => ?_)
        · refine zg_iconst C dX5_placeOf_54 ?_
          refine zg_iadd C dX5_placeOf_55 ?_
          refine zg_istore (lv' := [(4, .int (jI (al + 0))), (0, .ref (a 0)), (1, .int (jI x)), (2, .int (jI k)), (3, .int (jI (κ (24 + 6 * x.toNat) k.toNat))), (5, .int (jI i))]) C dX5_placeOf_56 hl (by decide) rfl (fun ls hl => ?_)
          refine zg_iinc (k := 5) (lv' := [(5, .int (jI (i + 1))), (4, .int (jI (al + 0))), (0, .ref (a 0)), (1, .int (jI x)), (2, .int (jI k)), (3, .int (jI (κ (24 + 6 * x.toNat) k.toNat)))]) C dX5_placeOf_58 hl rfl (by decide) rfl (fun ls hl => ?_)
          refine zg_goto (tgt := 17) C dX5_placeOf_61 (by decide) ?_
          exact ih (al + 0) (i + 1) _ _ _ (by omega) (by omega) (by omega) (fun q => absurd q (by assumption)) (fun _ => by omega) (by rw [kCnt_step i0, hE]; simp [c_1, c_4, c_10, bI]) hP hS (lv_sub hl [2, 3, 4, 5, 1, 0] rfl)
        · refine zg_iconst C dX5_placeOf_50 ?_
          refine zg_goto (tgt := 55) C dX5_placeOf_51 (by decide) ?_
          refine zg_iadd C dX5_placeOf_55 ?_
          refine zg_istore (lv' := [(4, .int (jI (al + 1))), (0, .ref (a 0)), (1, .int (jI x)), (2, .int (jI k)), (3, .int (jI (κ (24 + 6 * x.toNat) k.toNat))), (5, .int (jI i))]) C dX5_placeOf_56 hl (by decide) rfl (fun ls hl => ?_)
          refine zg_iinc (k := 5) (lv' := [(5, .int (jI (i + 1))), (4, .int (jI (al + 1))), (0, .ref (a 0)), (1, .int (jI x)), (2, .int (jI k)), (3, .int (jI (κ (24 + 6 * x.toNat) k.toNat)))]) C dX5_placeOf_58 hl rfl (by decide) rfl (fun ls hl => ?_)
          refine zg_goto (tgt := 17) C dX5_placeOf_61 (by decide) ?_
          exact ih (al + 1) (i + 1) _ _ _ (by omega) (by omega) (by omega) (fun q => absurd q (by assumption)) (fun _ => by omega) (by rw [kCnt_step i0, hE]; simp [c_1, c_4, c_10, bI]) hP hS (lv_sub hl [2, 3, 4, 5, 1, 0] rfl)
set_option maxHeartbeats 4000000 in
set_option maxRecDepth 100000 in
theorem kX5_placeOf (l : Launch) {D : va_G} {a : Nat → Nat} {cI cZ : ClassId} (σ : Zt) (hR : rgM σ) (κ : Zt) (hM : RR κ σ) (hG : kMid κ) (x : Int) (k : Int) (x0 : 0 ≤ x) (x1 : x < 6) (k0 : 0 ≤ k) (k1 : k < 4) : zc l D vwCl (tyM cI cZ) 28 (layM cI cZ a) a yX5_placeOf wsX5_placeOf ({ frames := 2, cells := 0, slots := 0, locals := 45 }) [.ref (a 0), .int (jI x), .int (jI k)] σ (fun r_ u_ => r_ = jI (kCur κ x.toNat k) ∧ u_ = σ) := by
  refine zc_of (cc := cX5_placeOf) (maxL := 6) (ret := some .int) (own := RX5) (by decide) rfl rfl (Nat.le_of_ble_eq_true rfl) rfl ?_
  intro p e s m below meth c A ls C X hP hS hl
  have bT := rgS_1_10 hG.1
  have bP := rgS_11_4 hG.1
  have bPT := hG.e.1
  refine zg_aload_n C dX5_placeOf_0 rfl (lv_at hl 0 rfl) ?_
  refine zg_get (j := 24) C X hP (by decide) lyM_0 rfl (zmem uwX5) (by decide) (C.tb flX5_78) (fun _ h9 => h9) rfl dX5_placeOf_1 ?_
  refine zg_iconst C dX5_placeOf_4 ?_
  refine zg_iload_n C dX5_placeOf_5 rfl (lv_at hl 1 rfl) ?_
  refine zg_imul C dX5_placeOf_6 ?_
  refine zg_iload_n C dX5_placeOf_7 rfl (lv_at hl 2 rfl) ?_
  refine zg_iadd C dX5_placeOf_8 ?_
  refine zg_iald (t0 := 0) C X hP (by decide) lyM_22 rfl (by decide) (by omega) (by omega) dX5_placeOf_9 ?_
  rw [rr_22 hM (x := x) (d := k) (by omega) (by omega) (by omega) (by omega)]
  have b_11 := rgS_24 hG.1 (r := x.toNat) (by omega) k.toNat
  have b_12 := rgM_22 hR (((4 * x) + k).toNat)
  refine zg_istore_n (lv' := [(3, .int (jI (κ (24 + 6 * x.toNat) k.toNat))), (0, .ref (a 0)), (1, .int (jI x)), (2, .int (jI k))]) C dX5_placeOf_10 rfl hl (by decide) rfl (fun ls hl => ?_)
  refine zg_iconst C dX5_placeOf_11 ?_
  refine zg_istore (lv' := [(4, .int (jI 0)), (3, .int (jI (κ (24 + 6 * x.toNat) k.toNat))), (0, .ref (a 0)), (1, .int (jI x)), (2, .int (jI k))]) C dX5_placeOf_12 hl (by decide) rfl (fun ls hl => ?_)
  refine zg_iconst C dX5_placeOf_14 ?_
  refine zg_istore (lv' := [(5, .int (jI 0)), (4, .int (jI 0)), (3, .int (jI (κ (24 + 6 * x.toNat) k.toNat))), (0, .ref (a 0)), (1, .int (jI x)), (2, .int (jI k))]) C dX5_placeOf_15 hl (by decide) rfl (fun ls hl => ?_)
  exact lpX5_placeOf_17 σ hR κ hM hG x k x0 x1 k0 k1 C X 402 0 0 _ _ _ (by omega) (by omega) (by omega) (fun _ => rfl) (fun _ => by have := rgS_15 hG.1 (κ (24 + 6 * x.toNat) k.toNat).toNat; omega) rfl hP hS (lv_sub hl [3, 4, 5, 2, 1, 0] rfl)
set_option maxHeartbeats 4000000 in
set_option maxRecDepth 100000 in
theorem lpX5_kindsOf_18 {l : Launch} {D : va_G} {a : Nat → Nat} {cI cZ : ClassId} {p : Program} {e : Env} {s : State} {m : MethodId} {below : List Frame} {meth : Method} {c : Code} {A : Nat → Prop} (σ : Zt) (hR : rgM σ) (κ : Zt) (hM : RR κ σ) (hG : kMid κ) (x : Int) (z : Int) (x0 : 0 ≤ x) (x1 : x < 6) (z0 : 0 ≤ z) (z1 : z < 400)  (C : zk p s m ([.ref (a 0), .int (jI x), .int (jI z)] : List Value).toArray meth c cX5_kindsOf 8 (some .int) wsX5_kindsOf RX5) (X : zx D vwCl (tyM cI cZ) A a 28 s) :
    ∀ (n : Nat) (bt k b d : Int) (H : Heap) (locs : List Loc) (ls : Array Slot), ((402 * (8 - k) + (401 - d)).toNat < n) → (0 ≤ k) → (k < 8) → (0 ≤ d) → (d ≤ κ 1 10) → (b = mBest κ x.toNat z k d.toNat) → (bt = kBits κ (fun j => mBest κ x.toNat z j (κ 1 10).toNat) k.toNat) → va_P D vwCl (zw 28 (layM cI cZ a) a σ) H → va_S A s.heap H locs → lv_has ls 8 [(0, .ref (a 0)), (1, .int (jI x)), (2, .int (jI z)), (3, .int (jI bt)), (4, .int (jI k)), (5, .int (jI b)), (6, .int (jI d))] →
      W p l e ({ frames := 1, cells := 0, slots := 0, locals := 22 }) s m ([.ref (a 0), .int (jI x), .int (jI z)] : List Value).toArray below meth c H locs 0 0 (MQ below (va_Qi (fun r_ u_ => r_ = jI (kKinds κ x.toNat z) ∧ u_ = σ) (fun (u : Zt) t => va_P D vwCl (zw 28 (layM cI cZ a) a u) t.heap) A) ([.ref (a 0), .int (jI x), .int (jI z)] : List Value).toArray s 0 0 A) (F0 m 18 ls []) := by
  intro n
  induction n with
  | zero =>
    intro bt k b d  H locs ls hn k0 k1 d0 d1 hb hE hP hS hl
    exact absurd hn (by omega)
  | succ n ih =>
    intro bt k b d  H locs ls hn k0 k1 d0 d1 hb hE hP hS hl
    have bT := rgS_1_10 hG.1
    have bP := rgS_11_4 hG.1
    have bPT := hG.e.1
    have bb := mBest_rg κ x.toNat z k d.toNat
    have bz := kBits_rg (σ := κ) (f := fun j => mBest κ x.toNat z j (κ 1 10).toNat) k.toNat
    have pw := pw_8 (i := k) (by omega) (by omega)
    refine zg_iload C dX5_kindsOf_18 (lv_at hl 6 rfl) ?_
    refine zg_aload_n C dX5_kindsOf_20 rfl (lv_at hl 0 rfl) ?_
    refine zg_get (j := 1) C X hP (by decide) lyM_0 rfl (zmem uwX5) (by decide) (C.tb flX5_135) (fun _ h9 => h9) rfl dX5_kindsOf_21 ?_
    rw [rr_0_1 hM]
    have b_1 := rgS_1_10 hG.1
    have b_2 := rgM_0_1 hR
    refine zg_icmp_ge (tgt := 143) C (by omega) (by omega) (by omega) (by omega) dX5_kindsOf_24 (by decide) (fun c_3 => ?_) (fun c_3 => ?_)
    · refine zg_iload_n C dX5_kindsOf_143 rfl (lv_at hl 3 rfl) ?_
      refine zg_iload C dX5_kindsOf_144 (lv_at hl 5 rfl) ?_
      refine zg_iconst C dX5_kindsOf_146 ?_
      refine zg_icmp_eq (tgt := 169) C (by omega) (by omega) (by omega) (by omega) dX5_kindsOf_147 (by decide) (fun c_4 => ?_) (fun c_4 => ?_)
      · refine zg_iconst C dX5_kindsOf_169 ?_
        refine zg_or0 C (by omega) (by omega) dX5_kindsOf_170 ?_
        refine zg_istore_n (lv' := [(3, .int (jI bt)), (0, .ref (a 0)), (1, .int (jI x)), (2, .int (jI z)), (4, .int (jI k)), (5, .int (jI b)), (6, .int (jI d))]) C dX5_kindsOf_171 rfl hl (by decide) rfl (fun ls hl => ?_)
        refine zg_iinc (k := 4) (lv' := [(4, .int (jI (k + 1))), (3, .int (jI bt)), (0, .ref (a 0)), (1, .int (jI x)), (2, .int (jI z)), (5, .int (jI b)), (6, .int (jI d))]) C dX5_kindsOf_172 hl rfl (by decide) rfl (fun ls hl => ?_)
        refine zg_goto (tgt := 5) C dX5_kindsOf_175 (by decide) ?_
        refine zg_iload C dX5_kindsOf_5 (lv_at hl 0 rfl) ?_
        refine zg_bipush C dX5_kindsOf_7 (by decide) ?_
        refine zg_icmp_ge (tgt := 178) C (by omega) (by omega) (by omega) (by omega) dX5_kindsOf_9 (by decide) (fun c_5 => ?_) (fun c_5 => ?_)
        · refine zg_iload_n C dX5_kindsOf_178 rfl (lv_at hl 1 rfl) ?_
          refine zg_iret C hP hS dX5_kindsOf_179 ?_
          have h9 : kKinds κ x.toNat z = kBits κ (fun j => mBest κ x.toNat z j (κ 1 10).toNat) (k + 1).toNat := by rw [kKinds_best hG (by omega), show (k + 1).toNat = 8 by omega]
          exact ⟨congrArg jI (by rw [h9, kBits_step k0, ← hE, show (κ 1 10).toNat = d.toNat by omega, show ((k.toNat : Nat) : Int) = k by omega, ← hb]; first | (rw [if_pos ⟨by assumption, by omega⟩]; omega) | rw [if_neg (by omega)]), rfl⟩
        · refine zg_iconst C dX5_kindsOf_12 ?_
          refine zg_istore (lv' := [(5, .int (jI (-1))), (4, .int (jI (k + 1))), (3, .int (jI bt)), (0, .ref (a 0)), (1, .int (jI x)), (2, .int (jI z)), (6, .int (jI d))]) C dX5_kindsOf_13 hl (by decide) rfl (fun ls hl => ?_)
          refine zg_iconst C dX5_kindsOf_15 ?_
          refine zg_istore (lv' := [(6, .int (jI 0)), (5, .int (jI (-1))), (4, .int (jI (k + 1))), (3, .int (jI bt)), (0, .ref (a 0)), (1, .int (jI x)), (2, .int (jI z))]) C dX5_kindsOf_16 hl (by decide) rfl (fun ls hl => ?_)
          exact ih bt (k + 1) (-1) 0 _ _ _ (by omega) (by omega) (by omega) (by omega) (by omega) (by first | rfl | (rw [mBest_step d0, ← hb]; first | rw [if_pos (by grind [mLater, kLater, kMarked])] | rw [if_neg (by grind [mLater, kLater, kMarked])])) (by first | exact hE | (rw [kBits_step k0, ← hE, show (κ 1 10).toNat = d.toNat by omega, show ((k.toNat : Nat) : Int) = k by omega, ← hb]; first | (rw [if_pos ⟨by assumption, by omega⟩]; omega) | rw [if_neg (by omega)])) hP hS (lv_sub hl [4, 5, 6, 3, 2, 1, 0] rfl)
      · refine zg_aload_n C dX5_kindsOf_150 rfl (lv_at hl 0 rfl) ?_
        refine zg_get (j := 6) C X hP (by decide) lyM_0 rfl (zmem uwX5) (by decide) (C.tb flX5_26) (fun _ h9 => h9) rfl dX5_kindsOf_151 ?_
        refine zg_iload C dX5_kindsOf_154 (lv_at hl 5 rfl) ?_
        refine zg_iald (t0 := 0) C X hP (by decide) lyM_5 rfl (by decide) (by omega) (by omega) dX5_kindsOf_156 ?_
        rw [rr_5 hM]
        have b_6 := rgS_6 hG.1 (b).toNat
        have b_7 := rgM_5 hR ((b).toNat)
        refine zg_bipush C dX5_kindsOf_157 (by decide) ?_
        refine zg_icmp_le (tgt := 169) C (by omega) (by omega) (by omega) (by omega) dX5_kindsOf_159 (by decide) (fun c_8 => ?_) (fun c_8 => ?_)
        · refine zg_iconst C dX5_kindsOf_169 ?_
          refine zg_or0 C (by omega) (by omega) dX5_kindsOf_170 ?_
          refine zg_istore_n (lv' := [(3, .int (jI bt)), (0, .ref (a 0)), (1, .int (jI x)), (2, .int (jI z)), (4, .int (jI k)), (5, .int (jI b)), (6, .int (jI d))]) C dX5_kindsOf_171 rfl hl (by decide) rfl (fun ls hl => ?_)
          refine zg_iinc (k := 4) (lv' := [(4, .int (jI (k + 1))), (3, .int (jI bt)), (0, .ref (a 0)), (1, .int (jI x)), (2, .int (jI z)), (5, .int (jI b)), (6, .int (jI d))]) C dX5_kindsOf_172 hl rfl (by decide) rfl (fun ls hl => ?_)
          refine zg_goto (tgt := 5) C dX5_kindsOf_175 (by decide) ?_
          refine zg_iload C dX5_kindsOf_5 (lv_at hl 0 rfl) ?_
          refine zg_bipush C dX5_kindsOf_7 (by decide) ?_
          refine zg_icmp_ge (tgt := 178) C (by omega) (by omega) (by omega) (by omega) dX5_kindsOf_9 (by decide) (fun c_9 => ?_) (fun c_9 => ?_)
          · refine zg_iload_n C dX5_kindsOf_178 rfl (lv_at hl 1 rfl) ?_
            refine zg_iret C hP hS dX5_kindsOf_179 ?_
            have h9 : kKinds κ x.toNat z = kBits κ (fun j => mBest κ x.toNat z j (κ 1 10).toNat) (k + 1).toNat := by rw [kKinds_best hG (by omega), show (k + 1).toNat = 8 by omega]
            exact ⟨congrArg jI (by rw [h9, kBits_step k0, ← hE, show (κ 1 10).toNat = d.toNat by omega, show ((k.toNat : Nat) : Int) = k by omega, ← hb]; first | (rw [if_pos ⟨by assumption, by omega⟩]; omega) | rw [if_neg (by omega)]), rfl⟩
          · refine zg_iconst C dX5_kindsOf_12 ?_
            refine zg_istore (lv' := [(5, .int (jI (-1))), (4, .int (jI (k + 1))), (3, .int (jI bt)), (0, .ref (a 0)), (1, .int (jI x)), (2, .int (jI z)), (6, .int (jI d))]) C dX5_kindsOf_13 hl (by decide) rfl (fun ls hl => ?_)
            refine zg_iconst C dX5_kindsOf_15 ?_
            refine zg_istore (lv' := [(6, .int (jI 0)), (5, .int (jI (-1))), (4, .int (jI (k + 1))), (3, .int (jI bt)), (0, .ref (a 0)), (1, .int (jI x)), (2, .int (jI z))]) C dX5_kindsOf_16 hl (by decide) rfl (fun ls hl => ?_)
            exact ih bt (k + 1) (-1) 0 _ _ _ (by omega) (by omega) (by omega) (by omega) (by omega) (by first | rfl | (rw [mBest_step d0, ← hb]; first | rw [if_pos (by grind [mLater, kLater, kMarked])] | rw [if_neg (by grind [mLater, kLater, kMarked])])) (by first | exact hE | (rw [kBits_step k0, ← hE, show (κ 1 10).toNat = d.toNat by omega, show ((k.toNat : Nat) : Int) = k by omega, ← hb]; first | (rw [if_pos ⟨by assumption, by omega⟩]; omega) | rw [if_neg (by omega)])) hP hS (lv_sub hl [4, 5, 6, 3, 2, 1, 0] rfl)
        · refine zg_iconst C dX5_kindsOf_162 ?_
          refine zg_iload C dX5_kindsOf_163 (lv_at hl 4 rfl) ?_
          refine zg_shl C k.toNat (sh_amt (by omega) (by omega)) (by omega) (by omega) dX5_kindsOf_165 ?_
          refine zg_goto (tgt := 170) C dX5_kindsOf_166 (by decide) ?_
          refine zg_orr C k.toNat 1 (by omega) rfl (by omega) (by omega) (by omega) dX5_kindsOf_170 ?_
          refine zg_istore_n (lv' := [(3, .int (jI (bt + (1 * 2 ^ k.toNat)))), (0, .ref (a 0)), (1, .int (jI x)), (2, .int (jI z)), (4, .int (jI k)), (5, .int (jI b)), (6, .int (jI d))]) C dX5_kindsOf_171 rfl hl (by decide) rfl (fun ls hl => ?_)
          refine zg_iinc (k := 4) (lv' := [(4, .int (jI (k + 1))), (3, .int (jI (bt + (1 * 2 ^ k.toNat)))), (0, .ref (a 0)), (1, .int (jI x)), (2, .int (jI z)), (5, .int (jI b)), (6, .int (jI d))]) C dX5_kindsOf_172 hl rfl (by decide) rfl (fun ls hl => ?_)
          refine zg_goto (tgt := 5) C dX5_kindsOf_175 (by decide) ?_
          refine zg_iload C dX5_kindsOf_5 (lv_at hl 0 rfl) ?_
          refine zg_bipush C dX5_kindsOf_7 (by decide) ?_
          refine zg_icmp_ge (tgt := 178) C (by omega) (by omega) (by omega) (by omega) dX5_kindsOf_9 (by decide) (fun c_10 => ?_) (fun c_10 => ?_)
          · refine zg_iload_n C dX5_kindsOf_178 rfl (lv_at hl 1 rfl) ?_
            refine zg_iret C hP hS dX5_kindsOf_179 ?_
            have h9 : kKinds κ x.toNat z = kBits κ (fun j => mBest κ x.toNat z j (κ 1 10).toNat) (k + 1).toNat := by rw [kKinds_best hG (by omega), show (k + 1).toNat = 8 by omega]
            exact ⟨congrArg jI (by rw [h9, kBits_step k0, ← hE, show (κ 1 10).toNat = d.toNat by omega, show ((k.toNat : Nat) : Int) = k by omega, ← hb]; first | (rw [if_pos ⟨by assumption, by omega⟩]; omega) | rw [if_neg (by omega)]), rfl⟩
          · refine zg_iconst C dX5_kindsOf_12 ?_
            refine zg_istore (lv' := [(5, .int (jI (-1))), (4, .int (jI (k + 1))), (3, .int (jI (bt + (1 * 2 ^ k.toNat)))), (0, .ref (a 0)), (1, .int (jI x)), (2, .int (jI z)), (6, .int (jI d))]) C dX5_kindsOf_13 hl (by decide) rfl (fun ls hl => ?_)
            refine zg_iconst C dX5_kindsOf_15 ?_
            refine zg_istore (lv' := [(6, .int (jI 0)), (5, .int (jI (-1))), (4, .int (jI (k + 1))), (3, .int (jI (bt + (1 * 2 ^ k.toNat)))), (0, .ref (a 0)), (1, .int (jI x)), (2, .int (jI z))]) C dX5_kindsOf_16 hl (by decide) rfl (fun ls hl => ?_)
            exact ih (bt + (1 * 2 ^ k.toNat)) (k + 1) (-1) 0 _ _ _ (by omega) (by omega) (by omega) (by omega) (by omega) (by first | rfl | (rw [mBest_step d0, ← hb]; first | rw [if_pos (by grind [mLater, kLater, kMarked])] | rw [if_neg (by grind [mLater, kLater, kMarked])])) (by first | exact hE | (rw [kBits_step k0, ← hE, show (κ 1 10).toNat = d.toNat by omega, show ((k.toNat : Nat) : Int) = k by omega, ← hb]; first | (rw [if_pos ⟨by assumption, by omega⟩]; omega) | rw [if_neg (by omega)])) hP hS (lv_sub hl [4, 5, 6, 3, 2, 1, 0] rfl)
    · have bD := hG.d d.toNat (by omega)
      refine zg_aload_n C dX5_kindsOf_27 rfl (lv_at hl 0 rfl) ?_
      refine zg_get (j := 5) C X hP (by decide) lyM_0 rfl (zmem uwX5) (by decide) (C.tb flX5_23) (fun _ h9 => h9) rfl dX5_kindsOf_28 ?_
      refine zg_iload C dX5_kindsOf_31 (lv_at hl 6 rfl) ?_
      refine zg_iald (t0 := 0) C X hP (by decide) lyM_4 rfl (by decide) (by omega) (by omega) dX5_kindsOf_33 ?_
      rw [rr_4 hM]
      have b_11 := rgS_5 hG.1 (d).toNat
      have b_12 := rgM_4 hR ((d).toNat)
      refine zg_iconst C dX5_kindsOf_34 ?_
      refine zg_icmp_ne (tgt := 109) C (by omega) (by omega) (by omega) (by omega) dX5_kindsOf_35 (by decide) (fun c_13 => ?_) (fun c_13 => ?_)
      · refine zg_iconst C dX5_kindsOf_109 ?_
        refine zg_istore (lv' := [(7, .int (jI 0)), (0, .ref (a 0)), (1, .int (jI x)), (2, .int (jI z)), (3, .int (jI bt)), (4, .int (jI k)), (5, .int (jI b)), (6, .int (jI d))]) C dX5_kindsOf_110 hl (by decide) rfl (fun ls hl => ?_)
        refine zg_iload C dX5_kindsOf_112 (lv_at hl 0 rfl) ?_
        refine zg_if_eq (tgt := 133) C (by omega) (by omega) dX5_kindsOf_114 (by decide) (fun c_14 => ?_) (fun c_14 => ?_)
        · refine zg_iload C dX5_kindsOf_133 (lv_at hl 6 rfl) ?_
          refine zg_istore (lv' := [(5, .int (jI b)), (7, .int (jI 0)), (0, .ref (a 0)), (1, .int (jI x)), (2, .int (jI z)), (3, .int (jI bt)), (4, .int (jI k)), (6, .int (jI d))]) C dX5_kindsOf_135 hl (by decide) rfl (fun ls hl => ?_)
          refine zg_iinc (k := 7) (lv' := [(6, .int (jI (d + 1))), (5, .int (jI b)), (7, .int (jI 0)), (0, .ref (a 0)), (1, .int (jI x)), (2, .int (jI z)), (3, .int (jI bt)), (4, .int (jI k))]) C dX5_kindsOf_137 hl rfl (by decide) rfl (fun ls hl => ?_)
          refine zg_goto (tgt := 18) C dX5_kindsOf_140 (by decide) ?_
          exact ih bt k b (d + 1) _ _ _ (by omega) (by omega) (by omega) (by omega) (by omega) (by first | rfl | (rw [mBest_step d0, ← hb]; first | rw [if_pos (by grind [mLater, kLater, kMarked])] | rw [if_neg (by grind [mLater, kLater, kMarked])])) (by first | exact hE | (rw [kBits_step k0, ← hE, show (κ 1 10).toNat = d.toNat by omega, show ((k.toNat : Nat) : Int) = k by omega, ← hb]; first | (rw [if_pos ⟨by assumption, by omega⟩]; omega) | rw [if_neg (by omega)])) hP hS (lv_sub hl [3, 4, 5, 6, 7, 1, 0] rfl)
        · exact absurd c_14 (by decide)
      · refine zg_aload_n C dX5_kindsOf_38 rfl (lv_at hl 0 rfl) ?_
        refine zg_iload_n C dX5_kindsOf_39 rfl (lv_at hl 1 rfl) ?_
        refine zg_iload C dX5_kindsOf_40 (lv_at hl 6 rfl) ?_
        refine zg_callV C X hP hS (kX5_has l σ hR κ hM hG x d (by omega) (by omega) (by omega) (by omega)) (cwV 2 C.ts (zgV mlX5_106 imX5_has slX5_has iniX5 cdX5_has) rfl rfl rfl (by decide +kernel) ⟨Nat.le_of_ble_eq_true rfl, Nat.le_of_ble_eq_true rfl⟩) (by decide) lyM_0 rfl rfl rfl hl.1 rfl (Nat.le_of_ble_eq_true rfl) dX5_kindsOf_42 ⟨Nat.zero_le _, Nat.zero_le _⟩ (fun r_16 σ15 H locs q17 hP hS => ?_)
        obtain ⟨rfl, q17⟩ := q17
        rw [q17] at hP
        refine zg_ifeqB (tgt := 109) C dX5_kindsOf_45 (by decide) (fun c_18 => ?_) (fun c_18 => ?_)
        · refine zg_iconst C dX5_kindsOf_109 ?_
          refine zg_istore (lv' := [(7, .int (jI 0)), (0, .ref (a 0)), (1, .int (jI x)), (2, .int (jI z)), (3, .int (jI bt)), (4, .int (jI k)), (5, .int (jI b)), (6, .int (jI d))]) C dX5_kindsOf_110 hl (by decide) rfl (fun ls hl => ?_)
          refine zg_iload C dX5_kindsOf_112 (lv_at hl 0 rfl) ?_
          refine zg_if_eq (tgt := 133) C (by omega) (by omega) dX5_kindsOf_114 (by decide) (fun c_19 => ?_) (fun c_19 => ?_)
          · refine zg_iload C dX5_kindsOf_133 (lv_at hl 6 rfl) ?_
            refine zg_istore (lv' := [(5, .int (jI b)), (7, .int (jI 0)), (0, .ref (a 0)), (1, .int (jI x)), (2, .int (jI z)), (3, .int (jI bt)), (4, .int (jI k)), (6, .int (jI d))]) C dX5_kindsOf_135 hl (by decide) rfl (fun ls hl => ?_)
            refine zg_iinc (k := 7) (lv' := [(6, .int (jI (d + 1))), (5, .int (jI b)), (7, .int (jI 0)), (0, .ref (a 0)), (1, .int (jI x)), (2, .int (jI z)), (3, .int (jI bt)), (4, .int (jI k))]) C dX5_kindsOf_137 hl rfl (by decide) rfl (fun ls hl => ?_)
            refine zg_goto (tgt := 18) C dX5_kindsOf_140 (by decide) ?_
            exact ih bt k b (d + 1) _ _ _ (by omega) (by omega) (by omega) (by omega) (by omega) (by first | rfl | (rw [mBest_step d0, ← hb]; first | rw [if_pos (by grind [mLater, kLater, kMarked])] | rw [if_neg (by grind [mLater, kLater, kMarked])])) (by first | exact hE | (rw [kBits_step k0, ← hE, show (κ 1 10).toNat = d.toNat by omega, show ((k.toNat : Nat) : Int) = k by omega, ← hb]; first | (rw [if_pos ⟨by assumption, by omega⟩]; omega) | rw [if_neg (by omega)])) hP hS (lv_sub hl [3, 4, 5, 6, 7, 1, 0] rfl)
          · exact absurd c_19 (by decide)
        · refine zg_aload_n C dX5_kindsOf_48 rfl (lv_at hl 0 rfl) ?_
          refine zg_get (j := 6) C X hP (by decide) lyM_0 rfl (zmem uwX5) (by decide) (C.tb flX5_26) (fun _ h9 => h9) rfl dX5_kindsOf_49 ?_
          refine zg_iload C dX5_kindsOf_52 (lv_at hl 6 rfl) ?_
          refine zg_iald (t0 := 0) C X hP (by decide) lyM_5 rfl (by decide) (by omega) (by omega) dX5_kindsOf_54 ?_
          rw [rr_5 hM]
          have b_20 := rgS_6 hG.1 (d).toNat
          have b_21 := rgM_5 hR ((d).toNat)
          refine zg_bipush C dX5_kindsOf_55 (by decide) ?_
          refine zg_iand C 3 (by decide) (by omega) (by omega) dX5_kindsOf_57 ?_
          refine zg_iload C dX5_kindsOf_58 (lv_at hl 4 rfl) ?_
          refine zg_icmp_ne (tgt := 109) C (by omega) (by omega) (by omega) (by omega) dX5_kindsOf_60 (by decide) (fun c_22 => ?_) (fun c_22 => ?_)
          · refine zg_iconst C dX5_kindsOf_109 ?_
            refine zg_istore (lv' := [(7, .int (jI 0)), (0, .ref (a 0)), (1, .int (jI x)), (2, .int (jI z)), (3, .int (jI bt)), (4, .int (jI k)), (5, .int (jI b)), (6, .int (jI d))]) C dX5_kindsOf_110 hl (by decide) rfl (fun ls hl => ?_)
            refine zg_iload C dX5_kindsOf_112 (lv_at hl 0 rfl) ?_
            refine zg_if_eq (tgt := 133) C (by omega) (by omega) dX5_kindsOf_114 (by decide) (fun c_23 => ?_) (fun c_23 => ?_)
            · refine zg_iload C dX5_kindsOf_133 (lv_at hl 6 rfl) ?_
              refine zg_istore (lv' := [(5, .int (jI b)), (7, .int (jI 0)), (0, .ref (a 0)), (1, .int (jI x)), (2, .int (jI z)), (3, .int (jI bt)), (4, .int (jI k)), (6, .int (jI d))]) C dX5_kindsOf_135 hl (by decide) rfl (fun ls hl => ?_)
              refine zg_iinc (k := 7) (lv' := [(6, .int (jI (d + 1))), (5, .int (jI b)), (7, .int (jI 0)), (0, .ref (a 0)), (1, .int (jI x)), (2, .int (jI z)), (3, .int (jI bt)), (4, .int (jI k))]) C dX5_kindsOf_137 hl rfl (by decide) rfl (fun ls hl => ?_)
              refine zg_goto (tgt := 18) C dX5_kindsOf_140 (by decide) ?_
              exact ih bt k b (d + 1) _ _ _ (by omega) (by omega) (by omega) (by omega) (by omega) (by first | rfl | (rw [mBest_step d0, ← hb]; first | rw [if_pos (by grind [mLater, kLater, kMarked])] | rw [if_neg (by grind [mLater, kLater, kMarked])])) (by first | exact hE | (rw [kBits_step k0, ← hE, show (κ 1 10).toNat = d.toNat by omega, show ((k.toNat : Nat) : Int) = k by omega, ← hb]; first | (rw [if_pos ⟨by assumption, by omega⟩]; omega) | rw [if_neg (by omega)])) hP hS (lv_sub hl [3, 4, 5, 6, 7, 1, 0] rfl)
            · exact absurd c_23 (by decide)
          · refine zg_aload_n C dX5_kindsOf_63 rfl (lv_at hl 0 rfl) ?_
            refine zg_get (j := 17) C X hP (by decide) lyM_0 rfl (zmem uwX5) (by decide) (C.tb flX5_57) (fun _ h9 => h9) rfl dX5_kindsOf_64 ?_
            refine zg_aload_n C dX5_kindsOf_67 rfl (lv_at hl 0 rfl) ?_
            refine zg_get (j := 7) C X hP (by decide) lyM_0 rfl (zmem uwX5) (by decide) (C.tb flX5_29) (fun _ h9 => h9) rfl dX5_kindsOf_68 ?_
            refine zg_iload C dX5_kindsOf_71 (lv_at hl 6 rfl) ?_
            refine zg_iald (t0 := 0) C X hP (by decide) lyM_6 rfl (by decide) (by omega) (by omega) dX5_kindsOf_73 ?_
            rw [rr_6 hM]
            have b_24 := rgS_7 hG.1 (d).toNat
            have b_25 := rgM_6 hR ((d).toNat)
            refine zg_iald (t0 := 0) C X hP (by decide) lyM_15 rfl (by decide) (by omega) (by omega) dX5_kindsOf_74 ?_
            rw [rr_15 hM]
            have b_26 := rgS_15 hG.1 (κ 7 (d).toNat).toNat
            have b_27 := rgM_15 hR ((κ 7 (d).toNat).toNat)
            refine zg_aload_n C dX5_kindsOf_75 rfl (lv_at hl 0 rfl) ?_
            refine zg_get (j := 17) C X hP (by decide) lyM_0 rfl (zmem uwX5) (by decide) (C.tb flX5_57) (fun _ h9 => h9) rfl dX5_kindsOf_76 ?_
            refine zg_iload_n C dX5_kindsOf_79 rfl (lv_at hl 2 rfl) ?_
            refine zg_iald (t0 := 0) C X hP (by decide) lyM_15 rfl (by decide) (by omega) (by omega) dX5_kindsOf_80 ?_
            rw [rr_15 hM]
            have b_28 := rgS_15 hG.1 (z).toNat
            have b_29 := rgM_15 hR ((z).toNat)
            refine zg_icmp_gt (tgt := 109) C (by omega) (by omega) (by omega) (by omega) dX5_kindsOf_81 (by decide) (fun c_30 => ?_) (fun c_30 => ?_)
            · refine zg_iconst C dX5_kindsOf_109 ?_
              refine zg_istore (lv' := [(7, .int (jI 0)), (0, .ref (a 0)), (1, .int (jI x)), (2, .int (jI z)), (3, .int (jI bt)), (4, .int (jI k)), (5, .int (jI b)), (6, .int (jI d))]) C dX5_kindsOf_110 hl (by decide) rfl (fun ls hl => ?_)
              refine zg_iload C dX5_kindsOf_112 (lv_at hl 0 rfl) ?_
              refine zg_if_eq (tgt := 133) C (by omega) (by omega) dX5_kindsOf_114 (by decide) (fun c_31 => ?_) (fun c_31 => ?_)
              · refine zg_iload C dX5_kindsOf_133 (lv_at hl 6 rfl) ?_
                refine zg_istore (lv' := [(5, .int (jI b)), (7, .int (jI 0)), (0, .ref (a 0)), (1, .int (jI x)), (2, .int (jI z)), (3, .int (jI bt)), (4, .int (jI k)), (6, .int (jI d))]) C dX5_kindsOf_135 hl (by decide) rfl (fun ls hl => ?_)
                refine zg_iinc (k := 7) (lv' := [(6, .int (jI (d + 1))), (5, .int (jI b)), (7, .int (jI 0)), (0, .ref (a 0)), (1, .int (jI x)), (2, .int (jI z)), (3, .int (jI bt)), (4, .int (jI k))]) C dX5_kindsOf_137 hl rfl (by decide) rfl (fun ls hl => ?_)
                refine zg_goto (tgt := 18) C dX5_kindsOf_140 (by decide) ?_
                exact ih bt k b (d + 1) _ _ _ (by omega) (by omega) (by omega) (by omega) (by omega) (by first | rfl | (rw [mBest_step d0, ← hb]; first | rw [if_pos (by grind [mLater, kLater, kMarked])] | rw [if_neg (by grind [mLater, kLater, kMarked])])) (by first | exact hE | (rw [kBits_step k0, ← hE, show (κ 1 10).toNat = d.toNat by omega, show ((k.toNat : Nat) : Int) = k by omega, ← hb]; first | (rw [if_pos ⟨by assumption, by omega⟩]; omega) | rw [if_neg (by omega)])) hP hS (lv_sub hl [3, 4, 5, 6, 7, 1, 0] rfl)
              · exact absurd c_31 (by decide)
            · refine zg_aload_n C dX5_kindsOf_84 rfl (lv_at hl 0 rfl) ?_
              refine zg_get (j := 17) C X hP (by decide) lyM_0 rfl (zmem uwX5) (by decide) (C.tb flX5_57) (fun _ h9 => h9) rfl dX5_kindsOf_85 ?_
              refine zg_iload_n C dX5_kindsOf_88 rfl (lv_at hl 2 rfl) ?_
              refine zg_iald (t0 := 0) C X hP (by decide) lyM_15 rfl (by decide) (by omega) (by omega) dX5_kindsOf_89 ?_
              rw [rr_15 hM]
              have b_32 := rgS_15 hG.1 (z).toNat
              have b_33 := rgM_15 hR ((z).toNat)
              refine zg_aload_n C dX5_kindsOf_90 rfl (lv_at hl 0 rfl) ?_
              refine zg_get (j := 17) C X hP (by decide) lyM_0 rfl (zmem uwX5) (by decide) (C.tb flX5_57) (fun _ h9 => h9) rfl dX5_kindsOf_91 ?_
              refine zg_aload_n C dX5_kindsOf_94 rfl (lv_at hl 0 rfl) ?_
              refine zg_get (j := 8) C X hP (by decide) lyM_0 rfl (zmem uwX5) (by decide) (C.tb flX5_32) (fun _ h9 => h9) rfl dX5_kindsOf_95 ?_
              refine zg_iload C dX5_kindsOf_98 (lv_at hl 6 rfl) ?_
              refine zg_iald (t0 := 0) C X hP (by decide) lyM_7 rfl (by decide) (by omega) (by omega) dX5_kindsOf_100 ?_
              rw [rr_7 hM (d := (d).toNat) (by assumption)]
              have b_34 := rgS_8 hG.1 (d).toNat
              have b_35 := rgM_7 hR ((d).toNat)
              refine zg_iald (t0 := 0) C X hP (by decide) lyM_15 rfl (by decide) (by omega) (by omega) dX5_kindsOf_101 ?_
              rw [rr_15 hM]
              have b_36 := rgS_15 hG.1 (κ 8 (d).toNat).toNat
              have b_37 := rgM_15 hR ((κ 8 (d).toNat).toNat)
              refine zg_icmp_gt (tgt := 109) C (by omega) (by omega) (by omega) (by omega) dX5_kindsOf_102 (by decide) (fun c_38 => ?_) (fun c_38 => ?_)
              · refine zg_iconst C dX5_kindsOf_109 ?_
                refine zg_istore (lv' := [(7, .int (jI 0)), (0, .ref (a 0)), (1, .int (jI x)), (2, .int (jI z)), (3, .int (jI bt)), (4, .int (jI k)), (5, .int (jI b)), (6, .int (jI d))]) C dX5_kindsOf_110 hl (by decide) rfl (fun ls hl => ?_)
                refine zg_iload C dX5_kindsOf_112 (lv_at hl 0 rfl) ?_
                refine zg_if_eq (tgt := 133) C (by omega) (by omega) dX5_kindsOf_114 (by decide) (fun c_39 => ?_) (fun c_39 => ?_)
                · refine zg_iload C dX5_kindsOf_133 (lv_at hl 6 rfl) ?_
                  refine zg_istore (lv' := [(5, .int (jI b)), (7, .int (jI 0)), (0, .ref (a 0)), (1, .int (jI x)), (2, .int (jI z)), (3, .int (jI bt)), (4, .int (jI k)), (6, .int (jI d))]) C dX5_kindsOf_135 hl (by decide) rfl (fun ls hl => ?_)
                  refine zg_iinc (k := 7) (lv' := [(6, .int (jI (d + 1))), (5, .int (jI b)), (7, .int (jI 0)), (0, .ref (a 0)), (1, .int (jI x)), (2, .int (jI z)), (3, .int (jI bt)), (4, .int (jI k))]) C dX5_kindsOf_137 hl rfl (by decide) rfl (fun ls hl => ?_)
                  refine zg_goto (tgt := 18) C dX5_kindsOf_140 (by decide) ?_
                  exact ih bt k b (d + 1) _ _ _ (by omega) (by omega) (by omega) (by omega) (by omega) (by first | rfl | (rw [mBest_step d0, ← hb]; first | rw [if_pos (by grind [mLater, kLater, kMarked])] | rw [if_neg (by grind [mLater, kLater, kMarked])])) (by first | exact hE | (rw [kBits_step k0, ← hE, show (κ 1 10).toNat = d.toNat by omega, show ((k.toNat : Nat) : Int) = k by omega, ← hb]; first | (rw [if_pos ⟨by assumption, by omega⟩]; omega) | rw [if_neg (by omega)])) hP hS (lv_sub hl [3, 4, 5, 6, 7, 1, 0] rfl)
                · exact absurd c_39 (by decide)
              · refine zg_iconst C dX5_kindsOf_105 ?_
                refine zg_goto (tgt := 110) C dX5_kindsOf_106 (by decide) ?_
                refine zg_istore (lv' := [(7, .int (jI 1)), (0, .ref (a 0)), (1, .int (jI x)), (2, .int (jI z)), (3, .int (jI bt)), (4, .int (jI k)), (5, .int (jI b)), (6, .int (jI d))]) C dX5_kindsOf_110 hl (by decide) rfl (fun ls hl => ?_)
                refine zg_iload C dX5_kindsOf_112 (lv_at hl 0 rfl) ?_
                refine zg_if_eq (tgt := 133) C (by omega) (by omega) dX5_kindsOf_114 (by decide) (fun c_40 => ?_) (fun c_40 => ?_)
                · exact absurd c_40 (by decide)
                · have hL : mLater σ d b = (decide (b = -1) || kLater κ d b) := by unfold mLater kLater; rw [rr_1 hM, rr_3 hM]
                  refine zg_aload_n C dX5_kindsOf_117 rfl (lv_at hl 1 rfl) ?_
                  refine zg_iload C dX5_kindsOf_118 (lv_at hl 7 rfl) ?_
                  refine zg_iload C dX5_kindsOf_120 (lv_at hl 6 rfl) ?_
                  refine zg_callV C X hP hS (kX5_isLater l σ hR d b (by omega) (by omega) (by omega) (by omega)) (cwV 2 C.ts (zgV mlX5_132 imX5_isLater slX5_isLater iniX5 cdX5_isLater) rfl rfl rfl (by decide +kernel) ⟨Nat.le_of_ble_eq_true rfl, Nat.le_of_ble_eq_true rfl⟩) (by decide) lyM_0 rfl rfl rfl hl.1 rfl (Nat.le_of_ble_eq_true rfl) dX5_kindsOf_122 ⟨Nat.zero_le _, Nat.zero_le _⟩ (fun r_42 σ41 H locs q43 hP hS => ?_)
                  obtain ⟨rfl, q43⟩ := q43
                  rw [q43] at hP
                  refine zg_ifeqB (tgt := 133) C dX5_kindsOf_125 (by decide) (fun c_44 => ?_) (fun c_44 => ?_)
                  · refine zg_iload C dX5_kindsOf_133 (lv_at hl 6 rfl) ?_
                    refine zg_istore (lv' := [(5, .int (jI b)), (7, .int (jI 1)), (0, .ref (a 0)), (1, .int (jI x)), (2, .int (jI z)), (3, .int (jI bt)), (4, .int (jI k)), (6, .int (jI d))]) C dX5_kindsOf_135 hl (by decide) rfl (fun ls hl => ?_)
                    refine zg_iinc (k := 7) (lv' := [(6, .int (jI (d + 1))), (5, .int (jI b)), (7, .int (jI 1)), (0, .ref (a 0)), (1, .int (jI x)), (2, .int (jI z)), (3, .int (jI bt)), (4, .int (jI k))]) C dX5_kindsOf_137 hl rfl (by decide) rfl (fun ls hl => ?_)
                    refine zg_goto (tgt := 18) C dX5_kindsOf_140 (by decide) ?_
                    exact ih bt k b (d + 1) _ _ _ (by omega) (by omega) (by omega) (by omega) (by omega) (by first | rfl | (rw [mBest_step d0, ← hb]; first | rw [if_pos (by grind [mLater, kLater, kMarked])] | rw [if_neg (by grind [mLater, kLater, kMarked])])) (by first | exact hE | (rw [kBits_step k0, ← hE, show (κ 1 10).toNat = d.toNat by omega, show ((k.toNat : Nat) : Int) = k by omega, ← hb]; first | (rw [if_pos ⟨by assumption, by omega⟩]; omega) | rw [if_neg (by omega)])) hP hS (lv_sub hl [3, 4, 5, 6, 7, 1, 0] rfl)
                  · refine zg_iload C dX5_kindsOf_128 (lv_at hl 7 rfl) ?_
                    refine zg_goto (tgt := 135) C dX5_kindsOf_130 (by decide) ?_
                    refine zg_istore (lv' := [(5, .int (jI d)), (7, .int (jI 1)), (0, .ref (a 0)), (1, .int (jI x)), (2, .int (jI z)), (3, .int (jI bt)), (4, .int (jI k)), (6, .int (jI d))]) C dX5_kindsOf_135 hl (by decide) rfl (fun ls hl => ?_)
                    refine zg_iinc (k := 7) (lv' := [(6, .int (jI (d + 1))), (5, .int (jI d)), (7, .int (jI 1)), (0, .ref (a 0)), (1, .int (jI x)), (2, .int (jI z)), (3, .int (jI bt)), (4, .int (jI k))]) C dX5_kindsOf_137 hl rfl (by decide) rfl (fun ls hl => ?_)
                    refine zg_goto (tgt := 18) C dX5_kindsOf_140 (by decide) ?_
                    exact ih bt k d (d + 1) _ _ _ (by omega) (by omega) (by omega) (by omega) (by omega) (by first | rfl | (rw [mBest_step d0, ← hb]; first | rw [if_pos (by grind [mLater, kLater, kMarked])] | rw [if_neg (by grind [mLater, kLater, kMarked])])) (by first | exact hE | (rw [kBits_step k0, ← hE, show (κ 1 10).toNat = d.toNat by omega, show ((k.toNat : Nat) : Int) = k by omega, ← hb]; first | (rw [if_pos ⟨by assumption, by omega⟩]; omega) | rw [if_neg (by omega)])) hP hS (lv_sub hl [3, 4, 5, 6, 7, 1, 0] rfl)
set_option maxHeartbeats 4000000 in
set_option maxRecDepth 100000 in
theorem kX5_kindsOf (l : Launch) {D : va_G} {a : Nat → Nat} {cI cZ : ClassId} (σ : Zt) (hR : rgM σ) (κ : Zt) (hM : RR κ σ) (hG : kMid κ) (x : Int) (z : Int) (x0 : 0 ≤ x) (x1 : x < 6) (z0 : 0 ≤ z) (z1 : z < 400) : zc l D vwCl (tyM cI cZ) 28 (layM cI cZ a) a yX5_kindsOf wsX5_kindsOf ({ frames := 1, cells := 0, slots := 0, locals := 22 }) [.ref (a 0), .int (jI x), .int (jI z)] σ (fun r_ u_ => r_ = jI (kKinds κ x.toNat z) ∧ u_ = σ) := by
  refine zc_of (cc := cX5_kindsOf) (maxL := 8) (ret := some .int) (own := RX5) (by decide) rfl rfl (Nat.le_of_ble_eq_true rfl) rfl ?_
  intro p e s m below meth c A ls C X hP hS hl
  have bT := rgS_1_10 hG.1
  have bP := rgS_11_4 hG.1
  have bPT := hG.e.1
  refine zg_iconst C dX5_kindsOf_0 ?_
  refine zg_istore_n (lv' := [(3, .int (jI 0)), (0, .ref (a 0)), (1, .int (jI x)), (2, .int (jI z))]) C dX5_kindsOf_1 rfl hl (by decide) rfl (fun ls hl => ?_)
  refine zg_iconst C dX5_kindsOf_2 ?_
  refine zg_istore (lv' := [(4, .int (jI 0)), (3, .int (jI 0)), (0, .ref (a 0)), (1, .int (jI x)), (2, .int (jI z))]) C dX5_kindsOf_3 hl (by decide) rfl (fun ls hl => ?_)
  refine zg_iload C dX5_kindsOf_5 (lv_at hl 0 rfl) ?_
  refine zg_bipush C dX5_kindsOf_7 (by decide) ?_
  refine zg_icmp_ge (tgt := 178) C (by omega) (by omega) (by omega) (by omega) dX5_kindsOf_9 (by decide) (fun c_45 => ?_) (fun c_45 => ?_)
  · exact absurd c_45 (by decide)
  · refine zg_iconst C dX5_kindsOf_12 ?_
    refine zg_istore (lv' := [(5, .int (jI (-1))), (4, .int (jI 0)), (3, .int (jI 0)), (0, .ref (a 0)), (1, .int (jI x)), (2, .int (jI z))]) C dX5_kindsOf_13 hl (by decide) rfl (fun ls hl => ?_)
    refine zg_iconst C dX5_kindsOf_15 ?_
    refine zg_istore (lv' := [(6, .int (jI 0)), (5, .int (jI (-1))), (4, .int (jI 0)), (3, .int (jI 0)), (0, .ref (a 0)), (1, .int (jI x)), (2, .int (jI z))]) C dX5_kindsOf_16 hl (by decide) rfl (fun ls hl => ?_)
    exact lpX5_kindsOf_18 σ hR κ hM hG x z x0 x1 z0 z1 C X 4000 0 0 (-1) 0 _ _ _ (by omega) (by omega) (by omega) (by omega) (by omega) rfl rfl hP hS (lv_sub hl [4, 5, 6, 3, 2, 1, 0] rfl)
