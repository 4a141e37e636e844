set_option maxHeartbeats 4000000 in
set_option maxRecDepth 100000 in
theorem kX5_erase (l : Launch) {D : va_G} {a : Nat → Nat} {cI cZ : ClassId} (σ : Zt) (hR : rgM σ) (κ : Zt) (hM : RR κ σ) (hG : kMid κ) (x : Int) (q : Int) (x0 : -2147483648 ≤ x) (x1 : x < 2147483648) (q0 : -2147483648 ≤ q) (q1 : q < 2147483648) (gd : ∀ r : Nat, r < 6 → gR κ r) : zc l D vwCl (tyM cI cZ) 28 (layM cI cZ a) a yX5_erase wsX5_erase ({ frames := 4, cells := 0, slots := 0, locals := 98 }) [.ref (a 0), .int (jI x), .int (jI q)] σ (fun r_ u_ => r_ = jI (kEraR κ x q) ∧ rgM u_ ∧ RR (kEraS κ x q) u_ ∧ kMid (kEraS κ x q)) := by
  refine zc_of (cc := cX5_erase) (maxL := 3) (ret := some .int) (own := RX5) (by decide) rfl rfl (Nat.le_of_ble_eq_true rfl) rfl ?_
  intro p e s m below meth c A ls C X hP hS hl
  have bT := rgS_1_10 hG.1
  have bP := rgS_11_4 hG.1
  have bPT := hG.e.1
  refine zg_iload_n C dX5_erase_0 rfl (lv_at hl 1 rfl) ?_
  refine zg_callS C X hP hS (kX5_isReplica l σ hR κ hM hG x (by omega) (by omega)) (cwS 1 C.ts (zgS mlX5_102 stX5_isReplica iniX5 cdX5_isReplica) rfl rfl rfl (by decide +kernel) ⟨Nat.le_of_ble_eq_true rfl, Nat.le_of_ble_eq_true rfl⟩) rfl hl.1 rfl (Nat.le_of_ble_eq_true rfl) dX5_erase_1 ⟨Nat.zero_le _, Nat.zero_le _⟩ (fun r_2 σ1 H locs q3 hP hS => ?_)
  obtain ⟨rfl, q3⟩ := q3
  rw [q3] at hP
  refine zg_ifneB (tgt := 10) C dX5_erase_4 (by decide) (fun c_4 => ?_) (fun c_4 => ?_)
  · have b_5 := kIsR_t c_4
    refine zg_iload_n C dX5_erase_10 rfl (lv_at hl 2 rfl) ?_
    refine zg_i2l C (by omega) (by omega) dX5_erase_11 ?_
    refine zg_lconst C 0 rfl dX5_erase_12 ?_
    refine zg_aload_n C dX5_erase_13 rfl (lv_at hl 0 rfl) ?_
    refine zg_iload_n C dX5_erase_14 rfl (lv_at hl 1 rfl) ?_
    refine zg_callV C X hP hS (kX5_sizeOf l σ hR κ hM hG x (by omega) (by omega)) (cwV 1 C.ts (zgV mlX5_177 imX5_sizeOf slX5_sizeOf iniX5 cdX5_sizeOf) rfl rfl rfl (by decide +kernel) ⟨Nat.le_of_ble_eq_true rfl, Nat.le_of_ble_eq_true rfl⟩) (by decide) lyM_0 rfl rfl rfl hl.1 rfl (Nat.le_of_ble_eq_true rfl) dX5_erase_15 ⟨Nat.zero_le _, Nat.zero_le _⟩ (fun r_7 σ6 H locs q8 hP hS => ?_)
    obtain ⟨rfl, q8⟩ := q8
    have b_9 := kLen_rg hG.1 x.toNat
    rw [q8] at hP
    refine zg_iconst C dX5_erase_18 ?_
    refine zg_isub C dX5_erase_19 ?_
    refine zg_i2l C (by omega) (by omega) dX5_erase_20 ?_
    refine zg_callS C X hP hS (kX5_in l σ hR κ hM hG q 0 ((kLen κ x.toNat) - 1) (by omega) (by omega) (by omega) (by omega) (by omega) (by omega)) (cwS 3 C.ts (zgS mlX5_98 stX5_in iniX5 cdX5_in) rfl rfl rfl (by decide +kernel) ⟨Nat.le_of_ble_eq_true rfl, Nat.le_of_ble_eq_true rfl⟩) rfl hl.1 rfl (Nat.le_of_ble_eq_true rfl) dX5_erase_21 ⟨Nat.zero_le _, Nat.zero_le _⟩ (fun r_11 σ10 H locs q12 hP hS => ?_)
    obtain ⟨rfl, q12⟩ := q12
    rw [q12] at hP
    refine zg_ifneB (tgt := 30) C dX5_erase_24 (by decide) (fun c_13 => ?_) (fun c_13 => ?_)
    · have b_14 := mIn_t c_13
      obtain ⟨h2, h3, h4, h6⟩ := kSignAt_in hG (r := x.toNat) (q := q) (by omega) (by omega)
      refine zg_aload_n C dX5_erase_30 rfl (lv_at hl 0 rfl) ?_
      refine zg_get (j := 1) C X hP (by decide) lyM_0 rfl (zmem uwX5) (by decide) (C.tb flX5_135) (fun _ h9 => h9) rfl dX5_erase_31 ?_
      rw [rr_0_1 hM]
      have b_15 := rgS_1_10 hG.1
      have b_16 := rgM_0_1 hR
      refine zg_sipush C dX5_erase_34 (by decide) ?_
      refine zg_icmp_ne (tgt := 45) C (by omega) (by omega) (by omega) (by omega) dX5_erase_37 (by decide) (fun c_17 => ?_) (fun c_17 => ?_)
      · refine zg_aload_n C dX5_erase_45 rfl (lv_at hl 0 rfl) ?_
        refine zg_iload_n C dX5_erase_46 rfl (lv_at hl 1 rfl) ?_
        refine zg_iconst C dX5_erase_47 ?_
        refine zg_iconst C dX5_erase_48 ?_
        refine zg_aload_n C dX5_erase_49 rfl (lv_at hl 0 rfl) ?_
        refine zg_iload_n C dX5_erase_50 rfl (lv_at hl 1 rfl) ?_
        refine zg_iload_n C dX5_erase_51 rfl (lv_at hl 2 rfl) ?_
        refine zg_callV C X hP hS (kX5_signAt l σ hR κ hM hG x q (by omega) (by omega) (by omega) (by omega)) (cwV 2 C.ts (zgV mlX5_162 imX5_signAt slX5_signAt iniX5 cdX5_signAt) rfl rfl rfl (by decide +kernel) ⟨Nat.le_of_ble_eq_true rfl, Nat.le_of_ble_eq_true rfl⟩) (by decide) lyM_0 rfl rfl rfl hl.1 rfl (Nat.le_of_ble_eq_true rfl) dX5_erase_52 ⟨Nat.zero_le _, Nat.zero_le _⟩ (fun r_19 σ18 H locs q20 hP hS => ?_)
        obtain ⟨rfl, q20⟩ := q20
        have b_21 := kSignAt_rg hG.1 x.toNat q
        rw [q20] at hP
        refine zg_iconst C dX5_erase_55 ?_
        refine zg_callV C X hP hS (kX5_madeN l σ hR κ hM hG x 1 0 (kSignAt κ x.toNat q) (-1) (by omega) (by omega) (by omega) (by omega) (by omega) (by omega) (by omega) (by omega) (by assumption) (by omega) (by omega) (by omega) (by omega) (by assumption)) (cwV 5 C.ts (zgV mlX5_173 imX5_made slX5_made iniX5 cdX5_made) rfl rfl rfl (by decide +kernel) ⟨Nat.le_of_ble_eq_true rfl, Nat.le_of_ble_eq_true rfl⟩) (by decide) lyM_0 rfl rfl rfl hl.1 rfl (Nat.le_of_ble_eq_true rfl) dX5_erase_56 ⟨Nat.zero_le _, Nat.zero_le _⟩ (fun r_23 σ22 H locs q24 hP hS => ?_)
        obtain ⟨rfl, q24⟩ := q24
        obtain ⟨κ28, eκ28⟩ : ∃ z_ : Zt, z_ = kPerform κ x.toNat 1 0 (kSignAt κ x.toNat q) (if (1 : Int) = 3 then (-1) else (kSignAt κ x.toNat q)) := ⟨_, rfl⟩
        rw [← eκ28] at q24
        obtain ⟨hR25, hM26, hG27⟩ := q24
        refine zg_iret C hP hS dX5_erase_59 ?_
        have h9 : kEraS κ x q = κ28 := by rw [eκ28]; unfold kEraS; rw [if_pos (by assumption), if_neg h2]; first | rw [if_pos (show kFull κ = true by unfold kFull; grind)] | (rw [if_neg (show ¬ kFull κ = true by unfold kFull; grind)]; rfl)
        exact ⟨congrArg jI (by unfold kEraR; rw [if_pos (by assumption), if_neg h2]; first | rw [if_pos (show kFull κ = true by unfold kFull; grind)] | rw [if_neg (show ¬ kFull κ = true by unfold kFull; grind)]), hR25, (by rw [h9]; exact hM26), (by rw [h9]; exact hG27)⟩
      · refine zg_bipush C dX5_erase_40 (by decide) ?_
        refine zg_goto (tgt := 59) C dX5_erase_42 (by decide) ?_
        refine zg_iret C hP hS dX5_erase_59 ?_
        have h9 : kEraS κ x q = κ := by unfold kEraS; rw [if_pos (by assumption), if_neg h2]; first | rw [if_pos (show kFull κ = true by unfold kFull; grind)] | (rw [if_neg (show ¬ kFull κ = true by unfold kFull; grind)]; rfl)
        exact ⟨congrArg jI (by unfold kEraR; rw [if_pos (by assumption), if_neg h2]; first | rw [if_pos (show kFull κ = true by unfold kFull; grind)] | rw [if_neg (show ¬ kFull κ = true by unfold kFull; grind)]), hR, (by rw [h9]; exact hM), (by rw [h9]; exact hG)⟩
    · have b_29 := mIn_f c_13
      refine zg_bipush C dX5_erase_27 (by decide) ?_
      refine zg_iret C hP hS dX5_erase_29 ?_
      have h2 := kSignAt_out hG (r := x.toNat) (q := q) (by omega)
      have h9 : kEraS κ x q = κ := by unfold kEraS; rw [if_pos (by assumption), if_pos h2]
      exact ⟨congrArg jI (by unfold kEraR; rw [if_pos (by assumption), if_pos h2]), hR, (by rw [h9]; exact hM), (by rw [h9]; exact hG)⟩
  · have b_30 := kIsR_f c_4
    refine zg_bipush C dX5_erase_7 (by decide) ?_
    refine zg_iret C hP hS dX5_erase_9 ?_
    have h9 : kEraS κ x q = κ := by grind [kEraS]
    exact ⟨congrArg jI (by grind [kEraR]), hR, (by rw [h9]; exact hM), (by rw [h9]; exact hG)⟩
set_option maxHeartbeats 4000000 in
set_option maxRecDepth 100000 in
theorem lpX5_undo_17 {l : Launch} {D : va_G} {a : Nat → Nat} {cI cZ : ClassId} {p : Program} {e : Env} {s : State} {m : MethodId} {below : List Frame} {meth : Method} {c : Code} {A : Nat → Prop} (σ : Zt) (hR : rgM σ) (κ : Zt) (hM : RR κ σ) (hG : kMid κ) (x : Int) (x0 : -2147483648 ≤ x) (x1 : x < 2147483648) (gd : ∀ r : Nat, r < 6 → gR κ r) (xR : kIsR x = true) (C : zk p s m ([.ref (a 0), .int (jI x)] : List Value).toArray meth c cX5_undo 4 (some .int) wsX5_undo RX5) (X : zx D vwCl (tyM cI cZ) A a 28 s) :
    ∀ (n : Nat) (d : Int) (H : Heap) (locs : List Loc) (ls : Array Slot), ((d + 1).toNat < n) → (-1 ≤ d) → (d < κ 1 10) → (kULast κ x = kLast κ x (d + 1).toNat) → va_P D vwCl (zw 28 (layM cI cZ a) a σ) H → va_S A s.heap H locs → lv_has ls 4 [(0, .ref (a 0)), (1, .int (jI x)), (2, .int (jI d))] →
      W p l e ({ frames := 4, cells := 0, slots := 0, locals := 98 }) s m ([.ref (a 0), .int (jI x)] : List Value).toArray below meth c H locs 0 0 (MQ below (va_Qi (fun r_ u_ => r_ = jI (kUndR κ x) ∧ rgM u_ ∧ RR (kUndS κ x) u_ ∧ kMid (kUndS κ x)) (fun (u : Zt) t => va_P D vwCl (zw 28 (layM cI cZ a) a u) t.heap) A) ([.ref (a 0), .int (jI x)] : List Value).toArray s 0 0 A) (F0 m 17 ls []) := by
  intro n
  induction n with
  | zero =>
    intro d  H locs ls hn d0 d1 hE hP hS hl
    exact absurd hn (by omega)
  | succ n ih =>
    intro d  H locs ls hn d0 d1 hE hP hS hl
    have bT := rgS_1_10 hG.1
    have bP := rgS_11_4 hG.1
    have bPT := hG.e.1
    have bx := kIsR_t xR
    have b9 := rgS_9 hG.1 d.toNat
    refine zg_iload_n C dX5_undo_17 rfl (lv_at hl 2 rfl) ?_
    refine zg_if_lt (tgt := 74) C (by omega) (by omega) dX5_undo_18 (by decide) (fun c_1 => ?_) (fun c_1 => ?_)
    · refine zg_iload_n C dX5_undo_74 rfl (lv_at hl 2 rfl) ?_
      refine zg_if_ge (tgt := 81) C (by omega) (by omega) dX5_undo_75 (by decide) (fun c_2 => ?_) (fun c_2 => ?_)
      · have h1 : kULast κ x = d := by first | (exfalso; omega) | exact hE.trans (kLast_hit (by omega) (by omega) (by assumption))
        refine zg_aload_n C dX5_undo_81 rfl (lv_at hl 0 rfl) ?_
        refine zg_get (j := 1) C X hP (by decide) lyM_0 rfl (zmem uwX5) (by decide) (C.tb flX5_135) (fun _ h9 => h9) rfl dX5_undo_82 ?_
        rw [rr_0_1 hM]
        have b_3 := rgS_1_10 hG.1
        have b_4 := rgM_0_1 hR
        refine zg_sipush C dX5_undo_85 (by decide) ?_
        refine zg_icmp_ne (tgt := 94) C (by omega) (by omega) (by omega) (by omega) dX5_undo_88 (by decide) (fun c_5 => ?_) (fun c_5 => ?_)
        · have hd3 := hG.d d.toNat (by omega)
          have h6 := hd3.2.2.1
          refine zg_aload_n C dX5_undo_94 rfl (lv_at hl 0 rfl) ?_
          refine zg_iload_n C dX5_undo_95 rfl (lv_at hl 1 rfl) ?_
          refine zg_aload_n C dX5_undo_96 rfl (lv_at hl 0 rfl) ?_
          refine zg_get (j := 5) C X hP (by decide) lyM_0 rfl (zmem uwX5) (by decide) (C.tb flX5_23) (fun _ h9 => h9) rfl dX5_undo_97 ?_
          refine zg_iload_n C dX5_undo_100 rfl (lv_at hl 2 rfl) ?_
          refine zg_iald (t0 := 0) C X hP (by decide) lyM_4 rfl (by decide) (by omega) (by omega) dX5_undo_101 ?_
          rw [rr_4 hM]
          have b_6 := rgS_5 hG.1 (d).toNat
          have b_7 := rgM_4 hR ((d).toNat)
          refine zg_if_ne (tgt := 109) C (by omega) (by omega) dX5_undo_102 (by decide) (fun c_8 => ?_) (fun c_8 => ?_)
          · refine zg_iconst C dX5_undo_109 ?_
            refine zg_iconst C dX5_undo_110 ?_
            refine zg_aload_n C dX5_undo_111 rfl (lv_at hl 0 rfl) ?_
            refine zg_get (j := 7) C X hP (by decide) lyM_0 rfl (zmem uwX5) (by decide) (C.tb flX5_29) (fun _ h9 => h9) rfl dX5_undo_112 ?_
            refine zg_iload_n C dX5_undo_115 rfl (lv_at hl 2 rfl) ?_
            refine zg_iald (t0 := 0) C X hP (by decide) lyM_6 rfl (by decide) (by omega) (by omega) dX5_undo_116 ?_
            rw [rr_6 hM]
            have b_9 := rgS_7 hG.1 (d).toNat
            have b_10 := rgM_6 hR ((d).toNat)
            refine zg_iconst C dX5_undo_117 ?_
            refine zg_callV C X hP hS (kX5_madeN l σ hR κ hM hG x 2 0 (κ 7 (d).toNat) (-1) (by omega) (by omega) (by omega) (by omega) (by omega) (by omega) (by omega) (by omega) (by assumption) (by omega) (by omega) (by omega) (by omega) (by assumption)) (cwV 5 C.ts (zgV mlX5_173 imX5_made slX5_made iniX5 cdX5_made) rfl rfl rfl (by decide +kernel) ⟨Nat.le_of_ble_eq_true rfl, Nat.le_of_ble_eq_true rfl⟩) (by decide) lyM_0 rfl rfl rfl hl.1 rfl (Nat.le_of_ble_eq_true rfl) dX5_undo_118 ⟨Nat.zero_le _, Nat.zero_le _⟩ (fun r_12 σ11 H locs q13 hP hS => ?_)
            obtain ⟨rfl, q13⟩ := q13
            obtain ⟨κ17, eκ17⟩ : ∃ z_ : Zt, z_ = kPerform κ x.toNat 2 0 (κ 7 (d).toNat) (if (2 : Int) = 3 then (-1) else (κ 7 (d).toNat)) := ⟨_, rfl⟩
            rw [← eκ17] at q13
            obtain ⟨hR14, hM15, hG16⟩ := q13
            refine zg_istore_n (lv' := [(3, .int (jI (κ 1 10))), (0, .ref (a 0)), (1, .int (jI x)), (2, .int (jI d))]) C dX5_undo_121 rfl hl (by decide) rfl (fun ls hl => ?_)
            refine zg_aload_n C dX5_undo_122 rfl (lv_at hl 1 rfl) ?_
            refine zg_get (j := 9) C X hP (by decide) lyM_0 rfl (zmem uwX5) (by decide) (C.tb flX5_35) (fun _ h9 => h9) rfl dX5_undo_123 ?_
            refine zg_iload_n C dX5_undo_126 rfl (lv_at hl 3 rfl) ?_
            refine zg_iconst C dX5_undo_127 ?_
            refine zg_zast (t0 := 1) (b := true) C X hP hS (by decide) (fun x => lyM_8) rfl (by decide) (by omega) (by omega) dX5_undo_128 (fun H locs hP hS => ?_)
            have b_18 := bI_01 true
            obtain ⟨σ19, e20⟩ : ∃ z_ : Zt, z_ = zu σ11 8 (d).toNat (bI true) := ⟨_, rfl⟩
            rw [← e20] at hP
            have w_22 : σ19 8 (d).toNat = bI true := by rw [e20]; exact zu_same _ _ _ _
            have hR21 : rgM σ19 := by rw [e20]; exact rzM_8 hR14 (by omega) (by omega)
            obtain ⟨κ23, eκ23⟩ : ∃ z_ : Zt, z_ = zu κ17 9 d.toNat 0 := ⟨_, rfl⟩
            have hM24 : RR κ23 σ19 := by rw [eκ23, e20]; exact RR_8 hM15
            have hG25 : kMid κ23 := by rw [eκ23]; exact kMid_9 hG16 (by omega) (by omega)
            refine zg_aload_n C dX5_undo_129 rfl (lv_at hl 1 rfl) ?_
            refine zg_get (j := 10) C X hP (by decide) lyM_0 rfl (zmem uwX5) (by decide) (C.tb flX5_39) (fun _ h9 => h9) rfl dX5_undo_130 ?_
            refine zg_iload_n C dX5_undo_133 rfl (lv_at hl 0 rfl) ?_
            refine zg_iconst C dX5_undo_134 ?_
            refine zg_zast (t0 := 1) (b := true) C X hP hS (by decide) (fun x => lyM_9) rfl (by decide) (by omega) (by omega) dX5_undo_135 (fun H locs hP hS => ?_)
            have b_26 := bI_01 true
            obtain ⟨σ27, e28⟩ : ∃ z_ : Zt, z_ = zu σ19 9 (κ 1 10).toNat (bI true) := ⟨_, rfl⟩
            rw [← e28] at hP
            have w_30 : σ27 9 (κ 1 10).toNat = bI true := by rw [e28]; exact zu_same _ _ _ _
            have hR29 : rgM σ27 := by rw [e28]; exact rzM_9 hR21 (by omega) (by omega)
            obtain ⟨κ31, eκ31⟩ : ∃ z_ : Zt, z_ = zu κ23 9 (κ 1 10).toNat 0 := ⟨_, rfl⟩
            have hM32 : RR κ31 σ27 := by rw [eκ31, e28]; exact RR_9 hM24
            have hG33 : kMid κ31 := by rw [eκ31]; exact kMid_9 hG25 (by omega) (by omega)
            refine zg_iload_n C dX5_undo_136 rfl (lv_at hl 0 rfl) ?_
            refine zg_iret C hP hS dX5_undo_137 ?_
            have h9 : kUndS κ x = κ31 := by rw [eκ31, eκ23, eκ17]; unfold kUndS; rw [if_pos xR, h1, if_neg (by omega), if_neg (show ¬ kFull κ = true by unfold kFull; grind)]; first | (rw [if_pos (by assumption)]; rfl) | (rw [if_neg (by assumption)]; rfl)
            exact ⟨congrArg jI (by unfold kUndR; rw [if_pos xR, h1, if_neg (by omega), if_neg (show ¬ kFull κ = true by unfold kFull; grind)]), hR29, (by rw [h9]; exact hM32), (by rw [h9]; exact hG33)⟩
          · refine zg_iconst C dX5_undo_105 ?_
            refine zg_goto (tgt := 110) C dX5_undo_106 (by decide) ?_
            refine zg_iconst C dX5_undo_110 ?_
            refine zg_aload_n C dX5_undo_111 rfl (lv_at hl 0 rfl) ?_
            refine zg_get (j := 7) C X hP (by decide) lyM_0 rfl (zmem uwX5) (by decide) (C.tb flX5_29) (fun _ h9 => h9) rfl dX5_undo_112 ?_
            refine zg_iload_n C dX5_undo_115 rfl (lv_at hl 2 rfl) ?_
            refine zg_iald (t0 := 0) C X hP (by decide) lyM_6 rfl (by decide) (by omega) (by omega) dX5_undo_116 ?_
            rw [rr_6 hM]
            have b_34 := rgS_7 hG.1 (d).toNat
            have b_35 := rgM_6 hR ((d).toNat)
            refine zg_iconst C dX5_undo_117 ?_
            refine zg_callV C X hP hS (kX5_madeN l σ hR κ hM hG x 1 0 (κ 7 (d).toNat) (-1) (by omega) (by omega) (by omega) (by omega) (by omega) (by omega) (by omega) (by omega) (by assumption) (by omega) (by omega) (by omega) (by omega) (by assumption)) (cwV 5 C.ts (zgV mlX5_173 imX5_made slX5_made iniX5 cdX5_made) rfl rfl rfl (by decide +kernel) ⟨Nat.le_of_ble_eq_true rfl, Nat.le_of_ble_eq_true rfl⟩) (by decide) lyM_0 rfl rfl rfl hl.1 rfl (Nat.le_of_ble_eq_true rfl) dX5_undo_118 ⟨Nat.zero_le _, Nat.zero_le _⟩ (fun r_37 σ36 H locs q38 hP hS => ?_)
            obtain ⟨rfl, q38⟩ := q38
            obtain ⟨κ42, eκ42⟩ : ∃ z_ : Zt, z_ = kPerform κ x.toNat 1 0 (κ 7 (d).toNat) (if (1 : Int) = 3 then (-1) else (κ 7 (d).toNat)) := ⟨_, rfl⟩
            rw [← eκ42] at q38
            obtain ⟨hR39, hM40, hG41⟩ := q38
            refine zg_istore_n (lv' := [(3, .int (jI (κ 1 10))), (0, .ref (a 0)), (1, .int (jI x)), (2, .int (jI d))]) C dX5_undo_121 rfl hl (by decide) rfl (fun ls hl => ?_)
            refine zg_aload_n C dX5_undo_122 rfl (lv_at hl 1 rfl) ?_
            refine zg_get (j := 9) C X hP (by decide) lyM_0 rfl (zmem uwX5) (by decide) (C.tb flX5_35) (fun _ h9 => h9) rfl dX5_undo_123 ?_
            refine zg_iload_n C dX5_undo_126 rfl (lv_at hl 3 rfl) ?_
            refine zg_iconst C dX5_undo_127 ?_
            refine zg_zast (t0 := 1) (b := true) C X hP hS (by decide) (fun x => lyM_8) rfl (by decide) (by omega) (by omega) dX5_undo_128 (fun H locs hP hS => ?_)
            have b_43 := bI_01 true
            obtain ⟨σ44, e45⟩ : ∃ z_ : Zt, z_ = zu σ36 8 (d).toNat (bI true) := ⟨_, rfl⟩
            rw [← e45] at hP
            have w_47 : σ44 8 (d).toNat = bI true := by rw [e45]; exact zu_same _ _ _ _
            have hR46 : rgM σ44 := by rw [e45]; exact rzM_8 hR39 (by omega) (by omega)
            obtain ⟨κ48, eκ48⟩ : ∃ z_ : Zt, z_ = zu κ42 9 d.toNat 0 := ⟨_, rfl⟩
            have hM49 : RR κ48 σ44 := by rw [eκ48, e45]; exact RR_8 hM40
            have hG50 : kMid κ48 := by rw [eκ48]; exact kMid_9 hG41 (by omega) (by omega)
            refine zg_aload_n C dX5_undo_129 rfl (lv_at hl 1 rfl) ?_
            refine zg_get (j := 10) C X hP (by decide) lyM_0 rfl (zmem uwX5) (by decide) (C.tb flX5_39) (fun _ h9 => h9) rfl dX5_undo_130 ?_
            refine zg_iload_n C dX5_undo_133 rfl (lv_at hl 0 rfl) ?_
            refine zg_iconst C dX5_undo_134 ?_
            refine zg_zast (t0 := 1) (b := true) C X hP hS (by decide) (fun x => lyM_9) rfl (by decide) (by omega) (by omega) dX5_undo_135 (fun H locs hP hS => ?_)
            have b_51 := bI_01 true
            obtain ⟨σ52, e53⟩ : ∃ z_ : Zt, z_ = zu σ44 9 (κ 1 10).toNat (bI true) := ⟨_, rfl⟩
            rw [← e53] at hP
            have w_55 : σ52 9 (κ 1 10).toNat = bI true := by rw [e53]; exact zu_same _ _ _ _
            have hR54 : rgM σ52 := by rw [e53]; exact rzM_9 hR46 (by omega) (by omega)
            obtain ⟨κ56, eκ56⟩ : ∃ z_ : Zt, z_ = zu κ48 9 (κ 1 10).toNat 0 := ⟨_, rfl⟩
            have hM57 : RR κ56 σ52 := by rw [eκ56, e53]; exact RR_9 hM49
            have hG58 : kMid κ56 := by rw [eκ56]; exact kMid_9 hG50 (by omega) (by omega)
            refine zg_iload_n C dX5_undo_136 rfl (lv_at hl 0 rfl) ?_
            refine zg_iret C hP hS dX5_undo_137 ?_
            have h9 : kUndS κ x = κ56 := by rw [eκ56, eκ48, eκ42]; unfold kUndS; rw [if_pos xR, h1, if_neg (by omega), if_neg (show ¬ kFull κ = true by unfold kFull; grind)]; first | (rw [if_pos (by assumption)]; rfl) | (rw [if_neg (by assumption)]; rfl)
            exact ⟨congrArg jI (by unfold kUndR; rw [if_pos xR, h1, if_neg (by omega), if_neg (show ¬ kFull κ = true by unfold kFull; grind)]), hR54, (by rw [h9]; exact hM57), (by rw [h9]; exact hG58)⟩
        · refine zg_bipush C dX5_undo_91 (by decide) ?_
          refine zg_iret C hP hS dX5_undo_93 ?_
          have h9 : kUndS κ x = κ := by unfold kUndS; rw [if_pos xR, h1, if_neg (by omega), if_pos (show kFull κ = true by unfold kFull; grind)]
          exact ⟨congrArg jI (by unfold kUndR; rw [if_pos xR, h1, if_neg (by omega), if_pos (show kFull κ = true by unfold kFull; grind)]), hR, (by rw [h9]; exact hM), (by rw [h9]; exact hG)⟩
      · refine zg_bipush C dX5_undo_78 (by decide) ?_
        refine zg_iret C hP hS dX5_undo_80 ?_
        have h1 : kULast κ x = -1 := by first | exact (hE.trans (kLast_end (by omega))) | (exfalso; omega)
        have h9 : kUndS κ x = κ := by unfold kUndS; rw [if_pos xR, if_pos h1]
        exact ⟨congrArg jI (by unfold kUndR; rw [if_pos xR, if_pos h1]), hR, (by rw [h9]; exact hM), (by rw [h9]; exact hG)⟩
    · have h89 := rr_89 hM (d := d) (by omega) d1
      refine zg_aload_n C dX5_undo_21 rfl (lv_at hl 0 rfl) ?_
      refine zg_get (j := 2) C X hP (by decide) lyM_0 rfl (zmem uwX5) (by decide) (C.tb flX5_13) (fun _ h9 => h9) rfl dX5_undo_22 ?_
      refine zg_iload_n C dX5_undo_25 rfl (lv_at hl 2 rfl) ?_
      refine zg_iald (t0 := 0) C X hP (by decide) lyM_1 rfl (by decide) (by omega) (by omega) dX5_undo_26 ?_
      rw [rr_1 hM]
      have b_59 := rgS_2 hG.1 (d).toNat
      have b_60 := rgM_1 hR ((d).toNat)
      refine zg_iload_n C dX5_undo_27 rfl (lv_at hl 1 rfl) ?_
      refine zg_icmp_ne (tgt := 68) C (by omega) (by omega) (by omega) (by omega) dX5_undo_28 (by decide) (fun c_61 => ?_) (fun c_61 => ?_)
      · refine zg_iinc (k := 2) (lv' := [(2, .int (jI (d + -1))), (0, .ref (a 0)), (1, .int (jI x))]) C dX5_undo_68 hl rfl (by decide) rfl (fun ls hl => ?_)
        refine zg_goto (tgt := 17) C dX5_undo_71 (by decide) ?_
        exact ih (d + -1) _ _ _ (by omega) (by omega) (by omega) (hE.trans (kLast_step (by omega) (by omega))) hP hS (lv_sub hl [1, 2, 0] rfl)
      · refine zg_aload_n C dX5_undo_31 rfl (lv_at hl 0 rfl) ?_
        refine zg_get (j := 5) C X hP (by decide) lyM_0 rfl (zmem uwX5) (by decide) (C.tb flX5_23) (fun _ h9 => h9) rfl dX5_undo_32 ?_
        refine zg_iload_n C dX5_undo_35 rfl (lv_at hl 2 rfl) ?_
        refine zg_iald (t0 := 0) C X hP (by decide) lyM_4 rfl (by decide) (by omega) (by omega) dX5_undo_36 ?_
        rw [rr_4 hM]
        have b_62 := rgS_5 hG.1 (d).toNat
        have b_63 := rgM_4 hR ((d).toNat)
        refine zg_if_eq (tgt := 50) C (by omega) (by omega) dX5_undo_37 (by decide) (fun c_64 => ?_) (fun c_64 => ?_)
        · refine zg_aload_n C dX5_undo_50 rfl (lv_at hl 0 rfl) ?_
          refine zg_get (j := 9) C X hP (by decide) lyM_0 rfl (zmem uwX5) (by decide) (C.tb flX5_35) (fun _ h9 => h9) rfl dX5_undo_51 ?_
          refine zg_iload_n C dX5_undo_54 rfl (lv_at hl 2 rfl) ?_
          refine zg_zald (t0 := 1) C X hP (by decide) lyM_8 rfl (by decide) (by omega) (by omega) dX5_undo_55 ?_
          have b_65 := rgM_8 hR ((d).toNat)
          refine zg_if_ne (tgt := 68) C (by omega) (by omega) dX5_undo_56 (by decide) (fun c_66 => ?_) (fun c_66 => ?_)
          · refine zg_iinc (k := 2) (lv' := [(2, .int (jI (d + -1))), (0, .ref (a 0)), (1, .int (jI x))]) C dX5_undo_68 hl rfl (by decide) rfl (fun ls hl => ?_)
            refine zg_goto (tgt := 17) C dX5_undo_71 (by decide) ?_
            exact ih (d + -1) _ _ _ (by omega) (by omega) (by omega) (hE.trans (kLast_step (by omega) (by omega))) hP hS (lv_sub hl [1, 2, 0] rfl)
          · refine zg_aload_n C dX5_undo_59 rfl (lv_at hl 0 rfl) ?_
            refine zg_get (j := 10) C X hP (by decide) lyM_0 rfl (zmem uwX5) (by decide) (C.tb flX5_39) (fun _ h9 => h9) rfl dX5_undo_60 ?_
            refine zg_iload_n C dX5_undo_63 rfl (lv_at hl 2 rfl) ?_
            refine zg_zald (t0 := 1) C X hP (by decide) lyM_9 rfl (by decide) (by omega) (by omega) dX5_undo_64 ?_
            have b_67 := rgM_9 hR ((d).toNat)
            refine zg_if_eq (tgt := 74) C (by omega) (by omega) dX5_undo_65 (by decide) (fun c_68 => ?_) (fun c_68 => ?_)
            · refine zg_iload_n C dX5_undo_74 rfl (lv_at hl 2 rfl) ?_
              refine zg_if_ge (tgt := 81) C (by omega) (by omega) dX5_undo_75 (by decide) (fun c_69 => ?_) (fun c_69 => ?_)
              · have h1 : kULast κ x = d := by first | (exfalso; omega) | exact hE.trans (kLast_hit (by omega) (by omega) (by assumption))
                refine zg_aload_n C dX5_undo_81 rfl (lv_at hl 0 rfl) ?_
                refine zg_get (j := 1) C X hP (by decide) lyM_0 rfl (zmem uwX5) (by decide) (C.tb flX5_135) (fun _ h9 => h9) rfl dX5_undo_82 ?_
                rw [rr_0_1 hM]
                have b_70 := rgS_1_10 hG.1
                have b_71 := rgM_0_1 hR
                refine zg_sipush C dX5_undo_85 (by decide) ?_
                refine zg_icmp_ne (tgt := 94) C (by omega) (by omega) (by omega) (by omega) dX5_undo_88 (by decide) (fun c_72 => ?_) (fun c_72 => ?_)
                · have hd3 := hG.d d.toNat (by omega)
                  have h6 := hd3.2.2.1
                  refine zg_aload_n C dX5_undo_94 rfl (lv_at hl 0 rfl) ?_
                  refine zg_iload_n C dX5_undo_95 rfl (lv_at hl 1 rfl) ?_
                  refine zg_aload_n C dX5_undo_96 rfl (lv_at hl 0 rfl) ?_
                  refine zg_get (j := 5) C X hP (by decide) lyM_0 rfl (zmem uwX5) (by decide) (C.tb flX5_23) (fun _ h9 => h9) rfl dX5_undo_97 ?_
                  refine zg_iload_n C dX5_undo_100 rfl (lv_at hl 2 rfl) ?_
                  refine zg_iald (t0 := 0) C X hP (by decide) lyM_4 rfl (by decide) (by omega) (by omega) dX5_undo_101 ?_
                  rw [rr_4 hM]
                  have b_73 := rgS_5 hG.1 (d).toNat
                  have b_74 := rgM_4 hR ((d).toNat)
                  refine zg_if_ne (tgt := 109) C (by omega) (by omega) dX5_undo_102 (by decide) (fun c_75 => ?_) (fun c_75 => ?_)
                  · refine zg_iconst C dX5_undo_109 ?_
                    refine zg_iconst C dX5_undo_110 ?_
                    refine zg_aload_n C dX5_undo_111 rfl (lv_at hl 0 rfl) ?_
                    refine zg_get (j := 7) C X hP (by decide) lyM_0 rfl (zmem uwX5) (by decide) (C.tb flX5_29) (fun _ h9 => h9) rfl dX5_undo_112 ?_
                    refine zg_iload_n C dX5_undo_115 rfl (lv_at hl 2 rfl) ?_
                    refine zg_iald (t0 := 0) C X hP (by decide) lyM_6 rfl (by decide) (by omega) (by omega) dX5_undo_116 ?_
                    rw [rr_6 hM]
                    have b_76 := rgS_7 hG.1 (d).toNat
                    have b_77 := rgM_6 hR ((d).toNat)
                    refine zg_iconst C dX5_undo_117 ?_
                    refine zg_callV C X hP hS (kX5_madeN l σ hR κ hM hG x 2 0 (κ 7 (d).toNat) (-1) (by omega) (by omega) (by omega) (by omega) (by omega) (by omega) (by omega) (by omega) (by assumption) (by omega) (by omega) (by omega) (by omega) (by assumption)) (cwV 5 C.ts (zgV mlX5_173 imX5_made slX5_made iniX5 cdX5_made) rfl rfl rfl (by decide +kernel) ⟨Nat.le_of_ble_eq_true rfl, Nat.le_of_ble_eq_true rfl⟩) (by decide) lyM_0 rfl rfl rfl hl.1 rfl (Nat.le_of_ble_eq_true rfl) dX5_undo_118 ⟨Nat.zero_le _, Nat.zero_le _⟩ (fun r_79 σ78 H locs q80 hP hS => ?_)
                    obtain ⟨rfl, q80⟩ := q80
                    obtain ⟨κ84, eκ84⟩ : ∃ z_ : Zt, z_ = kPerform κ x.toNat 2 0 (κ 7 (d).toNat) (if (2 : Int) = 3 then (-1) else (κ 7 (d).toNat)) := ⟨_, rfl⟩
                    rw [← eκ84] at q80
                    obtain ⟨hR81, hM82, hG83⟩ := q80
                    refine zg_istore_n (lv' := [(3, .int (jI (κ 1 10))), (0, .ref (a 0)), (1, .int (jI x)), (2, .int (jI d))]) C dX5_undo_121 rfl hl (by decide) rfl (fun ls hl => ?_)
                    refine zg_aload_n C dX5_undo_122 rfl (lv_at hl 1 rfl) ?_
                    refine zg_get (j := 9) C X hP (by decide) lyM_0 rfl (zmem uwX5) (by decide) (C.tb flX5_35) (fun _ h9 => h9) rfl dX5_undo_123 ?_
                    refine zg_iload_n C dX5_undo_126 rfl (lv_at hl 3 rfl) ?_
                    refine zg_iconst C dX5_undo_127 ?_
                    refine zg_zast (t0 := 1) (b := true) C X hP hS (by decide) (fun x => lyM_8) rfl (by decide) (by omega) (by omega) dX5_undo_128 (fun H locs hP hS => ?_)
                    have b_85 := bI_01 true
                    obtain ⟨σ86, e87⟩ : ∃ z_ : Zt, z_ = zu σ78 8 (d).toNat (bI true) := ⟨_, rfl⟩
                    rw [← e87] at hP
                    have w_89 : σ86 8 (d).toNat = bI true := by rw [e87]; exact zu_same _ _ _ _
                    have hR88 : rgM σ86 := by rw [e87]; exact rzM_8 hR81 (by omega) (by omega)
                    obtain ⟨κ90, eκ90⟩ : ∃ z_ : Zt, z_ = zu κ84 9 d.toNat 0 := ⟨_, rfl⟩
                    have hM91 : RR κ90 σ86 := by rw [eκ90, e87]; exact RR_8 hM82
                    have hG92 : kMid κ90 := by rw [eκ90]; exact kMid_9 hG83 (by omega) (by omega)
                    refine zg_aload_n C dX5_undo_129 rfl (lv_at hl 1 rfl) ?_
                    refine zg_get (j := 10) C X hP (by decide) lyM_0 rfl (zmem uwX5) (by decide) (C.tb flX5_39) (fun _ h9 => h9) rfl dX5_undo_130 ?_
                    refine zg_iload_n C dX5_undo_133 rfl (lv_at hl 0 rfl) ?_
                    refine zg_iconst C dX5_undo_134 ?_
                    refine zg_zast (t0 := 1) (b := true) C X hP hS (by decide) (fun x => lyM_9) rfl (by decide) (by omega) (by omega) dX5_undo_135 (fun H locs hP hS => ?_)
                    have b_93 := bI_01 true
                    obtain ⟨σ94, e95⟩ : ∃ z_ : Zt, z_ = zu σ86 9 (κ 1 10).toNat (bI true) := ⟨_, rfl⟩
                    rw [← e95] at hP
                    have w_97 : σ94 9 (κ 1 10).toNat = bI true := by rw [e95]; exact zu_same _ _ _ _
                    have hR96 : rgM σ94 := by rw [e95]; exact rzM_9 hR88 (by omega) (by omega)
                    obtain ⟨κ98, eκ98⟩ : ∃ z_ : Zt, z_ = zu κ90 9 (κ 1 10).toNat 0 := ⟨_, rfl⟩
                    have hM99 : RR κ98 σ94 := by rw [eκ98, e95]; exact RR_9 hM91
                    have hG100 : kMid κ98 := by rw [eκ98]; exact kMid_9 hG92 (by omega) (by omega)
                    refine zg_iload_n C dX5_undo_136 rfl (lv_at hl 0 rfl) ?_
                    refine zg_iret C hP hS dX5_undo_137 ?_
                    have h9 : kUndS κ x = κ98 := by rw [eκ98, eκ90, eκ84]; unfold kUndS; rw [if_pos xR, h1, if_neg (by omega), if_neg (show ¬ kFull κ = true by unfold kFull; grind)]; first | (rw [if_pos (by assumption)]; rfl) | (rw [if_neg (by assumption)]; rfl)
                    exact ⟨congrArg jI (by unfold kUndR; rw [if_pos xR, h1, if_neg (by omega), if_neg (show ¬ kFull κ = true by unfold kFull; grind)]), hR96, (by rw [h9]; exact hM99), (by rw [h9]; exact hG100)⟩
                  · refine zg_iconst C dX5_undo_105 ?_
                    refine zg_goto (tgt := 110) C dX5_undo_106 (by decide) ?_
                    refine zg_iconst C dX5_undo_110 ?_
                    refine zg_aload_n C dX5_undo_111 rfl (lv_at hl 0 rfl) ?_
                    refine zg_get (j := 7) C X hP (by decide) lyM_0 rfl (zmem uwX5) (by decide) (C.tb flX5_29) (fun _ h9 => h9) rfl dX5_undo_112 ?_
                    refine zg_iload_n C dX5_undo_115 rfl (lv_at hl 2 rfl) ?_
                    refine zg_iald (t0 := 0) C X hP (by decide) lyM_6 rfl (by decide) (by omega) (by omega) dX5_undo_116 ?_
                    rw [rr_6 hM]
                    have b_101 := rgS_7 hG.1 (d).toNat
                    have b_102 := rgM_6 hR ((d).toNat)
                    refine zg_iconst C dX5_undo_117 ?_
                    refine zg_callV C X hP hS (kX5_madeN l σ hR κ hM hG x 1 0 (κ 7 (d).toNat) (-1) (by omega) (by omega) (by omega) (by omega) (by omega) (by omega) (by omega) (by omega) (by assumption) (by omega) (by omega) (by omega) (by omega) (by assumption)) (cwV 5 C.ts (zgV mlX5_173 imX5_made slX5_made iniX5 cdX5_made) rfl rfl rfl (by decide +kernel) ⟨Nat.le_of_ble_eq_true rfl, Nat.le_of_ble_eq_true rfl⟩) (by decide) lyM_0 rfl rfl rfl hl.1 rfl (Nat.le_of_ble_eq_true rfl) dX5_undo_118 ⟨Nat.zero_le _, Nat.zero_le _⟩ (fun r_104 σ103 H locs q105 hP hS => ?_)
                    obtain ⟨rfl, q105⟩ := q105
                    obtain ⟨κ109, eκ109⟩ : ∃ z_ : Zt, z_ = kPerform κ x.toNat 1 0 (κ 7 (d).toNat) (if (1 : Int) = 3 then (-1) else (κ 7 (d).toNat)) := ⟨_, rfl⟩
                    rw [← eκ109] at q105
                    obtain ⟨hR106, hM107, hG108⟩ := q105
                    refine zg_istore_n (lv' := [(3, .int (jI (κ 1 10))), (0, .ref (a 0)), (1, .int (jI x)), (2, .int (jI d))]) C dX5_undo_121 rfl hl (by decide) rfl (fun ls hl => ?_)
                    refine zg_aload_n C dX5_undo_122 rfl (lv_at hl 1 rfl) ?_
                    refine zg_get (j := 9) C X hP (by decide) lyM_0 rfl (zmem uwX5) (by decide) (C.tb flX5_35) (fun _ h9 => h9) rfl dX5_undo_123 ?_
                    refine zg_iload_n C dX5_undo_126 rfl (lv_at hl 3 rfl) ?_
                    refine zg_iconst C dX5_undo_127 ?_
                    refine zg_zast (t0 := 1) (b := true) C X hP hS (by decide) (fun x => lyM_8) rfl (by decide) (by omega) (by omega) dX5_undo_128 (fun H locs hP hS => ?_)
                    have b_110 := bI_01 true
                    obtain ⟨σ111, e112⟩ : ∃ z_ : Zt, z_ = zu σ103 8 (d).toNat (bI true) := ⟨_, rfl⟩
                    rw [← e112] at hP
                    have w_114 : σ111 8 (d).toNat = bI true := by rw [e112]; exact zu_same _ _ _ _
                    have hR113 : rgM σ111 := by rw [e112]; exact rzM_8 hR106 (by omega) (by omega)
                    obtain ⟨κ115, eκ115⟩ : ∃ z_ : Zt, z_ = zu κ109 9 d.toNat 0 := ⟨_, rfl⟩
                    have hM116 : RR κ115 σ111 := by rw [eκ115, e112]; exact RR_8 hM107
                    have hG117 : kMid κ115 := by rw [eκ115]; exact kMid_9 hG108 (by omega) (by omega)
                    refine zg_aload_n C dX5_undo_129 rfl (lv_at hl 1 rfl) ?_
                    refine zg_get (j := 10) C X hP (by decide) lyM_0 rfl (zmem uwX5) (by decide) (C.tb flX5_39) (fun _ h9 => h9) rfl dX5_undo_130 ?_
                    refine zg_iload_n C dX5_undo_133 rfl (lv_at hl 0 rfl) ?_
                    refine zg_iconst C dX5_undo_134 ?_
                    refine zg_zast (t0 := 1) (b := true) C X hP hS (by decide) (fun x => lyM_9) rfl (by decide) (by omega) (by omega) dX5_undo_135 (fun H locs hP hS => ?_)
                    have b_118 := bI_01 true
                    obtain ⟨σ119, e120⟩ : ∃ z_ : Zt, z_ = zu σ111 9 (κ 1 10).toNat (bI true) := ⟨_, rfl⟩
                    rw [← e120] at hP
                    have w_122 : σ119 9 (κ 1 10).toNat = bI true := by rw [e120]; exact zu_same _ _ _ _
                    have hR121 : rgM σ119 := by rw [e120]; exact rzM_9 hR113 (by omega) (by omega)
                    obtain ⟨κ123, eκ123⟩ : ∃ z_ : Zt, z_ = zu κ115 9 (κ 1 10).toNat 0 := ⟨_, rfl⟩
                    have hM124 : RR κ123 σ119 := by rw [eκ123, e120]; exact RR_9 hM116
                    have hG125 : kMid κ123 := by rw [eκ123]; exact kMid_9 hG117 (by omega) (by omega)
                    refine zg_iload_n C dX5_undo_136 rfl (lv_at hl 0 rfl) ?_
                    refine zg_iret C hP hS dX5_undo_137 ?_
                    have h9 : kUndS κ x = κ123 := by rw [eκ123, eκ115, eκ109]; unfold kUndS; rw [if_pos xR, h1, if_neg (by omega), if_neg (show ¬ kFull κ = true by unfold kFull; grind)]; first | (rw [if_pos (by assumption)]; rfl) | (rw [if_neg (by assumption)]; rfl)
                    exact ⟨congrArg jI (by unfold kUndR; rw [if_pos xR, h1, if_neg (by omega), if_neg (show ¬ kFull κ = true by unfold kFull; grind)]), hR121, (by rw [h9]; exact hM124), (by rw [h9]; exact hG125)⟩
                · refine zg_bipush C dX5_undo_91 (by decide) ?_
                  refine zg_iret C hP hS dX5_undo_93 ?_
                  have h9 : kUndS κ x = κ := by unfold kUndS; rw [if_pos xR, h1, if_neg (by omega), if_pos (show kFull κ = true by unfold kFull; grind)]
                  exact ⟨congrArg jI (by unfold kUndR; rw [if_pos xR, h1, if_neg (by omega), if_pos (show kFull κ = true by unfold kFull; grind)]), hR, (by rw [h9]; exact hM), (by rw [h9]; exact hG)⟩
              · refine zg_bipush C dX5_undo_78 (by decide) ?_
                refine zg_iret C hP hS dX5_undo_80 ?_
                have h1 : kULast κ x = -1 := by first | exact (hE.trans (kLast_end (by omega))) | (exfalso; omega)
                have h9 : kUndS κ x = κ := by unfold kUndS; rw [if_pos xR, if_pos h1]
                exact ⟨congrArg jI (by unfold kUndR; rw [if_pos xR, if_pos h1]), hR, (by rw [h9]; exact hM), (by rw [h9]; exact hG)⟩
            · refine zg_iinc (k := 2) (lv' := [(2, .int (jI (d + -1))), (0, .ref (a 0)), (1, .int (jI x))]) C dX5_undo_68 hl rfl (by decide) rfl (fun ls hl => ?_)
              refine zg_goto (tgt := 17) C dX5_undo_71 (by decide) ?_
              exact ih (d + -1) _ _ _ (by omega) (by omega) (by omega) (hE.trans (kLast_step (by omega) (by omega))) hP hS (lv_sub hl [1, 2, 0] rfl)
        · refine zg_aload_n C dX5_undo_40 rfl (lv_at hl 0 rfl) ?_
          refine zg_get (j := 5) C X hP (by decide) lyM_0 rfl (zmem uwX5) (by decide) (C.tb flX5_23) (fun _ h9 => h9) rfl dX5_undo_41 ?_
          refine zg_iload_n C dX5_undo_44 rfl (lv_at hl 2 rfl) ?_
          refine zg_iald (t0 := 0) C X hP (by decide) lyM_4 rfl (by decide) (by omega) (by omega) dX5_undo_45 ?_
          rw [rr_4 hM]
          have b_126 := rgS_5 hG.1 (d).toNat
          have b_127 := rgM_4 hR ((d).toNat)
          refine zg_iconst C dX5_undo_46 ?_
          refine zg_icmp_ne (tgt := 68) C (by omega) (by omega) (by omega) (by omega) dX5_undo_47 (by decide) (fun c_128 => ?_) (fun c_128 => ?_)
          · refine zg_iinc (k := 2) (lv' := [(2, .int (jI (d + -1))), (0, .ref (a 0)), (1, .int (jI x))]) C dX5_undo_68 hl rfl (by decide) rfl (fun ls hl => ?_)
            refine zg_goto (tgt := 17) C dX5_undo_71 (by decide) ?_
            exact ih (d + -1) _ _ _ (by omega) (by omega) (by omega) (hE.trans (kLast_step (by omega) (by omega))) hP hS (lv_sub hl [1, 2, 0] rfl)
          · refine zg_aload_n C dX5_undo_50 rfl (lv_at hl 0 rfl) ?_
            refine zg_get (j := 9) C X hP (by decide) lyM_0 rfl (zmem uwX5) (by decide) (C.tb flX5_35) (fun _ h9 => h9) rfl dX5_undo_51 ?_
            refine zg_iload_n C dX5_undo_54 rfl (lv_at hl 2 rfl) ?_
            refine zg_zald (t0 := 1) C X hP (by decide) lyM_8 rfl (by decide) (by omega) (by omega) dX5_undo_55 ?_
            have b_129 := rgM_8 hR ((d).toNat)
            refine zg_if_ne (tgt := 68) C (by omega) (by omega) dX5_undo_56 (by decide) (fun c_130 => ?_) (fun c_130 => ?_)
            · refine zg_iinc (k := 2) (lv' := [(2, .int (jI (d + -1))), (0, .ref (a 0)), (1, .int (jI x))]) C dX5_undo_68 hl rfl (by decide) rfl (fun ls hl => ?_)
              refine zg_goto (tgt := 17) C dX5_undo_71 (by decide) ?_
              exact ih (d + -1) _ _ _ (by omega) (by omega) (by omega) (hE.trans (kLast_step (by omega) (by omega))) hP hS (lv_sub hl [1, 2, 0] rfl)
            · refine zg_aload_n C dX5_undo_59 rfl (lv_at hl 0 rfl) ?_
              refine zg_get (j := 10) C X hP (by decide) lyM_0 rfl (zmem uwX5) (by decide) (C.tb flX5_39) (fun _ h9 => h9) rfl dX5_undo_60 ?_
              refine zg_iload_n C dX5_undo_63 rfl (lv_at hl 2 rfl) ?_
              refine zg_zald (t0 := 1) C X hP (by decide) lyM_9 rfl (by decide) (by omega) (by omega) dX5_undo_64 ?_
              have b_131 := rgM_9 hR ((d).toNat)
              refine zg_if_eq (tgt := 74) C (by omega) (by omega) dX5_undo_65 (by decide) (fun c_132 => ?_) (fun c_132 => ?_)
              · refine zg_iload_n C dX5_undo_74 rfl (lv_at hl 2 rfl) ?_
                refine zg_if_ge (tgt := 81) C (by omega) (by omega) dX5_undo_75 (by decide) (fun c_133 => ?_) (fun c_133 => ?_)
                · have h1 : kULast κ x = d := by first | (exfalso; omega) | exact hE.trans (kLast_hit (by omega) (by omega) (by assumption))
                  refine zg_aload_n C dX5_undo_81 rfl (lv_at hl 0 rfl) ?_
                  refine zg_get (j := 1) C X hP (by decide) lyM_0 rfl (zmem uwX5) (by decide) (C.tb flX5_135) (fun _ h9 => h9) rfl dX5_undo_82 ?_
                  rw [rr_0_1 hM]
                  have b_134 := rgS_1_10 hG.1
                  have b_135 := rgM_0_1 hR
                  refine zg_sipush C dX5_undo_85 (by decide) ?_
                  refine zg_icmp_ne (tgt := 94) C (by omega) (by omega) (by omega) (by omega) dX5_undo_88 (by decide) (fun c_136 => ?_) (fun c_136 => ?_)
                  · have hd3 := hG.d d.toNat (by omega)
                    have h6 := hd3.2.2.1
                    refine zg_aload_n C dX5_undo_94 rfl (lv_at hl 0 rfl) ?_
                    refine zg_iload_n C dX5_undo_95 rfl (lv_at hl 1 rfl) ?_
                    refine zg_aload_n C dX5_undo_96 rfl (lv_at hl 0 rfl) ?_
                    refine zg_get (j := 5) C X hP (by decide) lyM_0 rfl (zmem uwX5) (by decide) (C.tb flX5_23) (fun _ h9 => h9) rfl dX5_undo_97 ?_
                    refine zg_iload_n C dX5_undo_100 rfl (lv_at hl 2 rfl) ?_
                    refine zg_iald (t0 := 0) C X hP (by decide) lyM_4 rfl (by decide) (by omega) (by omega) dX5_undo_101 ?_
                    rw [rr_4 hM]
                    have b_137 := rgS_5 hG.1 (d).toNat
                    have b_138 := rgM_4 hR ((d).toNat)
                    refine zg_if_ne (tgt := 109) C (by omega) (by omega) dX5_undo_102 (by decide) (fun c_139 => ?_) (fun c_139 => ?_)
                    · refine zg_iconst C dX5_undo_109 ?_
                      refine zg_iconst C dX5_undo_110 ?_
                      refine zg_aload_n C dX5_undo_111 rfl (lv_at hl 0 rfl) ?_
                      refine zg_get (j := 7) C X hP (by decide) lyM_0 rfl (zmem uwX5) (by decide) (C.tb flX5_29) (fun _ h9 => h9) rfl dX5_undo_112 ?_
                      refine zg_iload_n C dX5_undo_115 rfl (lv_at hl 2 rfl) ?_
                      refine zg_iald (t0 := 0) C X hP (by decide) lyM_6 rfl (by decide) (by omega) (by omega) dX5_undo_116 ?_
                      rw [rr_6 hM]
                      have b_140 := rgS_7 hG.1 (d).toNat
                      have b_141 := rgM_6 hR ((d).toNat)
                      refine zg_iconst C dX5_undo_117 ?_
                      refine zg_callV C X hP hS (kX5_madeN l σ hR κ hM hG x 2 0 (κ 7 (d).toNat) (-1) (by omega) (by omega) (by omega) (by omega) (by omega) (by omega) (by omega) (by omega) (by assumption) (by omega) (by omega) (by omega) (by omega) (by assumption)) (cwV 5 C.ts (zgV mlX5_173 imX5_made slX5_made iniX5 cdX5_made) rfl rfl rfl (by decide +kernel) ⟨Nat.le_of_ble_eq_true rfl, Nat.le_of_ble_eq_true rfl⟩) (by decide) lyM_0 rfl rfl rfl hl.1 rfl (Nat.le_of_ble_eq_true rfl) dX5_undo_118 ⟨Nat.zero_le _, Nat.zero_le _⟩ (fun r_143 σ142 H locs q144 hP hS => ?_)
                      obtain ⟨rfl, q144⟩ := q144
                      obtain ⟨κ148, eκ148⟩ : ∃ z_ : Zt, z_ = kPerform κ x.toNat 2 0 (κ 7 (d).toNat) (if (2 : Int) = 3 then (-1) else (κ 7 (d).toNat)) := ⟨_, rfl⟩
                      rw [← eκ148] at q144
                      obtain ⟨hR145, hM146, hG147⟩ := q144
                      refine zg_istore_n (lv' := [(3, .int (jI (κ 1 10))), (0, .ref (a 0)), (1, .int (jI x)), (2, .int (jI d))]) C dX5_undo_121 rfl hl (by decide) rfl (fun ls hl => ?_)
                      refine zg_aload_n C dX5_undo_122 rfl (lv_at hl 1 rfl) ?_
                      refine zg_get (j := 9) C X hP (by decide) lyM_0 rfl (zmem uwX5) (by decide) (C.tb flX5_35) (fun _ h9 => h9) rfl dX5_undo_123 ?_
                      refine zg_iload_n C dX5_undo_126 rfl (lv_at hl 3 rfl) ?_
                      refine zg_iconst C dX5_undo_127 ?_
                      refine zg_zast (t0 := 1) (b := true) C X hP hS (by decide) (fun x => lyM_8) rfl (by decide) (by omega) (by omega) dX5_undo_128 (fun H locs hP hS => ?_)
                      have b_149 := bI_01 true
                      obtain ⟨σ150, e151⟩ : ∃ z_ : Zt, z_ = zu σ142 8 (d).toNat (bI true) := ⟨_, rfl⟩
                      rw [← e151] at hP
                      have w_153 : σ150 8 (d).toNat = bI true := by rw [e151]; exact zu_same _ _ _ _
                      have hR152 : rgM σ150 := by rw [e151]; exact rzM_8 hR145 (by omega) (by omega)
                      obtain ⟨κ154, eκ154⟩ : ∃ z_ : Zt, z_ = zu κ148 9 d.toNat 0 := ⟨_, rfl⟩
                      have hM155 : RR κ154 σ150 := by rw [eκ154, e151]; exact RR_8 hM146
                      have hG156 : kMid κ154 := by rw [eκ154]; exact kMid_9 hG147 (by omega) (by omega)
                      refine zg_aload_n C dX5_undo_129 rfl (lv_at hl 1 rfl) ?_
                      refine zg_get (j := 10) C X hP (by decide) lyM_0 rfl (zmem uwX5) (by decide) (C.tb flX5_39) (fun _ h9 => h9) rfl dX5_undo_130 ?_
                      refine zg_iload_n C dX5_undo_133 rfl (lv_at hl 0 rfl) ?_
                      refine zg_iconst C dX5_undo_134 ?_
                      refine zg_zast (t0 := 1) (b := true) C X hP hS (by decide) (fun x => lyM_9) rfl (by decide) (by omega) (by omega) dX5_undo_135 (fun H locs hP hS => ?_)
                      have b_157 := bI_01 true
                      obtain ⟨σ158, e159⟩ : ∃ z_ : Zt, z_ = zu σ150 9 (κ 1 10).toNat (bI true) := ⟨_, rfl⟩
                      rw [← e159] at hP
                      have w_161 : σ158 9 (κ 1 10).toNat = bI true := by rw [e159]; exact zu_same _ _ _ _
                      have hR160 : rgM σ158 := by rw [e159]; exact rzM_9 hR152 (by omega) (by omega)
                      obtain ⟨κ162, eκ162⟩ : ∃ z_ : Zt, z_ = zu κ154 9 (κ 1 10).toNat 0 := ⟨_, rfl⟩
                      have hM163 : RR κ162 σ158 := by rw [eκ162, e159]; exact RR_9 hM155
                      have hG164 : kMid κ162 := by rw [eκ162]; exact kMid_9 hG156 (by omega) (by omega)
                      refine zg_iload_n C dX5_undo_136 rfl (lv_at hl 0 rfl) ?_
                      refine zg_iret C hP hS dX5_undo_137 ?_
                      have h9 : kUndS κ x = κ162 := by rw [eκ162, eκ154, eκ148]; unfold kUndS; rw [if_pos xR, h1, if_neg (by omega), if_neg (show ¬ kFull κ = true by unfold kFull; grind)]; first | (rw [if_pos (by assumption)]; rfl) | (rw [if_neg (by assumption)]; rfl)
                      exact ⟨congrArg jI (by unfold kUndR; rw [if_pos xR, h1, if_neg (by omega), if_neg (show ¬ kFull κ = true by unfold kFull; grind)]), hR160, (by rw [h9]; exact hM163), (by rw [h9]; exact hG164)⟩
                    · refine zg_iconst C dX5_undo_105 ?_
                      refine zg_goto (tgt := 110) C dX5_undo_106 (by decide) ?_
                      refine zg_iconst C dX5_undo_110 ?_
                      refine zg_aload_n C dX5_undo_111 rfl (lv_at hl 0 rfl) ?_
                      refine zg_get (j := 7) C X hP (by decide) lyM_0 rfl (zmem uwX5) (by decide) (C.tb flX5_29) (fun _ h9 => h9) rfl dX5_undo_112 ?_
                      refine zg_iload_n C dX5_undo_115 rfl (lv_at hl 2 rfl) ?_
                      refine zg_iald (t0 := 0) C X hP (by decide) lyM_6 rfl (by decide) (by omega) (by omega) dX5_undo_116 ?_
                      rw [rr_6 hM]
                      have b_165 := rgS_7 hG.1 (d).toNat
                      have b_166 := rgM_6 hR ((d).toNat)
                      refine zg_iconst C dX5_undo_117 ?_
                      refine zg_callV C X hP hS (kX5_madeN l σ hR κ hM hG x 1 0 (κ 7 (d).toNat) (-1) (by omega) (by omega) (by omega) (by omega) (by omega) (by omega) (by omega) (by omega) (by assumption) (by omega) (by omega) (by omega) (by omega) (by assumption)) (cwV 5 C.ts (zgV mlX5_173 imX5_made slX5_made iniX5 cdX5_made) rfl rfl rfl (by decide +kernel) ⟨Nat.le_of_ble_eq_true rfl, Nat.le_of_ble_eq_true rfl⟩) (by decide) lyM_0 rfl rfl rfl hl.1 rfl (Nat.le_of_ble_eq_true rfl) dX5_undo_118 ⟨Nat.zero_le _, Nat.zero_le _⟩ (fun r_168 σ167 H locs q169 hP hS => ?_)
                      obtain ⟨rfl, q169⟩ := q169
                      obtain ⟨κ173, eκ173⟩ : ∃ z_ : Zt, z_ = kPerform κ x.toNat 1 0 (κ 7 (d).toNat) (if (1 : Int) = 3 then (-1) else (κ 7 (d).toNat)) := ⟨_, rfl⟩
                      rw [← eκ173] at q169
                      obtain ⟨hR170, hM171, hG172⟩ := q169
                      refine zg_istore_n (lv' := [(3, .int (jI (κ 1 10))), (0, .ref (a 0)), (1, .int (jI x)), (2, .int (jI d))]) C dX5_undo_121 rfl hl (by decide) rfl (fun ls hl => ?_)
                      refine zg_aload_n C dX5_undo_122 rfl (lv_at hl 1 rfl) ?_
                      refine zg_get (j := 9) C X hP (by decide) lyM_0 rfl (zmem uwX5) (by decide) (C.tb flX5_35) (fun _ h9 => h9) rfl dX5_undo_123 ?_
                      refine zg_iload_n C dX5_undo_126 rfl (lv_at hl 3 rfl) ?_
                      refine zg_iconst C dX5_undo_127 ?_
                      refine zg_zast (t0 := 1) (b := true) C X hP hS (by decide) (fun x => lyM_8) rfl (by decide) (by omega) (by omega) dX5_undo_128 (fun H locs hP hS => ?_)
                      have b_174 := bI_01 true
                      obtain ⟨σ175, e176⟩ : ∃ z_ : Zt, z_ = zu σ167 8 (d).toNat (bI true) := ⟨_, rfl⟩
                      rw [← e176] at hP
                      have w_178 : σ175 8 (d).toNat = bI true := by rw [e176]; exact zu_same _ _ _ _
                      have hR177 : rgM σ175 := by rw [e176]; exact rzM_8 hR170 (by omega) (by omega)
                      obtain ⟨κ179, eκ179⟩ : ∃ z_ : Zt, z_ = zu κ173 9 d.toNat 0 := ⟨_, rfl⟩
                      have hM180 : RR κ179 σ175 := by rw [eκ179, e176]; exact RR_8 hM171
                      have hG181 : kMid κ179 := by rw [eκ179]; exact kMid_9 hG172 (by omega) (by omega)
                      refine zg_aload_n C dX5_undo_129 rfl (lv_at hl 1 rfl) ?_
                      refine zg_get (j := 10) C X hP (by decide) lyM_0 rfl (zmem uwX5) (by decide) (C.tb flX5_39) (fun _ h9 => h9) rfl dX5_undo_130 ?_
                      refine zg_iload_n C dX5_undo_133 rfl (lv_at hl 0 rfl) ?_
                      refine zg_iconst C dX5_undo_134 ?_
                      refine zg_zast (t0 := 1) (b := true) C X hP hS (by decide) (fun x => lyM_9) rfl (by decide) (by omega) (by omega) dX5_undo_135 (fun H locs hP hS => ?_)
                      have b_182 := bI_01 true
                      obtain ⟨σ183, e184⟩ : ∃ z_ : Zt, z_ = zu σ175 9 (κ 1 10).toNat (bI true) := ⟨_, rfl⟩
                      rw [← e184] at hP
                      have w_186 : σ183 9 (κ 1 10).toNat = bI true := by rw [e184]; exact zu_same _ _ _ _
                      have hR185 : rgM σ183 := by rw [e184]; exact rzM_9 hR177 (by omega) (by omega)
                      obtain ⟨κ187, eκ187⟩ : ∃ z_ : Zt, z_ = zu κ179 9 (κ 1 10).toNat 0 := ⟨_, rfl⟩
                      have hM188 : RR κ187 σ183 := by rw [eκ187, e184]; exact RR_9 hM180
                      have hG189 : kMid κ187 := by rw [eκ187]; exact kMid_9 hG181 (by omega) (by omega)
                      refine zg_iload_n C dX5_undo_136 rfl (lv_at hl 0 rfl) ?_
                      refine zg_iret C hP hS dX5_undo_137 ?_
                      have h9 : kUndS κ x = κ187 := by rw [eκ187, eκ179, eκ173]; unfold kUndS; rw [if_pos xR, h1, if_neg (by omega), if_neg (show ¬ kFull κ = true by unfold kFull; grind)]; first | (rw [if_pos (by assumption)]; rfl) | (rw [if_neg (by assumption)]; rfl)
                      exact ⟨congrArg jI (by unfold kUndR; rw [if_pos xR, h1, if_neg (by omega), if_neg (show ¬ kFull κ = true by unfold kFull; grind)]), hR185, (by rw [h9]; exact hM188), (by rw [h9]; exact hG189)⟩
                  · refine zg_bipush C dX5_undo_91 (by decide) ?_
                    refine zg_iret C hP hS dX5_undo_93 ?_
                    have h9 : kUndS κ x = κ := by unfold kUndS; rw [if_pos xR, h1, if_neg (by omega), if_pos (show kFull κ = true by unfold kFull; grind)]
                    exact ⟨congrArg jI (by unfold kUndR; rw [if_pos xR, h1, if_neg (by omega), if_pos (show kFull κ = true by unfold kFull; grind)]), hR, (by rw [h9]; exact hM), (by rw [h9]; exact hG)⟩
                · refine zg_bipush C dX5_undo_78 (by decide) ?_
                  refine zg_iret C hP hS dX5_undo_80 ?_
                  have h1 : kULast κ x = -1 := by first | exact (hE.trans (kLast_end (by omega))) | (exfalso; omega)
                  have h9 : kUndS κ x = κ := by unfold kUndS; rw [if_pos xR, if_pos h1]
                  exact ⟨congrArg jI (by unfold kUndR; rw [if_pos xR, if_pos h1]), hR, (by rw [h9]; exact hM), (by rw [h9]; exact hG)⟩
              · refine zg_iinc (k := 2) (lv' := [(2, .int (jI (d + -1))), (0, .ref (a 0)), (1, .int (jI x))]) C dX5_undo_68 hl rfl (by decide) rfl (fun ls hl => ?_)
                refine zg_goto (tgt := 17) C dX5_undo_71 (by decide) ?_
                exact ih (d + -1) _ _ _ (by omega) (by omega) (by omega) (hE.trans (kLast_step (by omega) (by omega))) hP hS (lv_sub hl [1, 2, 0] rfl)
set_option maxHeartbeats 4000000 in
set_option maxRecDepth 100000 in
theorem kX5_undo (l : Launch) {D : va_G} {a : Nat → Nat} {cI cZ : ClassId} (σ : Zt) (hR : rgM σ) (κ : Zt) (hM : RR κ σ) (hG : kMid κ) (x : Int) (x0 : -2147483648 ≤ x) (x1 : x < 2147483648) (gd : ∀ r : Nat, r < 6 → gR κ r) : zc l D vwCl (tyM cI cZ) 28 (layM cI cZ a) a yX5_undo wsX5_undo ({ frames := 4, cells := 0, slots := 0, locals := 98 }) [.ref (a 0), .int (jI x)] σ (fun r_ u_ => r_ = jI (kUndR κ x) ∧ rgM u_ ∧ RR (kUndS κ x) u_ ∧ kMid (kUndS κ x)) := by
  refine zc_of (cc := cX5_undo) (maxL := 4) (ret := some .int) (own := RX5) (by decide) rfl rfl (Nat.le_of_ble_eq_true rfl) rfl ?_
  intro p e s m below meth c A ls C X hP hS hl
  have bT := rgS_1_10 hG.1
  have bP := rgS_11_4 hG.1
  have bPT := hG.e.1
  refine zg_iload_n C dX5_undo_0 rfl (lv_at hl 1 rfl) ?_
  refine zg_callS C X hP hS (kX5_isReplica l σ hR κ hM hG x (by omega) (by omega)) (cwS 1 C.ts (zgS mlX5_102 stX5_isReplica iniX5 cdX5_isReplica) rfl rfl rfl (by decide +kernel) ⟨Nat.le_of_ble_eq_true rfl, Nat.le_of_ble_eq_true rfl⟩) rfl hl.1 rfl (Nat.le_of_ble_eq_true rfl) dX5_undo_1 ⟨Nat.zero_le _, Nat.zero_le _⟩ (fun r_191 σ190 H locs q192 hP hS => ?_)
  obtain ⟨rfl, q192⟩ := q192
  rw [q192] at hP
  refine zg_ifneB (tgt := 10) C dX5_undo_4 (by decide) (fun c_193 => ?_) (fun c_193 => ?_)
  · have b_194 := kIsR_t c_193
    refine zg_aload_n C dX5_undo_10 rfl (lv_at hl 0 rfl) ?_
    refine zg_get (j := 1) C X hP (by decide) lyM_0 rfl (zmem uwX5) (by decide) (C.tb flX5_135) (fun _ h9 => h9) rfl dX5_undo_11 ?_
    rw [rr_0_1 hM]
    have b_195 := rgS_1_10 hG.1
    have b_196 := rgM_0_1 hR
    refine zg_iconst C dX5_undo_14 ?_
    refine zg_isub C dX5_undo_15 ?_
    refine zg_istore_n (lv' := [(2, .int (jI ((κ 1 10) - 1))), (0, .ref (a 0)), (1, .int (jI x))]) C dX5_undo_16 rfl hl (by decide) rfl (fun ls hl => ?_)
    exact lpX5_undo_17 σ hR κ hM hG x x0 x1 gd (by assumption) C X 402 ((κ 1 10) - 1) _ _ _ (by omega) (by omega) (by omega) (by unfold kULast; rw [show κ 1 10 - 1 + 1 = κ 1 10 by omega]) hP hS (lv_sub hl [1, 2, 0] rfl)
  · have b_197 := kIsR_f c_193
    refine zg_bipush C dX5_undo_7 (by decide) ?_
    refine zg_iret C hP hS dX5_undo_9 ?_
    have h9 : kUndS κ x = κ := by grind [kUndS]
    exact ⟨congrArg jI (by grind [kUndR]), hR, (by rw [h9]; exact hM), (by rw [h9]; exact hG)⟩
set_option maxHeartbeats 4000000 in
set_option maxRecDepth 100000 in
theorem kX5_mark (l : Launch) {D : va_G} {a : Nat → Nat} {cI cZ : ClassId} (σ : Zt) (hR : rgM σ) (κ : Zt) (hM : RR κ σ) (hG : kMid κ) (x : Int) (f : Int) (t : Int) (k : Int) (on : Bool) (x0 : -2147483648 ≤ x) (x1 : x < 2147483648) (f0 : -2147483648 ≤ f) (f1 : f < 2147483648) (t0 : -2147483648 ≤ t) (t1 : t < 2147483648) (k0 : -2147483648 ≤ k) (k1 : k < 2147483648) (gd : ∀ r : Nat, r < 6 → gR κ r) : zc l D vwCl (tyM cI cZ) 28 (layM cI cZ a) a yX5_mark wsX5_mark ({ frames := 4, cells := 0, slots := 0, locals := 98 }) [.ref (a 0), .int (jI x), .int (jI f), .int (jI t), .int (jI k), .int (jI (bI on))] σ (fun r_ u_ => r_ = jI (kMarR κ x f t k) ∧ rgM u_ ∧ RR (kMarS κ x f t k on) u_ ∧ kMid (kMarS κ x f t k on)) := by
  refine zc_of (cc := cX5_mark) (maxL := 6) (ret := some .int) (own := RX5) (by decide) rfl rfl (Nat.le_of_ble_eq_true rfl) rfl ?_
  intro p e s m below meth c A ls C X hP hS hl
  have bT := rgS_1_10 hG.1
  have bP := rgS_11_4 hG.1
  have bPT := hG.e.1
  refine zg_iload_n C dX5_mark_0 rfl (lv_at hl 1 rfl) ?_
  refine zg_callS C X hP hS (kX5_isReplica l σ hR κ hM hG x (by omega) (by omega)) (cwS 1 C.ts (zgS mlX5_102 stX5_isReplica iniX5 cdX5_isReplica) rfl rfl rfl (by decide +kernel) ⟨Nat.le_of_ble_eq_true rfl, Nat.le_of_ble_eq_true rfl⟩) rfl hl.1 rfl (Nat.le_of_ble_eq_true rfl) dX5_mark_1 ⟨Nat.zero_le _, Nat.zero_le _⟩ (fun r_2 σ1 H locs q3 hP hS => ?_)
  obtain ⟨rfl, q3⟩ := q3
  rw [q3] at hP
  refine zg_ifneB (tgt := 10) C dX5_mark_4 (by decide) (fun c_4 => ?_) (fun c_4 => ?_)
  · have b_5 := kIsR_t c_4
    refine zg_iload_n C dX5_mark_10 rfl (lv_at hl 2 rfl) ?_
    refine zg_i2l C (by omega) (by omega) dX5_mark_11 ?_
    refine zg_lconst C 0 rfl dX5_mark_12 ?_
    refine zg_iload_n C dX5_mark_13 rfl (lv_at hl 3 rfl) ?_
    refine zg_i2l C (by omega) (by omega) dX5_mark_14 ?_
    refine zg_callS C X hP hS (kX5_in l σ hR κ hM hG f 0 t (by omega) (by omega) (by omega) (by omega) (by omega) (by omega)) (cwS 3 C.ts (zgS mlX5_98 stX5_in iniX5 cdX5_in) rfl rfl rfl (by decide +kernel) ⟨Nat.le_of_ble_eq_true rfl, Nat.le_of_ble_eq_true rfl⟩) rfl hl.1 rfl (Nat.le_of_ble_eq_true rfl) dX5_mark_15 ⟨Nat.zero_le _, Nat.zero_le _⟩ (fun r_7 σ6 H locs q8 hP hS => ?_)
    obtain ⟨rfl, q8⟩ := q8
    rw [q8] at hP
    refine zg_ifeqB (tgt := 51) C dX5_mark_18 (by decide) (fun c_9 => ?_) (fun c_9 => ?_)
    · have b_10 := mIn_f c_9
      refine zg_bipush C dX5_mark_51 (by decide) ?_
      refine zg_iret C hP hS dX5_mark_53 ?_
      have h2 : ¬ kMarB κ x f t k = true := by rw [kMarB_f hG (by omega)]; decide
      have h9 : kMarS κ x f t k on = κ := by unfold kMarS; rw [if_pos (by assumption), if_neg h2]
      exact ⟨congrArg jI (by unfold kMarR; rw [if_pos (by assumption), if_neg h2]), hR, (by rw [h9]; exact hM), (by rw [h9]; exact hG)⟩
    · have b_11 := mIn_t c_9
      refine zg_iload_n C dX5_mark_21 rfl (lv_at hl 3 rfl) ?_
      refine zg_i2l C (by omega) (by omega) dX5_mark_22 ?_
      refine zg_lconst C 0 rfl dX5_mark_23 ?_
      refine zg_aload_n C dX5_mark_24 rfl (lv_at hl 0 rfl) ?_
      refine zg_iload_n C dX5_mark_25 rfl (lv_at hl 1 rfl) ?_
      refine zg_callV C X hP hS (kX5_sizeOf l σ hR κ hM hG x (by omega) (by omega)) (cwV 1 C.ts (zgV mlX5_177 imX5_sizeOf slX5_sizeOf iniX5 cdX5_sizeOf) rfl rfl rfl (by decide +kernel) ⟨Nat.le_of_ble_eq_true rfl, Nat.le_of_ble_eq_true rfl⟩) (by decide) lyM_0 rfl rfl rfl hl.1 rfl (Nat.le_of_ble_eq_true rfl) dX5_mark_26 ⟨Nat.zero_le _, Nat.zero_le _⟩ (fun r_13 σ12 H locs q14 hP hS => ?_)
      obtain ⟨rfl, q14⟩ := q14
      have b_15 := kLen_rg hG.1 x.toNat
      rw [q14] at hP
      refine zg_iconst C dX5_mark_29 ?_
      refine zg_isub C dX5_mark_30 ?_
      refine zg_i2l C (by omega) (by omega) dX5_mark_31 ?_
      refine zg_callS C X hP hS (kX5_in l σ hR κ hM hG t 0 ((kLen κ x.toNat) - 1) (by omega) (by omega) (by omega) (by omega) (by omega) (by omega)) (cwS 3 C.ts (zgS mlX5_98 stX5_in iniX5 cdX5_in) rfl rfl rfl (by decide +kernel) ⟨Nat.le_of_ble_eq_true rfl, Nat.le_of_ble_eq_true rfl⟩) rfl hl.1 rfl (Nat.le_of_ble_eq_true rfl) dX5_mark_32 ⟨Nat.zero_le _, Nat.zero_le _⟩ (fun r_17 σ16 H locs q18 hP hS => ?_)
      obtain ⟨rfl, q18⟩ := q18
      rw [q18] at hP
      refine zg_ifeqB (tgt := 51) C dX5_mark_35 (by decide) (fun c_19 => ?_) (fun c_19 => ?_)
      · have b_20 := mIn_f c_19
        refine zg_bipush C dX5_mark_51 (by decide) ?_
        refine zg_iret C hP hS dX5_mark_53 ?_
        have h2 : ¬ kMarB κ x f t k = true := by rw [kMarB_f hG (by omega)]; decide
        have h9 : kMarS κ x f t k on = κ := by unfold kMarS; rw [if_pos (by assumption), if_neg h2]
        exact ⟨congrArg jI (by unfold kMarR; rw [if_pos (by assumption), if_neg h2]), hR, (by rw [h9]; exact hM), (by rw [h9]; exact hG)⟩
      · have b_21 := mIn_t c_19
        refine zg_iload C dX5_mark_38 (lv_at hl 4 rfl) ?_
        refine zg_i2l C (by omega) (by omega) dX5_mark_40 ?_
        refine zg_lconst C 0 rfl dX5_mark_41 ?_
        refine zg_ldc2 (v := 7) C (C.tb klX5_190) rfl dX5_mark_42 ?_
        refine zg_callS C X hP hS (kX5_in l σ hR κ hM hG k 0 7 (by omega) (by omega) (by omega) (by omega) (by omega) (by omega)) (cwS 3 C.ts (zgS mlX5_98 stX5_in iniX5 cdX5_in) rfl rfl rfl (by decide +kernel) ⟨Nat.le_of_ble_eq_true rfl, Nat.le_of_ble_eq_true rfl⟩) rfl hl.1 rfl (Nat.le_of_ble_eq_true rfl) dX5_mark_45 ⟨Nat.zero_le _, Nat.zero_le _⟩ (fun r_23 σ22 H locs q24 hP hS => ?_)
        obtain ⟨rfl, q24⟩ := q24
        rw [q24] at hP
        refine zg_ifneB (tgt := 54) C dX5_mark_48 (by decide) (fun c_25 => ?_) (fun c_25 => ?_)
        · have b_26 := mIn_t c_25
          obtain ⟨h2, h3, h4, h6⟩ := kSignAt_in hG (r := x.toNat) (q := f) (by omega) (by omega)
          obtain ⟨i2, i3, i4, i6⟩ := kSignAt_in hG (r := x.toNat) (q := t) (by omega) (by omega)
          have h5 := kMarB_t h2 i2 (by omega) (k := k) (by omega) (by omega)
          refine zg_aload_n C dX5_mark_54 rfl (lv_at hl 0 rfl) ?_
          refine zg_get (j := 1) C X hP (by decide) lyM_0 rfl (zmem uwX5) (by decide) (C.tb flX5_135) (fun _ h9 => h9) rfl dX5_mark_55 ?_
          rw [rr_0_1 hM]
          have b_27 := rgS_1_10 hG.1
          have b_28 := rgM_0_1 hR
          refine zg_sipush C dX5_mark_58 (by decide) ?_
          refine zg_icmp_ne (tgt := 69) C (by omega) (by omega) (by omega) (by omega) dX5_mark_61 (by decide) (fun c_29 => ?_) (fun c_29 => ?_)
          · refine zg_aload_n C dX5_mark_69 rfl (lv_at hl 0 rfl) ?_
            refine zg_iload_n C dX5_mark_70 rfl (lv_at hl 1 rfl) ?_
            refine zg_iconst C dX5_mark_71 ?_
            refine zg_iload C dX5_mark_72 (lv_at hl 4 rfl) ?_
            refine zg_iload C dX5_mark_74 (lv_at hl 5 rfl) ?_
            refine zg_ifeqB (tgt := 84) C dX5_mark_76 (by decide) (fun c_30 => ?_) (fun c_30 => ?_)
            · refine zg_iconst C dX5_mark_84 ?_
              refine zg_iadd C dX5_mark_85 ?_
              refine zg_aload_n C dX5_mark_86 rfl (lv_at hl 0 rfl) ?_
              refine zg_iload_n C dX5_mark_87 rfl (lv_at hl 1 rfl) ?_
              refine zg_iload_n C dX5_mark_88 rfl (lv_at hl 2 rfl) ?_
              refine zg_callV C X hP hS (kX5_signAt l σ hR κ hM hG x f (by omega) (by omega) (by omega) (by omega)) (cwV 2 C.ts (zgV mlX5_162 imX5_signAt slX5_signAt iniX5 cdX5_signAt) rfl rfl rfl (by decide +kernel) ⟨Nat.le_of_ble_eq_true rfl, Nat.le_of_ble_eq_true rfl⟩) (by decide) lyM_0 rfl rfl rfl hl.1 rfl (Nat.le_of_ble_eq_true rfl) dX5_mark_89 ⟨Nat.zero_le _, Nat.zero_le _⟩ (fun r_32 σ31 H locs q33 hP hS => ?_)
              obtain ⟨rfl, q33⟩ := q33
              have b_34 := kSignAt_rg hG.1 x.toNat f
              rw [q33] at hP
              refine zg_aload_n C dX5_mark_92 rfl (lv_at hl 0 rfl) ?_
              refine zg_iload_n C dX5_mark_93 rfl (lv_at hl 1 rfl) ?_
              refine zg_iload_n C dX5_mark_94 rfl (lv_at hl 3 rfl) ?_
              refine zg_callV C X hP hS (kX5_signAt l σ hR κ hM hG x t (by omega) (by omega) (by omega) (by omega)) (cwV 2 C.ts (zgV mlX5_162 imX5_signAt slX5_signAt iniX5 cdX5_signAt) rfl rfl rfl (by decide +kernel) ⟨Nat.le_of_ble_eq_true rfl, Nat.le_of_ble_eq_true rfl⟩) (by decide) lyM_0 rfl rfl rfl hl.1 rfl (Nat.le_of_ble_eq_true rfl) dX5_mark_95 ⟨Nat.zero_le _, Nat.zero_le _⟩ (fun r_36 σ35 H locs q37 hP hS => ?_)
              obtain ⟨rfl, q37⟩ := q37
              have b_38 := kSignAt_rg hG.1 x.toNat t
              rw [q37] at hP
              refine zg_callV C X hP hS (kX5_madeN l σ hR κ hM hG x 3 (k + 0) (kSignAt κ x.toNat f) (kSignAt κ x.toNat t) (by omega) (by omega) (by omega) (by omega) (by omega) (by omega) (by omega) (by omega) (by assumption) (by omega) (by omega) (fun _ => ⟨i3, i6⟩) (by omega) (by assumption)) (cwV 5 C.ts (zgV mlX5_173 imX5_made slX5_made iniX5 cdX5_made) rfl rfl rfl (by decide +kernel) ⟨Nat.le_of_ble_eq_true rfl, Nat.le_of_ble_eq_true rfl⟩) (by decide) lyM_0 rfl rfl rfl hl.1 rfl (Nat.le_of_ble_eq_true rfl) dX5_mark_98 ⟨Nat.zero_le _, Nat.zero_le _⟩ (fun r_40 σ39 H locs q41 hP hS => ?_)
              obtain ⟨rfl, q41⟩ := q41
              obtain ⟨κ45, eκ45⟩ : ∃ z_ : Zt, z_ = kPerform κ x.toNat 3 (k + 0) (kSignAt κ x.toNat f) (if (3 : Int) = 3 then (kSignAt κ x.toNat t) else (kSignAt κ x.toNat f)) := ⟨_, rfl⟩
              rw [← eκ45] at q41
              obtain ⟨hR42, hM43, hG44⟩ := q41
              refine zg_iret C hP hS dX5_mark_101 ?_
              have h9 : kMarS κ x f t k on = κ45 := by rw [eκ45]; unfold kMarS; rw [if_pos (by assumption), if_pos h5]; first | rw [if_pos (show kFull κ = true by unfold kFull; grind)] | (rw [if_neg (show ¬ kFull κ = true by unfold kFull; grind), if_pos (by assumption)]; rfl) | (rw [if_neg (show ¬ kFull κ = true by unfold kFull; grind), if_neg (by simp [c_4, c_9, c_19, c_25, c_29, c_30]), Int.add_zero]; rfl)
              exact ⟨congrArg jI (by unfold kMarR; rw [if_pos (by assumption), if_pos h5]; first | rw [if_pos (show kFull κ = true by unfold kFull; grind)] | rw [if_neg (show ¬ kFull κ = true by unfold kFull; grind)]), hR42, (by rw [h9]; exact hM43), (by rw [h9]; exact hG44)⟩
            · refine zg_bipush C dX5_mark_79 (by decide) ?_
              refine zg_goto (tgt := 85) C dX5_mark_81 (by decide) ?_
              refine zg_iadd C dX5_mark_85 ?_
              refine zg_aload_n C dX5_mark_86 rfl (lv_at hl 0 rfl) ?_
              refine zg_iload_n C dX5_mark_87 rfl (lv_at hl 1 rfl) ?_
              refine zg_iload_n C dX5_mark_88 rfl (lv_at hl 2 rfl) ?_
              refine zg_callV C X hP hS (kX5_signAt l σ hR κ hM hG x f (by omega) (by omega) (by omega) (by omega)) (cwV 2 C.ts (zgV mlX5_162 imX5_signAt slX5_signAt iniX5 cdX5_signAt) rfl rfl rfl (by decide +kernel) ⟨Nat.le_of_ble_eq_true rfl, Nat.le_of_ble_eq_true rfl⟩) (by decide) lyM_0 rfl rfl rfl hl.1 rfl (Nat.le_of_ble_eq_true rfl) dX5_mark_89 ⟨Nat.zero_le _, Nat.zero_le _⟩ (fun r_47 σ46 H locs q48 hP hS => ?_)
              obtain ⟨rfl, q48⟩ := q48
              have b_49 := kSignAt_rg hG.1 x.toNat f
              rw [q48] at hP
              refine zg_aload_n C dX5_mark_92 rfl (lv_at hl 0 rfl) ?_
              refine zg_iload_n C dX5_mark_93 rfl (lv_at hl 1 rfl) ?_
              refine zg_iload_n C dX5_mark_94 rfl (lv_at hl 3 rfl) ?_
              refine zg_callV C X hP hS (kX5_signAt l σ hR κ hM hG x t (by omega) (by omega) (by omega) (by omega)) (cwV 2 C.ts (zgV mlX5_162 imX5_signAt slX5_signAt iniX5 cdX5_signAt) rfl rfl rfl (by decide +kernel) ⟨Nat.le_of_ble_eq_true rfl, Nat.le_of_ble_eq_true rfl⟩) (by decide) lyM_0 rfl rfl rfl hl.1 rfl (Nat.le_of_ble_eq_true rfl) dX5_mark_95 ⟨Nat.zero_le _, Nat.zero_le _⟩ (fun r_51 σ50 H locs q52 hP hS => ?_)
              obtain ⟨rfl, q52⟩ := q52
              have b_53 := kSignAt_rg hG.1 x.toNat t
              rw [q52] at hP
              refine zg_callV C X hP hS (kX5_madeN l σ hR κ hM hG x 3 (k + 8) (kSignAt κ x.toNat f) (kSignAt κ x.toNat t) (by omega) (by omega) (by omega) (by omega) (by omega) (by omega) (by omega) (by omega) (by assumption) (by omega) (by omega) (fun _ => ⟨i3, i6⟩) (by omega) (by assumption)) (cwV 5 C.ts (zgV mlX5_173 imX5_made slX5_made iniX5 cdX5_made) rfl rfl rfl (by decide +kernel) ⟨Nat.le_of_ble_eq_true rfl, Nat.le_of_ble_eq_true rfl⟩) (by decide) lyM_0 rfl rfl rfl hl.1 rfl (Nat.le_of_ble_eq_true rfl) dX5_mark_98 ⟨Nat.zero_le _, Nat.zero_le _⟩ (fun r_55 σ54 H locs q56 hP hS => ?_)
              obtain ⟨rfl, q56⟩ := q56
              obtain ⟨κ60, eκ60⟩ : ∃ z_ : Zt, z_ = kPerform κ x.toNat 3 (k + 8) (kSignAt κ x.toNat f) (if (3 : Int) = 3 then (kSignAt κ x.toNat t) else (kSignAt κ x.toNat f)) := ⟨_, rfl⟩
              rw [← eκ60] at q56
              obtain ⟨hR57, hM58, hG59⟩ := q56
              refine zg_iret C hP hS dX5_mark_101 ?_
              have h9 : kMarS κ x f t k on = κ60 := by rw [eκ60]; unfold kMarS; rw [if_pos (by assumption), if_pos h5]; first | rw [if_pos (show kFull κ = true by unfold kFull; grind)] | (rw [if_neg (show ¬ kFull κ = true by unfold kFull; grind), if_pos (by assumption)]; rfl) | (rw [if_neg (show ¬ kFull κ = true by unfold kFull; grind), if_neg (by simp [c_4, c_9, c_19, c_25, c_29, c_30]), Int.add_zero]; rfl)
              exact ⟨congrArg jI (by unfold kMarR; rw [if_pos (by assumption), if_pos h5]; first | rw [if_pos (show kFull κ = true by unfold kFull; grind)] | rw [if_neg (show ¬ kFull κ = true by unfold kFull; grind)]), hR57, (by rw [h9]; exact hM58), (by rw [h9]; exact hG59)⟩
          · refine zg_bipush C dX5_mark_64 (by decide) ?_
            refine zg_goto (tgt := 101) C dX5_mark_66 (by decide) ?_
            refine zg_iret C hP hS dX5_mark_101 ?_
            have h9 : kMarS κ x f t k on = κ := by unfold kMarS; rw [if_pos (by assumption), if_pos h5]; first | rw [if_pos (show kFull κ = true by unfold kFull; grind)] | (rw [if_neg (show ¬ kFull κ = true by unfold kFull; grind), if_pos (by assumption)]; rfl) | (rw [if_neg (show ¬ kFull κ = true by unfold kFull; grind), if_neg (by simp [c_4, c_9, c_19, c_25, c_29]), Int.add_zero]; rfl)
            exact ⟨congrArg jI (by unfold kMarR; rw [if_pos (by assumption), if_pos h5]; first | rw [if_pos (show kFull κ = true by unfold kFull; grind)] | rw [if_neg (show ¬ kFull κ = true by unfold kFull; grind)]), hR, (by rw [h9]; exact hM), (by rw [h9]; exact hG)⟩
        · have b_61 := mIn_f c_25
          refine zg_bipush C dX5_mark_51 (by decide) ?_
          refine zg_iret C hP hS dX5_mark_53 ?_
          have h2 : ¬ kMarB κ x f t k = true := by rw [kMarB_f hG (by omega)]; decide
          have h9 : kMarS κ x f t k on = κ := by unfold kMarS; rw [if_pos (by assumption), if_neg h2]
          exact ⟨congrArg jI (by unfold kMarR; rw [if_pos (by assumption), if_neg h2]), hR, (by rw [h9]; exact hM), (by rw [h9]; exact hG)⟩
  · have b_62 := kIsR_f c_4
    refine zg_bipush C dX5_mark_7 (by decide) ?_
    refine zg_iret C hP hS dX5_mark_9 ?_
    have h9 : kMarS κ x f t k on = κ := by grind [kMarS]
    exact ⟨congrArg jI (by grind [kMarR]), hR, (by rw [h9]; exact hM), (by rw [h9]; exact hG)⟩
