set_option maxHeartbeats 4000000 in
set_option maxRecDepth 100000 in
theorem kX4_putSign (l : Launch) {D : va_G} {a : Nat → Nat} {cI cZ cR : ClassId} (σ : Zt) (hR : rgS σ) (r : Nat) (hr : r < 6) (q : Int) (v : Int) (q0 : -2147483648 ≤ q) (q1 : q < 2147483648) (v0 : 0 ≤ v) (v1 : v < 127) (tm : σ 1 9 ≤ σ 1 10) (pt : σ 11 4 ≤ σ 1 10) (dn : σ (21 + 6 * r) r ≤ σ 1 10) (tr : σ (20 + 6 * r) 4 ≤ σ 1 10) (bk : kBefore σ r q = -1 ∨ σ 15 (kBefore σ r q).toNat < σ 11 4) : zc l D vwCl (tyS cI cZ cR) 56 (layS cI cZ cR a) a yX4_putSign wsX4_putSign ({ frames := 4, cells := 0, slots := 0, locals := 86 }) [.ref (a 0), .ref (a (20 + 6 * r)), .int (jI q), .int (jI v)] σ (fun r_ u_ => r_ = jI (kPutR σ r q) ∧ u_ = kPutS σ r q v) := by
  refine zc_of (cc := cX4_putSign) (maxL := 6) (ret := some .int) (own := RX4) (by decide) rfl rfl (Nat.le_of_ble_eq_true rfl) rfl ?_
  intro p e s m below meth c A ls C X hP hS hl
  refine zg_aload_n C dX4_putSign_0 rfl (lv_at hl 0 rfl) ?_
  refine zg_get (j := 0) C X hP (by decide) lyS_0 rfl (zmem uwX4) (by decide) (C.tb flX4_10) (fun _ h9 => h9) rfl dX4_putSign_1 ?_
  refine zg_callV C X hP hS (kX0_isFull l σ hR) (cwV 0 C.ts (zgV mlX4_61 imX0_isFull slX0_isFull iniX0 cdX0_isFull) rfl rfl rfl (by decide +kernel) ⟨Nat.le_of_ble_eq_true rfl, Nat.le_of_ble_eq_true rfl⟩) (by decide) lyS_1 rfl rfl rfl hl.1 rfl (Nat.le_of_ble_eq_true rfl) dX4_putSign_4 ⟨Nat.zero_le _, Nat.zero_le _⟩ (fun r_2 σ1 H locs q3 hP hS => ?_)
  obtain ⟨rfl, q3⟩ := q3
  rw [q3] at hP
  refine zg_ifeqB (tgt := 13) C dX4_putSign_7 (by decide) (fun c_4 => ?_) (fun c_4 => ?_)
  · have b_5 := kFull_f c_4
    refine zg_aload_n C dX4_putSign_13 rfl (lv_at hl 0 rfl) ?_
    refine zg_get (j := 0) C X hP (by decide) lyS_0 rfl (zmem uwX4) (by decide) (C.tb flX4_10) (fun _ h9 => h9) rfl dX4_putSign_14 ?_
    refine zg_get (j := 10) C X hP (by decide) lyS_1 rfl (zmem uwX0) (by decide) (C.tb flX4_111) (fun _ h9 => h9) rfl dX4_putSign_17 ?_
    have b_6 := rgS_1_10 hR
    refine zg_istore (lv' := [(4, .int (jI (σ 1 10))), (0, .ref (a 0)), (1, .ref (a (20 + 6 * r))), (2, .int (jI q)), (3, .int (jI v))]) C dX4_putSign_20 hl (by decide) rfl (fun ls hl => ?_)
    refine zg_aload_n C dX4_putSign_22 rfl (lv_at hl 2 rfl) ?_
    refine zg_iload_n C dX4_putSign_23 rfl (lv_at hl 3 rfl) ?_
    refine zg_callV C X hP hS (kX2_signBefore l σ hR r hr q (by omega) (by omega)) (cwV 1 C.ts (zgV mlX4_159 imX2_signBefore slX2_signBefore iniX2 cdX2_signBefore) rfl rfl rfl (by decide +kernel) ⟨Nat.le_of_ble_eq_true rfl, Nat.le_of_ble_eq_true rfl⟩) (hkS_20 hr) (lyS_20 hr) rfl rfl rfl hl.1 rfl (Nat.le_of_ble_eq_true rfl) dX4_putSign_24 ⟨Nat.zero_le _, Nat.zero_le _⟩ (fun r_8 σ7 H locs q9 hP hS => ?_)
    obtain ⟨rfl, q9⟩ := q9
    have b_10 := kBefore_rg hR r q
    rw [q9] at hP
    refine zg_istore (lv' := [(5, .int (jI (kBefore σ r q))), (4, .int (jI (σ 1 10))), (0, .ref (a 0)), (1, .ref (a (20 + 6 * r))), (2, .int (jI q)), (3, .int (jI v))]) C dX4_putSign_27 hl (by decide) rfl (fun ls hl => ?_)
    refine zg_aload_n C dX4_putSign_29 rfl (lv_at hl 2 rfl) ?_
    refine zg_get (j := 1) C X hP (by decide) lyS_0 rfl (zmem uwX4) (by decide) (C.tb flX4_19) (fun _ h9 => h9) rfl dX4_putSign_30 ?_
    refine zg_iload C dX4_putSign_33 (lv_at hl 1 rfl) ?_
    refine zg_iload C dX4_putSign_35 (lv_at hl 0 rfl) ?_
    refine zg_aload_n C dX4_putSign_37 rfl (lv_at hl 3 rfl) ?_
    refine zg_iload C dX4_putSign_38 (lv_at hl 0 rfl) ?_
    refine zg_callV C X hP hS (kX2_nextBehind l σ hR r hr (kBefore σ r q) (by omega) (by omega)) (cwV 1 C.ts (zgV mlX4_195 imX2_nextBehind slX2_nextBehind iniX2 cdX2_nextBehind) rfl rfl rfl (by decide +kernel) ⟨Nat.le_of_ble_eq_true rfl, Nat.le_of_ble_eq_true rfl⟩) (hkS_20 hr) (lyS_20 hr) rfl rfl rfl hl.1 rfl (Nat.le_of_ble_eq_true rfl) dX4_putSign_40 ⟨Nat.zero_le _, Nat.zero_le _⟩ (fun r_12 σ11 H locs q13 hP hS => ?_)
    obtain ⟨rfl, q13⟩ := q13
    have b_14 := kBehind_rg hR r (kBefore σ r q)
    rw [q13] at hP
    refine zg_aload_n C dX4_putSign_43 rfl (lv_at hl 3 rfl) ?_
    refine zg_callV C X hP hS (kX1_findNew l σ hR r hr (σ 1 10) (kBefore σ r q) (kBehind σ r (kBefore σ r q)) (by omega) (by omega) (by omega) (by omega) (by omega) (by omega) (by omega)) (cwV 4 C.ts (zgV mlX4_198 imX1_findNew slX1_findNew iniX1 cdX1_findNew) rfl rfl rfl (by decide +kernel) ⟨Nat.le_of_ble_eq_true rfl, Nat.le_of_ble_eq_true rfl⟩) (by decide) lyS_11 rfl rfl rfl hl.1 rfl (Nat.le_of_ble_eq_true rfl) dX4_putSign_44 ⟨Nat.zero_le _, Nat.zero_le _⟩ (fun r_16 σ15 H locs q17 hP hS => ?_)
    obtain ⟨rfl, q17⟩ := q17
    have hR18 : rgS σ15 := by rw [q17]; exact kFind_rg (by omega) (by omega) (by omega) 12 1 _ _ (by omega) (by omega) hR (by omega)
    refine zg_ifneB (tgt := 53) C dX4_putSign_47 (by decide) (fun c_19 => ?_) (fun c_19 => ?_)
    · have w1 : σ15 1 10 = σ 1 10 := by rw [q17]; exact congrFun (kFind_fr (by omega) (by omega) (by omega) _ _ _ _) _
      have w2 : σ15 1 9 = σ 1 9 := by rw [q17]; exact congrFun (kFind_fr (by omega) (by omega) (by omega) _ _ _ _) _
      have w3 : σ15 11 4 = σ 11 4 := by rw [q17]; exact congrFun (kFind_fr (by omega) (by omega) (by omega) _ _ _ _) _
      have w4 : σ15 (21 + 6 * r) r = σ (21 + 6 * r) r := by rw [q17]; exact congrFun (kFind_fr (by omega) (by omega) (by omega) _ _ _ _) _
      have w5 : σ15 (20 + 6 * r) 4 = σ (20 + 6 * r) 4 := by rw [q17]; exact kFind_fr2 (by omega) _ _ _ _
      have w6 : σ15 15 = σ 15 := by rw [q17]; exact kFind_fr (by omega) (by omega) (by omega) _ _ _ _
      refine zg_aload_n C dX4_putSign_53 rfl (lv_at hl 2 rfl) ?_
      refine zg_get (j := 1) C X hP (by decide) lyS_0 rfl (zmem uwX4) (by decide) (C.tb flX4_19) (fun _ h9 => h9) rfl dX4_putSign_54 ?_
      refine zg_iload C dX4_putSign_57 (lv_at hl 1 rfl) ?_
      refine zg_iload C dX4_putSign_59 (lv_at hl 0 rfl) ?_
      refine zg_callVv C X hP hS (kX1_insert l σ15 hR18 (σ 1 10) (kBefore σ r q) (by omega) (by omega) (by omega) (by omega) (by omega) (by rw [w6, w3]; exact bk)) (cwV 2 C.ts (zgV mlX4_202 imX1_insert slX1_insert iniX1 cdX1_insert) rfl rfl rfl (by decide +kernel) ⟨Nat.le_of_ble_eq_true rfl, Nat.le_of_ble_eq_true rfl⟩) (by decide) lyS_11 rfl rfl rfl hl.1 rfl (Nat.le_of_ble_eq_true rfl) dX4_putSign_61 ⟨Nat.zero_le _, Nat.zero_le _⟩ (fun σ20 H locs q22 hP hS => ?_)
      have hR23 : rgS σ20 := by rw [q22]; exact kInsert_rg hR18 (by omega) (by omega) (by omega) (by rw [w6, w3]; exact bk)
      have v1_ : σ20 1 10 = σ 1 10 := by rw [q22]; exact (congrFun (kInsert_fr (by omega) (by omega) (by omega)) _).trans w1
      have v2_ : σ20 1 9 = σ 1 9 := by rw [q22]; exact (congrFun (kInsert_fr (by omega) (by omega) (by omega)) _).trans w2
      have v4_ : σ20 (21 + 6 * r) r = σ (21 + 6 * r) r := by rw [q22]; exact (congrFun (kInsert_fr (by omega) (by omega) (by omega)) _).trans w4
      have v5_ : σ20 (20 + 6 * r) 4 = σ (20 + 6 * r) 4 := by rw [q22]; exact (congrFun (kInsert_fr (by omega) (by omega) (by omega)) _).trans w5
      refine zg_aload_n C dX4_putSign_64 rfl (lv_at hl 2 rfl) ?_
      refine zg_aload_n C dX4_putSign_65 rfl (lv_at hl 3 rfl) ?_
      refine zg_iconst C dX4_putSign_66 ?_
      refine zg_iload_n C dX4_putSign_67 rfl (lv_at hl 5 rfl) ?_
      refine zg_iload C dX4_putSign_68 (lv_at hl 1 rfl) ?_
      refine zg_iload C dX4_putSign_70 (lv_at hl 1 rfl) ?_
      refine zg_callV C X hP hS (kX4_perform l σ20 hR23 r hr 0 v (σ 1 10) (σ 1 10) (by omega) (by omega) (by omega) (by omega) (by omega) (by omega) (by omega) (by omega) (by omega) (by omega) (by omega) (by omega)) (cwV 5 C.ts (zgV mlX4_65 imX4_perform slX4_perform iniX4 cdX4_perform) rfl rfl rfl (by decide +kernel) ⟨Nat.le_of_ble_eq_true rfl, Nat.le_of_ble_eq_true rfl⟩) (by decide) lyS_0 rfl rfl rfl hl.1 rfl (Nat.le_of_ble_eq_true rfl) dX4_putSign_72 ⟨Nat.zero_le _, Nat.zero_le _⟩ (fun r_25 σ24 H locs q26 hP hS => ?_)
      obtain ⟨rfl, q26⟩ := q26
      have hR27 : rgS σ24 := by rw [q26]; exact kPerform_rg hR23 (by omega) (by omega) (by omega) (by omega) (by omega) (by omega) (by omega) (by omega) (by omega) (by omega) (by omega) (by omega) (by omega)
      refine zg_iret C hP hS dX4_putSign_75 ?_
      rw [v1_]
      subst q17 q22 q26
      exact ⟨congrArg jI (by unfold kPutR; rw [if_neg (by grind), if_pos (by unfold kPutF; assumption)]), by unfold kPutS; rw [if_neg (by grind), if_pos (by unfold kPutF; assumption)]; rfl⟩
    · refine zg_bipush C dX4_putSign_50 (by decide) ?_
      refine zg_iret C hP hS dX4_putSign_52 ?_
      subst q17
      exact ⟨congrArg jI (by unfold kPutR; rw [if_neg (by grind), if_neg (by unfold kPutF; grind)]), by unfold kPutS; rw [if_neg (by grind), if_neg (by unfold kPutF; grind)]; rfl⟩
  · refine zg_bipush C dX4_putSign_10 (by decide) ?_
    refine zg_iret C hP hS dX4_putSign_12 ?_
    exact ⟨congrArg jI (by unfold kPutR; rw [if_pos (by assumption)]), by unfold kPutS; rw [if_pos (by assumption)]⟩
set_option maxHeartbeats 4000000 in
set_option maxRecDepth 100000 in
theorem kX2_isMarkedBy (l : Launch) {D : va_G} {a : Nat → Nat} {cI cZ cR : ClassId} (σ : Zt) (hR : rgS σ) (r : Nat) (hr : r < 6) (z : Int) (d : Int) (z0 : 0 ≤ z) (z1 : z < 400) (d0 : 0 ≤ d) (d1 : d < 400) : zc l D vwCl (tyS cI cZ cR) 56 (layS cI cZ cR a) a yX2_isMarkedBy wsX2_isMarkedBy ({ frames := 1, cells := 0, slots := 0, locals := 21 }) [.ref (a (20 + 6 * r)), .int (jI z), .int (jI d)] σ (fun r_ u_ => r_ = jI (bI (kMarked σ r z d)) ∧ u_ = σ) := by
  refine zc_of (cc := cX2_isMarkedBy) (maxL := 4) (ret := some .boolean) (own := RX2) (by decide) rfl rfl (Nat.le_of_ble_eq_true rfl) rfl ?_
  intro p e s m below meth c A ls C X hP hS hl
  refine zg_aload_n C dX2_isMarkedBy_0 rfl (lv_at hl 0 rfl) ?_
  refine zg_get (j := 2) C X hP (hkS_20 hr) (lyS_20 hr) rfl (zmem uwX2) (by decide) (C.tb flX2_36) (fun _ h9 => h9) rfl dX2_isMarkedBy_1 ?_
  refine zg_get (j := 3) C X hP (by decide) lyS_11 rfl (zmem uwX1) (by decide) (C.tb flX2_123) (fun _ h9 => h9) rfl dX2_isMarkedBy_4 ?_
  refine zg_iload_n C dX2_isMarkedBy_7 rfl (lv_at hl 1 rfl) ?_
  refine zg_iald (t0 := 0) C X hP (by decide) lyS_15 rfl (by decide) (by omega) (by omega) dX2_isMarkedBy_8 ?_
  have b_1 := rgS_15 hR ((z).toNat)
  refine zg_istore_n (lv' := [(3, .int (jI (σ 15 (z).toNat))), (0, .ref (a (20 + 6 * r))), (1, .int (jI z)), (2, .int (jI d))]) C dX2_isMarkedBy_9 rfl hl (by decide) rfl (fun ls hl => ?_)
  refine zg_aload_n C dX2_isMarkedBy_10 rfl (lv_at hl 1 rfl) ?_
  refine zg_iload_n C dX2_isMarkedBy_11 rfl (lv_at hl 3 rfl) ?_
  refine zg_callV C X hP hS (kX2_didDeed l σ hR r hr d (by omega) (by omega)) (cwV 1 C.ts (zgV mlX2_59 imX2_didDeed slX2_didDeed iniX2 cdX2_didDeed) rfl rfl rfl (by decide +kernel) ⟨Nat.le_of_ble_eq_true rfl, Nat.le_of_ble_eq_true rfl⟩) (hkS_20 hr) (lyS_20 hr) rfl rfl rfl hl.1 rfl (Nat.le_of_ble_eq_true rfl) dX2_isMarkedBy_12 ⟨Nat.zero_le _, Nat.zero_le _⟩ (fun r_3 σ2 H locs q4 hP hS => ?_)
  obtain ⟨rfl, q4⟩ := q4
  rw [q4] at hP
  refine zg_ifeqB (tgt := 64) C dX2_isMarkedBy_15 (by decide) (fun c_5 => ?_) (fun c_5 => ?_)
  · refine zg_iconst C dX2_isMarkedBy_64 ?_
    refine zg_zret (b := false) C hP hS dX2_isMarkedBy_65 ?_
    exact ⟨congrArg (fun b => jI (bI b)) (by grind [kMarked]), rfl⟩
  · refine zg_aload_n C dX2_isMarkedBy_18 rfl (lv_at hl 1 rfl) ?_
    refine zg_get (j := 2) C X hP (hkS_20 hr) (lyS_20 hr) rfl (zmem uwX2) (by decide) (C.tb flX2_36) (fun _ h9 => h9) rfl dX2_isMarkedBy_19 ?_
    refine zg_get (j := 3) C X hP (by decide) lyS_11 rfl (zmem uwX1) (by decide) (C.tb flX2_123) (fun _ h9 => h9) rfl dX2_isMarkedBy_22 ?_
    refine zg_aload_n C dX2_isMarkedBy_25 rfl (lv_at hl 1 rfl) ?_
    refine zg_get (j := 1) C X hP (hkS_20 hr) (lyS_20 hr) rfl (zmem uwX2) (by decide) (C.tb flX2_32) (fun _ h9 => h9) rfl dX2_isMarkedBy_26 ?_
    refine zg_get (j := 5) C X hP (by decide) lyS_1 rfl (zmem uwX0) (by decide) (C.tb flX2_56) (fun _ h9 => h9) rfl dX2_isMarkedBy_29 ?_
    refine zg_iload_n C dX2_isMarkedBy_32 rfl (lv_at hl 3 rfl) ?_
    refine zg_iald (t0 := 0) C X hP (by decide) lyS_7 rfl (by decide) (by omega) (by omega) dX2_isMarkedBy_33 ?_
    have b_6 := rgS_7 hR ((d).toNat)
    refine zg_iald (t0 := 0) C X hP (by decide) lyS_15 rfl (by decide) (by omega) (by omega) dX2_isMarkedBy_34 ?_
    have b_7 := rgS_15 hR ((σ 7 (d).toNat).toNat)
    refine zg_iload_n C dX2_isMarkedBy_35 rfl (lv_at hl 0 rfl) ?_
    refine zg_icmp_gt (tgt := 64) C (by omega) (by omega) (by omega) (by omega) dX2_isMarkedBy_36 (by decide) (fun c_8 => ?_) (fun c_8 => ?_)
    · refine zg_iconst C dX2_isMarkedBy_64 ?_
      refine zg_zret (b := false) C hP hS dX2_isMarkedBy_65 ?_
      exact ⟨congrArg (fun b => jI (bI b)) (by grind [kMarked]), rfl⟩
    · refine zg_iload_n C dX2_isMarkedBy_39 rfl (lv_at hl 0 rfl) ?_
      refine zg_aload_n C dX2_isMarkedBy_40 rfl (lv_at hl 1 rfl) ?_
      refine zg_get (j := 2) C X hP (hkS_20 hr) (lyS_20 hr) rfl (zmem uwX2) (by decide) (C.tb flX2_36) (fun _ h9 => h9) rfl dX2_isMarkedBy_41 ?_
      refine zg_get (j := 3) C X hP (by decide) lyS_11 rfl (zmem uwX1) (by decide) (C.tb flX2_123) (fun _ h9 => h9) rfl dX2_isMarkedBy_44 ?_
      refine zg_aload_n C dX2_isMarkedBy_47 rfl (lv_at hl 1 rfl) ?_
      refine zg_get (j := 1) C X hP (hkS_20 hr) (lyS_20 hr) rfl (zmem uwX2) (by decide) (C.tb flX2_32) (fun _ h9 => h9) rfl dX2_isMarkedBy_48 ?_
      refine zg_get (j := 6) C X hP (by decide) lyS_1 rfl (zmem uwX0) (by decide) (C.tb flX2_63) (fun _ h9 => h9) rfl dX2_isMarkedBy_51 ?_
      refine zg_iload_n C dX2_isMarkedBy_54 rfl (lv_at hl 3 rfl) ?_
      refine zg_iald (t0 := 0) C X hP (by decide) lyS_8 rfl (by decide) (by omega) (by omega) dX2_isMarkedBy_55 ?_
      have b_9 := rgS_8 hR ((d).toNat)
      refine zg_iald (t0 := 0) C X hP (by decide) lyS_15 rfl (by decide) (by omega) (by omega) dX2_isMarkedBy_56 ?_
      have b_10 := rgS_15 hR ((σ 8 (d).toNat).toNat)
      refine zg_icmp_gt (tgt := 64) C (by omega) (by omega) (by omega) (by omega) dX2_isMarkedBy_57 (by decide) (fun c_11 => ?_) (fun c_11 => ?_)
      · refine zg_iconst C dX2_isMarkedBy_64 ?_
        refine zg_zret (b := false) C hP hS dX2_isMarkedBy_65 ?_
        exact ⟨congrArg (fun b => jI (bI b)) (by grind [kMarked]), rfl⟩
      · refine zg_iconst C dX2_isMarkedBy_60 ?_
        refine zg_goto (tgt := 65) C dX2_isMarkedBy_61 (by decide) ?_
        refine zg_zret (b := true) C hP hS dX2_isMarkedBy_65 ?_
        exact ⟨congrArg (fun b => jI (bI b)) (by grind [kMarked]), rfl⟩
set_option maxHeartbeats 4000000 in
set_option maxRecDepth 100000 in
theorem lpX2_bitsOfLatest_4 {l : Launch} {D : va_G} {a : Nat → Nat} {cI cZ cR : ClassId} {p : Program} {e : Env} {s : State} {m : MethodId} {below : List Frame} {meth : Method} {c : Code} {A : Nat → Prop} (σ : Zt) (hR : rgS σ) (r : Nat) (hr : r < 6)  (C : zk p s m ([.ref (a (20 + 6 * r))] : List Value).toArray meth c cX2_bitsOfLatest 4 (some .int) wsX2_bitsOfLatest RX2) (X : zx D vwCl (tyS cI cZ cR) A a 56 s) :
    ∀ (n : Nat) (bt i : Int) (H : Heap) (locs : List Loc) (ls : Array Slot), ((8 - i).toNat < n) → (0 ≤ i) → (i ≤ 8) → (bt = kBits σ (σ (25 + 6 * r)) i.toNat) → va_P D vwCl (zw 56 (layS cI cZ cR a) a σ) H → va_S A s.heap H locs → lv_has ls 4 [(0, .ref (a (20 + 6 * r))), (1, .int (jI bt)), (2, .int (jI i))] →
      W p l e ({ frames := 0, cells := 0, slots := 0, locals := 0 }) s m ([.ref (a (20 + 6 * r))] : List Value).toArray below meth c H locs 0 0 (MQ below (va_Qi (fun r_ u_ => r_ = jI (kBits σ (σ (25 + 6 * r)) 8) ∧ u_ = σ) (fun (u : Zt) t => va_P D vwCl (zw 56 (layS cI cZ cR a) a u) t.heap) A) ([.ref (a (20 + 6 * r))] : List Value).toArray s 0 0 A) (F0 m 4 ls []) := by
  intro n
  induction n with
  | zero =>
    intro bt i  H locs ls hn h0 h1 hE hP hS hl
    exact absurd hn (by omega)
  | succ n ih =>
    intro bt i  H locs ls hn h0 h1 hE hP hS hl
    have bb := kBits_rg (σ := σ) (f := σ (25 + 6 * r)) i.toNat
    refine zg_iload_n C dX2_bitsOfLatest_4 rfl (lv_at hl 2 rfl) ?_
    refine zg_bipush C dX2_bitsOfLatest_5 (by decide) ?_
    refine zg_icmp_ge (tgt := 48) C (by omega) (by omega) (by omega) (by omega) dX2_bitsOfLatest_7 (by decide) (fun c_1 => ?_) (fun c_1 => ?_)
    · refine zg_iload_n C dX2_bitsOfLatest_48 rfl (lv_at hl 1 rfl) ?_
      refine zg_iret C hP hS dX2_bitsOfLatest_49 ?_
      exact ⟨congrArg jI (by rw [hE, show i.toNat = 8 by omega]), rfl⟩
    · have pw := pw_8 (i := i) (by omega) (by omega)
      refine zg_aload_n C dX2_bitsOfLatest_10 rfl (lv_at hl 0 rfl) ?_
      refine zg_get (j := 11) C X hP (hkS_20 hr) (lyS_20 hr) rfl (zmem uwX2) (by decide) (C.tb flX2_25) (fun _ h9 => h9) rfl dX2_bitsOfLatest_11 ?_
      refine zg_iload_n C dX2_bitsOfLatest_14 rfl (lv_at hl 2 rfl) ?_
      refine zg_iald (t0 := 0) C X hP (hkS_25 hr) (lyS_25 hr) rfl (by decide) (by omega) (by omega) dX2_bitsOfLatest_15 ?_
      have b_2 := rgS_25 hR hr ((i).toNat)
      refine zg_istore_n (lv' := [(3, .int (jI (σ (25 + 6 * r) (i).toNat))), (0, .ref (a (20 + 6 * r))), (1, .int (jI bt)), (2, .int (jI i))]) C dX2_bitsOfLatest_16 rfl hl (by decide) rfl (fun ls hl => ?_)
      refine zg_iload_n C dX2_bitsOfLatest_17 rfl (lv_at hl 0 rfl) ?_
      refine zg_iconst C dX2_bitsOfLatest_18 ?_
      refine zg_icmp_eq (tgt := 42) C (by omega) (by omega) (by omega) (by omega) dX2_bitsOfLatest_19 (by decide) (fun c_3 => ?_) (fun c_3 => ?_)
      · refine zg_iinc (k := 3) (lv' := [(2, .int (jI (i + 1))), (3, .int (jI (σ (25 + 6 * r) (i).toNat))), (0, .ref (a (20 + 6 * r))), (1, .int (jI bt))]) C dX2_bitsOfLatest_42 hl rfl (by decide) rfl (fun ls hl => ?_)
        refine zg_goto (tgt := 4) C dX2_bitsOfLatest_45 (by decide) ?_
        exact ih bt (i + 1) _ _ _ (by omega) (by omega) (by omega) (by rw [kBits_step h0]; first | (rw [if_pos ⟨by assumption, by assumption⟩]; omega) | (rw [if_neg (by omega)]; exact hE)) hP hS (lv_sub hl [2, 3, 0] rfl)
      · refine zg_aload_n C dX2_bitsOfLatest_22 rfl (lv_at hl 1 rfl) ?_
        refine zg_get (j := 1) C X hP (hkS_20 hr) (lyS_20 hr) rfl (zmem uwX2) (by decide) (C.tb flX2_32) (fun _ h9 => h9) rfl dX2_bitsOfLatest_23 ?_
        refine zg_get (j := 4) C X hP (by decide) lyS_1 rfl (zmem uwX0) (by decide) (C.tb flX2_132) (fun _ h9 => h9) rfl dX2_bitsOfLatest_26 ?_
        refine zg_iload_n C dX2_bitsOfLatest_29 rfl (lv_at hl 0 rfl) ?_
        refine zg_iald (t0 := 0) C X hP (by decide) lyS_6 rfl (by decide) (by omega) (by omega) dX2_bitsOfLatest_30 ?_
        have b_4 := rgS_6 hR ((σ (25 + 6 * r) (i).toNat).toNat)
        refine zg_bipush C dX2_bitsOfLatest_31 (by decide) ?_
        refine zg_icmp_lt (tgt := 42) C (by omega) (by omega) (by omega) (by omega) dX2_bitsOfLatest_33 (by decide) (fun c_5 => ?_) (fun c_5 => ?_)
        · refine zg_iinc (k := 3) (lv' := [(2, .int (jI (i + 1))), (3, .int (jI (σ (25 + 6 * r) (i).toNat))), (0, .ref (a (20 + 6 * r))), (1, .int (jI bt))]) C dX2_bitsOfLatest_42 hl rfl (by decide) rfl (fun ls hl => ?_)
          refine zg_goto (tgt := 4) C dX2_bitsOfLatest_45 (by decide) ?_
          exact ih bt (i + 1) _ _ _ (by omega) (by omega) (by omega) (by rw [kBits_step h0]; first | (rw [if_pos ⟨by assumption, by assumption⟩]; omega) | (rw [if_neg (by omega)]; exact hE)) hP hS (lv_sub hl [2, 3, 0] rfl)
        · refine zg_iload_n C dX2_bitsOfLatest_36 rfl (lv_at hl 2 rfl) ?_
          refine zg_iconst C dX2_bitsOfLatest_37 ?_
          refine zg_iload_n C dX2_bitsOfLatest_38 rfl (lv_at hl 3 rfl) ?_
          refine zg_shl C i.toNat (sh_amt (by omega) (by omega)) (by omega) (by omega) dX2_bitsOfLatest_39 ?_
          refine zg_orr C i.toNat 1 (by omega) rfl (by omega) (by omega) (by omega) dX2_bitsOfLatest_40 ?_
          refine zg_istore_n (lv' := [(1, .int (jI (bt + (1 * 2 ^ i.toNat)))), (3, .int (jI (σ (25 + 6 * r) (i).toNat))), (0, .ref (a (20 + 6 * r))), (2, .int (jI i))]) C dX2_bitsOfLatest_41 rfl hl (by decide) rfl (fun ls hl => ?_)
          refine zg_iinc (k := 3) (lv' := [(2, .int (jI (i + 1))), (1, .int (jI (bt + (1 * 2 ^ i.toNat)))), (3, .int (jI (σ (25 + 6 * r) (i).toNat))), (0, .ref (a (20 + 6 * r)))]) C dX2_bitsOfLatest_42 hl rfl (by decide) rfl (fun ls hl => ?_)
          refine zg_goto (tgt := 4) C dX2_bitsOfLatest_45 (by decide) ?_
          exact ih (bt + (1 * 2 ^ i.toNat)) (i + 1) _ _ _ (by omega) (by omega) (by omega) (by rw [kBits_step h0]; first | (rw [if_pos ⟨by assumption, by assumption⟩]; omega) | (rw [if_neg (by omega)]; exact hE)) hP hS (lv_sub hl [3, 1, 0] rfl)
set_option maxHeartbeats 4000000 in
set_option maxRecDepth 100000 in
theorem kX2_bitsOfLatest (l : Launch) {D : va_G} {a : Nat → Nat} {cI cZ cR : ClassId} (σ : Zt) (hR : rgS σ) (r : Nat) (hr : r < 6) : zc l D vwCl (tyS cI cZ cR) 56 (layS cI cZ cR a) a yX2_bitsOfLatest wsX2_bitsOfLatest ({ frames := 0, cells := 0, slots := 0, locals := 0 }) [.ref (a (20 + 6 * r))] σ (fun r_ u_ => r_ = jI (kBits σ (σ (25 + 6 * r)) 8) ∧ u_ = σ) := by
  refine zc_of (cc := cX2_bitsOfLatest) (maxL := 4) (ret := some .int) (own := RX2) (by decide) rfl rfl (Nat.le_of_ble_eq_true rfl) rfl ?_
  intro p e s m below meth c A ls C X hP hS hl
  refine zg_iconst C dX2_bitsOfLatest_0 ?_
  refine zg_istore_n (lv' := [(1, .int (jI 0)), (0, .ref (a (20 + 6 * r)))]) C dX2_bitsOfLatest_1 rfl hl (by decide) rfl (fun ls hl => ?_)
  refine zg_iconst C dX2_bitsOfLatest_2 ?_
  refine zg_istore_n (lv' := [(2, .int (jI 0)), (1, .int (jI 0)), (0, .ref (a (20 + 6 * r)))]) C dX2_bitsOfLatest_3 rfl hl (by decide) rfl (fun ls hl => ?_)
  exact lpX2_bitsOfLatest_4 σ hR r hr C X 9 0 0 _ _ _ (by omega) (by omega) (by omega) rfl hP hS (lv_sub hl [2, 1, 0] rfl)
