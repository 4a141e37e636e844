set_option maxHeartbeats 4000000 in
set_option maxRecDepth 100000 in
theorem kX5_type (l : Launch) {D : va_G} {a : Nat → Nat} {cI cZ : ClassId} (σ : Zt) (hR : rgM σ) (κ : Zt) (hM : RR κ σ) (hG : kMid κ) (x : Int) (q : Int) (v : Int) (x0 : -2147483648 ≤ x) (x1 : x < 2147483648) (q0 : -2147483648 ≤ q) (q1 : q < 2147483648) (v0 : -2147483648 ≤ v) (v1 : v < 2147483648) (gd : ∀ r : Nat, r < 6 → gR κ r) : zc l D vwCl (tyM cI cZ) 28 (layM cI cZ a) a yX5_type wsX5_type ({ frames := 5, cells := 0, slots := 0, locals := 122 }) [.ref (a 0), .int (jI x), .int (jI q), .int (jI v)] σ (fun r_ u_ => r_ = jI (kTypR κ x q v) ∧ rgM u_ ∧ RR (kTypS κ x q v) u_ ∧ kMid (kTypS κ x q v)) := by
  refine zc_of (cc := cX5_type) (maxL := 4) (ret := some .int) (own := RX5) (by decide) rfl rfl (Nat.le_of_ble_eq_true rfl) rfl ?_
  intro p e s m below meth c A ls C X hP hS hl
  have bT := rgS_1_10 hG.1
  have bP := rgS_11_4 hG.1
  have bPT := hG.e.1
  refine zg_iload_n C dX5_type_0 rfl (lv_at hl 1 rfl) ?_
  refine zg_callS C X hP hS (kX5_isReplica l σ hR κ hM hG x (by omega) (by omega)) (cwS 1 C.ts (zgS mlX5_102 stX5_isReplica iniX5 cdX5_isReplica) rfl rfl rfl (by decide +kernel) ⟨Nat.le_of_ble_eq_true rfl, Nat.le_of_ble_eq_true rfl⟩) rfl hl.1 rfl (Nat.le_of_ble_eq_true rfl) dX5_type_1 ⟨Nat.zero_le _, Nat.zero_le _⟩ (fun r_2 σ1 H locs q3 hP hS => ?_)
  obtain ⟨rfl, q3⟩ := q3
  rw [q3] at hP
  refine zg_ifneB (tgt := 10) C dX5_type_4 (by decide) (fun c_4 => ?_) (fun c_4 => ?_)
  · have b_5 := kIsR_t c_4
    refine zg_iload_n C dX5_type_10 rfl (lv_at hl 2 rfl) ?_
    refine zg_i2l C (by omega) (by omega) dX5_type_11 ?_
    refine zg_lconst C 0 rfl dX5_type_12 ?_
    refine zg_aload_n C dX5_type_13 rfl (lv_at hl 0 rfl) ?_
    refine zg_iload_n C dX5_type_14 rfl (lv_at hl 1 rfl) ?_
    refine zg_callV C X hP hS (kX5_sizeOf l σ hR κ hM hG x (by omega) (by omega)) (cwV 1 C.ts (zgV mlX5_177 imX5_sizeOf slX5_sizeOf iniX5 cdX5_sizeOf) rfl rfl rfl (by decide +kernel) ⟨Nat.le_of_ble_eq_true rfl, Nat.le_of_ble_eq_true rfl⟩) (by decide) lyM_0 rfl rfl rfl hl.1 rfl (Nat.le_of_ble_eq_true rfl) dX5_type_15 ⟨Nat.zero_le _, Nat.zero_le _⟩ (fun r_7 σ6 H locs q8 hP hS => ?_)
    obtain ⟨rfl, q8⟩ := q8
    have b_9 := kLen_rg hG.1 x.toNat
    rw [q8] at hP
    refine zg_i2l C (by omega) (by omega) dX5_type_18 ?_
    refine zg_callS C X hP hS (kX5_in l σ hR κ hM hG q 0 (kLen κ x.toNat) (by omega) (by omega) (by omega) (by omega) (by omega) (by omega)) (cwS 3 C.ts (zgS mlX5_98 stX5_in iniX5 cdX5_in) rfl rfl rfl (by decide +kernel) ⟨Nat.le_of_ble_eq_true rfl, Nat.le_of_ble_eq_true rfl⟩) rfl hl.1 rfl (Nat.le_of_ble_eq_true rfl) dX5_type_19 ⟨Nat.zero_le _, Nat.zero_le _⟩ (fun r_11 σ10 H locs q12 hP hS => ?_)
    obtain ⟨rfl, q12⟩ := q12
    rw [q12] at hP
    refine zg_ifeqB (tgt := 39) C dX5_type_22 (by decide) (fun c_13 => ?_) (fun c_13 => ?_)
    · have b_14 := mIn_f c_13
      refine zg_bipush C dX5_type_39 (by decide) ?_
      refine zg_iret C hP hS dX5_type_41 ?_
      have h9 : kTypS κ x q v = κ := by grind [kTypS, mIn, kIsB, kGap]
      exact ⟨congrArg jI (by grind [kTypR, mIn, kIsB, kGap]), hR, (by rw [h9]; exact hM), (by rw [h9]; exact hG)⟩
    · have b_15 := mIn_t c_13
      refine zg_iload_n C dX5_type_25 rfl (lv_at hl 3 rfl) ?_
      refine zg_i2l C (by omega) (by omega) dX5_type_26 ?_
      refine zg_ldc2 (v := 32) C (C.tb klX5_180) rfl dX5_type_27 ?_
      refine zg_ldc2 (v := 126) C (C.tb klX5_182) rfl dX5_type_30 ?_
      refine zg_callS C X hP hS (kX5_in l σ hR κ hM hG v 32 126 (by omega) (by omega) (by omega) (by omega) (by omega) (by omega)) (cwS 3 C.ts (zgS mlX5_98 stX5_in iniX5 cdX5_in) rfl rfl rfl (by decide +kernel) ⟨Nat.le_of_ble_eq_true rfl, Nat.le_of_ble_eq_true rfl⟩) rfl hl.1 rfl (Nat.le_of_ble_eq_true rfl) dX5_type_33 ⟨Nat.zero_le _, Nat.zero_le _⟩ (fun r_17 σ16 H locs q18 hP hS => ?_)
      obtain ⟨rfl, q18⟩ := q18
      rw [q18] at hP
      refine zg_ifneB (tgt := 42) C dX5_type_36 (by decide) (fun c_19 => ?_) (fun c_19 => ?_)
      · have b_20 := mIn_t c_19
        have hB : kIsB v = true := by unfold kIsB; rw [decide_eq_true (by omega), decide_eq_true (by omega)]; rfl
        have hGp : kGap κ x.toNat q = true := by unfold kGap; rw [decide_eq_true (by omega), decide_eq_true (by omega)]; rfl
        refine zg_aload_n C dX5_type_42 rfl (lv_at hl 0 rfl) ?_
        refine zg_iload_n C dX5_type_43 rfl (lv_at hl 1 rfl) ?_
        refine zg_iload_n C dX5_type_44 rfl (lv_at hl 2 rfl) ?_
        refine zg_iload_n C dX5_type_45 rfl (lv_at hl 3 rfl) ?_
        refine zg_callV C X hP hS (kX5_typeOne l σ hR κ hM hG x q v (by omega) (by omega) (by omega) (by omega) (by omega) (by omega) (by assumption)) (cwV 3 C.ts (zgV mlX5_184 imX5_typeOne slX5_typeOne iniX5 cdX5_typeOne) rfl rfl rfl (by decide +kernel) ⟨Nat.le_of_ble_eq_true rfl, Nat.le_of_ble_eq_true rfl⟩) (by decide) lyM_0 rfl rfl rfl hl.1 rfl (Nat.le_of_ble_eq_true rfl) dX5_type_46 ⟨Nat.zero_le _, Nat.zero_le _⟩ (fun r_22 σ21 H locs q23 hP hS => ?_)
        obtain ⟨rfl, q23⟩ := q23
        have b_24 := kPutR_rg hG.1 x.toNat q
        obtain ⟨κ28, eκ28⟩ : ∃ z_ : Zt, z_ = kPutS κ x.toNat q v := ⟨_, rfl⟩
        rw [← eκ28] at q23
        obtain ⟨hR25, hM26, hG27⟩ := q23
        refine zg_iret C hP hS dX5_type_49 ?_
        have h9 : kTypS κ x q v = κ28 := by rw [eκ28]; unfold kTypS; rw [if_pos (by assumption), if_pos hGp, if_pos hB]
        exact ⟨congrArg jI (by unfold kTypR; rw [if_pos (by assumption), if_pos hGp, if_pos hB]), hR25, (by rw [h9]; exact hM26), (by rw [h9]; exact hG27)⟩
      · have b_29 := mIn_f c_19
        refine zg_bipush C dX5_type_39 (by decide) ?_
        refine zg_iret C hP hS dX5_type_41 ?_
        have h9 : kTypS κ x q v = κ := by grind [kTypS, mIn, kIsB, kGap]
        exact ⟨congrArg jI (by grind [kTypR, mIn, kIsB, kGap]), hR, (by rw [h9]; exact hM), (by rw [h9]; exact hG)⟩
  · have b_30 := kIsR_f c_4
    refine zg_bipush C dX5_type_7 (by decide) ?_
    refine zg_iret C hP hS dX5_type_9 ?_
    have h9 : kTypS κ x q v = κ := by grind [kTypS]
    exact ⟨congrArg jI (by grind [kTypR]), hR, (by rw [h9]; exact hM), (by rw [h9]; exact hG)⟩
set_option maxHeartbeats 4000000 in
set_option maxRecDepth 100000 in
theorem lpX5_paste_58 {l : Launch} {D : va_G} {a : Nat → Nat} {cI cZ : ClassId} {p : Program} {e : Env} {s : State} {m : MethodId} {below : List Frame} {meth : Method} {c : Code} {A : Nat → Prop} (σ : Zt) (hR : rgM σ) (κ : Zt) (hM : RR κ σ) (hG : kMid κ) (x : Int) (q : Int) (b : Int) (v : Int) (x0 : -2147483648 ≤ x) (x1 : x < 2147483648) (q0 : -2147483648 ≤ q) (q1 : q < 2147483648) (b0 : -2147483648 ≤ b) (b1 : b < 2147483648) (v0 : -2147483648 ≤ v) (v1 : v < 2147483648) (gd : ∀ r : Nat, r < 6 → gR κ r) (xR : kIsR x = true) (hPB : kPasB κ x q b v = true) (bq0 : 0 ≤ q) (bq1 : q ≤ 400) (bb : 1 ≤ b ∧ b ≤ 20) (bv : 32 ≤ v ∧ v ≤ 126) (C : zk p s m ([.ref (a 0), .int (jI x), .int (jI q), .int (jI b), .int (jI v)] : List Value).toArray meth c cX5_paste 6 (some .int) wsX5_paste RX5) (X : zx D vwCl (tyM cI cZ) A a 28 s) :
    ∀ (n : Nat) (k : Int) (τ : Zt) (κ2 : Zt) (w : Int) (H : Heap) (locs : List Loc) (ls : Array Slot), ((21 - k).toNat < n) → (rgM τ) → (RR κ2 τ) → (kMid κ2) → (∀ r : Nat, r < 6 → gR κ2 r) → (0 ≤ k) → (k ≤ b) → (w = 32 + (v - 32 + k) % 95) → (kPas x q b b.toNat 0 v κ = kPas x q b (b - k).toNat k w κ2) → va_P D vwCl (zw 28 (layM cI cZ a) a τ) H → va_S A s.heap H locs → lv_has ls 6 [(0, .ref (a 0)), (1, .int (jI x)), (2, .int (jI q)), (3, .int (jI b)), (4, .int (jI v)), (5, .int (jI k))] →
      W p l e ({ frames := 5, cells := 0, slots := 0, locals := 122 }) s m ([.ref (a 0), .int (jI x), .int (jI q), .int (jI b), .int (jI v)] : List Value).toArray below meth c H locs 0 0 (MQ below (va_Qi (fun r_ u_ => r_ = jI (kPasR κ x q b v) ∧ rgM u_ ∧ RR (kPasS κ x q b v) u_ ∧ kMid (kPasS κ x q b v)) (fun (u : Zt) t => va_P D vwCl (zw 28 (layM cI cZ a) a u) t.heap) A) ([.ref (a 0), .int (jI x), .int (jI q), .int (jI b), .int (jI v)] : List Value).toArray s 0 0 A) (F0 m 58 ls []) := by
  intro n
  induction n with
  | zero =>
    intro k τ κ2 w H locs ls hn hτ hM2 hG2 hgd2 k0 k1 hw hE hP hS hl
    exact absurd hn (by omega)
  | succ n ih =>
    intro k τ κ2 w H locs ls hn hτ hM2 hG2 hgd2 k0 k1 hw hE hP hS hl
    have bx := kIsR_t xR
    refine zg_iload C dX5_paste_58 (lv_at hl 5 rfl) ?_
    refine zg_iload_n C dX5_paste_60 rfl (lv_at hl 3 rfl) ?_
    refine zg_icmp_ge (tgt := 101) C (by omega) (by omega) (by omega) (by omega) dX5_paste_61 (by decide) (fun c_1 => ?_) (fun c_1 => ?_)
    · refine zg_iload_n C dX5_paste_101 rfl (lv_at hl 3 rfl) ?_
      refine zg_iret C hP hS dX5_paste_102 ?_
      have h9 : kPasS κ x q b v = κ2 := by unfold kPasS; rw [if_pos xR, if_pos hPB, hE, kPas_end (by assumption)]
      exact ⟨congrArg jI (by unfold kPasR; rw [if_pos xR, if_pos hPB, hE, kPas_end (by assumption)]), hτ, (by rw [h9]; exact hM2), (by rw [h9]; exact hG2)⟩
    · refine zg_aload_n C dX5_paste_64 rfl (lv_at hl 0 rfl) ?_
      refine zg_iload_n C dX5_paste_65 rfl (lv_at hl 1 rfl) ?_
      refine zg_iload_n C dX5_paste_66 rfl (lv_at hl 2 rfl) ?_
      refine zg_iload C dX5_paste_67 (lv_at hl 5 rfl) ?_
      refine zg_iadd C dX5_paste_69 ?_
      refine zg_bipush C dX5_paste_70 (by decide) ?_
      refine zg_iload C dX5_paste_72 (lv_at hl 4 rfl) ?_
      refine zg_bipush C dX5_paste_74 (by decide) ?_
      refine zg_isub C dX5_paste_76 ?_
      refine zg_iload C dX5_paste_77 (lv_at hl 5 rfl) ?_
      refine zg_iadd C dX5_paste_79 ?_
      refine zg_bipush C dX5_paste_80 (by decide) ?_
      refine zg_irem C (by omega) (by omega) (by omega) (by omega) dX5_paste_82 ?_
      refine zg_iadd C dX5_paste_83 ?_
      have hw2 : w = (32 + (((v - 32) + k) % 95)) := by omega
      refine zg_callV C X hP hS (kX5_typeOne l τ hτ κ2 hM2 hG2 x (q + k) (32 + (((v - 32) + k) % 95)) (by omega) (by omega) (by omega) (by omega) (by omega) (by omega) (by assumption)) (cwV 3 C.ts (zgV mlX5_184 imX5_typeOne slX5_typeOne iniX5 cdX5_typeOne) rfl rfl rfl (by decide +kernel) ⟨Nat.le_of_ble_eq_true rfl, Nat.le_of_ble_eq_true rfl⟩) (by decide) lyM_0 rfl rfl rfl hl.1 rfl (Nat.le_of_ble_eq_true rfl) dX5_paste_84 ⟨Nat.zero_le _, Nat.zero_le _⟩ (fun r_3 σ2 H locs q4 hP hS => ?_)
      obtain ⟨rfl, q4⟩ := q4
      have b_5 := kPutR_rg hG2.1 x.toNat (q + k)
      obtain ⟨κ9, eκ9⟩ : ∃ z_ : Zt, z_ = kPutS κ2 x.toNat (q + k) (32 + (((v - 32) + k) % 95)) := ⟨_, rfl⟩
      rw [← eκ9] at q4
      obtain ⟨hR6, hM7, hG8⟩ := q4
      refine zg_bipush C dX5_paste_87 (by decide) ?_
      refine zg_icmp_ne (tgt := 95) C (by omega) (by omega) (by omega) (by omega) dX5_paste_89 (by decide) (fun c_10 => ?_) (fun c_10 => ?_)
      · refine zg_iinc (k := 5) (lv' := [(5, .int (jI (k + 1))), (0, .ref (a 0)), (1, .int (jI x)), (2, .int (jI q)), (3, .int (jI b)), (4, .int (jI v))]) C dX5_paste_95 hl rfl (by decide) rfl (fun ls hl => ?_)
        refine zg_goto (tgt := 58) C dX5_paste_98 (by decide) ?_
        exact ih (k + 1) σ2 κ9 (if w = 126 then 32 else w + 1) _ _ _ (by omega) hR6 hM7 hG8 (by rw [eκ9, ← hw2]; exact (kGood_put ⟨hG2, hgd2⟩ (by omega) (by omega) (by omega)).2) (by omega) (by omega) (by split <;> omega) (by rw [eκ9, ← hw2]; exact hE.trans (kPas_go (by assumption) (by assumption))) hP hS (lv_sub hl [1, 2, 3, 4, 5, 0] rfl)
      · refine zg_iload C dX5_paste_92 (lv_at hl 5 rfl) ?_
        refine zg_iret C hP hS dX5_paste_94 ?_
        have h9 : kPasS κ x q b v = κ9 := by rw [eκ9]; unfold kPasS; rw [if_pos xR, if_pos hPB, hE, kPas_room (by assumption) (by assumption)]; try rw [hw2]
        exact ⟨congrArg jI (by unfold kPasR; rw [if_pos xR, if_pos hPB, hE, kPas_room (by assumption) (by assumption)]), hR6, (by rw [h9]; exact hM7), (by rw [h9]; exact hG8)⟩
set_option maxHeartbeats 4000000 in
set_option maxRecDepth 100000 in
theorem kX5_paste (l : Launch) {D : va_G} {a : Nat → Nat} {cI cZ : ClassId} (σ : Zt) (hR : rgM σ) (κ : Zt) (hM : RR κ σ) (hG : kMid κ) (x : Int) (q : Int) (b : Int) (v : Int) (x0 : -2147483648 ≤ x) (x1 : x < 2147483648) (q0 : -2147483648 ≤ q) (q1 : q < 2147483648) (b0 : -2147483648 ≤ b) (b1 : b < 2147483648) (v0 : -2147483648 ≤ v) (v1 : v < 2147483648) (gd : ∀ r : Nat, r < 6 → gR κ r) : zc l D vwCl (tyM cI cZ) 28 (layM cI cZ a) a yX5_paste wsX5_paste ({ frames := 5, cells := 0, slots := 0, locals := 122 }) [.ref (a 0), .int (jI x), .int (jI q), .int (jI b), .int (jI v)] σ (fun r_ u_ => r_ = jI (kPasR κ x q b v) ∧ rgM u_ ∧ RR (kPasS κ x q b v) u_ ∧ kMid (kPasS κ x q b v)) := by
  refine zc_of (cc := cX5_paste) (maxL := 6) (ret := some .int) (own := RX5) (by decide) rfl rfl (Nat.le_of_ble_eq_true rfl) rfl ?_
  intro p e s m below meth c A ls C X hP hS hl
  have bT := rgS_1_10 hG.1
  have bP := rgS_11_4 hG.1
  have bPT := hG.e.1
  refine zg_iload_n C dX5_paste_0 rfl (lv_at hl 1 rfl) ?_
  refine zg_callS C X hP hS (kX5_isReplica l σ hR κ hM hG x (by omega) (by omega)) (cwS 1 C.ts (zgS mlX5_102 stX5_isReplica iniX5 cdX5_isReplica) rfl rfl rfl (by decide +kernel) ⟨Nat.le_of_ble_eq_true rfl, Nat.le_of_ble_eq_true rfl⟩) rfl hl.1 rfl (Nat.le_of_ble_eq_true rfl) dX5_paste_1 ⟨Nat.zero_le _, Nat.zero_le _⟩ (fun r_12 σ11 H locs q13 hP hS => ?_)
  obtain ⟨rfl, q13⟩ := q13
  rw [q13] at hP
  refine zg_ifneB (tgt := 10) C dX5_paste_4 (by decide) (fun c_14 => ?_) (fun c_14 => ?_)
  · have b_15 := kIsR_t c_14
    refine zg_iload_n C dX5_paste_10 rfl (lv_at hl 2 rfl) ?_
    refine zg_i2l C (by omega) (by omega) dX5_paste_11 ?_
    refine zg_lconst C 0 rfl dX5_paste_12 ?_
    refine zg_aload_n C dX5_paste_13 rfl (lv_at hl 0 rfl) ?_
    refine zg_iload_n C dX5_paste_14 rfl (lv_at hl 1 rfl) ?_
    refine zg_callV C X hP hS (kX5_sizeOf l σ hR κ hM hG x (by omega) (by omega)) (cwV 1 C.ts (zgV mlX5_177 imX5_sizeOf slX5_sizeOf iniX5 cdX5_sizeOf) rfl rfl rfl (by decide +kernel) ⟨Nat.le_of_ble_eq_true rfl, Nat.le_of_ble_eq_true rfl⟩) (by decide) lyM_0 rfl rfl rfl hl.1 rfl (Nat.le_of_ble_eq_true rfl) dX5_paste_15 ⟨Nat.zero_le _, Nat.zero_le _⟩ (fun r_17 σ16 H locs q18 hP hS => ?_)
    obtain ⟨rfl, q18⟩ := q18
    have b_19 := kLen_rg hG.1 x.toNat
    rw [q18] at hP
    refine zg_i2l C (by omega) (by omega) dX5_paste_18 ?_
    refine zg_callS C X hP hS (kX5_in l σ hR κ hM hG q 0 (kLen κ x.toNat) (by omega) (by omega) (by omega) (by omega) (by omega) (by omega)) (cwS 3 C.ts (zgS mlX5_98 stX5_in iniX5 cdX5_in) rfl rfl rfl (by decide +kernel) ⟨Nat.le_of_ble_eq_true rfl, Nat.le_of_ble_eq_true rfl⟩) rfl hl.1 rfl (Nat.le_of_ble_eq_true rfl) dX5_paste_19 ⟨Nat.zero_le _, Nat.zero_le _⟩ (fun r_21 σ20 H locs q22 hP hS => ?_)
    obtain ⟨rfl, q22⟩ := q22
    rw [q22] at hP
    refine zg_ifeqB (tgt := 52) C dX5_paste_22 (by decide) (fun c_23 => ?_) (fun c_23 => ?_)
    · have b_24 := mIn_f c_23
      refine zg_bipush C dX5_paste_52 (by decide) ?_
      refine zg_iret C hP hS dX5_paste_54 ?_
      have h9 : kPasS κ x q b v = κ := by grind [kPasS, kPasB, mIn, kIsB, kGap]
      exact ⟨congrArg jI (by grind [kPasR, kPasB, mIn, kIsB, kGap]), hR, (by rw [h9]; exact hM), (by rw [h9]; exact hG)⟩
    · have b_25 := mIn_t c_23
      refine zg_iload_n C dX5_paste_25 rfl (lv_at hl 3 rfl) ?_
      refine zg_i2l C (by omega) (by omega) dX5_paste_26 ?_
      refine zg_lconst C 1 rfl dX5_paste_27 ?_
      refine zg_ldc2 (v := 20) C (C.tb klX5_188) rfl dX5_paste_28 ?_
      refine zg_callS C X hP hS (kX5_in l σ hR κ hM hG b 1 20 (by omega) (by omega) (by omega) (by omega) (by omega) (by omega)) (cwS 3 C.ts (zgS mlX5_98 stX5_in iniX5 cdX5_in) rfl rfl rfl (by decide +kernel) ⟨Nat.le_of_ble_eq_true rfl, Nat.le_of_ble_eq_true rfl⟩) rfl hl.1 rfl (Nat.le_of_ble_eq_true rfl) dX5_paste_31 ⟨Nat.zero_le _, Nat.zero_le _⟩ (fun r_27 σ26 H locs q28 hP hS => ?_)
      obtain ⟨rfl, q28⟩ := q28
      rw [q28] at hP
      refine zg_ifeqB (tgt := 52) C dX5_paste_34 (by decide) (fun c_29 => ?_) (fun c_29 => ?_)
      · have b_30 := mIn_f c_29
        refine zg_bipush C dX5_paste_52 (by decide) ?_
        refine zg_iret C hP hS dX5_paste_54 ?_
        have h9 : kPasS κ x q b v = κ := by grind [kPasS, kPasB, mIn, kIsB, kGap]
        exact ⟨congrArg jI (by grind [kPasR, kPasB, mIn, kIsB, kGap]), hR, (by rw [h9]; exact hM), (by rw [h9]; exact hG)⟩
      · have b_31 := mIn_t c_29
        refine zg_iload C dX5_paste_37 (lv_at hl 4 rfl) ?_
        refine zg_i2l C (by omega) (by omega) dX5_paste_39 ?_
        refine zg_ldc2 (v := 32) C (C.tb klX5_180) rfl dX5_paste_40 ?_
        refine zg_ldc2 (v := 126) C (C.tb klX5_182) rfl dX5_paste_43 ?_
        refine zg_callS C X hP hS (kX5_in l σ hR κ hM hG v 32 126 (by omega) (by omega) (by omega) (by omega) (by omega) (by omega)) (cwS 3 C.ts (zgS mlX5_98 stX5_in iniX5 cdX5_in) rfl rfl rfl (by decide +kernel) ⟨Nat.le_of_ble_eq_true rfl, Nat.le_of_ble_eq_true rfl⟩) rfl hl.1 rfl (Nat.le_of_ble_eq_true rfl) dX5_paste_46 ⟨Nat.zero_le _, Nat.zero_le _⟩ (fun r_33 σ32 H locs q34 hP hS => ?_)
        obtain ⟨rfl, q34⟩ := q34
        rw [q34] at hP
        refine zg_ifneB (tgt := 55) C dX5_paste_49 (by decide) (fun c_35 => ?_) (fun c_35 => ?_)
        · have b_36 := mIn_t c_35
          have hPB : kPasB κ x q b v = true := by unfold kPasB kGap kIsB; simp; omega
          refine zg_iconst C dX5_paste_55 ?_
          refine zg_istore (lv' := [(5, .int (jI 0)), (0, .ref (a 0)), (1, .int (jI x)), (2, .int (jI q)), (3, .int (jI b)), (4, .int (jI v))]) C dX5_paste_56 hl (by decide) rfl (fun ls hl => ?_)
          exact lpX5_paste_58 σ hR κ hM hG x q b v x0 x1 q0 q1 b0 b1 v0 v1 gd (by assumption) hPB (by omega) (by omega) (by omega) (by omega) C X 22 0 σ κ v _ _ _ (by omega) hR hM hG gd (by omega) (by omega) (by omega) (by rw [Int.sub_zero]) hP hS (lv_sub hl [1, 2, 3, 4, 5, 0] rfl)
        · have b_37 := mIn_f c_35
          refine zg_bipush C dX5_paste_52 (by decide) ?_
          refine zg_iret C hP hS dX5_paste_54 ?_
          have h9 : kPasS κ x q b v = κ := by grind [kPasS, kPasB, mIn, kIsB, kGap]
          exact ⟨congrArg jI (by grind [kPasR, kPasB, mIn, kIsB, kGap]), hR, (by rw [h9]; exact hM), (by rw [h9]; exact hG)⟩
  · have b_38 := kIsR_f c_14
    refine zg_bipush C dX5_paste_7 (by decide) ?_
    refine zg_iret C hP hS dX5_paste_9 ?_
    have h9 : kPasS κ x q b v = κ := by grind [kPasS]
    exact ⟨congrArg jI (by grind [kPasR]), hR, (by rw [h9]; exact hM), (by rw [h9]; exact hG)⟩
