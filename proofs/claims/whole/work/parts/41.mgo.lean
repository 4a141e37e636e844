set_option maxHeartbeats 4000000 in
set_option maxRecDepth 100000 in
theorem kX5_comes (l : Launch) {D : va_G} {a : Nat → Nat} {cI cZ : ClassId} (σ : Zt) (hR : rgM σ) (κ : Zt) (hM : RR κ σ) (hG : kMid κ) (x : Int) (d : Int) (x0 : 0 ≤ x) (x1 : x < 6) (d0 : 0 ≤ d) (d1 : d < κ 1 10) : zc l D vwCl (tyM cI cZ) 28 (layM cI cZ a) a yX5_comes wsX5_comes ({ frames := 2, cells := 0, slots := 0, locals := 46 }) [.ref (a 0), .int (jI x), .int (jI d)] σ (fun r_ u_ => r_ = jI (kRecR κ x.toNat d) ∧ rgM u_ ∧ RR (kComS κ x.toNat d) u_ ∧ kMid (kComS κ x.toNat d)) := by
  refine zc_of (cc := cX5_comes) (maxL := 3) (ret := some .int) (own := RX5) (by decide) rfl rfl (Nat.le_of_ble_eq_true rfl) rfl ?_
  intro p e s m below meth c A ls C X hP hS hl
  have bT := rgS_1_10 hG.1
  have bP := rgS_11_4 hG.1
  have bPT := hG.e.1
  refine zg_aload_n C dX5_comes_0 rfl (lv_at hl 0 rfl) ?_
  refine zg_iload_n C dX5_comes_1 rfl (lv_at hl 1 rfl) ?_
  refine zg_iload_n C dX5_comes_2 rfl (lv_at hl 2 rfl) ?_
  refine zg_callV C X hP hS (kX5_has l σ hR κ hM hG x d (by omega) (by omega) (by omega) (by omega)) (cwV 2 C.ts (zgV mlX5_106 imX5_has slX5_has iniX5 cdX5_has) rfl rfl rfl (by decide +kernel) ⟨Nat.le_of_ble_eq_true rfl, Nat.le_of_ble_eq_true rfl⟩) (by decide) lyM_0 rfl rfl rfl hl.1 rfl (Nat.le_of_ble_eq_true rfl) dX5_comes_3 ⟨Nat.zero_le _, Nat.zero_le _⟩ (fun r_2 σ1 H locs q3 hP hS => ?_)
  obtain ⟨rfl, q3⟩ := q3
  rw [q3] at hP
  refine zg_ifneB (tgt := 24) C dX5_comes_6 (by decide) (fun c_4 => ?_) (fun c_4 => ?_)
  · refine zg_iconst C dX5_comes_24 ?_
    refine zg_iret C hP hS dX5_comes_25 ?_
    have h9 : kComS κ x.toNat d = κ := by grind [kComS]
    exact ⟨congrArg jI (by grind [kRecR]), hR, (by rw [h9]; exact hM), (by rw [h9]; exact hG)⟩
  · refine zg_aload_n C dX5_comes_9 rfl (lv_at hl 0 rfl) ?_
    refine zg_get (j := 19) C X hP (by decide) lyM_0 rfl (zmem uwX5) (by decide) (C.tb flX5_63) (fun _ h9 => h9) rfl dX5_comes_10 ?_
    refine zg_sipush C dX5_comes_13 (by decide) ?_
    refine zg_iload_n C dX5_comes_16 rfl (lv_at hl 1 rfl) ?_
    refine zg_imul C dX5_comes_17 ?_
    refine zg_iload_n C dX5_comes_18 rfl (lv_at hl 2 rfl) ?_
    refine zg_iadd C dX5_comes_19 ?_
    refine zg_zald (t0 := 1) C X hP (by decide) lyM_17 rfl (by decide) (by omega) (by omega) dX5_comes_20 ?_
    rw [rr_17 hM (x := x) (d := d) (by omega) (by omega) (by omega) (by omega)]
    have b_5 := rgS_22 hG.1 (r := x.toNat) (by omega) d.toNat
    have b_6 := rgM_17 hR (((400 * x) + d).toNat)
    refine zg_if_eq (tgt := 26) C (by omega) (by omega) dX5_comes_21 (by decide) (fun c_7 => ?_) (fun c_7 => ?_)
    · refine zg_aload_n C dX5_comes_26 rfl (lv_at hl 0 rfl) ?_
      refine zg_iload_n C dX5_comes_27 rfl (lv_at hl 1 rfl) ?_
      refine zg_iload_n C dX5_comes_28 rfl (lv_at hl 2 rfl) ?_
      refine zg_callV C X hP hS (kX5_can l σ hR κ hM hG x d (by omega) (by omega) (by omega) (by omega)) (cwV 2 C.ts (zgV mlX5_138 imX5_can slX5_can iniX5 cdX5_can) rfl rfl rfl (by decide +kernel) ⟨Nat.le_of_ble_eq_true rfl, Nat.le_of_ble_eq_true rfl⟩) (by decide) lyM_0 rfl rfl rfl hl.1 rfl (Nat.le_of_ble_eq_true rfl) dX5_comes_29 ⟨Nat.zero_le _, Nat.zero_le _⟩ (fun r_9 σ8 H locs q10 hP hS => ?_)
      obtain ⟨rfl, q10⟩ := q10
      rw [q10] at hP
      refine zg_ifneB (tgt := 50) C dX5_comes_32 (by decide) (fun c_11 => ?_) (fun c_11 => ?_)
      · refine zg_aload_n C dX5_comes_50 rfl (lv_at hl 0 rfl) ?_
        refine zg_iload_n C dX5_comes_51 rfl (lv_at hl 1 rfl) ?_
        refine zg_iload_n C dX5_comes_52 rfl (lv_at hl 2 rfl) ?_
        have hdn := rr_dn hM hG x0 x1 (d := d) (by assumption)
        refine zg_callVv C X hP hS (kX5_isDone l σ hR x d (by omega) (by omega) (by omega) (by omega) hdn) (cwV 2 C.ts (zgV mlX5_141 imX5_isDone slX5_isDone iniX5 cdX5_isDone) rfl rfl rfl (by decide +kernel) ⟨Nat.le_of_ble_eq_true rfl, Nat.le_of_ble_eq_true rfl⟩) (by decide) lyM_0 rfl rfl rfl hl.1 rfl (Nat.le_of_ble_eq_true rfl) dX5_comes_53 ⟨Nat.zero_le _, Nat.zero_le _⟩ (fun σ12 H locs q14 hP hS => ?_)
        have hR15 : rgM σ12 := by rw [q14]; exact mDone_rg hR (by omega) (by omega) (by omega) (by omega) hdn
        obtain ⟨κ16, eκ16⟩ : ∃ z_ : Zt, z_ = kDo κ x.toNat d := ⟨_, rfl⟩
        have hM17 : RR κ16 σ12 := by rw [eκ16, q14]; exact RR_doI hM hG (by omega) (by omega) (by omega) (by omega) (by assumption)
        have hG18 : kMid κ16 := by rw [eκ16]; exact kMid_doI hG (by omega) (by omega) (by omega) (by omega) (Or.inl (by assumption)) (by assumption)
        refine zg_iconst C dX5_comes_56 ?_
        refine zg_iret C hP hS dX5_comes_57 ?_
        have h9 : kComS κ x.toNat d = κ16 := by rw [eκ16]; grind [kComS]
        exact ⟨congrArg jI (by grind [kRecR]), hR15, (by rw [h9]; exact hM17), (by rw [h9]; exact hG18)⟩
      · refine zg_aload_n C dX5_comes_35 rfl (lv_at hl 0 rfl) ?_
        refine zg_get (j := 19) C X hP (by decide) lyM_0 rfl (zmem uwX5) (by decide) (C.tb flX5_63) (fun _ h9 => h9) rfl dX5_comes_36 ?_
        refine zg_sipush C dX5_comes_39 (by decide) ?_
        refine zg_iload_n C dX5_comes_42 rfl (lv_at hl 1 rfl) ?_
        refine zg_imul C dX5_comes_43 ?_
        refine zg_iload_n C dX5_comes_44 rfl (lv_at hl 2 rfl) ?_
        refine zg_iadd C dX5_comes_45 ?_
        refine zg_iconst C dX5_comes_46 ?_
        refine zg_zast (t0 := 1) (b := true) C X hP hS (by decide) (fun x => lyM_17) rfl (by decide) (by omega) (by omega) dX5_comes_47 (fun H locs hP hS => ?_)
        have b_19 := bI_01 true
        obtain ⟨σ20, e21⟩ : ∃ z_ : Zt, z_ = zu σ 17 ((400 * x) + d).toNat (bI true) := ⟨_, rfl⟩
        rw [← e21] at hP
        have w_23 : σ20 17 ((400 * x) + d).toNat = bI true := by rw [e21]; exact zu_same _ _ _ _
        have hR22 : rgM σ20 := by rw [e21]; exact rzM_17 hR (by omega) (by omega)
        obtain ⟨κ24, eκ24⟩ : ∃ z_ : Zt, z_ = kWt κ x.toNat d := ⟨_, rfl⟩
        have hM25 : RR κ24 σ20 := by rw [eκ24, e21]; exact RR_wtI hM (by omega) (by omega) (by omega) (by omega)
        have hG26 : kMid κ24 := by rw [eκ24]; exact kMid_wtI hG (by omega) (by omega) (by omega) (by omega) (by assumption) (by assumption)
        refine zg_iconst C dX5_comes_48 ?_
        refine zg_iret C hP hS dX5_comes_49 ?_
        have h9 : kComS κ x.toNat d = κ24 := by rw [eκ24]; grind [kComS]
        exact ⟨congrArg jI (by grind [kRecR]), hR22, (by rw [h9]; exact hM25), (by rw [h9]; exact hG26)⟩
    · refine zg_iconst C dX5_comes_24 ?_
      refine zg_iret C hP hS dX5_comes_25 ?_
      have h9 : kComS κ x.toNat d = κ := by grind [kComS]
      exact ⟨congrArg jI (by grind [kRecR]), hR, (by rw [h9]; exact hM), (by rw [h9]; exact hG)⟩
set_option maxHeartbeats 4000000 in
set_option maxRecDepth 100000 in
theorem lpX5_goOn_13 {l : Launch} {D : va_G} {a : Nat → Nat} {cI cZ : ClassId} {p : Program} {e : Env} {s : State} {m : MethodId} {below : List Frame} {meth : Method} {c : Code} {A : Nat → Prop} (σ : Zt) (hR : rgM σ) (κ : Zt) (hM : RR κ σ) (hG : kMid κ) (x : Int) (x0 : 0 ≤ x) (x1 : x < 6)  (C : zk p s m ([.ref (a 0), .int (jI x)] : List Value).toArray meth c cX5_goOn 5 (some .int) wsX5_goOn RX5) (X : zx D vwCl (tyM cI cZ) A a 28 s) :
    ∀ (n : Nat) (nn d : Int) (τ : Zt) (κ2 : Zt) (H : Heap) (locs : List Loc) (ls : Array Slot), ((402 * κ2 (20 + 6 * x.toNat) 6 + (401 - d)).toNat < n) → (rgM τ) → (RR κ2 τ) → (kMid κ2) → (0 ≤ d) → (d ≤ κ2 1 10) → (kFirst κ2 x.toNat (κ2 1 10).toNat 0 = kFirst κ2 x.toNat (κ2 1 10 - d).toNat d.toNat) → (kWaited x.toNat 400 κ = kWaited x.toNat 400 κ2) → (nn = kAll κ2 x.toNat - kAll κ x.toNat) → va_P D vwCl (zw 28 (layM cI cZ a) a τ) H → va_S A s.heap H locs → lv_has ls 5 [(0, .ref (a 0)), (1, .int (jI x)), (2, .int (jI nn)), (3, .int (jI 0)), (4, .int (jI d))] →
      W p l e ({ frames := 2, cells := 0, slots := 0, locals := 46 }) s m ([.ref (a 0), .int (jI x)] : List Value).toArray below meth c H locs 0 0 (MQ below (va_Qi (fun r_ u_ => r_ = jI (kAll (kWaited x.toNat 400 κ) x.toNat - kAll κ x.toNat) ∧ rgM u_ ∧ RR (kWaited x.toNat 400 κ) u_ ∧ kMid (kWaited x.toNat 400 κ)) (fun (u : Zt) t => va_P D vwCl (zw 28 (layM cI cZ a) a u) t.heap) A) ([.ref (a 0), .int (jI x)] : List Value).toArray s 0 0 A) (F0 m 13 ls []) := by
  intro n
  induction n with
  | zero =>
    intro nn d τ κ2 H locs ls hn hτ hM2 hG2 d0 d1 hF hW hE hP hS hl
    exact absurd hn (by omega)
  | succ n ih =>
    intro nn d τ κ2 H locs ls hn hτ hM2 hG2 d0 d1 hF hW hE hP hS hl
    have bT := rgS_1_10 hG2.1
    have bW := rgS_20_6 hG2.1 (r := x.toNat) (by omega)
    have bA := kAll_rg hG2.1 (r := x.toNat) (by omega)
    have bB := kAll_rg hG.1 (r := x.toNat) (by omega)
    refine zg_iload C dX5_goOn_13 (lv_at hl 4 rfl) ?_
    refine zg_aload_n C dX5_goOn_15 rfl (lv_at hl 0 rfl) ?_
    refine zg_get (j := 1) C X hP (by decide) lyM_0 rfl (zmem uwX5) (by decide) (C.tb flX5_135) (fun _ h9 => h9) rfl dX5_goOn_16 ?_
    rw [rr_0_1 hM2]
    have b_1 := rgS_1_10 hG2.1
    have b_2 := rgM_0_1 hτ
    refine zg_icmp_ge (tgt := 70) C (by omega) (by omega) (by omega) (by omega) dX5_goOn_19 (by decide) (fun c_3 => ?_) (fun c_3 => ?_)
    · refine zg_goto (tgt := 4) C dX5_goOn_70 (by decide) ?_
      refine zg_iload_n C dX5_goOn_4 rfl (lv_at hl 3 rfl) ?_
      refine zg_if_eq (tgt := 73) C (by omega) (by omega) dX5_goOn_5 (by decide) (fun c_4 => ?_) (fun c_4 => ?_)
      · refine zg_iload_n C dX5_goOn_73 rfl (lv_at hl 2 rfl) ?_
        refine zg_iret C hP hS dX5_goOn_74 ?_
        have h8 := hF.trans (kFirst_end (by omega))
        have h9 : kWaited x.toNat 400 κ = κ2 := by rw [hW, kWaited_no _ h8]
        exact ⟨congrArg jI (by rw [hW, kWaited_no _ h8, hE]), hτ, (by rw [h9]; exact hM2), (by rw [h9]; exact hG2)⟩
      · exact absurd c_4 (by decide)
    · refine zg_iload_n C dX5_goOn_22 rfl (lv_at hl 3 rfl) ?_
      refine zg_if_ne (tgt := 70) C (by omega) (by omega) dX5_goOn_23 (by decide) (fun c_5 => ?_) (fun c_5 => ?_)
      · exact absurd c_5 (by decide)
      · refine zg_aload_n C dX5_goOn_26 rfl (lv_at hl 0 rfl) ?_
        refine zg_get (j := 19) C X hP (by decide) lyM_0 rfl (zmem uwX5) (by decide) (C.tb flX5_63) (fun _ h9 => h9) rfl dX5_goOn_27 ?_
        refine zg_sipush C dX5_goOn_30 (by decide) ?_
        refine zg_iload_n C dX5_goOn_33 rfl (lv_at hl 1 rfl) ?_
        refine zg_imul C dX5_goOn_34 ?_
        refine zg_iload C dX5_goOn_35 (lv_at hl 4 rfl) ?_
        refine zg_iadd C dX5_goOn_37 ?_
        refine zg_zald (t0 := 1) C X hP (by decide) lyM_17 rfl (by decide) (by omega) (by omega) dX5_goOn_38 ?_
        rw [rr_17 hM2 (x := x) (d := d) (by omega) (by omega) (by omega) (by omega)]
        have b_6 := rgS_22 hG2.1 (r := x.toNat) (by omega) d.toNat
        have b_7 := rgM_17 hτ (((400 * x) + d).toNat)
        refine zg_if_eq (tgt := 64) C (by omega) (by omega) dX5_goOn_39 (by decide) (fun c_8 => ?_) (fun c_8 => ?_)
        · refine zg_iinc (k := 4) (lv' := [(4, .int (jI (d + 1))), (0, .ref (a 0)), (1, .int (jI x)), (2, .int (jI nn)), (3, .int (jI 0))]) C dX5_goOn_64 hl rfl (by decide) rfl (fun ls hl => ?_)
          refine zg_goto (tgt := 13) C dX5_goOn_67 (by decide) ?_
          exact ih nn (d + 1) τ κ2 _ _ _ (by omega) hτ hM2 hG2 (by omega) (by omega) (by first | (rw [Int.sub_zero]; rfl) | exact hF.trans (kFirst_step (by omega) (by assumption) (by grind))) (by first | exact hW | (exact hW.trans h7)) (by omega) hP hS (lv_sub hl [1, 2, 3, 4, 0] rfl)
        · refine zg_aload_n C dX5_goOn_42 rfl (lv_at hl 0 rfl) ?_
          refine zg_iload_n C dX5_goOn_43 rfl (lv_at hl 1 rfl) ?_
          refine zg_iload C dX5_goOn_44 (lv_at hl 4 rfl) ?_
          refine zg_callV C X hP hS (kX5_can l τ hτ κ2 hM2 hG2 x d (by omega) (by omega) (by omega) (by omega)) (cwV 2 C.ts (zgV mlX5_138 imX5_can slX5_can iniX5 cdX5_can) rfl rfl rfl (by decide +kernel) ⟨Nat.le_of_ble_eq_true rfl, Nat.le_of_ble_eq_true rfl⟩) (by decide) lyM_0 rfl rfl rfl hl.1 rfl (Nat.le_of_ble_eq_true rfl) dX5_goOn_46 ⟨Nat.zero_le _, Nat.zero_le _⟩ (fun r_10 σ9 H locs q11 hP hS => ?_)
          obtain ⟨rfl, q11⟩ := q11
          rw [q11] at hP
          refine zg_ifeqB (tgt := 64) C dX5_goOn_49 (by decide) (fun c_12 => ?_) (fun c_12 => ?_)
          · refine zg_iinc (k := 4) (lv' := [(4, .int (jI (d + 1))), (0, .ref (a 0)), (1, .int (jI x)), (2, .int (jI nn)), (3, .int (jI 0))]) C dX5_goOn_64 hl rfl (by decide) rfl (fun ls hl => ?_)
            refine zg_goto (tgt := 13) C dX5_goOn_67 (by decide) ?_
            exact ih nn (d + 1) τ κ2 _ _ _ (by omega) hτ hM2 hG2 (by omega) (by omega) (by first | (rw [Int.sub_zero]; rfl) | exact hF.trans (kFirst_step (by omega) (by assumption) (by grind))) (by first | exact hW | (exact hW.trans h7)) (by omega) hP hS (lv_sub hl [1, 2, 3, 4, 0] rfl)
          · refine zg_aload_n C dX5_goOn_52 rfl (lv_at hl 0 rfl) ?_
            refine zg_iload_n C dX5_goOn_53 rfl (lv_at hl 1 rfl) ?_
            refine zg_iload C dX5_goOn_54 (lv_at hl 4 rfl) ?_
            have hdn := rr_dn hM2 hG2 x0 x1 (d := d) (by assumption)
            have h7 := kWaited_goI hG2 x0 x1 d0 hF (by assumption) (by assumption) (by assumption)
            refine zg_callVv C X hP hS (kX5_isDone l τ hτ x d (by omega) (by omega) (by omega) (by omega) hdn) (cwV 2 C.ts (zgV mlX5_141 imX5_isDone slX5_isDone iniX5 cdX5_isDone) rfl rfl rfl (by decide +kernel) ⟨Nat.le_of_ble_eq_true rfl, Nat.le_of_ble_eq_true rfl⟩) (by decide) lyM_0 rfl rfl rfl hl.1 rfl (Nat.le_of_ble_eq_true rfl) dX5_goOn_56 ⟨Nat.zero_le _, Nat.zero_le _⟩ (fun σ13 H locs q15 hP hS => ?_)
            have hR16 : rgM σ13 := by rw [q15]; exact mDone_rg hτ (by omega) (by omega) (by omega) (by omega) hdn
            obtain ⟨κ17, eκ17⟩ : ∃ z_ : Zt, z_ = kDo κ2 x.toNat d := ⟨_, rfl⟩
            have hM18 : RR κ17 σ13 := by rw [eκ17, q15]; exact RR_doI hM2 hG2 (by omega) (by omega) (by omega) (by omega) (by assumption)
            have hG19 : kMid κ17 := by rw [eκ17]; exact kMid_doI hG2 (by omega) (by omega) (by omega) (by omega) (Or.inr (by assumption)) (by assumption)
            have b_w : κ17 (20 + 6 * x.toNat) 6 = κ2 (20 + 6 * x.toNat) 6 - 1 := by rw [eκ17, kDo_20_6, if_neg (by assumption)]
            have b_t : κ17 1 10 = κ2 1 10 := by rw [eκ17, kDo_lo (by omega)]
            have b_a : kAll κ17 x.toNat = kAll κ2 x.toNat + 1 := by rw [eκ17]; exact kAll_do hG2.1
            have b_v := rgS_20_6 hG19.1 (r := x.toNat) (by omega)
            refine zg_iinc (k := 2) (lv' := [(2, .int (jI (nn + 1))), (0, .ref (a 0)), (1, .int (jI x)), (3, .int (jI 0)), (4, .int (jI d))]) C dX5_goOn_59 hl rfl (by decide) rfl (fun ls hl => ?_)
            refine zg_iconst C dX5_goOn_62 ?_
            refine zg_istore_n (lv' := [(3, .int (jI 1)), (2, .int (jI (nn + 1))), (0, .ref (a 0)), (1, .int (jI x)), (4, .int (jI d))]) C dX5_goOn_63 rfl hl (by decide) rfl (fun ls hl => ?_)
            refine zg_iinc (k := 4) (lv' := [(4, .int (jI (d + 1))), (3, .int (jI 1)), (2, .int (jI (nn + 1))), (0, .ref (a 0)), (1, .int (jI x))]) C dX5_goOn_64 hl rfl (by decide) rfl (fun ls hl => ?_)
            refine zg_goto (tgt := 13) C dX5_goOn_67 (by decide) ?_
            refine zg_iload C dX5_goOn_13 (lv_at hl 0 rfl) ?_
            refine zg_aload_n C dX5_goOn_15 rfl (lv_at hl 3 rfl) ?_
            refine zg_get (j := 1) C X hP (by decide) lyM_0 rfl (zmem uwX5) (by decide) (C.tb flX5_135) (fun _ h9 => h9) rfl dX5_goOn_16 ?_
            rw [rr_0_1 hM18]
            have b_20 := rgS_1_10 hG19.1
            have b_21 := rgM_0_1 hR16
            refine zg_icmp_ge (tgt := 70) C (by omega) (by omega) (by omega) (by omega) dX5_goOn_19 (by decide) (fun c_22 => ?_) (fun c_22 => ?_)
            · refine zg_goto (tgt := 4) C dX5_goOn_70 (by decide) ?_
              refine zg_iload_n C dX5_goOn_4 rfl (lv_at hl 1 rfl) ?_
              refine zg_if_eq (tgt := 73) C (by omega) (by omega) dX5_goOn_5 (by decide) (fun c_23 => ?_) (fun c_23 => ?_)
              · exact absurd c_23 (by decide)
              · refine zg_iconst C dX5_goOn_8 ?_
                refine zg_istore_n (lv' := [(3, .int (jI 0)), (4, .int (jI (d + 1))), (2, .int (jI (nn + 1))), (0, .ref (a 0)), (1, .int (jI x))]) C dX5_goOn_9 rfl hl (by decide) rfl (fun ls hl => ?_)
                refine zg_iconst C dX5_goOn_10 ?_
                refine zg_istore (lv' := [(4, .int (jI 0)), (3, .int (jI 0)), (2, .int (jI (nn + 1))), (0, .ref (a 0)), (1, .int (jI x))]) C dX5_goOn_11 hl (by decide) rfl (fun ls hl => ?_)
                exact ih (nn + 1) 0 σ13 κ17 _ _ _ (by omega) hR16 hM18 hG19 (by omega) (by omega) (by first | (rw [Int.sub_zero]; rfl) | exact hF.trans (kFirst_step (by omega) (by assumption) (by grind))) (by first | exact hW | (rw [eκ17]; exact hW.trans h7)) (by omega) hP hS (lv_sub hl [3, 4, 2, 1, 0] rfl)
            · refine zg_iload_n C dX5_goOn_22 rfl (lv_at hl 1 rfl) ?_
              refine zg_if_ne (tgt := 70) C (by omega) (by omega) dX5_goOn_23 (by decide) (fun c_24 => ?_) (fun c_24 => ?_)
              · refine zg_goto (tgt := 4) C dX5_goOn_70 (by decide) ?_
                refine zg_iload_n C dX5_goOn_4 rfl (lv_at hl 1 rfl) ?_
                refine zg_if_eq (tgt := 73) C (by omega) (by omega) dX5_goOn_5 (by decide) (fun c_25 => ?_) (fun c_25 => ?_)
                · exact absurd c_25 (by decide)
                · refine zg_iconst C dX5_goOn_8 ?_
                  refine zg_istore_n (lv' := [(3, .int (jI 0)), (4, .int (jI (d + 1))), (2, .int (jI (nn + 1))), (0, .ref (a 0)), (1, .int (jI x))]) C dX5_goOn_9 rfl hl (by decide) rfl (fun ls hl => ?_)
                  refine zg_iconst C dX5_goOn_10 ?_
                  refine zg_istore (lv' := [(4, .int (jI 0)), (3, .int (jI 0)), (2, .int (jI (nn + 1))), (0, .ref (a 0)), (1, .int (jI x))]) C dX5_goOn_11 hl (by decide) rfl (fun ls hl => ?_)
                  exact ih (nn + 1) 0 σ13 κ17 _ _ _ (by omega) hR16 hM18 hG19 (by omega) (by omega) (by first | (rw [Int.sub_zero]; rfl) | exact hF.trans (kFirst_step (by omega) (by assumption) (by grind))) (by first | exact hW | (rw [eκ17]; exact hW.trans h7)) (by omega) hP hS (lv_sub hl [3, 4, 2, 1, 0] rfl)
              · exact absurd c_24 (by decide)
set_option maxHeartbeats 4000000 in
set_option maxRecDepth 100000 in
theorem kX5_goOn (l : Launch) {D : va_G} {a : Nat → Nat} {cI cZ : ClassId} (σ : Zt) (hR : rgM σ) (κ : Zt) (hM : RR κ σ) (hG : kMid κ) (x : Int) (x0 : 0 ≤ x) (x1 : x < 6) : zc l D vwCl (tyM cI cZ) 28 (layM cI cZ a) a yX5_goOn wsX5_goOn ({ frames := 2, cells := 0, slots := 0, locals := 46 }) [.ref (a 0), .int (jI x)] σ (fun r_ u_ => r_ = jI (kAll (kWaited x.toNat 400 κ) x.toNat - kAll κ x.toNat) ∧ rgM u_ ∧ RR (kWaited x.toNat 400 κ) u_ ∧ kMid (kWaited x.toNat 400 κ)) := by
  refine zc_of (cc := cX5_goOn) (maxL := 5) (ret := some .int) (own := RX5) (by decide) rfl rfl (Nat.le_of_ble_eq_true rfl) rfl ?_
  intro p e s m below meth c A ls C X hP hS hl
  have bT := rgS_1_10 hG.1
  have bP := rgS_11_4 hG.1
  have bPT := hG.e.1
  refine zg_iconst C dX5_goOn_0 ?_
  refine zg_istore_n (lv' := [(2, .int (jI 0)), (0, .ref (a 0)), (1, .int (jI x))]) C dX5_goOn_1 rfl hl (by decide) rfl (fun ls hl => ?_)
  refine zg_iconst C dX5_goOn_2 ?_
  refine zg_istore_n (lv' := [(3, .int (jI 1)), (2, .int (jI 0)), (0, .ref (a 0)), (1, .int (jI x))]) C dX5_goOn_3 rfl hl (by decide) rfl (fun ls hl => ?_)
  refine zg_iload_n C dX5_goOn_4 rfl (lv_at hl 0 rfl) ?_
  refine zg_if_eq (tgt := 73) C (by omega) (by omega) dX5_goOn_5 (by decide) (fun c_26 => ?_) (fun c_26 => ?_)
  · exact absurd c_26 (by decide)
  · refine zg_iconst C dX5_goOn_8 ?_
    refine zg_istore_n (lv' := [(3, .int (jI 0)), (2, .int (jI 0)), (0, .ref (a 0)), (1, .int (jI x))]) C dX5_goOn_9 rfl hl (by decide) rfl (fun ls hl => ?_)
    refine zg_iconst C dX5_goOn_10 ?_
    refine zg_istore (lv' := [(4, .int (jI 0)), (3, .int (jI 0)), (2, .int (jI 0)), (0, .ref (a 0)), (1, .int (jI x))]) C dX5_goOn_11 hl (by decide) rfl (fun ls hl => ?_)
    exact lpX5_goOn_13 σ hR κ hM hG x x0 x1 C X 170000 0 0 σ κ _ _ _ (by have := rgS_20_6 hG.1 (r := x.toNat) (by omega); omega) hR hM hG (by omega) (by omega) (by rw [Int.sub_zero]; rfl) rfl (by omega) hP hS (lv_sub hl [3, 4, 2, 1, 0] rfl)
