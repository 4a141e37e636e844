set_option maxHeartbeats 4000000 in
set_option maxRecDepth 100000 in
theorem lpX2_doWhatWaited_2 {l : Launch} {D : va_G} {a : Nat → Nat} {cI cZ cR : ClassId} {p : Program} {e : Env} {s : State} {m : MethodId} {below : List Frame} {meth : Method} {c : Code} {A : Nat → Prop} (σ : Zt) (hR : rgS σ) (r : Nat) (hr : r < 6)  (C : zk p s m ([.ref (a (20 + 6 * r))] : List Value).toArray meth c cX2_doWhatWaited 3 (none) wsX2_doWhatWaited RX2) (X : zx D vwCl (tyS cI cZ cR) A a 56 s) :
    ∀ (n : Nat) (i : Int) (τ : Zt) (H : Heap) (locs : List Loc) (ls : Array Slot), ((400 - i).toNat < n) → (rgS τ) → (0 ≤ i) → (i ≤ 400) → (kWaited r 400 σ = kWaited r (400 - i).toNat τ) → va_P D vwCl (zw 56 (layS cI cZ cR a) a τ) H → va_S A s.heap H locs → lv_has ls 3 [(0, .ref (a (20 + 6 * r))), (1, .int (jI i))] →
      W p l e ({ frames := 3, cells := 0, slots := 0, locals := 63 }) s m ([.ref (a (20 + 6 * r))] : List Value).toArray below meth c H locs 0 0 (MQ below (va_Qv (fun u_ => u_ = kWaited r 400 σ) (fun (u : Zt) t => va_P D vwCl (zw 56 (layS cI cZ cR a) a u) t.heap) A) ([.ref (a (20 + 6 * r))] : List Value).toArray s 0 0 A) (F0 m 2 ls []) := by
  intro n
  induction n with
  | zero =>
    intro i τ H locs ls hn hτ i0 i1 hE hP hS hl
    exact absurd hn (by omega)
  | succ n ih =>
    intro i τ H locs ls hn hτ i0 i1 hE hP hS hl
    refine zg_iload_n C dX2_doWhatWaited_2 rfl (lv_at hl 1 rfl) ?_
    refine zg_sipush C dX2_doWhatWaited_3 (by decide) ?_
    refine zg_icmp_ge (tgt := 55) C (by omega) (by omega) (by omega) (by omega) dX2_doWhatWaited_6 (by decide) (fun c_1 => ?_) (fun c_1 => ?_)
    · refine zg_vret C hP hS dX2_doWhatWaited_55 ?_
      rw [hE]; first | rw [kWaited_end (by omega)] | rw [kWaited_stop (by omega)]
    · refine zg_aload_n C dX2_doWhatWaited_9 rfl (lv_at hl 0 rfl) ?_
      refine zg_get (j := 6) C X hP (hkS_20 hr) (lyS_20 hr) rfl (zmem uwX2) (by decide) (C.tb flX2_69) (fun _ h9 => h9) rfl dX2_doWhatWaited_10 ?_
      have b_2 := rgS_20_6 hτ hr
      refine zg_if_le (tgt := 55) C (by omega) (by omega) dX2_doWhatWaited_13 (by decide) (fun c_3 => ?_) (fun c_3 => ?_)
      · refine zg_vret C hP hS dX2_doWhatWaited_55 ?_
        rw [hE]; first | rw [kWaited_end (by omega)] | rw [kWaited_stop (by omega)]
      · refine zg_aload_n C dX2_doWhatWaited_16 rfl (lv_at hl 0 rfl) ?_
        refine zg_callV C X hP hS (kX2_firstReady l τ hτ r hr) (cwV 0 C.ts (zgV mlX2_79 imX2_firstReady slX2_firstReady iniX2 cdX2_firstReady) rfl rfl rfl (by decide +kernel) ⟨Nat.le_of_ble_eq_true rfl, Nat.le_of_ble_eq_true rfl⟩) (hkS_20 hr) (lyS_20 hr) rfl rfl rfl hl.1 rfl (Nat.le_of_ble_eq_true rfl) dX2_doWhatWaited_17 ⟨Nat.zero_le _, Nat.zero_le _⟩ (fun r_5 σ4 H locs q6 hP hS => ?_)
        obtain ⟨rfl, q6⟩ := q6
        have b_7 := kFirst_rg τ r (τ 1 10).toNat 0
        have b_8 := rgS_1_10 hτ
        rw [q6] at hP
        refine zg_istore_n (lv' := [(2, .int (jI (kFirst τ r (τ 1 10).toNat 0))), (0, .ref (a (20 + 6 * r))), (1, .int (jI i))]) C dX2_doWhatWaited_20 rfl hl (by decide) rfl (fun ls hl => ?_)
        refine zg_iload_n C dX2_doWhatWaited_21 rfl (lv_at hl 0 rfl) ?_
        refine zg_iconst C dX2_doWhatWaited_22 ?_
        refine zg_icmp_ne (tgt := 27) C (by omega) (by omega) (by omega) (by omega) dX2_doWhatWaited_23 (by decide) (fun c_9 => ?_) (fun c_9 => ?_)
        · refine zg_aload_n C dX2_doWhatWaited_27 rfl (lv_at hl 1 rfl) ?_
          refine zg_get (j := 8) C X hP (hkS_20 hr) (lyS_20 hr) rfl (zmem uwX2) (by decide) (C.tb flX2_15) (fun _ h9 => h9) rfl dX2_doWhatWaited_28 ?_
          refine zg_iload_n C dX2_doWhatWaited_31 rfl (lv_at hl 0 rfl) ?_
          refine zg_iconst C dX2_doWhatWaited_32 ?_
          refine zg_zast (t0 := 1) (b := false) C X hP hS (hkS_22 hr) (fun x => (lyS_22 hr)) rfl (by decide) (by omega) (by omega) dX2_doWhatWaited_33 (fun H locs hP hS => ?_)
          have b_10 := bI_01 false
          obtain ⟨σ11, e12⟩ : ∃ z_ : Zt, z_ = zu τ (22 + 6 * r) (kFirst τ r (τ 1 10).toNat 0).toNat (bI false) := ⟨_, rfl⟩
          rw [← e12] at hP
          have w_14 : σ11 (22 + 6 * r) (kFirst τ r (τ 1 10).toNat 0).toNat = bI false := by rw [e12]; exact zu_same _ _ _ _
          have w_15 : σ11 (20 + 6 * r) 6 = τ (20 + 6 * r) 6 := by rw [e12]; first | exact congrFun (zu_ne (by omega)) _ | exact zu_nj (by omega)
          have hR13 : rgS σ11 := by rw [e12]; exact rzS_22 hτ hr (by omega) (by omega)
          refine zg_aload_n C dX2_doWhatWaited_34 rfl (lv_at hl 1 rfl) ?_
          refine zg_dup C dX2_doWhatWaited_35 rfl ?_
          refine zg_get (j := 6) C X hP (hkS_20 hr) (lyS_20 hr) rfl (zmem uwX2) (by decide) (C.tb flX2_69) (fun _ h9 => h9) rfl dX2_doWhatWaited_36 ?_
          have b_16 := rgS_20_6 hR13 hr
          refine zg_iconst C dX2_doWhatWaited_39 ?_
          refine zg_isub C dX2_doWhatWaited_40 ?_
          refine zg_put (j := 6) (v := (σ11 (20 + 6 * r) 6) - 1) C X hP hS (hkS_20 hr) (lyS_20 hr) rfl (zmem uwX2) tyX2 tyX2_ok nmX2 (by decide) (C.tb flX2_69) (fun _ h9 => h9) rfl (by decide +kernel) (Nat.le_of_ble_eq_true rfl) (by rw [(lyS_20 hr)]; rfl) dX2_doWhatWaited_41 (fun H locs hP hS => ?_)
          obtain ⟨σ17, e18⟩ : ∃ z_ : Zt, z_ = zu σ11 (20 + 6 * r) 6 ((σ11 (20 + 6 * r) 6) - 1) := ⟨_, rfl⟩
          rw [← e18] at hP
          have w_20 : σ17 (20 + 6 * r) 6 = (σ11 (20 + 6 * r) 6) - 1 := by rw [e18]; exact zu_same _ _ _ _
          have hR19 : rgS σ17 := by rw [e18]; exact rzS_20_6 hR13 hr (by omega) (by omega)
          refine zg_aload_n C dX2_doWhatWaited_44 rfl (lv_at hl 1 rfl) ?_
          refine zg_iload_n C dX2_doWhatWaited_45 rfl (lv_at hl 0 rfl) ?_
          refine zg_callVv C X hP hS (kX2_carryOut l σ17 hR19 r hr (kFirst τ r (τ 1 10).toNat 0) (by omega) (by omega) (by have h9 := kReady_dn hτ (kFirst_is (σ := τ) _ _ (by assumption)).2; rw [e18, e12]; simp (disch := omega) only [zu_ne]; exact h9)) (cwV 1 C.ts (zgV mlX2_72 imX2_carryOut slX2_carryOut iniX2 cdX2_carryOut) rfl rfl rfl (by decide +kernel) ⟨Nat.le_of_ble_eq_true rfl, Nat.le_of_ble_eq_true rfl⟩) (hkS_20 hr) (lyS_20 hr) rfl rfl rfl hl.1 rfl (Nat.le_of_ble_eq_true rfl) dX2_doWhatWaited_46 ⟨Nat.zero_le _, Nat.zero_le _⟩ (fun σ21 H locs q23 hP hS => ?_)
          have hR24 : rgS σ21 := by rw [q23]; exact kCarry_rg hR19 (by omega) (by omega) (by omega) (by have h9 := kReady_dn hτ (kFirst_is (σ := τ) _ _ (by assumption)).2; rw [e18, e12]; simp (disch := omega) only [zu_ne]; exact h9)
          refine zg_iinc (k := 2) (lv' := [(1, .int (jI (i + 1))), (2, .int (jI (kFirst τ r (τ 1 10).toNat 0))), (0, .ref (a (20 + 6 * r)))]) C dX2_doWhatWaited_49 hl rfl (by decide) rfl (fun ls hl => ?_)
          refine zg_goto (tgt := 2) C dX2_doWhatWaited_52 (by decide) ?_
          exact ih (i + 1) σ21 _ _ _ (by omega) (by assumption) (by omega) (by omega) (by subst e12 e18 q23; rw [hE, kWaited_step (by omega) (by omega) (by assumption), kUnwait, zu_ne (show 20 + 6 * r ≠ 22 + 6 * r by omega)]; rfl) hP hS (lv_sub hl [2, 0] rfl)
        · refine zg_vret C hP hS dX2_doWhatWaited_26 ?_
          rw [hE, kWaited_none (by omega) (by assumption)]
set_option maxHeartbeats 4000000 in
set_option maxRecDepth 100000 in
theorem kX2_doWhatWaited (l : Launch) {D : va_G} {a : Nat → Nat} {cI cZ cR : ClassId} (σ : Zt) (hR : rgS σ) (r : Nat) (hr : r < 6) : zv l D vwCl (tyS cI cZ cR) 56 (layS cI cZ cR a) a yX2_doWhatWaited wsX2_doWhatWaited ({ frames := 3, cells := 0, slots := 0, locals := 63 }) [.ref (a (20 + 6 * r))] σ (fun u_ => u_ = kWaited r 400 σ) := by
  refine zv_of (cc := cX2_doWhatWaited) (maxL := 3) (own := RX2) (by decide) rfl rfl (Nat.le_of_ble_eq_true rfl) rfl ?_
  intro p e s m below meth c A ls C X hP hS hl
  refine zg_iconst C dX2_doWhatWaited_0 ?_
  refine zg_istore_n (lv' := [(1, .int (jI 0)), (0, .ref (a (20 + 6 * r)))]) C dX2_doWhatWaited_1 rfl hl (by decide) rfl (fun ls hl => ?_)
  exact lpX2_doWhatWaited_2 σ hR r hr C X 401 0 σ _ _ _ (by omega) hR (by omega) (by omega) rfl hP hS (lv_sub hl [1, 0] rfl)
set_option maxHeartbeats 4000000 in
set_option maxRecDepth 100000 in
theorem kX2_receive (l : Launch) {D : va_G} {a : Nat → Nat} {cI cZ cR : ClassId} (σ : Zt) (hR : rgS σ) (r : Nat) (hr : r < 6) (d : Int) (d0 : 0 ≤ d) (d1 : d < 400) (wt : kDid σ r d = false → σ (22 + 6 * r) d.toNat = 0 → σ (20 + 6 * r) 6 < 400) : zc l D vwCl (tyS cI cZ cR) 56 (layS cI cZ cR a) a yX2_receive wsX2_receive ({ frames := 4, cells := 0, slots := 0, locals := 85 }) [.ref (a (20 + 6 * r)), .int (jI d)] σ (fun r_ u_ => r_ = jI (kRecR σ r d) ∧ u_ = kRecS σ r d) := by
  refine zc_of (cc := cX2_receive) (maxL := 2) (ret := some .int) (own := RX2) (by decide) rfl rfl (Nat.le_of_ble_eq_true rfl) rfl ?_
  intro p e s m below meth c A ls C X hP hS hl
  refine zg_aload_n C dX2_receive_0 rfl (lv_at hl 0 rfl) ?_
  refine zg_iload_n C dX2_receive_1 rfl (lv_at hl 1 rfl) ?_
  refine zg_callV C X hP hS (kX2_didDeed l σ hR r hr d (by omega) (by omega)) (cwV 1 C.ts (zgV mlX2_59 imX2_didDeed slX2_didDeed iniX2 cdX2_didDeed) rfl rfl rfl (by decide +kernel) ⟨Nat.le_of_ble_eq_true rfl, Nat.le_of_ble_eq_true rfl⟩) (hkS_20 hr) (lyS_20 hr) rfl rfl rfl hl.1 rfl (Nat.le_of_ble_eq_true rfl) dX2_receive_2 ⟨Nat.zero_le _, Nat.zero_le _⟩ (fun r_2 σ1 H locs q3 hP hS => ?_)
  obtain ⟨rfl, q3⟩ := q3
  rw [q3] at hP
  refine zg_ifneB (tgt := 17) C dX2_receive_5 (by decide) (fun c_4 => ?_) (fun c_4 => ?_)
  · refine zg_iconst C dX2_receive_17 ?_
    refine zg_iret C hP hS dX2_receive_18 ?_
    exact ⟨congrArg jI (by unfold kRecR; rw [if_pos (by grind)]), by unfold kRecS; rw [if_pos (by grind)]⟩
  · refine zg_aload_n C dX2_receive_8 rfl (lv_at hl 0 rfl) ?_
    refine zg_get (j := 8) C X hP (hkS_20 hr) (lyS_20 hr) rfl (zmem uwX2) (by decide) (C.tb flX2_15) (fun _ h9 => h9) rfl dX2_receive_9 ?_
    refine zg_iload_n C dX2_receive_12 rfl (lv_at hl 1 rfl) ?_
    refine zg_zald (t0 := 1) C X hP (hkS_22 hr) (lyS_22 hr) rfl (by decide) (by omega) (by omega) dX2_receive_13 ?_
    have b_5 := rgS_22 hR hr ((d).toNat)
    refine zg_if_eq (tgt := 19) C (by omega) (by omega) dX2_receive_14 (by decide) (fun c_6 => ?_) (fun c_6 => ?_)
    · refine zg_aload_n C dX2_receive_19 rfl (lv_at hl 0 rfl) ?_
      refine zg_iload_n C dX2_receive_20 rfl (lv_at hl 1 rfl) ?_
      refine zg_callV C X hP hS (kX2_isReady l σ hR r hr d (by omega) (by omega)) (cwV 1 C.ts (zgV mlX2_66 imX2_isReady slX2_isReady iniX2 cdX2_isReady) rfl rfl rfl (by decide +kernel) ⟨Nat.le_of_ble_eq_true rfl, Nat.le_of_ble_eq_true rfl⟩) (hkS_20 hr) (lyS_20 hr) rfl rfl rfl hl.1 rfl (Nat.le_of_ble_eq_true rfl) dX2_receive_21 ⟨Nat.zero_le _, Nat.zero_le _⟩ (fun r_8 σ7 H locs q9 hP hS => ?_)
      obtain ⟨rfl, q9⟩ := q9
      rw [q9] at hP
      refine zg_ifneB (tgt := 46) C dX2_receive_24 (by decide) (fun c_10 => ?_) (fun c_10 => ?_)
      · refine zg_aload_n C dX2_receive_46 rfl (lv_at hl 0 rfl) ?_
        refine zg_iload_n C dX2_receive_47 rfl (lv_at hl 1 rfl) ?_
        refine zg_callVv C X hP hS (kX2_carryOut l σ hR r hr d (by omega) (by omega) (kReady_dn hR (by assumption))) (cwV 1 C.ts (zgV mlX2_72 imX2_carryOut slX2_carryOut iniX2 cdX2_carryOut) rfl rfl rfl (by decide +kernel) ⟨Nat.le_of_ble_eq_true rfl, Nat.le_of_ble_eq_true rfl⟩) (hkS_20 hr) (lyS_20 hr) rfl rfl rfl hl.1 rfl (Nat.le_of_ble_eq_true rfl) dX2_receive_48 ⟨Nat.zero_le _, Nat.zero_le _⟩ (fun σ11 H locs q13 hP hS => ?_)
        have hR14 : rgS σ11 := by rw [q13]; exact kCarry_rg hR (by omega) (by omega) (by omega) (kReady_dn hR (by assumption))
        refine zg_aload_n C dX2_receive_51 rfl (lv_at hl 0 rfl) ?_
        refine zg_callVv C X hP hS (kX2_doWhatWaited l σ11 hR14 r hr) (cwV 0 C.ts (zgV mlX2_76 imX2_doWhatWaited slX2_doWhatWaited iniX2 cdX2_doWhatWaited) rfl rfl rfl (by decide +kernel) ⟨Nat.le_of_ble_eq_true rfl, Nat.le_of_ble_eq_true rfl⟩) (hkS_20 hr) (lyS_20 hr) rfl rfl rfl hl.1 rfl (Nat.le_of_ble_eq_true rfl) dX2_receive_52 ⟨Nat.zero_le _, Nat.zero_le _⟩ (fun σ15 H locs q17 hP hS => ?_)
        have hR18 : rgS σ15 := by rw [q17]; exact kWaited_rg (by omega) 400 _ hR14
        refine zg_iconst C dX2_receive_55 ?_
        refine zg_iret C hP hS dX2_receive_56 ?_
        subst q13 q17
        exact ⟨congrArg jI (by unfold kRecR; rw [if_neg (by grind), if_pos (by assumption)]), by unfold kRecS; rw [if_neg (by grind), if_pos (by assumption)]⟩
      · have b_w := wt (by assumption) (by assumption)
        refine zg_aload_n C dX2_receive_27 rfl (lv_at hl 0 rfl) ?_
        refine zg_get (j := 8) C X hP (hkS_20 hr) (lyS_20 hr) rfl (zmem uwX2) (by decide) (C.tb flX2_15) (fun _ h9 => h9) rfl dX2_receive_28 ?_
        refine zg_iload_n C dX2_receive_31 rfl (lv_at hl 1 rfl) ?_
        refine zg_iconst C dX2_receive_32 ?_
        refine zg_zast (t0 := 1) (b := true) C X hP hS (hkS_22 hr) (fun x => (lyS_22 hr)) rfl (by decide) (by omega) (by omega) dX2_receive_33 (fun H locs hP hS => ?_)
        have b_19 := bI_01 true
        obtain ⟨σ20, e21⟩ : ∃ z_ : Zt, z_ = zu σ (22 + 6 * r) (d).toNat (bI true) := ⟨_, rfl⟩
        rw [← e21] at hP
        have w_23 : σ20 (22 + 6 * r) (d).toNat = bI true := by rw [e21]; exact zu_same _ _ _ _
        have w_24 : σ20 (20 + 6 * r) 6 = σ (20 + 6 * r) 6 := by rw [e21]; first | exact congrFun (zu_ne (by omega)) _ | exact zu_nj (by omega)
        have hR22 : rgS σ20 := by rw [e21]; exact rzS_22 hR hr (by omega) (by omega)
        refine zg_aload_n C dX2_receive_34 rfl (lv_at hl 0 rfl) ?_
        refine zg_dup C dX2_receive_35 rfl ?_
        refine zg_get (j := 6) C X hP (hkS_20 hr) (lyS_20 hr) rfl (zmem uwX2) (by decide) (C.tb flX2_69) (fun _ h9 => h9) rfl dX2_receive_36 ?_
        have b_25 := rgS_20_6 hR22 hr
        refine zg_iconst C dX2_receive_39 ?_
        refine zg_iadd C dX2_receive_40 ?_
        refine zg_put (j := 6) (v := (σ20 (20 + 6 * r) 6) + 1) C X hP hS (hkS_20 hr) (lyS_20 hr) rfl (zmem uwX2) tyX2 tyX2_ok nmX2 (by decide) (C.tb flX2_69) (fun _ h9 => h9) rfl (by decide +kernel) (Nat.le_of_ble_eq_true rfl) (by rw [(lyS_20 hr)]; rfl) dX2_receive_41 (fun H locs hP hS => ?_)
        obtain ⟨σ26, e27⟩ : ∃ z_ : Zt, z_ = zu σ20 (20 + 6 * r) 6 ((σ20 (20 + 6 * r) 6) + 1) := ⟨_, rfl⟩
        rw [← e27] at hP
        have w_29 : σ26 (20 + 6 * r) 6 = (σ20 (20 + 6 * r) 6) + 1 := by rw [e27]; exact zu_same _ _ _ _
        have hR28 : rgS σ26 := by rw [e27]; exact rzS_20_6 hR22 hr (by omega) (by omega)
        refine zg_iconst C dX2_receive_44 ?_
        refine zg_iret C hP hS dX2_receive_45 ?_
        subst e21 e27
        exact ⟨congrArg jI (by unfold kRecR; rw [if_neg (by grind), if_neg (by grind)]), by unfold kRecS; rw [if_neg (by grind), if_neg (by grind), zu_ne (show 20 + 6 * r ≠ 22 + 6 * r by omega)]; rfl⟩
    · refine zg_iconst C dX2_receive_17 ?_
      refine zg_iret C hP hS dX2_receive_18 ?_
      exact ⟨congrArg jI (by unfold kRecR; rw [if_pos (by grind)]), by unfold kRecS; rw [if_pos (by grind)]⟩
set_option maxHeartbeats 4000000 in
set_option maxRecDepth 100000 in
theorem lpX4_perform_38 {l : Launch} {D : va_G} {a : Nat → Nat} {cI cZ cR : ClassId} {p : Program} {e : Env} {s : State} {m : MethodId} {below : List Frame} {meth : Method} {c : Code} {A : Nat → Prop} (σ : Zt) (hR : rgS σ) (r : Nat) (hr : r < 6) (q : Int) (v : Int) (f : Int) (g : Int) (tt : σ 1 10 < 400) (tm : σ 1 9 < 400) (dn : σ (21 + 6 * r) r < 400) (tr : σ (20 + 6 * r) 4 < 400) (q0 : 0 ≤ q) (q1 : q < 4) (v0 : 0 ≤ v) (v1 : v < 127) (f0 : 0 ≤ f) (f1 : f < 400) (g0 : 0 ≤ g) (g1 : g < 400)  (C : zk p s m ([.ref (a 0), .ref (a (20 + 6 * r)), .int (jI q), .int (jI v), .int (jI f), .int (jI g)] : List Value).toArray meth c cX4_perform 8 (some .int) wsX4_perform RX4) (X : zx D vwCl (tyS cI cZ cR) A a 56 s) :
    ∀ (n : Nat) (j : Int) (τ : Zt) (H : Heap) (locs : List Loc) (ls : Array Slot), ((6 - j).toNat < n) → (rgS τ) → (0 ≤ j) → (j ≤ 6) → (kPerform σ r q v f g = kSendTo (σ 1 10) r (6 - j).toNat j τ) → va_P D vwCl (zw 56 (layS cI cZ cR a) a τ) H → va_S A s.heap H locs → lv_has ls 8 [(0, .ref (a 0)), (1, .ref (a (20 + 6 * r))), (2, .int (jI q)), (3, .int (jI v)), (4, .int (jI f)), (5, .int (jI g)), (6, .int (jI (σ 1 10))), (7, .int (jI j))] →
      W p l e ({ frames := 2, cells := 0, slots := 0, locals := 45 }) s m ([.ref (a 0), .ref (a (20 + 6 * r)), .int (jI q), .int (jI v), .int (jI f), .int (jI g)] : List Value).toArray below meth c H locs 0 0 (MQ below (va_Qi (fun r_ u_ => r_ = jI (σ 1 10) ∧ u_ = kPerform σ r q v f g) (fun (u : Zt) t => va_P D vwCl (zw 56 (layS cI cZ cR a) a u) t.heap) A) ([.ref (a 0), .ref (a (20 + 6 * r)), .int (jI q), .int (jI v), .int (jI f), .int (jI g)] : List Value).toArray s 0 0 A) (F0 m 38 ls []) := by
  intro n
  induction n with
  | zero =>
    intro j τ H locs ls hn hτ j0 j1 hE hP hS hl
    exact absurd hn (by omega)
  | succ n ih =>
    intro j τ H locs ls hn hτ j0 j1 hE hP hS hl
    have b_00 := rgS_1_10 hR
    refine zg_iload C dX4_perform_38 (lv_at hl 7 rfl) ?_
    refine zg_bipush C dX4_perform_40 (by decide) ?_
    refine zg_icmp_ge (tgt := 71) C (by omega) (by omega) (by omega) (by omega) dX4_perform_42 (by decide) (fun c_1 => ?_) (fun c_1 => ?_)
    · refine zg_iload C dX4_perform_71 (lv_at hl 6 rfl) ?_
      refine zg_iret C hP hS dX4_perform_73 ?_
      exact ⟨rfl, by rw [hE, kSendTo_end (by omega)]⟩
    · refine zg_iload C dX4_perform_45 (lv_at hl 7 rfl) ?_
      refine zg_aload_n C dX4_perform_47 rfl (lv_at hl 1 rfl) ?_
      refine zg_get (j := 0) C X hP (hkS_20 hr) (lyS_20 hr) rfl (zmem uwX2) (by decide) (C.tb flX4_205) (fun _ h9 => h9) rfl dX4_perform_48 ?_
      have b_2 := rgS_20_0 hτ hr
      refine zg_icmp_eq (tgt := 65) C (by omega) (by omega) (by omega) (by omega) dX4_perform_51 (by decide) (fun c_3 => ?_) (fun c_3 => ?_)
      · refine zg_iinc (k := 7) (lv' := [(7, .int (jI (j + 1))), (0, .ref (a 0)), (1, .ref (a (20 + 6 * r))), (2, .int (jI q)), (3, .int (jI v)), (4, .int (jI f)), (5, .int (jI g)), (6, .int (jI (σ 1 10)))]) C dX4_perform_65 hl rfl (by decide) rfl (fun ls hl => ?_)
        refine zg_goto (tgt := 38) C dX4_perform_68 (by decide) ?_
        exact ih (j + 1) τ _ _ _ (by omega) (by assumption) (by omega) (by omega) (by first | (rw [hE, kSendTo_go (by omega) (by omega)]) | rw [hE, kSendTo_skip (by omega) (by omega)]) hP hS (lv_sub hl [1, 2, 3, 4, 5, 6, 7, 0] rfl)
      · refine zg_aload_n C dX4_perform_54 rfl (lv_at hl 0 rfl) ?_
        refine zg_get (j := 2) C X hP (by decide) lyS_0 rfl (zmem uwX4) (by decide) (C.tb flX4_26) (fun _ h9 => h9) rfl dX4_perform_55 ?_
        refine zg_iload C dX4_perform_58 (lv_at hl 6 rfl) ?_
        refine zg_iload C dX4_perform_60 (lv_at hl 7 rfl) ?_
        refine zg_callVv C X hP hS (kX3_send l τ hτ (σ 1 10) j (by omega) (by omega) (by omega) (by omega)) (cwV 2 C.ts (zgV mlX4_103 imX3_send slX3_send iniX3 cdX3_send) rfl rfl rfl (by decide +kernel) ⟨Nat.le_of_ble_eq_true rfl, Nat.le_of_ble_eq_true rfl⟩) (by decide) lyS_16 rfl rfl rfl hl.1 rfl (Nat.le_of_ble_eq_true rfl) dX4_perform_62 ⟨Nat.zero_le _, Nat.zero_le _⟩ (fun σ4 H locs q6 hP hS => ?_)
        have hR7 : rgS σ4 := by rw [q6]; exact kSend_rg hτ (by omega) (by omega) (by omega) (by omega)
        refine zg_iinc (k := 7) (lv' := [(7, .int (jI (j + 1))), (0, .ref (a 0)), (1, .ref (a (20 + 6 * r))), (2, .int (jI q)), (3, .int (jI v)), (4, .int (jI f)), (5, .int (jI g)), (6, .int (jI (σ 1 10)))]) C dX4_perform_65 hl rfl (by decide) rfl (fun ls hl => ?_)
        refine zg_goto (tgt := 38) C dX4_perform_68 (by decide) ?_
        exact ih (j + 1) σ4 _ _ _ (by omega) (by assumption) (by omega) (by omega) (by first | (subst q6; rw [hE, kSendTo_go (by omega) (by omega)]) | rw [hE, kSendTo_skip (by omega) (by omega)]) hP hS (lv_sub hl [1, 2, 3, 4, 5, 6, 7, 0] rfl)
set_option maxHeartbeats 4000000 in
set_option maxRecDepth 100000 in
theorem kX4_perform (l : Launch) {D : va_G} {a : Nat → Nat} {cI cZ cR : ClassId} (σ : Zt) (hR : rgS σ) (r : Nat) (hr : r < 6) (q : Int) (v : Int) (f : Int) (g : Int) (tt : σ 1 10 < 400) (tm : σ 1 9 < 400) (dn : σ (21 + 6 * r) r < 400) (tr : σ (20 + 6 * r) 4 < 400) (q0 : 0 ≤ q) (q1 : q < 4) (v0 : 0 ≤ v) (v1 : v < 127) (f0 : 0 ≤ f) (f1 : f < 400) (g0 : 0 ≤ g) (g1 : g < 400) : zc l D vwCl (tyS cI cZ cR) 56 (layS cI cZ cR a) a yX4_perform wsX4_perform ({ frames := 2, cells := 0, slots := 0, locals := 45 }) [.ref (a 0), .ref (a (20 + 6 * r)), .int (jI q), .int (jI v), .int (jI f), .int (jI g)] σ (fun r_ u_ => r_ = jI (σ 1 10) ∧ u_ = kPerform σ r q v f g) := by
  refine zc_of (cc := cX4_perform) (maxL := 8) (ret := some .int) (own := RX4) (by decide) rfl rfl (Nat.le_of_ble_eq_true rfl) rfl ?_
  intro p e s m below meth c A ls C X hP hS hl
  have b_0 := rgS_21 hR hr r
  have b_00 := rgS_1_10 hR
  have b_000 := rgS_20_0 hR hr
  refine zg_aload_n C dX4_perform_0 rfl (lv_at hl 0 rfl) ?_
  refine zg_get (j := 0) C X hP (by decide) lyS_0 rfl (zmem uwX4) (by decide) (C.tb flX4_10) (fun _ h9 => h9) rfl dX4_perform_1 ?_
  refine zg_aload_n C dX4_perform_4 rfl (lv_at hl 1 rfl) ?_
  refine zg_get (j := 0) C X hP (hkS_20 hr) (lyS_20 hr) rfl (zmem uwX2) (by decide) (C.tb flX4_205) (fun _ h9 => h9) rfl dX4_perform_5 ?_
  have b_8 := rgS_20_0 hR hr
  refine zg_aload_n C dX4_perform_8 rfl (lv_at hl 1 rfl) ?_
  refine zg_callV C X hP hS (kX2_nextNumber l σ hR r hr) (cwV 0 C.ts (zgV mlX4_208 imX2_nextNumber slX2_nextNumber iniX2 cdX2_nextNumber) rfl rfl rfl (by decide +kernel) ⟨Nat.le_of_ble_eq_true rfl, Nat.le_of_ble_eq_true rfl⟩) (hkS_20 hr) (lyS_20 hr) rfl rfl rfl hl.1 rfl (Nat.le_of_ble_eq_true rfl) dX4_perform_9 ⟨Nat.zero_le _, Nat.zero_le _⟩ (fun r_10 σ9 H locs q11 hP hS => ?_)
  obtain ⟨rfl, q11⟩ := q11
  rw [q11] at hP
  refine zg_aload_n C dX4_perform_12 rfl (lv_at hl 1 rfl) ?_
  refine zg_get (j := 4) C X hP (hkS_20 hr) (lyS_20 hr) rfl (zmem uwX2) (by decide) (C.tb flX4_168) (fun _ h9 => h9) rfl dX4_perform_13 ?_
  have b_12 := rgS_20_4 hR hr
  refine zg_iconst C dX4_perform_16 ?_
  refine zg_iadd C dX4_perform_17 ?_
  refine zg_iload_n C dX4_perform_18 rfl (lv_at hl 2 rfl) ?_
  refine zg_iload_n C dX4_perform_19 rfl (lv_at hl 3 rfl) ?_
  refine zg_iload C dX4_perform_20 (lv_at hl 4 rfl) ?_
  refine zg_iload C dX4_perform_22 (lv_at hl 5 rfl) ?_
  refine zg_callV C X hP hS (kX0_add l σ hR (σ (20 + 6 * r) 0) (σ (21 + 6 * r) r + 1) ((σ (20 + 6 * r) 4) + 1) q v f g (by omega) (by omega) (by omega) (by omega) (by omega) (by omega) (by omega) (by omega) (by omega) (by omega) (by omega) (by omega) (by omega) (by omega) (by omega) (by omega)) (cwV 7 C.ts (zgV mlX4_211 imX0_add slX0_add iniX0 cdX0_add) rfl rfl rfl (by decide +kernel) ⟨Nat.le_of_ble_eq_true rfl, Nat.le_of_ble_eq_true rfl⟩) (by decide) lyS_1 rfl rfl rfl hl.1 rfl (Nat.le_of_ble_eq_true rfl) dX4_perform_24 ⟨Nat.zero_le _, Nat.zero_le _⟩ (fun r_14 σ13 H locs q15 hP hS => ?_)
  obtain ⟨rfl, q15⟩ := q15
  have hR16 : rgS σ13 := by rw [q15]; exact kAdd_rg hR (by omega) (by omega) (by omega) (by omega) (by omega) (by omega) (by omega) (by omega) (by omega) (by omega) (by omega) (by omega) (by omega) (by omega) (by omega) (by omega)
  refine zg_istore (lv' := [(6, .int (jI (σ 1 10))), (0, .ref (a 0)), (1, .ref (a (20 + 6 * r))), (2, .int (jI q)), (3, .int (jI v)), (4, .int (jI f)), (5, .int (jI g))]) C dX4_perform_27 hl (by decide) rfl (fun ls hl => ?_)
  refine zg_aload_n C dX4_perform_29 rfl (lv_at hl 2 rfl) ?_
  refine zg_iload C dX4_perform_30 (lv_at hl 0 rfl) ?_
  refine zg_callVv C X hP hS (kX2_carryOut l σ13 hR16 r hr (σ 1 10) (by omega) (by omega) (by rw [q15, kAdd_own, kAdd_rep (show 20 ≤ 21 + 6 * r by omega), show (σ (20 + 6 * r) 0).toNat = r by omega]; exact dn)) (cwV 1 C.ts (zgV mlX4_215 imX2_carryOut slX2_carryOut iniX2 cdX2_carryOut) rfl rfl rfl (by decide +kernel) ⟨Nat.le_of_ble_eq_true rfl, Nat.le_of_ble_eq_true rfl⟩) (hkS_20 hr) (lyS_20 hr) rfl rfl rfl hl.1 rfl (Nat.le_of_ble_eq_true rfl) dX4_perform_32 ⟨Nat.zero_le _, Nat.zero_le _⟩ (fun σ17 H locs q19 hP hS => ?_)
  have hR20 : rgS σ17 := by rw [q19]; exact kCarry_rg hR16 (by omega) (by omega) (by omega) (by rw [q15, kAdd_own, kAdd_rep (show 20 ≤ 21 + 6 * r by omega), show (σ (20 + 6 * r) 0).toNat = r by omega]; exact dn)
  refine zg_iconst C dX4_perform_35 ?_
  refine zg_istore (lv' := [(7, .int (jI 0)), (6, .int (jI (σ 1 10))), (0, .ref (a 0)), (1, .ref (a (20 + 6 * r))), (2, .int (jI q)), (3, .int (jI v)), (4, .int (jI f)), (5, .int (jI g))]) C dX4_perform_36 hl (by decide) rfl (fun ls hl => ?_)
  exact lpX4_perform_38 σ hR r hr q v f g tt tm dn tr q0 q1 v0 v1 f0 f1 g0 g1 C X 7 0 σ17 _ _ _ (by omega) (by assumption) (by omega) (by omega) (by subst q15 q19; rw [show σ (20 + 6 * r) 0 = (r : Int) by omega]; rfl) hP hS (lv_sub hl [2, 3, 4, 5, 6, 7, 1, 0] rfl)
