set_option maxHeartbeats 4000000 in
set_option maxRecDepth 100000 in
theorem kX1_innerLevel (l : Launch) {D : va_G} {a : Nat → Nat} {cI cZ cR : ClassId} (σ : Zt) (hR : rgS σ) (r : Nat) (hr : r < 6) (x : Int) (y : Int) (x0 : 0 ≤ x) (x1 : x < 16777216) (y0 : 0 ≤ y) (y1 : y < 16777216) (dn : σ (21 + 6 * r) r < 400) : zc l D vwCl (tyS cI cZ cR) 56 (layS cI cZ cR a) a yX1_innerLevel wsX1_innerLevel ({ frames := 1, cells := 0, slots := 0, locals := 22 }) [.int (jI x), .int (jI y), .ref (a (20 + 6 * r))] σ (fun r_ u_ => r_ = jI (kInner x y r (σ (21 + 6 * r) r + 1)) ∧ u_ = σ) := by
  refine zc_of (cc := cX1_innerLevel) (maxL := 3) (ret := some .int) (own := RX1) (by decide) rfl rfl (Nat.le_of_ble_eq_true rfl) rfl ?_
  intro p e s m below meth c A ls C X hP hS hl
  have b_0 := rgS_21 hR hr r
  refine zg_iload_n C dX1_innerLevel_0 rfl (lv_at hl 0 rfl) ?_
  refine zg_if_eq (tgt := 6) C (by omega) (by omega) dX1_innerLevel_1 (by decide) (fun c_1 => ?_) (fun c_1 => ?_)
  · refine zg_iload_n C dX1_innerLevel_6 rfl (lv_at hl 1 rfl) ?_
    refine zg_callS C X hP hS (kX1_digitOf l σ hR y (by omega) (by omega)) (cwS 1 C.ts (zgS mlX1_33 stX1_digitOf iniX1 cdX1_digitOf) rfl rfl rfl (by decide +kernel) ⟨Nat.le_of_ble_eq_true rfl, Nat.le_of_ble_eq_true rfl⟩) rfl hl.1 rfl (Nat.le_of_ble_eq_true rfl) dX1_innerLevel_7 ⟨Nat.zero_le _, Nat.zero_le _⟩ (fun r_3 σ2 H locs q4 hP hS => ?_)
    obtain ⟨rfl, q4⟩ := q4
    have b_5 := kDigit_rg (x := y) (by omega) (by omega)
    rw [q4] at hP
    refine zg_if_ne (tgt := 17) C (by omega) (by omega) dX1_innerLevel_10 (by decide) (fun c_6 => ?_) (fun c_6 => ?_)
    · refine zg_iconst C dX1_innerLevel_17 ?_
      refine zg_aload_n C dX1_innerLevel_18 rfl (lv_at hl 2 rfl) ?_
      refine zg_get (j := 0) C X hP (hkS_20 hr) (lyS_20 hr) rfl (zmem uwX2) (by decide) (C.tb flX1_50) (fun _ h9 => h9) rfl dX1_innerLevel_19 ?_
      have b_7 := rgS_20_0 hR hr
      refine zg_aload_n C dX1_innerLevel_22 rfl (lv_at hl 2 rfl) ?_
      refine zg_callV C X hP hS (kX2_nextNumber l σ hR r hr) (cwV 0 C.ts (zgV mlX1_54 imX2_nextNumber slX2_nextNumber iniX2 cdX2_nextNumber) rfl rfl rfl (by decide +kernel) ⟨Nat.le_of_ble_eq_true rfl, Nat.le_of_ble_eq_true rfl⟩) (hkS_20 hr) (lyS_20 hr) rfl rfl rfl hl.1 rfl (Nat.le_of_ble_eq_true rfl) dX1_innerLevel_23 ⟨Nat.zero_le _, Nat.zero_le _⟩ (fun r_9 σ8 H locs q10 hP hS => ?_)
      obtain ⟨rfl, q10⟩ := q10
      rw [q10] at hP
      refine zg_callS C X hP hS (kX1_makeLevel l σ hR 0 (σ (20 + 6 * r) 0) (σ (21 + 6 * r) r + 1) (by omega) (by omega) (by omega) (by omega) (by omega) (by omega)) (cwS 3 C.ts (zgS mlX1_57 stX1_makeLevel iniX1 cdX1_makeLevel) rfl rfl rfl (by decide +kernel) ⟨Nat.le_of_ble_eq_true rfl, Nat.le_of_ble_eq_true rfl⟩) rfl hl.1 rfl (Nat.le_of_ble_eq_true rfl) dX1_innerLevel_26 ⟨Nat.zero_le _, Nat.zero_le _⟩ (fun r_12 σ11 H locs q13 hP hS => ?_)
      obtain ⟨rfl, q13⟩ := q13
      have b_14 := kMake_rg (d := 0) (q := (σ (20 + 6 * r) 0)) (n := (σ (21 + 6 * r) r + 1)) (by omega) (by omega) (by omega) (by omega) (by omega) (by omega)
      rw [q13] at hP
      refine zg_iret C hP hS dX1_innerLevel_29 ?_
      exact ⟨congrArg jI (by unfold kInner; first | rw [if_pos (by assumption)] | rw [if_neg (by omega), if_pos (by assumption)] | rw [if_neg (by omega), if_neg (by assumption), show σ (20 + 6 * r) 0 = (r : Int) by omega]), rfl⟩
    · refine zg_iload_n C dX1_innerLevel_13 rfl (lv_at hl 1 rfl) ?_
      refine zg_goto (tgt := 29) C dX1_innerLevel_14 (by decide) ?_
      refine zg_iret C hP hS dX1_innerLevel_29 ?_
      exact ⟨congrArg jI (by unfold kInner; first | rw [if_pos (by assumption)] | rw [if_neg (by omega), if_pos (by assumption)] | rw [if_neg (by omega), if_neg (by assumption), show σ (20 + 6 * r) 0 = (r : Int) by omega]), rfl⟩
  · refine zg_iload_n C dX1_innerLevel_4 rfl (lv_at hl 0 rfl) ?_
    refine zg_iret C hP hS dX1_innerLevel_5 ?_
    exact ⟨congrArg jI (by unfold kInner; first | rw [if_pos (by assumption)] | rw [if_neg (by omega), if_pos (by assumption)] | rw [if_neg (by omega), if_neg (by assumption), show σ (20 + 6 * r) 0 = (r : Int) by omega]), rfl⟩
set_option maxHeartbeats 4000000 in
set_option maxRecDepth 100000 in
theorem lpX1_isBefore_2 {l : Launch} {D : va_G} {a : Nat → Nat} {cI cZ cR : ClassId} {p : Program} {e : Env} {s : State} {m : MethodId} {below : List Frame} {meth : Method} {c : Code} {A : Nat → Prop} (σ : Zt) (hR : rgS σ) (d : Int) (f : Int) (d0 : 0 ≤ d) (d1 : d < 400) (f0 : 0 ≤ f) (f1 : f < 400)  (C : zk p s m ([.ref (a 11), .int (jI d), .int (jI f)] : List Value).toArray meth c cX1_isBefore 6 (some .boolean) wsX1_isBefore RX1) (X : zx D vwCl (tyS cI cZ cR) A a 56 s) :
    ∀ (n : Nat) (k : Int) (H : Heap) (locs : List Loc) (ls : Array Slot), ((13 - k).toNat < n) → (1 ≤ k) → (k ≤ 13) → (kIsBe σ d f 12 1 = kIsBe σ d f (13 - k).toNat k) → va_P D vwCl (zw 56 (layS cI cZ cR a) a σ) H → va_S A s.heap H locs → lv_has ls 6 [(0, .ref (a 11)), (1, .int (jI d)), (2, .int (jI f)), (3, .int (jI k))] →
      W p l e ({ frames := 1, cells := 0, slots := 0, locals := 22 }) s m ([.ref (a 11), .int (jI d), .int (jI f)] : List Value).toArray below meth c H locs 0 0 (MQ below (va_Qi (fun r_ u_ => r_ = jI (bI (kIsBe σ d f 12 1)) ∧ u_ = σ) (fun (u : Zt) t => va_P D vwCl (zw 56 (layS cI cZ cR a) a u) t.heap) A) ([.ref (a 11), .int (jI d), .int (jI f)] : List Value).toArray s 0 0 A) (F0 m 2 ls []) := by
  intro n
  induction n with
  | zero =>
    intro k  H locs ls hn k0 k1 hE hP hS hl
    exact absurd hn (by omega)
  | succ n ih =>
    intro k  H locs ls hn k0 k1 hE hP hS hl
    refine zg_iload_n C dX1_isBefore_2 rfl (lv_at hl 3 rfl) ?_
    refine zg_bipush C dX1_isBefore_3 (by decide) ?_
    refine zg_icmp_gt (tgt := 50) C (by omega) (by omega) (by omega) (by omega) dX1_isBefore_5 (by decide) (fun c_1 => ?_) (fun c_1 => ?_)
    · refine zg_iconst C dX1_isBefore_50 ?_
      refine zg_zret (b := false) C hP hS dX1_isBefore_51 ?_
      exact ⟨congrArg (fun b => jI (bI b)) (by rw [hE, kIsBe_end (by omega)]), rfl⟩
    · refine zg_aload_n C dX1_isBefore_8 rfl (lv_at hl 0 rfl) ?_
      refine zg_iload_n C dX1_isBefore_9 rfl (lv_at hl 1 rfl) ?_
      refine zg_iload_n C dX1_isBefore_10 rfl (lv_at hl 3 rfl) ?_
      refine zg_callV C X hP hS (kX1_levelOf l σ hR d k (by omega) (by omega) (by omega) (by omega)) (cwV 2 C.ts (zgV mlX1_30 imX1_levelOf slX1_levelOf iniX1 cdX1_levelOf) rfl rfl rfl (by decide +kernel) ⟨Nat.le_of_ble_eq_true rfl, Nat.le_of_ble_eq_true rfl⟩) (by decide) lyS_11 rfl rfl rfl hl.1 rfl (Nat.le_of_ble_eq_true rfl) dX1_isBefore_11 ⟨Nat.zero_le _, Nat.zero_le _⟩ (fun r_3 σ2 H locs q4 hP hS => ?_)
      obtain ⟨rfl, q4⟩ := q4
      have b_5 := kLevel_rg hR d k
      rw [q4] at hP
      refine zg_istore (lv' := [(4, .int (jI (kLevel σ d k))), (0, .ref (a 11)), (1, .int (jI d)), (2, .int (jI f)), (3, .int (jI k))]) C dX1_isBefore_14 hl (by decide) rfl (fun ls hl => ?_)
      refine zg_aload_n C dX1_isBefore_16 rfl (lv_at hl 1 rfl) ?_
      refine zg_iload_n C dX1_isBefore_17 rfl (lv_at hl 3 rfl) ?_
      refine zg_iload_n C dX1_isBefore_18 rfl (lv_at hl 4 rfl) ?_
      refine zg_callV C X hP hS (kX1_levelOf l σ hR f k (by omega) (by omega) (by omega) (by omega)) (cwV 2 C.ts (zgV mlX1_30 imX1_levelOf slX1_levelOf iniX1 cdX1_levelOf) rfl rfl rfl (by decide +kernel) ⟨Nat.le_of_ble_eq_true rfl, Nat.le_of_ble_eq_true rfl⟩) (by decide) lyS_11 rfl rfl rfl hl.1 rfl (Nat.le_of_ble_eq_true rfl) dX1_isBefore_19 ⟨Nat.zero_le _, Nat.zero_le _⟩ (fun r_7 σ6 H locs q8 hP hS => ?_)
      obtain ⟨rfl, q8⟩ := q8
      have b_9 := kLevel_rg hR f k
      rw [q8] at hP
      refine zg_istore (lv' := [(5, .int (jI (kLevel σ f k))), (4, .int (jI (kLevel σ d k))), (0, .ref (a 11)), (1, .int (jI d)), (2, .int (jI f)), (3, .int (jI k))]) C dX1_isBefore_22 hl (by decide) rfl (fun ls hl => ?_)
      refine zg_iload C dX1_isBefore_24 (lv_at hl 1 rfl) ?_
      refine zg_iload C dX1_isBefore_26 (lv_at hl 0 rfl) ?_
      refine zg_icmp_eq (tgt := 44) C (by omega) (by omega) (by omega) (by omega) dX1_isBefore_28 (by decide) (fun c_10 => ?_) (fun c_10 => ?_)
      · refine zg_iinc (k := 5) (lv' := [(3, .int (jI (k + 1))), (5, .int (jI (kLevel σ f k))), (4, .int (jI (kLevel σ d k))), (0, .ref (a 11)), (1, .int (jI d)), (2, .int (jI f))]) C dX1_isBefore_44 hl rfl (by decide) rfl (fun ls hl => ?_)
        refine zg_goto (tgt := 2) C dX1_isBefore_47 (by decide) ?_
        exact ih (k + 1) _ _ _ (by omega) (by omega) (by omega) (hE.trans (kIsBe_same (by omega) (by assumption))) hP hS (lv_sub hl [3, 4, 5, 0] rfl)
      · refine zg_iload C dX1_isBefore_31 (lv_at hl 1 rfl) ?_
        refine zg_iload C dX1_isBefore_33 (lv_at hl 0 rfl) ?_
        refine zg_icmp_ge (tgt := 42) C (by omega) (by omega) (by omega) (by omega) dX1_isBefore_35 (by decide) (fun c_11 => ?_) (fun c_11 => ?_)
        · refine zg_iconst C dX1_isBefore_42 ?_
          refine zg_zret (b := false) C hP hS dX1_isBefore_43 ?_
          exact ⟨congrArg (fun b => jI (bI b)) (by rw [hE, kIsBe_tell (by omega) (by assumption)]; symm; first | exact decide_eq_true (by assumption) | exact decide_eq_false (by omega)), rfl⟩
        · refine zg_iconst C dX1_isBefore_38 ?_
          refine zg_goto (tgt := 43) C dX1_isBefore_39 (by decide) ?_
          refine zg_zret (b := true) C hP hS dX1_isBefore_43 ?_
          exact ⟨congrArg (fun b => jI (bI b)) (by rw [hE, kIsBe_tell (by omega) (by assumption)]; symm; first | exact decide_eq_true (by assumption) | exact decide_eq_false (by omega)), rfl⟩
set_option maxHeartbeats 4000000 in
set_option maxRecDepth 100000 in
theorem kX1_isBefore (l : Launch) {D : va_G} {a : Nat → Nat} {cI cZ cR : ClassId} (σ : Zt) (hR : rgS σ) (d : Int) (f : Int) (d0 : 0 ≤ d) (d1 : d < 400) (f0 : 0 ≤ f) (f1 : f < 400) : zc l D vwCl (tyS cI cZ cR) 56 (layS cI cZ cR a) a yX1_isBefore wsX1_isBefore ({ frames := 1, cells := 0, slots := 0, locals := 22 }) [.ref (a 11), .int (jI d), .int (jI f)] σ (fun r_ u_ => r_ = jI (bI (kIsBe σ d f 12 1)) ∧ u_ = σ) := by
  refine zc_of (cc := cX1_isBefore) (maxL := 6) (ret := some .boolean) (own := RX1) (by decide) rfl rfl (Nat.le_of_ble_eq_true rfl) rfl ?_
  intro p e s m below meth c A ls C X hP hS hl
  refine zg_iconst C dX1_isBefore_0 ?_
  refine zg_istore_n (lv' := [(3, .int (jI 1)), (0, .ref (a 11)), (1, .int (jI d)), (2, .int (jI f))]) C dX1_isBefore_1 rfl hl (by decide) rfl (fun ls hl => ?_)
  exact lpX1_isBefore_2 σ hR d f d0 d1 f0 f1 C X 14 1 _ _ _ (by omega) (by omega) (by omega) rfl hP hS (lv_sub hl [1, 2, 3, 0] rfl)
set_option maxHeartbeats 4000000 in
set_option maxRecDepth 100000 in
theorem kX2_carryOut (l : Launch) {D : va_G} {a : Nat → Nat} {cI cZ cR : ClassId} (σ : Zt) (hR : rgS σ) (r : Nat) (hr : r < 6) (d : Int) (d0 : 0 ≤ d) (d1 : d < 400) (dn : σ (21 + 6 * r) (σ 2 d.toNat).toNat < 400) : zv l D vwCl (tyS cI cZ cR) 56 (layS cI cZ cR a) a yX2_carryOut wsX2_carryOut ({ frames := 1, cells := 0, slots := 0, locals := 22 }) [.ref (a (20 + 6 * r)), .int (jI d)] σ (fun u_ => u_ = kCarry σ r d) := by
  refine zv_of (cc := cX2_carryOut) (maxL := 4) (own := RX2) (by decide) rfl rfl (Nat.le_of_ble_eq_true rfl) rfl ?_
  intro p e s m below meth c A ls C X hP hS hl
  refine zg_aload_n C dX2_carryOut_0 rfl (lv_at hl 0 rfl) ?_
  refine zg_get (j := 7) C X hP (hkS_20 hr) (lyS_20 hr) rfl (zmem uwX2) (by decide) (C.tb flX2_9) (fun _ h9 => h9) rfl dX2_carryOut_1 ?_
  refine zg_aload_n C dX2_carryOut_4 rfl (lv_at hl 0 rfl) ?_
  refine zg_get (j := 1) C X hP (hkS_20 hr) (lyS_20 hr) rfl (zmem uwX2) (by decide) (C.tb flX2_32) (fun _ h9 => h9) rfl dX2_carryOut_5 ?_
  refine zg_get (j := 0) C X hP (by decide) lyS_1 rfl (zmem uwX0) (by decide) (C.tb flX2_50) (fun _ h9 => h9) rfl dX2_carryOut_8 ?_
  refine zg_iload_n C dX2_carryOut_11 rfl (lv_at hl 1 rfl) ?_
  refine zg_iald (t0 := 0) C X hP (by decide) lyS_2 rfl (by decide) (by omega) (by omega) dX2_carryOut_12 ?_
  have b_1 := rgS_2 hR ((d).toNat)
  refine zg_dup2 C dX2_carryOut_13 rfl rfl ?_
  refine zg_iald (t0 := 0) C X hP (hkS_21 hr) (lyS_21 hr) rfl (by decide) (by omega) (by omega) dX2_carryOut_14 ?_
  have b_2 := rgS_21 hR hr ((σ 2 (d).toNat).toNat)
  refine zg_iconst C dX2_carryOut_15 ?_
  refine zg_iadd C dX2_carryOut_16 ?_
  refine zg_iast (t0 := 0) C X hP hS (hkS_21 hr) (fun x => (lyS_21 hr)) rfl (by decide) (by omega) (by omega) dX2_carryOut_17 (fun H locs hP hS => ?_)
  obtain ⟨σ3, e4⟩ : ∃ z_ : Zt, z_ = zu σ (21 + 6 * r) (σ 2 (d).toNat).toNat ((σ (21 + 6 * r) (σ 2 (d).toNat).toNat) + 1) := ⟨_, rfl⟩
  rw [← e4] at hP
  have w_6 : σ3 (21 + 6 * r) (σ 2 (d).toNat).toNat = (σ (21 + 6 * r) (σ 2 (d).toNat).toNat) + 1 := by rw [e4]; exact zu_same _ _ _ _
  have hR5 : rgS σ3 := by rw [e4]; exact rzS_21 hR hr (by omega) (by omega)
  refine zg_aload_n C dX2_carryOut_18 rfl (lv_at hl 0 rfl) ?_
  refine zg_aload_n C dX2_carryOut_19 rfl (lv_at hl 0 rfl) ?_
  refine zg_get (j := 4) C X hP (hkS_20 hr) (lyS_20 hr) rfl (zmem uwX2) (by decide) (C.tb flX2_86) (fun _ h9 => h9) rfl dX2_carryOut_20 ?_
  have b_7 := rgS_20_4 hR5 hr
  refine zg_aload_n C dX2_carryOut_23 rfl (lv_at hl 0 rfl) ?_
  refine zg_get (j := 1) C X hP (hkS_20 hr) (lyS_20 hr) rfl (zmem uwX2) (by decide) (C.tb flX2_32) (fun _ h9 => h9) rfl dX2_carryOut_24 ?_
  refine zg_get (j := 2) C X hP (by decide) lyS_1 rfl (zmem uwX0) (by decide) (C.tb flX2_89) (fun _ h9 => h9) rfl dX2_carryOut_27 ?_
  refine zg_iload_n C dX2_carryOut_30 rfl (lv_at hl 1 rfl) ?_
  refine zg_iald (t0 := 0) C X hP (by decide) lyS_4 rfl (by decide) (by omega) (by omega) dX2_carryOut_31 ?_
  have b_8 := rgS_4 hR5 ((d).toNat)
  refine zg_mmax C (by omega) (by omega) (by omega) (by omega) hl.1 (List.mem_cons_of_mem _ mlX2_91) (List.mem_cons_of_mem _ stMath_max) (List.mem_cons_of_mem _ iniMath) (List.mem_cons_of_mem _ cdMath_max) (Nat.le_of_ble_eq_true rfl) (Nat.le_of_ble_eq_true rfl) (Nat.zero_le _) (Nat.zero_le _) dX2_carryOut_32 ?_
  refine zg_put (j := 4) (v := max (σ3 (20 + 6 * r) 4) (σ3 4 (d).toNat)) C X hP hS (hkS_20 hr) (lyS_20 hr) rfl (zmem uwX2) tyX2 tyX2_ok nmX2 (by decide) (C.tb flX2_86) (fun _ h9 => h9) rfl (by decide +kernel) (Nat.le_of_ble_eq_true rfl) (by rw [(lyS_20 hr)]; rfl) dX2_carryOut_35 (fun H locs hP hS => ?_)
  obtain ⟨σ9, e10⟩ : ∃ z_ : Zt, z_ = zu σ3 (20 + 6 * r) 4 (max (σ3 (20 + 6 * r) 4) (σ3 4 (d).toNat)) := ⟨_, rfl⟩
  rw [← e10] at hP
  have w_12 : σ9 (20 + 6 * r) 4 = max (σ3 (20 + 6 * r) 4) (σ3 4 (d).toNat) := by rw [e10]; exact zu_same _ _ _ _
  have hR11 : rgS σ9 := by rw [e10]; exact rzS_20_4 hR5 hr (by omega) (by omega)
  refine zg_aload_n C dX2_carryOut_38 rfl (lv_at hl 0 rfl) ?_
  refine zg_get (j := 1) C X hP (hkS_20 hr) (lyS_20 hr) rfl (zmem uwX2) (by decide) (C.tb flX2_32) (fun _ h9 => h9) rfl dX2_carryOut_39 ?_
  refine zg_get (j := 3) C X hP (by decide) lyS_1 rfl (zmem uwX0) (by decide) (C.tb flX2_53) (fun _ h9 => h9) rfl dX2_carryOut_42 ?_
  refine zg_iload_n C dX2_carryOut_45 rfl (lv_at hl 1 rfl) ?_
  refine zg_iald (t0 := 0) C X hP (by decide) lyS_5 rfl (by decide) (by omega) (by omega) dX2_carryOut_46 ?_
  have b_13 := rgS_5 hR11 ((d).toNat)
  refine zg_istore_n (lv' := [(2, .int (jI (σ9 5 (d).toNat))), (0, .ref (a (20 + 6 * r))), (1, .int (jI d))]) C dX2_carryOut_47 rfl hl (by decide) rfl (fun ls hl => ?_)
  refine zg_iload_n C dX2_carryOut_48 rfl (lv_at hl 0 rfl) ?_
  refine zg_if_ne (tgt := 65) C (by omega) (by omega) dX2_carryOut_49 (by decide) (fun c_14 => ?_) (fun c_14 => ?_)
  · refine zg_iload_n C dX2_carryOut_65 rfl (lv_at hl 0 rfl) ?_
    refine zg_iconst C dX2_carryOut_66 ?_
    refine zg_icmp_eq (tgt := 75) C (by omega) (by omega) (by omega) (by omega) dX2_carryOut_67 (by decide) (fun c_15 => ?_) (fun c_15 => ?_)
    · refine zg_aload_n C dX2_carryOut_75 rfl (lv_at hl 1 rfl) ?_
      refine zg_get (j := 1) C X hP (hkS_20 hr) (lyS_20 hr) rfl (zmem uwX2) (by decide) (C.tb flX2_32) (fun _ h9 => h9) rfl dX2_carryOut_76 ?_
      refine zg_get (j := 5) C X hP (by decide) lyS_1 rfl (zmem uwX0) (by decide) (C.tb flX2_56) (fun _ h9 => h9) rfl dX2_carryOut_79 ?_
      refine zg_iload_n C dX2_carryOut_82 rfl (lv_at hl 2 rfl) ?_
      refine zg_iald (t0 := 0) C X hP (by decide) lyS_7 rfl (by decide) (by omega) (by omega) dX2_carryOut_83 ?_
      have b_16 := rgS_7 hR11 ((d).toNat)
      refine zg_istore_n (lv' := [(3, .int (jI (σ9 7 (d).toNat))), (2, .int (jI (σ9 5 (d).toNat))), (0, .ref (a (20 + 6 * r))), (1, .int (jI d))]) C dX2_carryOut_84 rfl hl (by decide) rfl (fun ls hl => ?_)
      refine zg_aload_n C dX2_carryOut_85 rfl (lv_at hl 2 rfl) ?_
      refine zg_get (j := 9) C X hP (hkS_20 hr) (lyS_20 hr) rfl (zmem uwX2) (by decide) (C.tb flX2_19) (fun _ h9 => h9) rfl dX2_carryOut_86 ?_
      refine zg_iload_n C dX2_carryOut_89 rfl (lv_at hl 0 rfl) ?_
      refine zg_iald (t0 := 0) C X hP (hkS_23 hr) (lyS_23 hr) rfl (by decide) (by omega) (by omega) dX2_carryOut_90 ?_
      have b_17 := rgS_23 hR11 hr ((σ9 7 (d).toNat).toNat)
      refine zg_iconst C dX2_carryOut_91 ?_
      refine zg_icmp_eq (tgt := 112) C (by omega) (by omega) (by omega) (by omega) dX2_carryOut_92 (by decide) (fun c_18 => ?_) (fun c_18 => ?_)
      · refine zg_aload_n C dX2_carryOut_112 rfl (lv_at hl 2 rfl) ?_
        refine zg_get (j := 9) C X hP (hkS_20 hr) (lyS_20 hr) rfl (zmem uwX2) (by decide) (C.tb flX2_19) (fun _ h9 => h9) rfl dX2_carryOut_113 ?_
        refine zg_iload_n C dX2_carryOut_116 rfl (lv_at hl 0 rfl) ?_
        refine zg_iload_n C dX2_carryOut_117 rfl (lv_at hl 3 rfl) ?_
        refine zg_iast (t0 := 0) C X hP hS (hkS_23 hr) (fun x => (lyS_23 hr)) rfl (by decide) (by omega) (by omega) dX2_carryOut_118 (fun H locs hP hS => ?_)
        obtain ⟨σ19, e20⟩ : ∃ z_ : Zt, z_ = zu σ9 (23 + 6 * r) (σ9 7 (d).toNat).toNat d := ⟨_, rfl⟩
        rw [← e20] at hP
        have w_22 : σ19 (23 + 6 * r) (σ9 7 (d).toNat).toNat = d := by rw [e20]; exact zu_same _ _ _ _
        have hR21 : rgS σ19 := by rw [e20]; exact rzS_23 hR11 hr (by omega) (by omega)
        refine zg_vret C hP hS dX2_carryOut_119 ?_
        subst e4 e10 e20
        try simp (disch := omega) only [kLater, zu_ne, zu_nj, zu_same] at c_14
        try simp (disch := omega) only [kLater, zu_ne, zu_nj, zu_same] at c_15
        try simp (disch := omega) only [kLater, zu_ne, zu_nj, zu_same] at c_18
        have b5 := rgS_5 hR d.toNat
        simp (disch := omega) only [zu_ne, zu_nj, zu_same]
        grind [kCarry, kCarry0, kLater]
      · refine zg_aload_n C dX2_carryOut_95 rfl (lv_at hl 2 rfl) ?_
        refine zg_get (j := 1) C X hP (hkS_20 hr) (lyS_20 hr) rfl (zmem uwX2) (by decide) (C.tb flX2_32) (fun _ h9 => h9) rfl dX2_carryOut_96 ?_
        refine zg_iload_n C dX2_carryOut_99 rfl (lv_at hl 3 rfl) ?_
        refine zg_aload_n C dX2_carryOut_100 rfl (lv_at hl 2 rfl) ?_
        refine zg_get (j := 9) C X hP (hkS_20 hr) (lyS_20 hr) rfl (zmem uwX2) (by decide) (C.tb flX2_19) (fun _ h9 => h9) rfl dX2_carryOut_101 ?_
        refine zg_iload_n C dX2_carryOut_104 rfl (lv_at hl 0 rfl) ?_
        refine zg_iald (t0 := 0) C X hP (hkS_23 hr) (lyS_23 hr) rfl (by decide) (by omega) (by omega) dX2_carryOut_105 ?_
        have b_23 := rgS_23 hR11 hr ((σ9 7 (d).toNat).toNat)
        refine zg_callV C X hP hS (kX0_isLater l σ9 hR11 d (σ9 (23 + 6 * r) (σ9 7 (d).toNat).toNat) (by omega) (by omega) (by omega) (by omega)) (cwV 2 C.ts (zgV mlX2_100 imX0_isLater slX0_isLater iniX0 cdX0_isLater) rfl rfl rfl (by decide +kernel) ⟨Nat.le_of_ble_eq_true rfl, Nat.le_of_ble_eq_true rfl⟩) (by decide) lyS_1 rfl rfl rfl hl.1 rfl (Nat.le_of_ble_eq_true rfl) dX2_carryOut_106 ⟨Nat.zero_le _, Nat.zero_le _⟩ (fun r_25 σ24 H locs q26 hP hS => ?_)
        obtain ⟨rfl, q26⟩ := q26
        rw [q26] at hP
        refine zg_ifeqB (tgt := 119) C dX2_carryOut_109 (by decide) (fun c_27 => ?_) (fun c_27 => ?_)
        · refine zg_vret C hP hS dX2_carryOut_119 ?_
          subst e4 e10
          try simp (disch := omega) only [kLater, zu_ne, zu_nj, zu_same] at c_14
          try simp (disch := omega) only [kLater, zu_ne, zu_nj, zu_same] at c_15
          try simp (disch := omega) only [kLater, zu_ne, zu_nj, zu_same] at c_18
          try simp (disch := omega) only [kLater, zu_ne, zu_nj, zu_same] at c_27
          have b5 := rgS_5 hR d.toNat
          simp (disch := omega) only [zu_ne, zu_nj, zu_same]
          grind [kCarry, kCarry0, kLater]
        · refine zg_aload_n C dX2_carryOut_112 rfl (lv_at hl 2 rfl) ?_
          refine zg_get (j := 9) C X hP (hkS_20 hr) (lyS_20 hr) rfl (zmem uwX2) (by decide) (C.tb flX2_19) (fun _ h9 => h9) rfl dX2_carryOut_113 ?_
          refine zg_iload_n C dX2_carryOut_116 rfl (lv_at hl 0 rfl) ?_
          refine zg_iload_n C dX2_carryOut_117 rfl (lv_at hl 3 rfl) ?_
          refine zg_iast (t0 := 0) C X hP hS (hkS_23 hr) (fun x => (lyS_23 hr)) rfl (by decide) (by omega) (by omega) dX2_carryOut_118 (fun H locs hP hS => ?_)
          obtain ⟨σ28, e29⟩ : ∃ z_ : Zt, z_ = zu σ9 (23 + 6 * r) (σ9 7 (d).toNat).toNat d := ⟨_, rfl⟩
          rw [← e29] at hP
          have w_31 : σ28 (23 + 6 * r) (σ9 7 (d).toNat).toNat = d := by rw [e29]; exact zu_same _ _ _ _
          have hR30 : rgS σ28 := by rw [e29]; exact rzS_23 hR11 hr (by omega) (by omega)
          refine zg_vret C hP hS dX2_carryOut_119 ?_
          subst e4 e10 e29
          try simp (disch := omega) only [kLater, zu_ne, zu_nj, zu_same] at c_14
          try simp (disch := omega) only [kLater, zu_ne, zu_nj, zu_same] at c_15
          try simp (disch := omega) only [kLater, zu_ne, zu_nj, zu_same] at c_18
          try simp (disch := omega) only [kLater, zu_ne, zu_nj, zu_same] at c_27
          have b5 := rgS_5 hR d.toNat
          simp (disch := omega) only [zu_ne, zu_nj, zu_same]
          grind [kCarry, kCarry0, kLater]
    · refine zg_iload_n C dX2_carryOut_70 rfl (lv_at hl 0 rfl) ?_
      refine zg_iconst C dX2_carryOut_71 ?_
      refine zg_icmp_ne (tgt := 119) C (by omega) (by omega) (by omega) (by omega) dX2_carryOut_72 (by decide) (fun c_32 => ?_) (fun c_32 => ?_)
      · refine zg_vret C hP hS dX2_carryOut_119 ?_
        subst e4 e10
        try simp (disch := omega) only [kLater, zu_ne, zu_nj, zu_same] at c_14
        try simp (disch := omega) only [kLater, zu_ne, zu_nj, zu_same] at c_15
        try simp (disch := omega) only [kLater, zu_ne, zu_nj, zu_same] at c_32
        have b5 := rgS_5 hR d.toNat
        simp (disch := omega) only [zu_ne, zu_nj, zu_same]
        grind [kCarry, kCarry0, kLater]
      · refine zg_aload_n C dX2_carryOut_75 rfl (lv_at hl 1 rfl) ?_
        refine zg_get (j := 1) C X hP (hkS_20 hr) (lyS_20 hr) rfl (zmem uwX2) (by decide) (C.tb flX2_32) (fun _ h9 => h9) rfl dX2_carryOut_76 ?_
        refine zg_get (j := 5) C X hP (by decide) lyS_1 rfl (zmem uwX0) (by decide) (C.tb flX2_56) (fun _ h9 => h9) rfl dX2_carryOut_79 ?_
        refine zg_iload_n C dX2_carryOut_82 rfl (lv_at hl 2 rfl) ?_
        refine zg_iald (t0 := 0) C X hP (by decide) lyS_7 rfl (by decide) (by omega) (by omega) dX2_carryOut_83 ?_
        have b_33 := rgS_7 hR11 ((d).toNat)
        refine zg_istore_n (lv' := [(3, .int (jI (σ9 7 (d).toNat))), (2, .int (jI (σ9 5 (d).toNat))), (0, .ref (a (20 + 6 * r))), (1, .int (jI d))]) C dX2_carryOut_84 rfl hl (by decide) rfl (fun ls hl => ?_)
        refine zg_aload_n C dX2_carryOut_85 rfl (lv_at hl 2 rfl) ?_
        refine zg_get (j := 9) C X hP (hkS_20 hr) (lyS_20 hr) rfl (zmem uwX2) (by decide) (C.tb flX2_19) (fun _ h9 => h9) rfl dX2_carryOut_86 ?_
        refine zg_iload_n C dX2_carryOut_89 rfl (lv_at hl 0 rfl) ?_
        refine zg_iald (t0 := 0) C X hP (hkS_23 hr) (lyS_23 hr) rfl (by decide) (by omega) (by omega) dX2_carryOut_90 ?_
        have b_34 := rgS_23 hR11 hr ((σ9 7 (d).toNat).toNat)
        refine zg_iconst C dX2_carryOut_91 ?_
        refine zg_icmp_eq (tgt := 112) C (by omega) (by omega) (by omega) (by omega) dX2_carryOut_92 (by decide) (fun c_35 => ?_) (fun c_35 => ?_)
        · refine zg_aload_n C dX2_carryOut_112 rfl (lv_at hl 2 rfl) ?_
          refine zg_get (j := 9) C X hP (hkS_20 hr) (lyS_20 hr) rfl (zmem uwX2) (by decide) (C.tb flX2_19) (fun _ h9 => h9) rfl dX2_carryOut_113 ?_
          refine zg_iload_n C dX2_carryOut_116 rfl (lv_at hl 0 rfl) ?_
          refine zg_iload_n C dX2_carryOut_117 rfl (lv_at hl 3 rfl) ?_
          refine zg_iast (t0 := 0) C X hP hS (hkS_23 hr) (fun x => (lyS_23 hr)) rfl (by decide) (by omega) (by omega) dX2_carryOut_118 (fun H locs hP hS => ?_)
          obtain ⟨σ36, e37⟩ : ∃ z_ : Zt, z_ = zu σ9 (23 + 6 * r) (σ9 7 (d).toNat).toNat d := ⟨_, rfl⟩
          rw [← e37] at hP
          have w_39 : σ36 (23 + 6 * r) (σ9 7 (d).toNat).toNat = d := by rw [e37]; exact zu_same _ _ _ _
          have hR38 : rgS σ36 := by rw [e37]; exact rzS_23 hR11 hr (by omega) (by omega)
          refine zg_vret C hP hS dX2_carryOut_119 ?_
          subst e4 e10 e37
          try simp (disch := omega) only [kLater, zu_ne, zu_nj, zu_same] at c_14
          try simp (disch := omega) only [kLater, zu_ne, zu_nj, zu_same] at c_15
          try simp (disch := omega) only [kLater, zu_ne, zu_nj, zu_same] at c_32
          try simp (disch := omega) only [kLater, zu_ne, zu_nj, zu_same] at c_35
          have b5 := rgS_5 hR d.toNat
          simp (disch := omega) only [zu_ne, zu_nj, zu_same]
          grind [kCarry, kCarry0, kLater]
        · refine zg_aload_n C dX2_carryOut_95 rfl (lv_at hl 2 rfl) ?_
          refine zg_get (j := 1) C X hP (hkS_20 hr) (lyS_20 hr) rfl (zmem uwX2) (by decide) (C.tb flX2_32) (fun _ h9 => h9) rfl dX2_carryOut_96 ?_
          refine zg_iload_n C dX2_carryOut_99 rfl (lv_at hl 3 rfl) ?_
          refine zg_aload_n C dX2_carryOut_100 rfl (lv_at hl 2 rfl) ?_
          refine zg_get (j := 9) C X hP (hkS_20 hr) (lyS_20 hr) rfl (zmem uwX2) (by decide) (C.tb flX2_19) (fun _ h9 => h9) rfl dX2_carryOut_101 ?_
          refine zg_iload_n C dX2_carryOut_104 rfl (lv_at hl 0 rfl) ?_
          refine zg_iald (t0 := 0) C X hP (hkS_23 hr) (lyS_23 hr) rfl (by decide) (by omega) (by omega) dX2_carryOut_105 ?_
          have b_40 := rgS_23 hR11 hr ((σ9 7 (d).toNat).toNat)
          refine zg_callV C X hP hS (kX0_isLater l σ9 hR11 d (σ9 (23 + 6 * r) (σ9 7 (d).toNat).toNat) (by omega) (by omega) (by omega) (by omega)) (cwV 2 C.ts (zgV mlX2_100 imX0_isLater slX0_isLater iniX0 cdX0_isLater) rfl rfl rfl (by decide +kernel) ⟨Nat.le_of_ble_eq_true rfl, Nat.le_of_ble_eq_true rfl⟩) (by decide) lyS_1 rfl rfl rfl hl.1 rfl (Nat.le_of_ble_eq_true rfl) dX2_carryOut_106 ⟨Nat.zero_le _, Nat.zero_le _⟩ (fun r_42 σ41 H locs q43 hP hS => ?_)
          obtain ⟨rfl, q43⟩ := q43
          rw [q43] at hP
          refine zg_ifeqB (tgt := 119) C dX2_carryOut_109 (by decide) (fun c_44 => ?_) (fun c_44 => ?_)
          · refine zg_vret C hP hS dX2_carryOut_119 ?_
            subst e4 e10
            try simp (disch := omega) only [kLater, zu_ne, zu_nj, zu_same] at c_14
            try simp (disch := omega) only [kLater, zu_ne, zu_nj, zu_same] at c_15
            try simp (disch := omega) only [kLater, zu_ne, zu_nj, zu_same] at c_32
            try simp (disch := omega) only [kLater, zu_ne, zu_nj, zu_same] at c_35
            try simp (disch := omega) only [kLater, zu_ne, zu_nj, zu_same] at c_44
            have b5 := rgS_5 hR d.toNat
            simp (disch := omega) only [zu_ne, zu_nj, zu_same]
            grind [kCarry, kCarry0, kLater]
          · refine zg_aload_n C dX2_carryOut_112 rfl (lv_at hl 2 rfl) ?_
            refine zg_get (j := 9) C X hP (hkS_20 hr) (lyS_20 hr) rfl (zmem uwX2) (by decide) (C.tb flX2_19) (fun _ h9 => h9) rfl dX2_carryOut_113 ?_
            refine zg_iload_n C dX2_carryOut_116 rfl (lv_at hl 0 rfl) ?_
            refine zg_iload_n C dX2_carryOut_117 rfl (lv_at hl 3 rfl) ?_
            refine zg_iast (t0 := 0) C X hP hS (hkS_23 hr) (fun x => (lyS_23 hr)) rfl (by decide) (by omega) (by omega) dX2_carryOut_118 (fun H locs hP hS => ?_)
            obtain ⟨σ45, e46⟩ : ∃ z_ : Zt, z_ = zu σ9 (23 + 6 * r) (σ9 7 (d).toNat).toNat d := ⟨_, rfl⟩
            rw [← e46] at hP
            have w_48 : σ45 (23 + 6 * r) (σ9 7 (d).toNat).toNat = d := by rw [e46]; exact zu_same _ _ _ _
            have hR47 : rgS σ45 := by rw [e46]; exact rzS_23 hR11 hr (by omega) (by omega)
            refine zg_vret C hP hS dX2_carryOut_119 ?_
            subst e4 e10 e46
            try simp (disch := omega) only [kLater, zu_ne, zu_nj, zu_same] at c_14
            try simp (disch := omega) only [kLater, zu_ne, zu_nj, zu_same] at c_15
            try simp (disch := omega) only [kLater, zu_ne, zu_nj, zu_same] at c_32
            try simp (disch := omega) only [kLater, zu_ne, zu_nj, zu_same] at c_35
            try simp (disch := omega) only [kLater, zu_ne, zu_nj, zu_same] at c_44
            have b5 := rgS_5 hR d.toNat
            simp (disch := omega) only [zu_ne, zu_nj, zu_same]
            grind [kCarry, kCarry0, kLater]
  · refine zg_aload_n C dX2_carryOut_52 rfl (lv_at hl 1 rfl) ?_
    refine zg_dup C dX2_carryOut_53 rfl ?_
    refine zg_get (j := 5) C X hP (hkS_20 hr) (lyS_20 hr) rfl (zmem uwX2) (by decide) (C.tb flX2_97) (fun _ h9 => h9) rfl dX2_carryOut_54 ?_
    refine zg_iconst C dX2_carryOut_57 ?_
    refine zg_iadd C dX2_carryOut_58 ?_
    refine zg_put (j := 5) (v := (σ9 (20 + 6 * r) 5) + 1) C X hP hS (hkS_20 hr) (lyS_20 hr) rfl (zmem uwX2) tyX2 tyX2_ok nmX2 (by decide) (C.tb flX2_97) (fun _ h9 => h9) rfl (by decide +kernel) (Nat.le_of_ble_eq_true rfl) (by rw [(lyS_20 hr)]; rfl) dX2_carryOut_59 (fun H locs hP hS => ?_)
    obtain ⟨σ49, e50⟩ : ∃ z_ : Zt, z_ = zu σ9 (20 + 6 * r) 5 ((σ9 (20 + 6 * r) 5) + 1) := ⟨_, rfl⟩
    rw [← e50] at hP
    have w_52 : σ49 (20 + 6 * r) 5 = (σ9 (20 + 6 * r) 5) + 1 := by rw [e50]; exact zu_same _ _ _ _
    have hR51 : rgS σ49 := by rw [e50]; exact rzS_20_5 hR11 hr
    refine zg_goto (tgt := 119) C dX2_carryOut_62 (by decide) ?_
    refine zg_vret C hP hS dX2_carryOut_119 ?_
    subst e4 e10 e50
    try simp (disch := omega) only [kLater, zu_ne, zu_nj, zu_same] at c_14
    have b5 := rgS_5 hR d.toNat
    simp (disch := omega) only [zu_ne, zu_nj, zu_same]
    grind [kCarry, kCarry0, kLater]
set_option maxHeartbeats 4000000 in
set_option maxRecDepth 100000 in
theorem kX0_add (l : Launch) {D : va_G} {a : Nat → Nat} {cI cZ cR : ClassId} (σ : Zt) (hR : rgS σ) (w : Int) (t : Int) (z : Int) (q : Int) (v : Int) (f : Int) (g : Int) (tt : σ 1 10 < 400) (tm : σ 1 9 < 400) (w0 : 0 ≤ w) (w1 : w < 6) (t0 : 0 ≤ t) (t1 : t < 401) (z0 : 0 ≤ z) (z1 : z < 401) (q0 : 0 ≤ q) (q1 : q < 4) (v0 : 0 ≤ v) (v1 : v < 127) (f0 : 0 ≤ f) (f1 : f < 400) (g0 : 0 ≤ g) (g1 : g < 400) : zc l D vwCl (tyS cI cZ cR) 56 (layS cI cZ cR a) a yX0_add wsX0_add ({ frames := 0, cells := 0, slots := 0, locals := 0 }) [.ref (a 1), .int (jI w), .int (jI t), .int (jI z), .int (jI q), .int (jI v), .int (jI f), .int (jI g)] σ (fun r_ u_ => r_ = jI (σ 1 10) ∧ u_ = kAdd σ w t z q v f g) := by
  refine zc_of (cc := cX0_add) (maxL := 9) (ret := some .int) (own := RX0) (by decide) rfl rfl (Nat.le_of_ble_eq_true rfl) rfl ?_
  intro p e s m below meth c A ls C X hP hS hl
  refine zg_aload_n C dX0_add_0 rfl (lv_at hl 0 rfl) ?_
  refine zg_get (j := 10) C X hP (by decide) lyS_1 rfl (zmem uwX0) (by decide) (C.tb flX0_40) (fun _ h9 => h9) rfl dX0_add_1 ?_
  have b_1 := rgS_1_10 hR
  refine zg_istore (lv' := [(8, .int (jI (σ 1 10))), (0, .ref (a 1)), (1, .int (jI w)), (2, .int (jI t)), (3, .int (jI z)), (4, .int (jI q)), (5, .int (jI v)), (6, .int (jI f)), (7, .int (jI g))]) C dX0_add_4 hl (by decide) rfl (fun ls hl => ?_)
  refine zg_aload_n C dX0_add_6 rfl (lv_at hl 1 rfl) ?_
  refine zg_get (j := 0) C X hP (by decide) lyS_1 rfl (zmem uwX0) (by decide) (C.tb flX0_9) (fun _ h9 => h9) rfl dX0_add_7 ?_
  refine zg_iload C dX0_add_10 (lv_at hl 0 rfl) ?_
  refine zg_iload_n C dX0_add_12 rfl (lv_at hl 2 rfl) ?_
  refine zg_iast (t0 := 0) C X hP hS (by decide) (fun x => lyS_2) rfl (by decide) (by omega) (by omega) dX0_add_13 (fun H locs hP hS => ?_)
  obtain ⟨σ2, e3⟩ : ∃ z_ : Zt, z_ = zu σ 2 (σ 1 10).toNat w := ⟨_, rfl⟩
  rw [← e3] at hP
  have w_5 : σ2 2 (σ 1 10).toNat = w := by rw [e3]; exact zu_same _ _ _ _
  have w_6 : σ2 1 10 = σ 1 10 := by rw [e3]; first | exact congrFun (zu_ne (by omega)) _ | exact zu_nj (by omega)
  have w_7 : σ2 1 9 = σ 1 9 := by rw [e3]; first | exact congrFun (zu_ne (by omega)) _ | exact zu_nj (by omega)
  have hR4 : rgS σ2 := by rw [e3]; exact rzS_2 hR (by omega) (by omega)
  refine zg_aload_n C dX0_add_14 rfl (lv_at hl 1 rfl) ?_
  refine zg_get (j := 1) C X hP (by decide) lyS_1 rfl (zmem uwX0) (by decide) (C.tb flX0_15) (fun _ h9 => h9) rfl dX0_add_15 ?_
  refine zg_iload C dX0_add_18 (lv_at hl 0 rfl) ?_
  refine zg_iload_n C dX0_add_20 rfl (lv_at hl 3 rfl) ?_
  refine zg_iast (t0 := 0) C X hP hS (by decide) (fun x => lyS_3) rfl (by decide) (by omega) (by omega) dX0_add_21 (fun H locs hP hS => ?_)
  obtain ⟨σ8, e9⟩ : ∃ z_ : Zt, z_ = zu σ2 3 (σ 1 10).toNat t := ⟨_, rfl⟩
  rw [← e9] at hP
  have w_11 : σ8 3 (σ 1 10).toNat = t := by rw [e9]; exact zu_same _ _ _ _
  have w_12 : σ8 1 10 = σ2 1 10 := by rw [e9]; first | exact congrFun (zu_ne (by omega)) _ | exact zu_nj (by omega)
  have w_13 : σ8 1 9 = σ2 1 9 := by rw [e9]; first | exact congrFun (zu_ne (by omega)) _ | exact zu_nj (by omega)
  have hR10 : rgS σ8 := by rw [e9]; exact rzS_3 hR4 (by omega) (by omega)
  refine zg_aload_n C dX0_add_22 rfl (lv_at hl 1 rfl) ?_
  refine zg_get (j := 2) C X hP (by decide) lyS_1 rfl (zmem uwX0) (by decide) (C.tb flX0_18) (fun _ h9 => h9) rfl dX0_add_23 ?_
  refine zg_iload C dX0_add_26 (lv_at hl 0 rfl) ?_
  refine zg_iload_n C dX0_add_28 rfl (lv_at hl 4 rfl) ?_
  refine zg_iast (t0 := 0) C X hP hS (by decide) (fun x => lyS_4) rfl (by decide) (by omega) (by omega) dX0_add_29 (fun H locs hP hS => ?_)
  obtain ⟨σ14, e15⟩ : ∃ z_ : Zt, z_ = zu σ8 4 (σ 1 10).toNat z := ⟨_, rfl⟩
  rw [← e15] at hP
  have w_17 : σ14 4 (σ 1 10).toNat = z := by rw [e15]; exact zu_same _ _ _ _
  have w_18 : σ14 1 10 = σ8 1 10 := by rw [e15]; first | exact congrFun (zu_ne (by omega)) _ | exact zu_nj (by omega)
  have w_19 : σ14 1 9 = σ8 1 9 := by rw [e15]; first | exact congrFun (zu_ne (by omega)) _ | exact zu_nj (by omega)
  have hR16 : rgS σ14 := by rw [e15]; exact rzS_4 hR10 (by omega) (by omega)
  refine zg_aload_n C dX0_add_30 rfl (lv_at hl 1 rfl) ?_
  refine zg_get (j := 3) C X hP (by decide) lyS_1 rfl (zmem uwX0) (by decide) (C.tb flX0_21) (fun _ h9 => h9) rfl dX0_add_31 ?_
  refine zg_iload C dX0_add_34 (lv_at hl 0 rfl) ?_
  refine zg_iload C dX0_add_36 (lv_at hl 5 rfl) ?_
  refine zg_iast (t0 := 0) C X hP hS (by decide) (fun x => lyS_5) rfl (by decide) (by omega) (by omega) dX0_add_38 (fun H locs hP hS => ?_)
  obtain ⟨σ20, e21⟩ : ∃ z_ : Zt, z_ = zu σ14 5 (σ 1 10).toNat q := ⟨_, rfl⟩
  rw [← e21] at hP
  have w_23 : σ20 5 (σ 1 10).toNat = q := by rw [e21]; exact zu_same _ _ _ _
  have w_24 : σ20 1 10 = σ14 1 10 := by rw [e21]; first | exact congrFun (zu_ne (by omega)) _ | exact zu_nj (by omega)
  have w_25 : σ20 1 9 = σ14 1 9 := by rw [e21]; first | exact congrFun (zu_ne (by omega)) _ | exact zu_nj (by omega)
  have hR22 : rgS σ20 := by rw [e21]; exact rzS_5 hR16 (by omega) (by omega)
  refine zg_aload_n C dX0_add_39 rfl (lv_at hl 1 rfl) ?_
  refine zg_get (j := 4) C X hP (by decide) lyS_1 rfl (zmem uwX0) (by decide) (C.tb flX0_24) (fun _ h9 => h9) rfl dX0_add_40 ?_
  refine zg_iload C dX0_add_43 (lv_at hl 0 rfl) ?_
  refine zg_iload C dX0_add_45 (lv_at hl 6 rfl) ?_
  refine zg_iast (t0 := 0) C X hP hS (by decide) (fun x => lyS_6) rfl (by decide) (by omega) (by omega) dX0_add_47 (fun H locs hP hS => ?_)
  obtain ⟨σ26, e27⟩ : ∃ z_ : Zt, z_ = zu σ20 6 (σ 1 10).toNat v := ⟨_, rfl⟩
  rw [← e27] at hP
  have w_29 : σ26 6 (σ 1 10).toNat = v := by rw [e27]; exact zu_same _ _ _ _
  have w_30 : σ26 1 10 = σ20 1 10 := by rw [e27]; first | exact congrFun (zu_ne (by omega)) _ | exact zu_nj (by omega)
  have w_31 : σ26 1 9 = σ20 1 9 := by rw [e27]; first | exact congrFun (zu_ne (by omega)) _ | exact zu_nj (by omega)
  have hR28 : rgS σ26 := by rw [e27]; exact rzS_6 hR22 (by omega) (by omega)
  refine zg_aload_n C dX0_add_48 rfl (lv_at hl 1 rfl) ?_
  refine zg_get (j := 5) C X hP (by decide) lyS_1 rfl (zmem uwX0) (by decide) (C.tb flX0_27) (fun _ h9 => h9) rfl dX0_add_49 ?_
  refine zg_iload C dX0_add_52 (lv_at hl 0 rfl) ?_
  refine zg_iload C dX0_add_54 (lv_at hl 7 rfl) ?_
  refine zg_iast (t0 := 0) C X hP hS (by decide) (fun x => lyS_7) rfl (by decide) (by omega) (by omega) dX0_add_56 (fun H locs hP hS => ?_)
  obtain ⟨σ32, e33⟩ : ∃ z_ : Zt, z_ = zu σ26 7 (σ 1 10).toNat f := ⟨_, rfl⟩
  rw [← e33] at hP
  have w_35 : σ32 7 (σ 1 10).toNat = f := by rw [e33]; exact zu_same _ _ _ _
  have w_36 : σ32 1 10 = σ26 1 10 := by rw [e33]; first | exact congrFun (zu_ne (by omega)) _ | exact zu_nj (by omega)
  have w_37 : σ32 1 9 = σ26 1 9 := by rw [e33]; first | exact congrFun (zu_ne (by omega)) _ | exact zu_nj (by omega)
  have hR34 : rgS σ32 := by rw [e33]; exact rzS_7 hR28 (by omega) (by omega)
  refine zg_aload_n C dX0_add_57 rfl (lv_at hl 1 rfl) ?_
  refine zg_get (j := 6) C X hP (by decide) lyS_1 rfl (zmem uwX0) (by decide) (C.tb flX0_30) (fun _ h9 => h9) rfl dX0_add_58 ?_
  refine zg_iload C dX0_add_61 (lv_at hl 0 rfl) ?_
  refine zg_iload C dX0_add_63 (lv_at hl 8 rfl) ?_
  refine zg_iast (t0 := 0) C X hP hS (by decide) (fun x => lyS_8) rfl (by decide) (by omega) (by omega) dX0_add_65 (fun H locs hP hS => ?_)
  obtain ⟨σ38, e39⟩ : ∃ z_ : Zt, z_ = zu σ32 8 (σ 1 10).toNat g := ⟨_, rfl⟩
  rw [← e39] at hP
  have w_41 : σ38 8 (σ 1 10).toNat = g := by rw [e39]; exact zu_same _ _ _ _
  have w_42 : σ38 1 10 = σ32 1 10 := by rw [e39]; first | exact congrFun (zu_ne (by omega)) _ | exact zu_nj (by omega)
  have w_43 : σ38 1 9 = σ32 1 9 := by rw [e39]; first | exact congrFun (zu_ne (by omega)) _ | exact zu_nj (by omega)
  have hR40 : rgS σ38 := by rw [e39]; exact rzS_8 hR34 (by omega) (by omega)
  refine zg_aload_n C dX0_add_66 rfl (lv_at hl 1 rfl) ?_
  refine zg_get (j := 7) C X hP (by decide) lyS_1 rfl (zmem uwX0) (by decide) (C.tb flX0_33) (fun _ h9 => h9) rfl dX0_add_67 ?_
  refine zg_iload C dX0_add_70 (lv_at hl 0 rfl) ?_
  refine zg_iload C dX0_add_72 (lv_at hl 5 rfl) ?_
  refine zg_if_eq (tgt := 83) C (by omega) (by omega) dX0_add_74 (by decide) (fun c_44 => ?_) (fun c_44 => ?_)
  · refine zg_iconst C dX0_add_83 ?_
    refine zg_goto (tgt := 88) C dX0_add_84 (by decide) ?_
    refine zg_zast (t0 := 1) (b := true) C X hP hS (by decide) (fun x => lyS_9) rfl (by decide) (by omega) (by omega) dX0_add_88 (fun H locs hP hS => ?_)
    have b_45 := bI_01 true
    obtain ⟨σ46, e47⟩ : ∃ z_ : Zt, z_ = zu σ38 9 (σ 1 10).toNat (bI true) := ⟨_, rfl⟩
    rw [← e47] at hP
    have w_49 : σ46 9 (σ 1 10).toNat = bI true := by rw [e47]; exact zu_same _ _ _ _
    have w_50 : σ46 1 10 = σ38 1 10 := by rw [e47]; first | exact congrFun (zu_ne (by omega)) _ | exact zu_nj (by omega)
    have w_51 : σ46 1 9 = σ38 1 9 := by rw [e47]; first | exact congrFun (zu_ne (by omega)) _ | exact zu_nj (by omega)
    have hR48 : rgS σ46 := by rw [e47]; exact rzS_9 hR40 (by omega) (by omega)
    refine zg_iload C dX0_add_89 (lv_at hl 5 rfl) ?_
    refine zg_iconst C dX0_add_91 ?_
    refine zg_icmp_ne (tgt := 116) C (by omega) (by omega) (by omega) (by omega) dX0_add_92 (by decide) (fun c_52 => ?_) (fun c_52 => ?_)
    · refine zg_aload_n C dX0_add_116 rfl (lv_at hl 1 rfl) ?_
      refine zg_dup C dX0_add_117 rfl ?_
      refine zg_get (j := 10) C X hP (by decide) lyS_1 rfl (zmem uwX0) (by decide) (C.tb flX0_40) (fun _ h9 => h9) rfl dX0_add_118 ?_
      have b_53 := rgS_1_10 hR48
      refine zg_iconst C dX0_add_121 ?_
      refine zg_iadd C dX0_add_122 ?_
      refine zg_put (j := 10) (v := (σ46 1 10) + 1) C X hP hS (by decide) lyS_1 rfl (zmem uwX0) tyX0 tyX0_ok nmX0 (by decide) (C.tb flX0_40) (fun _ h9 => h9) rfl (by decide +kernel) (Nat.le_of_ble_eq_true rfl) (by rw [lyS_1]; rfl) dX0_add_123 (fun H locs hP hS => ?_)
      obtain ⟨σ54, e55⟩ : ∃ z_ : Zt, z_ = zu σ46 1 10 ((σ46 1 10) + 1) := ⟨_, rfl⟩
      rw [← e55] at hP
      have w_57 : σ54 1 10 = (σ46 1 10) + 1 := by rw [e55]; exact zu_same _ _ _ _
      have w_58 : σ54 1 9 = σ46 1 9 := by rw [e55]; first | exact congrFun (zu_ne (by omega)) _ | exact zu_nj (by omega)
      have hR56 : rgS σ54 := by rw [e55]; exact rzS_1_10 hR48 (by omega) (by omega)
      refine zg_iload C dX0_add_126 (lv_at hl 0 rfl) ?_
      refine zg_iret C hP hS dX0_add_128 ?_
      subst e3 e9 e15 e21 e27 e33 e39 e47 e55
      refine ⟨rfl, ?_⟩
      unfold kAdd kAdd0
      first | rw [show (decide (q = 0) || decide (q = 1)) = true by grind] | rw [show (decide (q = 0) || decide (q = 1)) = false by grind]
      first | rw [if_pos (by assumption)] | rw [if_neg (by assumption)]
      rfl
    · refine zg_aload_n C dX0_add_95 rfl (lv_at hl 1 rfl) ?_
      refine zg_get (j := 8) C X hP (by decide) lyS_1 rfl (zmem uwX0) (by decide) (C.tb flX0_37) (fun _ h9 => h9) rfl dX0_add_96 ?_
      refine zg_aload_n C dX0_add_99 rfl (lv_at hl 1 rfl) ?_
      refine zg_get (j := 9) C X hP (by decide) lyS_1 rfl (zmem uwX0) (by decide) (C.tb flX0_44) (fun _ h9 => h9) rfl dX0_add_100 ?_
      have b_59 := rgS_1_9 hR48
      refine zg_iload C dX0_add_103 (lv_at hl 0 rfl) ?_
      refine zg_iast (t0 := 0) C X hP hS (by decide) (fun x => lyS_10) rfl (by decide) (by omega) (by omega) dX0_add_105 (fun H locs hP hS => ?_)
      obtain ⟨σ60, e61⟩ : ∃ z_ : Zt, z_ = zu σ46 10 (σ46 1 9).toNat (σ 1 10) := ⟨_, rfl⟩
      rw [← e61] at hP
      have w_63 : σ60 10 (σ46 1 9).toNat = σ 1 10 := by rw [e61]; exact zu_same _ _ _ _
      have w_64 : σ60 1 10 = σ46 1 10 := by rw [e61]; first | exact congrFun (zu_ne (by omega)) _ | exact zu_nj (by omega)
      have w_65 : σ60 1 9 = σ46 1 9 := by rw [e61]; first | exact congrFun (zu_ne (by omega)) _ | exact zu_nj (by omega)
      have hR62 : rgS σ60 := by rw [e61]; exact rzS_10 hR48 (by omega) (by omega)
      refine zg_aload_n C dX0_add_106 rfl (lv_at hl 1 rfl) ?_
      refine zg_dup C dX0_add_107 rfl ?_
      refine zg_get (j := 9) C X hP (by decide) lyS_1 rfl (zmem uwX0) (by decide) (C.tb flX0_44) (fun _ h9 => h9) rfl dX0_add_108 ?_
      have b_66 := rgS_1_9 hR62
      refine zg_iconst C dX0_add_111 ?_
      refine zg_iadd C dX0_add_112 ?_
      refine zg_put (j := 9) (v := (σ60 1 9) + 1) C X hP hS (by decide) lyS_1 rfl (zmem uwX0) tyX0 tyX0_ok nmX0 (by decide) (C.tb flX0_44) (fun _ h9 => h9) rfl (by decide +kernel) (Nat.le_of_ble_eq_true rfl) (by rw [lyS_1]; rfl) dX0_add_113 (fun H locs hP hS => ?_)
      obtain ⟨σ67, e68⟩ : ∃ z_ : Zt, z_ = zu σ60 1 9 ((σ60 1 9) + 1) := ⟨_, rfl⟩
      rw [← e68] at hP
      have w_70 : σ67 1 9 = (σ60 1 9) + 1 := by rw [e68]; exact zu_same _ _ _ _
      have w_71 : σ67 1 10 = σ60 1 10 := by rw [e68]; first | exact congrFun (zu_ne (by omega)) _ | exact zu_nj (by omega)
      have hR69 : rgS σ67 := by rw [e68]; exact rzS_1_9 hR62 (by omega) (by omega)
      refine zg_aload_n C dX0_add_116 rfl (lv_at hl 1 rfl) ?_
      refine zg_dup C dX0_add_117 rfl ?_
      refine zg_get (j := 10) C X hP (by decide) lyS_1 rfl (zmem uwX0) (by decide) (C.tb flX0_40) (fun _ h9 => h9) rfl dX0_add_118 ?_
      have b_72 := rgS_1_10 hR69
      refine zg_iconst C dX0_add_121 ?_
      refine zg_iadd C dX0_add_122 ?_
      refine zg_put (j := 10) (v := (σ67 1 10) + 1) C X hP hS (by decide) lyS_1 rfl (zmem uwX0) tyX0 tyX0_ok nmX0 (by decide) (C.tb flX0_40) (fun _ h9 => h9) rfl (by decide +kernel) (Nat.le_of_ble_eq_true rfl) (by rw [lyS_1]; rfl) dX0_add_123 (fun H locs hP hS => ?_)
      obtain ⟨σ73, e74⟩ : ∃ z_ : Zt, z_ = zu σ67 1 10 ((σ67 1 10) + 1) := ⟨_, rfl⟩
      rw [← e74] at hP
      have w_76 : σ73 1 10 = (σ67 1 10) + 1 := by rw [e74]; exact zu_same _ _ _ _
      have w_77 : σ73 1 9 = σ67 1 9 := by rw [e74]; first | exact congrFun (zu_ne (by omega)) _ | exact zu_nj (by omega)
      have hR75 : rgS σ73 := by rw [e74]; exact rzS_1_10 hR69 (by omega) (by omega)
      refine zg_iload C dX0_add_126 (lv_at hl 0 rfl) ?_
      refine zg_iret C hP hS dX0_add_128 ?_
      subst e3 e9 e15 e21 e27 e33 e39 e47 e61 e68 e74
      refine ⟨rfl, ?_⟩
      unfold kAdd kAdd0
      first | rw [show (decide (q = 0) || decide (q = 1)) = true by grind] | rw [show (decide (q = 0) || decide (q = 1)) = false by grind]
      first | rw [if_pos (by assumption)] | rw [if_neg (by assumption)]
      rfl
  · refine zg_iload C dX0_add_77 (lv_at hl 5 rfl) ?_
    refine zg_iconst C dX0_add_79 ?_
    refine zg_icmp_ne (tgt := 87) C (by omega) (by omega) (by omega) (by omega) dX0_add_80 (by decide) (fun c_78 => ?_) (fun c_78 => ?_)
    · refine zg_iconst C dX0_add_87 ?_
      refine zg_zast (t0 := 1) (b := false) C X hP hS (by decide) (fun x => lyS_9) rfl (by decide) (by omega) (by omega) dX0_add_88 (fun H locs hP hS => ?_)
      have b_79 := bI_01 false
      obtain ⟨σ80, e81⟩ : ∃ z_ : Zt, z_ = zu σ38 9 (σ 1 10).toNat (bI false) := ⟨_, rfl⟩
      rw [← e81] at hP
      have w_83 : σ80 9 (σ 1 10).toNat = bI false := by rw [e81]; exact zu_same _ _ _ _
      have w_84 : σ80 1 10 = σ38 1 10 := by rw [e81]; first | exact congrFun (zu_ne (by omega)) _ | exact zu_nj (by omega)
      have w_85 : σ80 1 9 = σ38 1 9 := by rw [e81]; first | exact congrFun (zu_ne (by omega)) _ | exact zu_nj (by omega)
      have hR82 : rgS σ80 := by rw [e81]; exact rzS_9 hR40 (by omega) (by omega)
      refine zg_iload C dX0_add_89 (lv_at hl 5 rfl) ?_
      refine zg_iconst C dX0_add_91 ?_
      refine zg_icmp_ne (tgt := 116) C (by omega) (by omega) (by omega) (by omega) dX0_add_92 (by decide) (fun c_86 => ?_) (fun c_86 => ?_)
      · refine zg_aload_n C dX0_add_116 rfl (lv_at hl 1 rfl) ?_
        refine zg_dup C dX0_add_117 rfl ?_
        refine zg_get (j := 10) C X hP (by decide) lyS_1 rfl (zmem uwX0) (by decide) (C.tb flX0_40) (fun _ h9 => h9) rfl dX0_add_118 ?_
        have b_87 := rgS_1_10 hR82
        refine zg_iconst C dX0_add_121 ?_
        refine zg_iadd C dX0_add_122 ?_
        refine zg_put (j := 10) (v := (σ80 1 10) + 1) C X hP hS (by decide) lyS_1 rfl (zmem uwX0) tyX0 tyX0_ok nmX0 (by decide) (C.tb flX0_40) (fun _ h9 => h9) rfl (by decide +kernel) (Nat.le_of_ble_eq_true rfl) (by rw [lyS_1]; rfl) dX0_add_123 (fun H locs hP hS => ?_)
        obtain ⟨σ88, e89⟩ : ∃ z_ : Zt, z_ = zu σ80 1 10 ((σ80 1 10) + 1) := ⟨_, rfl⟩
        rw [← e89] at hP
        have w_91 : σ88 1 10 = (σ80 1 10) + 1 := by rw [e89]; exact zu_same _ _ _ _
        have w_92 : σ88 1 9 = σ80 1 9 := by rw [e89]; first | exact congrFun (zu_ne (by omega)) _ | exact zu_nj (by omega)
        have hR90 : rgS σ88 := by rw [e89]; exact rzS_1_10 hR82 (by omega) (by omega)
        refine zg_iload C dX0_add_126 (lv_at hl 0 rfl) ?_
        refine zg_iret C hP hS dX0_add_128 ?_
        subst e3 e9 e15 e21 e27 e33 e39 e81 e89
        refine ⟨rfl, ?_⟩
        unfold kAdd kAdd0
        first | rw [show (decide (q = 0) || decide (q = 1)) = true by grind] | rw [show (decide (q = 0) || decide (q = 1)) = false by grind]
        first | rw [if_pos (by assumption)] | rw [if_neg (by assumption)]
        rfl
      · refine zg_aload_n C dX0_add_95 rfl (lv_at hl 1 rfl) ?_
        refine zg_get (j := 8) C X hP (by decide) lyS_1 rfl (zmem uwX0) (by decide) (C.tb flX0_37) (fun _ h9 => h9) rfl dX0_add_96 ?_
        refine zg_aload_n C dX0_add_99 rfl (lv_at hl 1 rfl) ?_
        refine zg_get (j := 9) C X hP (by decide) lyS_1 rfl (zmem uwX0) (by decide) (C.tb flX0_44) (fun _ h9 => h9) rfl dX0_add_100 ?_
        have b_93 := rgS_1_9 hR82
        refine zg_iload C dX0_add_103 (lv_at hl 0 rfl) ?_
        refine zg_iast (t0 := 0) C X hP hS (by decide) (fun x => lyS_10) rfl (by decide) (by omega) (by omega) dX0_add_105 (fun H locs hP hS => ?_)
        obtain ⟨σ94, e95⟩ : ∃ z_ : Zt, z_ = zu σ80 10 (σ80 1 9).toNat (σ 1 10) := ⟨_, rfl⟩
        rw [← e95] at hP
        have w_97 : σ94 10 (σ80 1 9).toNat = σ 1 10 := by rw [e95]; exact zu_same _ _ _ _
        have w_98 : σ94 1 10 = σ80 1 10 := by rw [e95]; first | exact congrFun (zu_ne (by omega)) _ | exact zu_nj (by omega)
        have w_99 : σ94 1 9 = σ80 1 9 := by rw [e95]; first | exact congrFun (zu_ne (by omega)) _ | exact zu_nj (by omega)
        have hR96 : rgS σ94 := by rw [e95]; exact rzS_10 hR82 (by omega) (by omega)
        refine zg_aload_n C dX0_add_106 rfl (lv_at hl 1 rfl) ?_
        refine zg_dup C dX0_add_107 rfl ?_
        refine zg_get (j := 9) C X hP (by decide) lyS_1 rfl (zmem uwX0) (by decide) (C.tb flX0_44) (fun _ h9 => h9) rfl dX0_add_108 ?_
        have b_100 := rgS_1_9 hR96
        refine zg_iconst C dX0_add_111 ?_
        refine zg_iadd C dX0_add_112 ?_
        refine zg_put (j := 9) (v := (σ94 1 9) + 1) C X hP hS (by decide) lyS_1 rfl (zmem uwX0) tyX0 tyX0_ok nmX0 (by decide) (C.tb flX0_44) (fun _ h9 => h9) rfl (by decide +kernel) (Nat.le_of_ble_eq_true rfl) (by rw [lyS_1]; rfl) dX0_add_113 (fun H locs hP hS => ?_)
        obtain ⟨σ101, e102⟩ : ∃ z_ : Zt, z_ = zu σ94 1 9 ((σ94 1 9) + 1) := ⟨_, rfl⟩
        rw [← e102] at hP
        have w_104 : σ101 1 9 = (σ94 1 9) + 1 := by rw [e102]; exact zu_same _ _ _ _
        have w_105 : σ101 1 10 = σ94 1 10 := by rw [e102]; first | exact congrFun (zu_ne (by omega)) _ | exact zu_nj (by omega)
        have hR103 : rgS σ101 := by rw [e102]; exact rzS_1_9 hR96 (by omega) (by omega)
        refine zg_aload_n C dX0_add_116 rfl (lv_at hl 1 rfl) ?_
        refine zg_dup C dX0_add_117 rfl ?_
        refine zg_get (j := 10) C X hP (by decide) lyS_1 rfl (zmem uwX0) (by decide) (C.tb flX0_40) (fun _ h9 => h9) rfl dX0_add_118 ?_
        have b_106 := rgS_1_10 hR103
        refine zg_iconst C dX0_add_121 ?_
        refine zg_iadd C dX0_add_122 ?_
        refine zg_put (j := 10) (v := (σ101 1 10) + 1) C X hP hS (by decide) lyS_1 rfl (zmem uwX0) tyX0 tyX0_ok nmX0 (by decide) (C.tb flX0_40) (fun _ h9 => h9) rfl (by decide +kernel) (Nat.le_of_ble_eq_true rfl) (by rw [lyS_1]; rfl) dX0_add_123 (fun H locs hP hS => ?_)
        obtain ⟨σ107, e108⟩ : ∃ z_ : Zt, z_ = zu σ101 1 10 ((σ101 1 10) + 1) := ⟨_, rfl⟩
        rw [← e108] at hP
        have w_110 : σ107 1 10 = (σ101 1 10) + 1 := by rw [e108]; exact zu_same _ _ _ _
        have w_111 : σ107 1 9 = σ101 1 9 := by rw [e108]; first | exact congrFun (zu_ne (by omega)) _ | exact zu_nj (by omega)
        have hR109 : rgS σ107 := by rw [e108]; exact rzS_1_10 hR103 (by omega) (by omega)
        refine zg_iload C dX0_add_126 (lv_at hl 0 rfl) ?_
        refine zg_iret C hP hS dX0_add_128 ?_
        subst e3 e9 e15 e21 e27 e33 e39 e81 e95 e102 e108
        refine ⟨rfl, ?_⟩
        unfold kAdd kAdd0
        first | rw [show (decide (q = 0) || decide (q = 1)) = true by grind] | rw [show (decide (q = 0) || decide (q = 1)) = false by grind]
        first | rw [if_pos (by assumption)] | rw [if_neg (by assumption)]
        rfl
    · refine zg_iconst C dX0_add_83 ?_
      refine zg_goto (tgt := 88) C dX0_add_84 (by decide) ?_
      refine zg_zast (t0 := 1) (b := true) C X hP hS (by decide) (fun x => lyS_9) rfl (by decide) (by omega) (by omega) dX0_add_88 (fun H locs hP hS => ?_)
      have b_112 := bI_01 true
      obtain ⟨σ113, e114⟩ : ∃ z_ : Zt, z_ = zu σ38 9 (σ 1 10).toNat (bI true) := ⟨_, rfl⟩
      rw [← e114] at hP
      have w_116 : σ113 9 (σ 1 10).toNat = bI true := by rw [e114]; exact zu_same _ _ _ _
      have w_117 : σ113 1 10 = σ38 1 10 := by rw [e114]; first | exact congrFun (zu_ne (by omega)) _ | exact zu_nj (by omega)
      have w_118 : σ113 1 9 = σ38 1 9 := by rw [e114]; first | exact congrFun (zu_ne (by omega)) _ | exact zu_nj (by omega)
      have hR115 : rgS σ113 := by rw [e114]; exact rzS_9 hR40 (by omega) (by omega)
      refine zg_iload C dX0_add_89 (lv_at hl 5 rfl) ?_
      refine zg_iconst C dX0_add_91 ?_
      refine zg_icmp_ne (tgt := 116) C (by omega) (by omega) (by omega) (by omega) dX0_add_92 (by decide) (fun c_119 => ?_) (fun c_119 => ?_)
      · refine zg_aload_n C dX0_add_116 rfl (lv_at hl 1 rfl) ?_
        refine zg_dup C dX0_add_117 rfl ?_
        refine zg_get (j := 10) C X hP (by decide) lyS_1 rfl (zmem uwX0) (by decide) (C.tb flX0_40) (fun _ h9 => h9) rfl dX0_add_118 ?_
        have b_120 := rgS_1_10 hR115
        refine zg_iconst C dX0_add_121 ?_
        refine zg_iadd C dX0_add_122 ?_
        refine zg_put (j := 10) (v := (σ113 1 10) + 1) C X hP hS (by decide) lyS_1 rfl (zmem uwX0) tyX0 tyX0_ok nmX0 (by decide) (C.tb flX0_40) (fun _ h9 => h9) rfl (by decide +kernel) (Nat.le_of_ble_eq_true rfl) (by rw [lyS_1]; rfl) dX0_add_123 (fun H locs hP hS => ?_)
        obtain ⟨σ121, e122⟩ : ∃ z_ : Zt, z_ = zu σ113 1 10 ((σ113 1 10) + 1) := ⟨_, rfl⟩
        rw [← e122] at hP
        have w_124 : σ121 1 10 = (σ113 1 10) + 1 := by rw [e122]; exact zu_same _ _ _ _
        have w_125 : σ121 1 9 = σ113 1 9 := by rw [e122]; first | exact congrFun (zu_ne (by omega)) _ | exact zu_nj (by omega)
        have hR123 : rgS σ121 := by rw [e122]; exact rzS_1_10 hR115 (by omega) (by omega)
        refine zg_iload C dX0_add_126 (lv_at hl 0 rfl) ?_
        refine zg_iret C hP hS dX0_add_128 ?_
        subst e3 e9 e15 e21 e27 e33 e39 e114 e122
        refine ⟨rfl, ?_⟩
        unfold kAdd kAdd0
        first | rw [show (decide (q = 0) || decide (q = 1)) = true by grind] | rw [show (decide (q = 0) || decide (q = 1)) = false by grind]
        first | rw [if_pos (by assumption)] | rw [if_neg (by assumption)]
        rfl
      · refine zg_aload_n C dX0_add_95 rfl (lv_at hl 1 rfl) ?_
        refine zg_get (j := 8) C X hP (by decide) lyS_1 rfl (zmem uwX0) (by decide) (C.tb flX0_37) (fun _ h9 => h9) rfl dX0_add_96 ?_
        refine zg_aload_n C dX0_add_99 rfl (lv_at hl 1 rfl) ?_
        refine zg_get (j := 9) C X hP (by decide) lyS_1 rfl (zmem uwX0) (by decide) (C.tb flX0_44) (fun _ h9 => h9) rfl dX0_add_100 ?_
        have b_126 := rgS_1_9 hR115
        refine zg_iload C dX0_add_103 (lv_at hl 0 rfl) ?_
        refine zg_iast (t0 := 0) C X hP hS (by decide) (fun x => lyS_10) rfl (by decide) (by omega) (by omega) dX0_add_105 (fun H locs hP hS => ?_)
        obtain ⟨σ127, e128⟩ : ∃ z_ : Zt, z_ = zu σ113 10 (σ113 1 9).toNat (σ 1 10) := ⟨_, rfl⟩
        rw [← e128] at hP
        have w_130 : σ127 10 (σ113 1 9).toNat = σ 1 10 := by rw [e128]; exact zu_same _ _ _ _
        have w_131 : σ127 1 10 = σ113 1 10 := by rw [e128]; first | exact congrFun (zu_ne (by omega)) _ | exact zu_nj (by omega)
        have w_132 : σ127 1 9 = σ113 1 9 := by rw [e128]; first | exact congrFun (zu_ne (by omega)) _ | exact zu_nj (by omega)
        have hR129 : rgS σ127 := by rw [e128]; exact rzS_10 hR115 (by omega) (by omega)
        refine zg_aload_n C dX0_add_106 rfl (lv_at hl 1 rfl) ?_
        refine zg_dup C dX0_add_107 rfl ?_
        refine zg_get (j := 9) C X hP (by decide) lyS_1 rfl (zmem uwX0) (by decide) (C.tb flX0_44) (fun _ h9 => h9) rfl dX0_add_108 ?_
        have b_133 := rgS_1_9 hR129
        refine zg_iconst C dX0_add_111 ?_
        refine zg_iadd C dX0_add_112 ?_
        refine zg_put (j := 9) (v := (σ127 1 9) + 1) C X hP hS (by decide) lyS_1 rfl (zmem uwX0) tyX0 tyX0_ok nmX0 (by decide) (C.tb flX0_44) (fun _ h9 => h9) rfl (by decide +kernel) (Nat.le_of_ble_eq_true rfl) (by rw [lyS_1]; rfl) dX0_add_113 (fun H locs hP hS => ?_)
        obtain ⟨σ134, e135⟩ : ∃ z_ : Zt, z_ = zu σ127 1 9 ((σ127 1 9) + 1) := ⟨_, rfl⟩
        rw [← e135] at hP
        have w_137 : σ134 1 9 = (σ127 1 9) + 1 := by rw [e135]; exact zu_same _ _ _ _
        have w_138 : σ134 1 10 = σ127 1 10 := by rw [e135]; first | exact congrFun (zu_ne (by omega)) _ | exact zu_nj (by omega)
        have hR136 : rgS σ134 := by rw [e135]; exact rzS_1_9 hR129 (by omega) (by omega)
        refine zg_aload_n C dX0_add_116 rfl (lv_at hl 1 rfl) ?_
        refine zg_dup C dX0_add_117 rfl ?_
        refine zg_get (j := 10) C X hP (by decide) lyS_1 rfl (zmem uwX0) (by decide) (C.tb flX0_40) (fun _ h9 => h9) rfl dX0_add_118 ?_
        have b_139 := rgS_1_10 hR136
        refine zg_iconst C dX0_add_121 ?_
        refine zg_iadd C dX0_add_122 ?_
        refine zg_put (j := 10) (v := (σ134 1 10) + 1) C X hP hS (by decide) lyS_1 rfl (zmem uwX0) tyX0 tyX0_ok nmX0 (by decide) (C.tb flX0_40) (fun _ h9 => h9) rfl (by decide +kernel) (Nat.le_of_ble_eq_true rfl) (by rw [lyS_1]; rfl) dX0_add_123 (fun H locs hP hS => ?_)
        obtain ⟨σ140, e141⟩ : ∃ z_ : Zt, z_ = zu σ134 1 10 ((σ134 1 10) + 1) := ⟨_, rfl⟩
        rw [← e141] at hP
        have w_143 : σ140 1 10 = (σ134 1 10) + 1 := by rw [e141]; exact zu_same _ _ _ _
        have w_144 : σ140 1 9 = σ134 1 9 := by rw [e141]; first | exact congrFun (zu_ne (by omega)) _ | exact zu_nj (by omega)
        have hR142 : rgS σ140 := by rw [e141]; exact rzS_1_10 hR136 (by omega) (by omega)
        refine zg_iload C dX0_add_126 (lv_at hl 0 rfl) ?_
        refine zg_iret C hP hS dX0_add_128 ?_
        subst e3 e9 e15 e21 e27 e33 e39 e114 e128 e135 e141
        refine ⟨rfl, ?_⟩
        unfold kAdd kAdd0
        first | rw [show (decide (q = 0) || decide (q = 1)) = true by grind] | rw [show (decide (q = 0) || decide (q = 1)) = false by grind]
        first | rw [if_pos (by assumption)] | rw [if_neg (by assumption)]
        rfl
