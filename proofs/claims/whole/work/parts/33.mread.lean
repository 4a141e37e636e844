set_option maxHeartbeats 4000000 in
set_option maxRecDepth 100000 in
theorem kX5_in (l : Launch) {D : va_G} {a : Nat → Nat} {cI cZ : ClassId} (σ : Zt) (hR : rgM σ) (κ : Zt) (hM : RR κ σ) (hG : kMid κ) (x : Int) (u : Int) (v : Int) (x0 : -2147483648 ≤ x) (x1 : x < 2147483648) (u0 : -2147483648 ≤ u) (u1 : u < 2147483648) (v0 : -2147483648 ≤ v) (v1 : v < 2147483648) : zc l D vwCl (tyM cI cZ) 28 (layM cI cZ a) a yX5_in wsX5_in ({ frames := 0, cells := 0, slots := 0, locals := 0 }) [.long (jL x), .long (jL u), .long (jL v)] σ (fun r_ u_ => r_ = jI (bI (mIn x u v)) ∧ u_ = σ) := by
  refine zc_of (cc := cX5_in) (maxL := 6) (ret := some .boolean) (own := RX5) (by decide) rfl rfl (Nat.le_of_ble_eq_true rfl) rfl ?_
  intro p e s m below meth c A ls C X hP hS hl
  refine zg_lload_n C dX5_in_0 rfl (lv_at hl 1 rfl) ?_
  refine zg_lload_n C dX5_in_1 rfl (lv_at hl 0 rfl) ?_
  refine zg_lcmp (x := u) (y := x) C (by omega) (by omega) (by omega) (by omega) dX5_in_2 ?_
  have b_1 := cmpI_rg u x
  refine zg_if_gt (tgt := 17) C (by omega) (by omega) dX5_in_3 (by decide) (fun c_2 => ?_) (fun c_2 => ?_)
  · refine zg_iconst C dX5_in_17 ?_
    refine zg_zret (b := false) C hP hS dX5_in_18 ?_
    exact ⟨congrArg (fun b => jI (bI b)) (by grind [mIn]), rfl⟩
  · refine zg_lload_n C dX5_in_6 rfl (lv_at hl 0 rfl) ?_
    refine zg_lload C dX5_in_7 (lv_at hl 2 rfl) ?_
    refine zg_lcmp (x := x) (y := v) C (by omega) (by omega) (by omega) (by omega) dX5_in_9 ?_
    have b_3 := cmpI_rg x v
    refine zg_if_gt (tgt := 17) C (by omega) (by omega) dX5_in_10 (by decide) (fun c_4 => ?_) (fun c_4 => ?_)
    · refine zg_iconst C dX5_in_17 ?_
      refine zg_zret (b := false) C hP hS dX5_in_18 ?_
      exact ⟨congrArg (fun b => jI (bI b)) (by grind [mIn]), rfl⟩
    · refine zg_iconst C dX5_in_13 ?_
      refine zg_goto (tgt := 18) C dX5_in_14 (by decide) ?_
      refine zg_zret (b := true) C hP hS dX5_in_18 ?_
      exact ⟨congrArg (fun b => jI (bI b)) (by grind [mIn]), rfl⟩
set_option maxHeartbeats 4000000 in
set_option maxRecDepth 100000 in
theorem kX5_isReplica (l : Launch) {D : va_G} {a : Nat → Nat} {cI cZ : ClassId} (σ : Zt) (hR : rgM σ) (κ : Zt) (hM : RR κ σ) (hG : kMid κ) (x : Int) (x0 : -2147483648 ≤ x) (x1 : x < 2147483648) : zc l D vwCl (tyM cI cZ) 28 (layM cI cZ a) a yX5_isReplica wsX5_isReplica ({ frames := 1, cells := 0, slots := 0, locals := 25 }) [.int (jI x)] σ (fun r_ u_ => r_ = jI (bI (kIsR x)) ∧ u_ = σ) := by
  refine zc_of (cc := cX5_isReplica) (maxL := 1) (ret := some .boolean) (own := RX5) (by decide) rfl rfl (Nat.le_of_ble_eq_true rfl) rfl ?_
  intro p e s m below meth c A ls C X hP hS hl
  refine zg_iload_n C dX5_isReplica_0 rfl (lv_at hl 0 rfl) ?_
  refine zg_i2l C (by omega) (by omega) dX5_isReplica_1 ?_
  refine zg_lconst C 0 rfl dX5_isReplica_2 ?_
  refine zg_ldc2 (v := 5) C (C.tb klX5_96) rfl dX5_isReplica_3 ?_
  refine zg_callS C X hP hS (kX5_in l σ hR κ hM hG x 0 5 (by omega) (by omega) (by omega) (by omega) (by omega) (by omega)) (cwS 3 C.ts (zgS mlX5_98 stX5_in iniX5 cdX5_in) rfl rfl rfl (by decide +kernel) ⟨Nat.le_of_ble_eq_true rfl, Nat.le_of_ble_eq_true rfl⟩) rfl hl.1 rfl (Nat.le_of_ble_eq_true rfl) dX5_isReplica_6 ⟨Nat.zero_le _, Nat.zero_le _⟩ (fun r_2 σ1 H locs q3 hP hS => ?_)
  obtain ⟨rfl, q3⟩ := q3
  rw [q3] at hP
  refine zg_zret (b := mIn x 0 5) C hP hS dX5_isReplica_9 ?_
  exact ⟨congrArg (fun b => jI (bI b)) (mIn_R x), rfl⟩
set_option maxHeartbeats 4000000 in
set_option maxRecDepth 100000 in
theorem kX5_thrown (l : Launch) {D : va_G} {a : Nat → Nat} {cI cZ : ClassId} (σ : Zt) (hR : rgM σ) (κ : Zt) (hM : RR κ σ) (hG : kMid κ) : zc l D vwCl (tyM cI cZ) 28 (layM cI cZ a) a yX5_thrown wsX5_thrown ({ frames := 0, cells := 0, slots := 0, locals := 0 }) [.ref (a 0)] σ (fun r_ u_ => r_ = jI (σ 0 0) ∧ u_ = σ) := by
  refine zc_of (cc := cX5_thrown) (maxL := 1) (ret := some .int) (own := RX5) (by decide) rfl rfl (Nat.le_of_ble_eq_true rfl) rfl ?_
  intro p e s m below meth c A ls C X hP hS hl
  refine zg_aload_n C dX5_thrown_0 rfl (lv_at hl 0 rfl) ?_
  refine zg_get (j := 0) C X hP (by decide) lyM_0 rfl (zmem uwX5) (by decide) (C.tb flX5_1) (fun _ h9 => h9) rfl dX5_thrown_1 ?_
  have b_1 := rgM_0_0 hR
  refine zg_iret C hP hS dX5_thrown_4 ?_
  exact ⟨rfl, rfl⟩
set_option maxHeartbeats 4000000 in
set_option maxRecDepth 100000 in
theorem kX5_has (l : Launch) {D : va_G} {a : Nat → Nat} {cI cZ : ClassId} (σ : Zt) (hR : rgM σ) (κ : Zt) (hM : RR κ σ) (hG : kMid κ) (x : Int) (d : Int) (x0 : 0 ≤ x) (x1 : x < 6) (d0 : 0 ≤ d) (d1 : d < κ 1 10) : zc l D vwCl (tyM cI cZ) 28 (layM cI cZ a) a yX5_has wsX5_has ({ frames := 0, cells := 0, slots := 0, locals := 0 }) [.ref (a 0), .int (jI x), .int (jI d)] σ (fun r_ u_ => r_ = jI (bI (kDid κ x.toNat d)) ∧ u_ = σ) := by
  refine zc_of (cc := cX5_has) (maxL := 3) (ret := some .boolean) (own := RX5) (by decide) rfl rfl (Nat.le_of_ble_eq_true rfl) rfl ?_
  intro p e s m below meth c A ls C X hP hS hl
  have bT := rgS_1_10 hG.1
  have bP := rgS_11_4 hG.1
  have bPT := hG.e.1
  refine zg_aload_n C dX5_has_0 rfl (lv_at hl 0 rfl) ?_
  refine zg_get (j := 18) C X hP (by decide) lyM_0 rfl (zmem uwX5) (by decide) (C.tb flX5_60) (fun _ h9 => h9) rfl dX5_has_1 ?_
  refine zg_sipush C dX5_has_4 (by decide) ?_
  refine zg_iload_n C dX5_has_7 rfl (lv_at hl 1 rfl) ?_
  refine zg_imul C dX5_has_8 ?_
  refine zg_iload_n C dX5_has_9 rfl (lv_at hl 2 rfl) ?_
  refine zg_iadd C dX5_has_10 ?_
  refine zg_zald (t0 := 1) C X hP (by decide) lyM_16 rfl (by decide) (by omega) (by omega) dX5_has_11 ?_
  rw [rr_16 hM (x := x) (d := d) (by omega) (by omega) (by omega) (by omega)]
  have b_1 := rgM_16 hR (((400 * x) + d).toNat)
  refine zg_zret (b := kDid κ x.toNat d) C hP hS dX5_has_12 ?_
  exact ⟨rfl, rfl⟩
set_option maxHeartbeats 4000000 in
set_option maxRecDepth 100000 in
theorem kX5_lives (l : Launch) {D : va_G} {a : Nat → Nat} {cI cZ : ClassId} (σ : Zt) (hR : rgM σ) (κ : Zt) (hM : RR κ σ) (hG : kMid κ) (x : Int) (d : Int) (x0 : 0 ≤ x) (x1 : x < 6) (d0 : 0 ≤ d) (d1 : d < κ 1 10) : zc l D vwCl (tyM cI cZ) 28 (layM cI cZ a) a yX5_lives wsX5_lives ({ frames := 1, cells := 0, slots := 0, locals := 22 }) [.ref (a 0), .int (jI x), .int (jI d)] σ (fun r_ u_ => r_ = jI (bI (kAlive κ x.toNat d)) ∧ u_ = σ) := by
  refine zc_of (cc := cX5_lives) (maxL := 4) (ret := some .boolean) (own := RX5) (by decide) rfl rfl (Nat.le_of_ble_eq_true rfl) rfl ?_
  intro p e s m below meth c A ls C X hP hS hl
  have bT := rgS_1_10 hG.1
  have bP := rgS_11_4 hG.1
  have bPT := hG.e.1
  refine zg_aload_n C dX5_lives_0 rfl (lv_at hl 0 rfl) ?_
  refine zg_get (j := 20) C X hP (by decide) lyM_0 rfl (zmem uwX5) (by decide) (C.tb flX5_66) (fun _ h9 => h9) rfl dX5_lives_1 ?_
  refine zg_sipush C dX5_lives_4 (by decide) ?_
  refine zg_iload_n C dX5_lives_7 rfl (lv_at hl 1 rfl) ?_
  refine zg_imul C dX5_lives_8 ?_
  refine zg_iload_n C dX5_lives_9 rfl (lv_at hl 2 rfl) ?_
  refine zg_iadd C dX5_lives_10 ?_
  refine zg_iald (t0 := 0) C X hP (by decide) lyM_18 rfl (by decide) (by omega) (by omega) dX5_lives_11 ?_
  rw [rr_18 hM (x := x) (d := d) (by omega) (by omega) (by omega) (by omega)]
  have b_1 := rgS_23 hG.1 (r := x.toNat) (by omega) d.toNat
  have b_2 := rgM_18 hR (((400 * x) + d).toNat)
  refine zg_istore_n (lv' := [(3, .int (jI (κ (23 + 6 * x.toNat) d.toNat))), (0, .ref (a 0)), (1, .int (jI x)), (2, .int (jI d))]) C dX5_lives_12 rfl hl (by decide) rfl (fun ls hl => ?_)
  refine zg_aload_n C dX5_lives_13 rfl (lv_at hl 1 rfl) ?_
  refine zg_iload_n C dX5_lives_14 rfl (lv_at hl 2 rfl) ?_
  refine zg_iload_n C dX5_lives_15 rfl (lv_at hl 3 rfl) ?_
  refine zg_callV C X hP hS (kX5_has l σ hR κ hM hG x d (by omega) (by omega) (by omega) (by omega)) (cwV 2 C.ts (zgV mlX5_106 imX5_has slX5_has iniX5 cdX5_has) rfl rfl rfl (by decide +kernel) ⟨Nat.le_of_ble_eq_true rfl, Nat.le_of_ble_eq_true rfl⟩) (by decide) lyM_0 rfl rfl rfl hl.1 rfl (Nat.le_of_ble_eq_true rfl) dX5_lives_16 ⟨Nat.zero_le _, Nat.zero_le _⟩ (fun r_4 σ3 H locs q5 hP hS => ?_)
  obtain ⟨rfl, q5⟩ := q5
  rw [q5] at hP
  refine zg_ifeqB (tgt := 41) C dX5_lives_19 (by decide) (fun c_6 => ?_) (fun c_6 => ?_)
  · refine zg_iconst C dX5_lives_41 ?_
    refine zg_zret (b := false) C hP hS dX5_lives_42 ?_
    exact ⟨congrArg (fun b => jI (bI b)) (by grind [kAlive]), rfl⟩
  · refine zg_iload_n C dX5_lives_22 rfl (lv_at hl 0 rfl) ?_
    refine zg_iconst C dX5_lives_23 ?_
    refine zg_icmp_eq (tgt := 37) C (by omega) (by omega) (by omega) (by omega) dX5_lives_24 (by decide) (fun c_7 => ?_) (fun c_7 => ?_)
    · refine zg_iconst C dX5_lives_37 ?_
      refine zg_goto (tgt := 42) C dX5_lives_38 (by decide) ?_
      refine zg_zret (b := true) C hP hS dX5_lives_42 ?_
      exact ⟨congrArg (fun b => jI (bI b)) (by grind [kAlive]), rfl⟩
    · refine zg_aload_n C dX5_lives_27 rfl (lv_at hl 1 rfl) ?_
      refine zg_get (j := 5) C X hP (by decide) lyM_0 rfl (zmem uwX5) (by decide) (C.tb flX5_23) (fun _ h9 => h9) rfl dX5_lives_28 ?_
      refine zg_iload_n C dX5_lives_31 rfl (lv_at hl 0 rfl) ?_
      refine zg_iald (t0 := 0) C X hP (by decide) lyM_4 rfl (by decide) (by omega) (by omega) dX5_lives_32 ?_
      rw [rr_4 hM]
      have b_8 := rgS_5 hG.1 (κ (23 + 6 * x.toNat) d.toNat).toNat
      have b_9 := rgM_4 hR ((κ (23 + 6 * x.toNat) d.toNat).toNat)
      refine zg_iconst C dX5_lives_33 ?_
      refine zg_icmp_eq (tgt := 41) C (by omega) (by omega) (by omega) (by omega) dX5_lives_34 (by decide) (fun c_10 => ?_) (fun c_10 => ?_)
      · refine zg_iconst C dX5_lives_41 ?_
        refine zg_zret (b := false) C hP hS dX5_lives_42 ?_
        exact ⟨congrArg (fun b => jI (bI b)) (by grind [kAlive]), rfl⟩
      · refine zg_iconst C dX5_lives_37 ?_
        refine zg_goto (tgt := 42) C dX5_lives_38 (by decide) ?_
        refine zg_zret (b := true) C hP hS dX5_lives_42 ?_
        exact ⟨congrArg (fun b => jI (bI b)) (by grind [kAlive]), rfl⟩
set_option maxHeartbeats 4000000 in
set_option maxRecDepth 100000 in
theorem lpX5_sizeOf_4 {l : Launch} {D : va_G} {a : Nat → Nat} {cI cZ : ClassId} {p : Program} {e : Env} {s : State} {m : MethodId} {below : List Frame} {meth : Method} {c : Code} {A : Nat → Prop} (σ : Zt) (hR : rgM σ) (κ : Zt) (hM : RR κ σ) (hG : kMid κ) (x : Int) (x0 : 0 ≤ x) (x1 : x < 6)  (C : zk p s m ([.ref (a 0), .int (jI x)] : List Value).toArray meth c cX5_sizeOf 4 (some .int) wsX5_sizeOf RX5) (X : zx D vwCl (tyM cI cZ) A a 28 s) :
    ∀ (n : Nat) (al i : Int) (H : Heap) (locs : List Loc) (ls : Array Slot), ((401 - i).toNat < n) → (0 ≤ i) → (i ≤ κ 11 4) → (al = kCnt κ x.toNat i.toNat) → va_P D vwCl (zw 28 (layM cI cZ a) a σ) H → va_S A s.heap H locs → lv_has ls 4 [(0, .ref (a 0)), (1, .int (jI x)), (2, .int (jI al)), (3, .int (jI i))] →
      W p l e ({ frames := 2, cells := 0, slots := 0, locals := 45 }) s m ([.ref (a 0), .int (jI x)] : List Value).toArray below meth c H locs 0 0 (MQ below (va_Qi (fun r_ u_ => r_ = jI (kLen κ x.toNat) ∧ u_ = σ) (fun (u : Zt) t => va_P D vwCl (zw 28 (layM cI cZ a) a u) t.heap) A) ([.ref (a 0), .int (jI x)] : List Value).toArray s 0 0 A) (F0 m 4 ls []) := by
  intro n
  induction n with
  | zero =>
    intro al i  H locs ls hn h0 h1 hE hP hS hl
    exact absurd hn (by omega)
  | succ n ih =>
    intro al i  H locs ls hn h0 h1 hE hP hS hl
    have bT := rgS_1_10 hG.1
    have bP := rgS_11_4 hG.1
    have bPT := hG.e.1
    refine zg_iload_n C dX5_sizeOf_4 rfl (lv_at hl 3 rfl) ?_
    refine zg_aload_n C dX5_sizeOf_5 rfl (lv_at hl 0 rfl) ?_
    refine zg_get (j := 15) C X hP (by decide) lyM_0 rfl (zmem uwX5) (by decide) (C.tb flX5_110) (fun _ h9 => h9) rfl dX5_sizeOf_6 ?_
    rw [rr_0_15 hM]
    have b_1 := rgS_11_4 hG.1
    have b_2 := rgM_0_15 hR
    refine zg_icmp_ge (tgt := 40) C (by omega) (by omega) (by omega) (by omega) dX5_sizeOf_9 (by decide) (fun c_3 => ?_) (fun c_3 => ?_)
    · refine zg_iload_n C dX5_sizeOf_40 rfl (lv_at hl 2 rfl) ?_
      refine zg_iret C hP hS dX5_sizeOf_41 ?_
      exact ⟨congrArg jI (by rw [hE, show i = κ 11 4 by omega]; rfl), rfl⟩
    · have bO := (hG.e.2.1 i.toNat (by omega)).1
      refine zg_iload_n C dX5_sizeOf_12 rfl (lv_at hl 2 rfl) ?_
      refine zg_aload_n C dX5_sizeOf_13 rfl (lv_at hl 0 rfl) ?_
      refine zg_iload_n C dX5_sizeOf_14 rfl (lv_at hl 1 rfl) ?_
      refine zg_aload_n C dX5_sizeOf_15 rfl (lv_at hl 0 rfl) ?_
      refine zg_get (j := 16) C X hP (by decide) lyM_0 rfl (zmem uwX5) (by decide) (C.tb flX5_54) (fun _ h9 => h9) rfl dX5_sizeOf_16 ?_
      refine zg_iload_n C dX5_sizeOf_19 rfl (lv_at hl 3 rfl) ?_
      refine zg_iald (t0 := 0) C X hP (by decide) lyM_14 rfl (by decide) (by omega) (by omega) dX5_sizeOf_20 ?_
      rw [rr_14 hM]
      have b_4 := rgS_14 hG.1 (i).toNat
      have b_5 := rgM_14 hR ((i).toNat)
      refine zg_callV C X hP hS (kX5_lives l σ hR κ hM hG x (κ 14 (i).toNat) (by omega) (by omega) (by omega) (by omega)) (cwV 2 C.ts (zgV mlX5_113 imX5_lives slX5_lives iniX5 cdX5_lives) rfl rfl rfl (by decide +kernel) ⟨Nat.le_of_ble_eq_true rfl, Nat.le_of_ble_eq_true rfl⟩) (by decide) lyM_0 rfl rfl rfl hl.1 rfl (Nat.le_of_ble_eq_true rfl) dX5_sizeOf_21 ⟨Nat.zero_le _, Nat.zero_le _⟩ (fun r_7 σ6 H locs q8 hP hS => ?_)
      obtain ⟨rfl, q8⟩ := q8
      rw [q8] at hP
      refine zg_ifeqB (tgt := 31) C dX5_sizeOf_24 (by decide) (fun c_9 => ?_) (fun c_9 => ?_)
      · refine zg_iconst C dX5_sizeOf_31 ?_
        refine zg_iadd C dX5_sizeOf_32 ?_
        refine zg_istore_n (lv' := [(2, .int (jI (al + 0))), (0, .ref (a 0)), (1, .int (jI x)), (3, .int (jI i))]) C dX5_sizeOf_33 rfl hl (by decide) rfl (fun ls hl => ?_)
        refine zg_iinc (k := 3) (lv' := [(3, .int (jI (i + 1))), (2, .int (jI (al + 0))), (0, .ref (a 0)), (1, .int (jI x))]) C dX5_sizeOf_34 hl rfl (by decide) rfl (fun ls hl => ?_)
        refine zg_goto (tgt := 4) C dX5_sizeOf_37 (by decide) ?_
        exact ih (al + 0) (i + 1) _ _ _ (by omega) (by omega) (by omega) (by rw [kCnt_step h0, hE]; simp [c_3, c_9, bI]) hP hS (lv_sub hl [2, 3, 1, 0] rfl)
      · refine zg_iconst C dX5_sizeOf_27 ?_
        refine zg_goto (tgt := 32) C dX5_sizeOf_28 (by decide) ?_
        refine zg_iadd C dX5_sizeOf_32 ?_
        refine zg_istore_n (lv' := [(2, .int (jI (al + 1))), (0, .ref (a 0)), (1, .int (jI x)), (3, .int (jI i))]) C dX5_sizeOf_33 rfl hl (by decide) rfl (fun ls hl => ?_)
        refine zg_iinc (k := 3) (lv' := [(3, .int (jI (i + 1))), (2, .int (jI (al + 1))), (0, .ref (a 0)), (1, .int (jI x))]) C dX5_sizeOf_34 hl rfl (by decide) rfl (fun ls hl => ?_)
        refine zg_goto (tgt := 4) C dX5_sizeOf_37 (by decide) ?_
        exact ih (al + 1) (i + 1) _ _ _ (by omega) (by omega) (by omega) (by rw [kCnt_step h0, hE]; simp [c_3, c_9, bI]) hP hS (lv_sub hl [2, 3, 1, 0] rfl)
set_option maxHeartbeats 4000000 in
set_option maxRecDepth 100000 in
theorem kX5_sizeOf (l : Launch) {D : va_G} {a : Nat → Nat} {cI cZ : ClassId} (σ : Zt) (hR : rgM σ) (κ : Zt) (hM : RR κ σ) (hG : kMid κ) (x : Int) (x0 : 0 ≤ x) (x1 : x < 6) : zc l D vwCl (tyM cI cZ) 28 (layM cI cZ a) a yX5_sizeOf wsX5_sizeOf ({ frames := 2, cells := 0, slots := 0, locals := 45 }) [.ref (a 0), .int (jI x)] σ (fun r_ u_ => r_ = jI (kLen κ x.toNat) ∧ u_ = σ) := by
  refine zc_of (cc := cX5_sizeOf) (maxL := 4) (ret := some .int) (own := RX5) (by decide) rfl rfl (Nat.le_of_ble_eq_true rfl) rfl ?_
  intro p e s m below meth c A ls C X hP hS hl
  have bT := rgS_1_10 hG.1
  have bP := rgS_11_4 hG.1
  have bPT := hG.e.1
  refine zg_iconst C dX5_sizeOf_0 ?_
  refine zg_istore_n (lv' := [(2, .int (jI 0)), (0, .ref (a 0)), (1, .int (jI x))]) C dX5_sizeOf_1 rfl hl (by decide) rfl (fun ls hl => ?_)
  refine zg_iconst C dX5_sizeOf_2 ?_
  refine zg_istore_n (lv' := [(3, .int (jI 0)), (2, .int (jI 0)), (0, .ref (a 0)), (1, .int (jI x))]) C dX5_sizeOf_3 rfl hl (by decide) rfl (fun ls hl => ?_)
  exact lpX5_sizeOf_4 σ hR κ hM hG x x0 x1 C X 402 0 0 _ _ _ (by omega) (by omega) (by omega) rfl hP hS (lv_sub hl [2, 3, 1, 0] rfl)
set_option maxHeartbeats 4000000 in
set_option maxRecDepth 100000 in
theorem lpX5_signAt_5 {l : Launch} {D : va_G} {a : Nat → Nat} {cI cZ : ClassId} {p : Program} {e : Env} {s : State} {m : MethodId} {below : List Frame} {meth : Method} {c : Code} {A : Nat → Prop} (σ : Zt) (hR : rgM σ) (κ : Zt) (hM : RR κ σ) (hG : kMid κ) (x : Int) (q : Int) (x0 : 0 ≤ x) (x1 : x < 6) (q0 : 0 ≤ q) (q1 : q < 2147483648)  (C : zk p s m ([.ref (a 0), .int (jI x), .int (jI q)] : List Value).toArray meth c cX5_signAt 5 (some .int) wsX5_signAt RX5) (X : zx D vwCl (tyM cI cZ) A a 28 s) :
    ∀ (n : Nat) (z i : Int) (H : Heap) (locs : List Loc) (ls : Array Slot), ((401 - i).toNat < n) → (0 ≤ i) → (i ≤ κ 11 4) → (0 ≤ z) → (z < 2147483648) → (kSignAt κ x.toNat q = kAt κ x.toNat (κ 11 4 - i).toNat i.toNat z) → va_P D vwCl (zw 28 (layM cI cZ a) a σ) H → va_S A s.heap H locs → lv_has ls 5 [(0, .ref (a 0)), (1, .int (jI x)), (2, .int (jI q)), (3, .int (jI z)), (4, .int (jI i))] →
      W p l e ({ frames := 2, cells := 0, slots := 0, locals := 45 }) s m ([.ref (a 0), .int (jI x), .int (jI q)] : List Value).toArray below meth c H locs 0 0 (MQ below (va_Qi (fun r_ u_ => r_ = jI (kSignAt κ x.toNat q) ∧ u_ = σ) (fun (u : Zt) t => va_P D vwCl (zw 28 (layM cI cZ a) a u) t.heap) A) ([.ref (a 0), .int (jI x), .int (jI q)] : List Value).toArray s 0 0 A) (F0 m 5 ls []) := by
  intro n
  induction n with
  | zero =>
    intro z i  H locs ls hn h0 h1 z0 z1 hE hP hS hl
    exact absurd hn (by omega)
  | succ n ih =>
    intro z i  H locs ls hn h0 h1 z0 z1 hE hP hS hl
    have bT := rgS_1_10 hG.1
    have bP := rgS_11_4 hG.1
    have bPT := hG.e.1
    refine zg_iload C dX5_signAt_5 (lv_at hl 4 rfl) ?_
    refine zg_aload_n C dX5_signAt_7 rfl (lv_at hl 0 rfl) ?_
    refine zg_get (j := 15) C X hP (by decide) lyM_0 rfl (zmem uwX5) (by decide) (C.tb flX5_110) (fun _ h9 => h9) rfl dX5_signAt_8 ?_
    rw [rr_0_15 hM]
    have b_1 := rgS_11_4 hG.1
    have b_2 := rgM_0_15 hR
    refine zg_icmp_ge (tgt := 50) C (by omega) (by omega) (by omega) (by omega) dX5_signAt_11 (by decide) (fun c_3 => ?_) (fun c_3 => ?_)
    · refine zg_iconst C dX5_signAt_50 ?_
      refine zg_iret C hP hS dX5_signAt_51 ?_
      exact ⟨congrArg jI (by rw [hE, kAt_end (by assumption)]), rfl⟩
    · have bO := (hG.e.2.1 i.toNat (by omega)).1
      refine zg_aload_n C dX5_signAt_14 rfl (lv_at hl 0 rfl) ?_
      refine zg_iload_n C dX5_signAt_15 rfl (lv_at hl 1 rfl) ?_
      refine zg_aload_n C dX5_signAt_16 rfl (lv_at hl 0 rfl) ?_
      refine zg_get (j := 16) C X hP (by decide) lyM_0 rfl (zmem uwX5) (by decide) (C.tb flX5_54) (fun _ h9 => h9) rfl dX5_signAt_17 ?_
      refine zg_iload C dX5_signAt_20 (lv_at hl 4 rfl) ?_
      refine zg_iald (t0 := 0) C X hP (by decide) lyM_14 rfl (by decide) (by omega) (by omega) dX5_signAt_22 ?_
      rw [rr_14 hM]
      have b_4 := rgS_14 hG.1 (i).toNat
      have b_5 := rgM_14 hR ((i).toNat)
      refine zg_callV C X hP hS (kX5_lives l σ hR κ hM hG x (κ 14 (i).toNat) (by omega) (by omega) (by omega) (by omega)) (cwV 2 C.ts (zgV mlX5_113 imX5_lives slX5_lives iniX5 cdX5_lives) rfl rfl rfl (by decide +kernel) ⟨Nat.le_of_ble_eq_true rfl, Nat.le_of_ble_eq_true rfl⟩) (by decide) lyM_0 rfl rfl rfl hl.1 rfl (Nat.le_of_ble_eq_true rfl) dX5_signAt_23 ⟨Nat.zero_le _, Nat.zero_le _⟩ (fun r_7 σ6 H locs q8 hP hS => ?_)
      obtain ⟨rfl, q8⟩ := q8
      rw [q8] at hP
      refine zg_ifeqB (tgt := 44) C dX5_signAt_26 (by decide) (fun c_9 => ?_) (fun c_9 => ?_)
      · refine zg_iinc (k := 4) (lv' := [(4, .int (jI (i + 1))), (0, .ref (a 0)), (1, .int (jI x)), (2, .int (jI q)), (3, .int (jI z))]) C dX5_signAt_44 hl rfl (by decide) rfl (fun ls hl => ?_)
        refine zg_goto (tgt := 5) C dX5_signAt_47 (by decide) ?_
        exact ih z (i + 1) _ _ _ (by omega) (by omega) (by omega) (by omega) (by omega) (hE.trans (by first | exact kAt_down (by omega) (by assumption) (by assumption) (by omega) (by assumption) | exact kAt_skip (by omega) (by assumption) (by assumption) (by omega))) hP hS (lv_sub hl [1, 2, 3, 4, 0] rfl)
      · refine zg_iload_n C dX5_signAt_29 rfl (lv_at hl 3 rfl) ?_
        refine zg_if_ne (tgt := 41) C (by omega) (by omega) dX5_signAt_30 (by decide) (fun c_10 => ?_) (fun c_10 => ?_)
        · refine zg_iinc (k := 3) (lv' := [(3, .int (jI (z + -1))), (0, .ref (a 0)), (1, .int (jI x)), (2, .int (jI q)), (4, .int (jI i))]) C dX5_signAt_41 hl rfl (by decide) rfl (fun ls hl => ?_)
          refine zg_iinc (k := 4) (lv' := [(4, .int (jI (i + 1))), (3, .int (jI (z + -1))), (0, .ref (a 0)), (1, .int (jI x)), (2, .int (jI q))]) C dX5_signAt_44 hl rfl (by decide) rfl (fun ls hl => ?_)
          refine zg_goto (tgt := 5) C dX5_signAt_47 (by decide) ?_
          exact ih (z + -1) (i + 1) _ _ _ (by omega) (by omega) (by omega) (by omega) (by omega) (hE.trans (by first | exact kAt_down (by omega) (by assumption) (by assumption) (by omega) (by assumption) | exact kAt_skip (by omega) (by assumption) (by assumption) (by omega))) hP hS (lv_sub hl [2, 3, 4, 1, 0] rfl)
        · refine zg_aload_n C dX5_signAt_33 rfl (lv_at hl 0 rfl) ?_
          refine zg_get (j := 16) C X hP (by decide) lyM_0 rfl (zmem uwX5) (by decide) (C.tb flX5_54) (fun _ h9 => h9) rfl dX5_signAt_34 ?_
          refine zg_iload C dX5_signAt_37 (lv_at hl 4 rfl) ?_
          refine zg_iald (t0 := 0) C X hP (by decide) lyM_14 rfl (by decide) (by omega) (by omega) dX5_signAt_39 ?_
          rw [rr_14 hM]
          have b_11 := rgS_14 hG.1 (i).toNat
          have b_12 := rgM_14 hR ((i).toNat)
          refine zg_iret C hP hS dX5_signAt_40 ?_
          exact ⟨congrArg jI (by rw [hE, kAt_hit (by assumption) (by assumption) (by assumption)]), rfl⟩
set_option maxHeartbeats 4000000 in
set_option maxRecDepth 100000 in
theorem kX5_signAt (l : Launch) {D : va_G} {a : Nat → Nat} {cI cZ : ClassId} (σ : Zt) (hR : rgM σ) (κ : Zt) (hM : RR κ σ) (hG : kMid κ) (x : Int) (q : Int) (x0 : 0 ≤ x) (x1 : x < 6) (q0 : 0 ≤ q) (q1 : q < 2147483648) : zc l D vwCl (tyM cI cZ) 28 (layM cI cZ a) a yX5_signAt wsX5_signAt ({ frames := 2, cells := 0, slots := 0, locals := 45 }) [.ref (a 0), .int (jI x), .int (jI q)] σ (fun r_ u_ => r_ = jI (kSignAt κ x.toNat q) ∧ u_ = σ) := by
  refine zc_of (cc := cX5_signAt) (maxL := 5) (ret := some .int) (own := RX5) (by decide) rfl rfl (Nat.le_of_ble_eq_true rfl) rfl ?_
  intro p e s m below meth c A ls C X hP hS hl
  have bT := rgS_1_10 hG.1
  have bP := rgS_11_4 hG.1
  have bPT := hG.e.1
  refine zg_iload_n C dX5_signAt_0 rfl (lv_at hl 2 rfl) ?_
  refine zg_istore_n (lv' := [(3, .int (jI q)), (0, .ref (a 0)), (1, .int (jI x)), (2, .int (jI q))]) C dX5_signAt_1 rfl hl (by decide) rfl (fun ls hl => ?_)
  refine zg_iconst C dX5_signAt_2 ?_
  refine zg_istore (lv' := [(4, .int (jI 0)), (3, .int (jI q)), (0, .ref (a 0)), (1, .int (jI x)), (2, .int (jI q))]) C dX5_signAt_3 hl (by decide) rfl (fun ls hl => ?_)
  exact lpX5_signAt_5 σ hR κ hM hG x q x0 x1 q0 q1 C X 402 q 0 _ _ _ (by omega) (by omega) (by omega) q0 q1 (by unfold kSignAt; rw [Int.sub_zero]; rfl) hP hS (lv_sub hl [2, 3, 4, 1, 0] rfl)
set_option maxHeartbeats 4000000 in
set_option maxRecDepth 100000 in
theorem lpX5_nextOf_18 {l : Launch} {D : va_G} {a : Nat → Nat} {cI cZ : ClassId} {p : Program} {e : Env} {s : State} {m : MethodId} {below : List Frame} {meth : Method} {c : Code} {A : Nat → Prop} (σ : Zt) (hR : rgM σ) (κ : Zt) (hM : RR κ σ) (hG : kMid κ) (x : Int) (d : Int) (x0 : 0 ≤ x) (x1 : x < 6) (d0 : -1 ≤ d) (d1 : d < 400)  (C : zk p s m ([.ref (a 0), .int (jI x), .int (jI d)] : List Value).toArray meth c cX5_nextOf 4 (some .int) wsX5_nextOf RX5) (X : zx D vwCl (tyM cI cZ) A a 28 s) :
    ∀ (n : Nat) (i : Int) (H : Heap) (locs : List Loc) (ls : Array Slot), ((401 - i).toNat < n) → (0 ≤ i) → (i ≤ 400) → (kBehind κ x.toNat d = kNext κ x.toNat (κ 11 4 - i).toNat i.toNat) → va_P D vwCl (zw 28 (layM cI cZ a) a σ) H → va_S A s.heap H locs → lv_has ls 4 [(0, .ref (a 0)), (1, .int (jI x)), (2, .int (jI d)), (3, .int (jI i))] →
      W p l e ({ frames := 1, cells := 0, slots := 0, locals := 22 }) s m ([.ref (a 0), .int (jI x), .int (jI d)] : List Value).toArray below meth c H locs 0 0 (MQ below (va_Qi (fun r_ u_ => r_ = jI (kBehind κ x.toNat d) ∧ u_ = σ) (fun (u : Zt) t => va_P D vwCl (zw 28 (layM cI cZ a) a u) t.heap) A) ([.ref (a 0), .int (jI x), .int (jI d)] : List Value).toArray s 0 0 A) (F0 m 18 ls []) := by
  intro n
  induction n with
  | zero =>
    intro i  H locs ls hn h0 h1 hE hP hS hl
    exact absurd hn (by omega)
  | succ n ih =>
    intro i  H locs ls hn h0 h1 hE hP hS hl
    have bT := rgS_1_10 hG.1
    have bP := rgS_11_4 hG.1
    have bPT := hG.e.1
    refine zg_iload_n C dX5_nextOf_18 rfl (lv_at hl 3 rfl) ?_
    refine zg_aload_n C dX5_nextOf_19 rfl (lv_at hl 0 rfl) ?_
    refine zg_get (j := 15) C X hP (by decide) lyM_0 rfl (zmem uwX5) (by decide) (C.tb flX5_110) (fun _ h9 => h9) rfl dX5_nextOf_20 ?_
    rw [rr_0_15 hM]
    have b_1 := rgS_11_4 hG.1
    have b_2 := rgM_0_15 hR
    refine zg_icmp_ge (tgt := 53) C (by omega) (by omega) (by omega) (by omega) dX5_nextOf_23 (by decide) (fun c_3 => ?_) (fun c_3 => ?_)
    · refine zg_iconst C dX5_nextOf_53 ?_
      refine zg_iret C hP hS dX5_nextOf_54 ?_
      exact ⟨congrArg jI (by rw [hE, kNext_end (by assumption)]), rfl⟩
    · have bO := (hG.e.2.1 i.toNat (by omega)).1
      refine zg_aload_n C dX5_nextOf_26 rfl (lv_at hl 0 rfl) ?_
      refine zg_iload_n C dX5_nextOf_27 rfl (lv_at hl 1 rfl) ?_
      refine zg_aload_n C dX5_nextOf_28 rfl (lv_at hl 0 rfl) ?_
      refine zg_get (j := 16) C X hP (by decide) lyM_0 rfl (zmem uwX5) (by decide) (C.tb flX5_54) (fun _ h9 => h9) rfl dX5_nextOf_29 ?_
      refine zg_iload_n C dX5_nextOf_32 rfl (lv_at hl 3 rfl) ?_
      refine zg_iald (t0 := 0) C X hP (by decide) lyM_14 rfl (by decide) (by omega) (by omega) dX5_nextOf_33 ?_
      rw [rr_14 hM]
      have b_4 := rgS_14 hG.1 (i).toNat
      have b_5 := rgM_14 hR ((i).toNat)
      refine zg_callV C X hP hS (kX5_has l σ hR κ hM hG x (κ 14 (i).toNat) (by omega) (by omega) (by omega) (by omega)) (cwV 2 C.ts (zgV mlX5_106 imX5_has slX5_has iniX5 cdX5_has) rfl rfl rfl (by decide +kernel) ⟨Nat.le_of_ble_eq_true rfl, Nat.le_of_ble_eq_true rfl⟩) (by decide) lyM_0 rfl rfl rfl hl.1 rfl (Nat.le_of_ble_eq_true rfl) dX5_nextOf_34 ⟨Nat.zero_le _, Nat.zero_le _⟩ (fun r_7 σ6 H locs q8 hP hS => ?_)
      obtain ⟨rfl, q8⟩ := q8
      rw [q8] at hP
      refine zg_ifeqB (tgt := 47) C dX5_nextOf_37 (by decide) (fun c_9 => ?_) (fun c_9 => ?_)
      · refine zg_iinc (k := 3) (lv' := [(3, .int (jI (i + 1))), (0, .ref (a 0)), (1, .int (jI x)), (2, .int (jI d))]) C dX5_nextOf_47 hl rfl (by decide) rfl (fun ls hl => ?_)
        refine zg_goto (tgt := 18) C dX5_nextOf_50 (by decide) ?_
        exact ih (i + 1) _ _ _ (by omega) (by omega) (by omega) (hE.trans (kNext_step (by omega) (by assumption) (by assumption))) hP hS (lv_sub hl [1, 2, 3, 0] rfl)
      · refine zg_aload_n C dX5_nextOf_40 rfl (lv_at hl 0 rfl) ?_
        refine zg_get (j := 16) C X hP (by decide) lyM_0 rfl (zmem uwX5) (by decide) (C.tb flX5_54) (fun _ h9 => h9) rfl dX5_nextOf_41 ?_
        refine zg_iload_n C dX5_nextOf_44 rfl (lv_at hl 3 rfl) ?_
        refine zg_iald (t0 := 0) C X hP (by decide) lyM_14 rfl (by decide) (by omega) (by omega) dX5_nextOf_45 ?_
        rw [rr_14 hM]
        have b_10 := rgS_14 hG.1 (i).toNat
        have b_11 := rgM_14 hR ((i).toNat)
        refine zg_iret C hP hS dX5_nextOf_46 ?_
        exact ⟨congrArg jI (by rw [hE, kNext_hit (by assumption) (by assumption)]), rfl⟩
set_option maxHeartbeats 4000000 in
set_option maxRecDepth 100000 in
theorem kX5_nextOf (l : Launch) {D : va_G} {a : Nat → Nat} {cI cZ : ClassId} (σ : Zt) (hR : rgM σ) (κ : Zt) (hM : RR κ σ) (hG : kMid κ) (x : Int) (d : Int) (x0 : 0 ≤ x) (x1 : x < 6) (d0 : -1 ≤ d) (d1 : d < 400) : zc l D vwCl (tyM cI cZ) 28 (layM cI cZ a) a yX5_nextOf wsX5_nextOf ({ frames := 1, cells := 0, slots := 0, locals := 22 }) [.ref (a 0), .int (jI x), .int (jI d)] σ (fun r_ u_ => r_ = jI (kBehind κ x.toNat d) ∧ u_ = σ) := by
  refine zc_of (cc := cX5_nextOf) (maxL := 4) (ret := some .int) (own := RX5) (by decide) rfl rfl (Nat.le_of_ble_eq_true rfl) rfl ?_
  intro p e s m below meth c A ls C X hP hS hl
  have bT := rgS_1_10 hG.1
  have bP := rgS_11_4 hG.1
  have bPT := hG.e.1
  refine zg_iload_n C dX5_nextOf_0 rfl (lv_at hl 2 rfl) ?_
  refine zg_iconst C dX5_nextOf_1 ?_
  refine zg_icmp_ne (tgt := 9) C (by omega) (by omega) (by omega) (by omega) dX5_nextOf_2 (by decide) (fun c_12 => ?_) (fun c_12 => ?_)
  · refine zg_aload_n C dX5_nextOf_9 rfl (lv_at hl 0 rfl) ?_
    refine zg_get (j := 17) C X hP (by decide) lyM_0 rfl (zmem uwX5) (by decide) (C.tb flX5_57) (fun _ h9 => h9) rfl dX5_nextOf_10 ?_
    refine zg_iload_n C dX5_nextOf_13 rfl (lv_at hl 2 rfl) ?_
    refine zg_iald (t0 := 0) C X hP (by decide) lyM_15 rfl (by decide) (by omega) (by omega) dX5_nextOf_14 ?_
    rw [rr_15 hM]
    have b_13 := rgS_15 hG.1 (d).toNat
    have b_14 := rgM_15 hR ((d).toNat)
    refine zg_iconst C dX5_nextOf_15 ?_
    refine zg_iadd C dX5_nextOf_16 ?_
    refine zg_istore_n (lv' := [(3, .int (jI ((κ 15 (d).toNat) + 1))), (0, .ref (a 0)), (1, .int (jI x)), (2, .int (jI d))]) C dX5_nextOf_17 rfl hl (by decide) rfl (fun ls hl => ?_)
    exact lpX5_nextOf_18 σ hR κ hM hG x d x0 x1 d0 d1 C X 402 ((κ 15 (d).toNat) + 1) _ _ _ (by omega) (by omega) (by omega) (by unfold kBehind; first | rw [if_pos (by assumption), Int.sub_zero]; rfl | rw [if_neg (by assumption)]) hP hS (lv_sub hl [1, 2, 3, 0] rfl)
  · refine zg_iconst C dX5_nextOf_5 ?_
    refine zg_goto (tgt := 17) C dX5_nextOf_6 (by decide) ?_
    refine zg_istore_n (lv' := [(3, .int (jI 0)), (0, .ref (a 0)), (1, .int (jI x)), (2, .int (jI d))]) C dX5_nextOf_17 rfl hl (by decide) rfl (fun ls hl => ?_)
    exact lpX5_nextOf_18 σ hR κ hM hG x d x0 x1 d0 d1 C X 402 0 _ _ _ (by omega) (by omega) (by omega) (by unfold kBehind; first | rw [if_pos (by assumption), Int.sub_zero]; rfl | rw [if_neg (by assumption)]) hP hS (lv_sub hl [1, 2, 3, 0] rfl)
