set_option maxHeartbeats 4000000 in
set_option maxRecDepth 100000 in
theorem kX2_didDeedR (l : Launch) {D : va_G} {a : Nat → Nat} {cI cZ cR : ClassId} (σ : Zt) (hR : rgS σ) (r : Nat) (hr : r < 6) (d : Int) (d0 : 0 ≤ d) (d1 : d < 400) : zr l D vwCl (tyS cI cZ cR) 56 (layS cI cZ cR a) a yX2_didDeed wsX2_didDeed ({ frames := 0, cells := 0, slots := 0, locals := 0 }) [.ref (a (20 + 6 * r)), .int (jI d)] σ (fun r_ => r_ = jI (bI (kDid σ r d))) := by
  refine zr_of (cc := cX2_didDeed) (maxL := 2) (ret := some .boolean) (own := RX2) (by decide) rfl rfl (Nat.le_of_ble_eq_true rfl) rfl ?_
  intro p e s m below meth c A ls C X hP hl
  refine zg_aload_n C dX2_didDeed_0 rfl (lv_at hl 0 rfl) ?_
  refine zg_get (j := 1) C X hP (hkS_20 hr) (lyS_20 hr) rfl (zmem uwX2) (by decide) (C.tb flX2_32) (fun _ h9 => h9) rfl dX2_didDeed_1 ?_
  refine zg_get (j := 1) C X hP (by decide) lyS_1 rfl (zmem uwX0) (by decide) (C.tb flX2_45) (fun _ h9 => h9) rfl dX2_didDeed_4 ?_
  refine zg_iload_n C dX2_didDeed_7 rfl (lv_at hl 1 rfl) ?_
  refine zg_iald (t0 := 0) C X hP (by decide) lyS_3 rfl (by decide) (by omega) (by omega) dX2_didDeed_8 ?_
  have b_1 := rgS_3 hR ((d).toNat)
  refine zg_aload_n C dX2_didDeed_9 rfl (lv_at hl 0 rfl) ?_
  refine zg_get (j := 7) C X hP (hkS_20 hr) (lyS_20 hr) rfl (zmem uwX2) (by decide) (C.tb flX2_9) (fun _ h9 => h9) rfl dX2_didDeed_10 ?_
  refine zg_aload_n C dX2_didDeed_13 rfl (lv_at hl 0 rfl) ?_
  refine zg_get (j := 1) C X hP (hkS_20 hr) (lyS_20 hr) rfl (zmem uwX2) (by decide) (C.tb flX2_32) (fun _ h9 => h9) rfl dX2_didDeed_14 ?_
  refine zg_get (j := 0) C X hP (by decide) lyS_1 rfl (zmem uwX0) (by decide) (C.tb flX2_50) (fun _ h9 => h9) rfl dX2_didDeed_17 ?_
  refine zg_iload_n C dX2_didDeed_20 rfl (lv_at hl 1 rfl) ?_
  refine zg_iald (t0 := 0) C X hP (by decide) lyS_2 rfl (by decide) (by omega) (by omega) dX2_didDeed_21 ?_
  have b_2 := rgS_2 hR ((d).toNat)
  refine zg_iald (t0 := 0) C X hP (hkS_21 hr) (lyS_21 hr) rfl (by decide) (by omega) (by omega) dX2_didDeed_22 ?_
  have b_3 := rgS_21 hR hr ((σ 2 (d).toNat).toNat)
  refine zg_icmp_gt (tgt := 30) C (by omega) (by omega) (by omega) (by omega) dX2_didDeed_23 (by decide) (fun c_4 => ?_) (fun c_4 => ?_)
  · refine zg_iconst C dX2_didDeed_30 ?_
    refine zr_zret (b := false) C dX2_didDeed_31 ?_
    exact congrArg (fun b => jI (bI b)) (by grind [kDid])
  · refine zg_iconst C dX2_didDeed_26 ?_
    refine zg_goto (tgt := 31) C dX2_didDeed_27 (by decide) ?_
    refine zr_zret (b := true) C dX2_didDeed_31 ?_
    exact congrArg (fun b => jI (bI b)) (by grind [kDid])
set_option maxHeartbeats 4000000 in
set_option maxRecDepth 100000 in
theorem kX2_isAliveR (l : Launch) {D : va_G} {a : Nat → Nat} {cI cZ cR : ClassId} (σ : Zt) (hR : rgS σ) (r : Nat) (hr : r < 6) (d : Int) (d0 : 0 ≤ d) (d1 : d < 400) : zr l D vwCl (tyS cI cZ cR) 56 (layS cI cZ cR a) a yX2_isAlive wsX2_isAlive ({ frames := 1, cells := 0, slots := 0, locals := 21 }) [.ref (a (20 + 6 * r)), .int (jI d)] σ (fun r_ => r_ = jI (bI (kAlive σ r d))) := by
  refine zr_of (cc := cX2_isAlive) (maxL := 2) (ret := some .boolean) (own := RX2) (by decide) rfl rfl (Nat.le_of_ble_eq_true rfl) rfl ?_
  intro p e s m below meth c A ls C X hP hl
  refine zg_aload_n C dX2_isAlive_0 rfl (lv_at hl 0 rfl) ?_
  refine zg_iload_n C dX2_isAlive_1 rfl (lv_at hl 1 rfl) ?_
  refine zr_callV C X hP (kX2_didDeedR l σ hR r hr d (by omega) (by omega)) (cwV 1 C.ts (zgV mlX2_59 imX2_didDeed slX2_didDeed iniX2 cdX2_didDeed) rfl rfl rfl (by decide +kernel) ⟨Nat.le_of_ble_eq_true rfl, Nat.le_of_ble_eq_true rfl⟩) (hkS_20 hr) (lyS_20 hr) rfl rfl rfl hl.1 rfl (Nat.le_of_ble_eq_true rfl) dX2_isAlive_2 ⟨Nat.zero_le _, Nat.zero_le _⟩ (fun r_2 q3 => ?_)
  subst q3
  refine zg_ifeqB (tgt := 40) C dX2_isAlive_5 (by decide) (fun c_4 => ?_) (fun c_4 => ?_)
  · refine zg_iconst C dX2_isAlive_40 ?_
    refine zr_zret (b := false) C dX2_isAlive_41 ?_
    exact congrArg (fun b => jI (bI b)) (by grind [kAlive])
  · refine zg_aload_n C dX2_isAlive_8 rfl (lv_at hl 0 rfl) ?_
    refine zg_get (j := 9) C X hP (hkS_20 hr) (lyS_20 hr) rfl (zmem uwX2) (by decide) (C.tb flX2_19) (fun _ h9 => h9) rfl dX2_isAlive_9 ?_
    refine zg_iload_n C dX2_isAlive_12 rfl (lv_at hl 1 rfl) ?_
    refine zg_iald (t0 := 0) C X hP (hkS_23 hr) (lyS_23 hr) rfl (by decide) (by omega) (by omega) dX2_isAlive_13 ?_
    have b_5 := rgS_23 hR hr ((d).toNat)
    refine zg_iconst C dX2_isAlive_14 ?_
    refine zg_icmp_eq (tgt := 36) C (by omega) (by omega) (by omega) (by omega) dX2_isAlive_15 (by decide) (fun c_6 => ?_) (fun c_6 => ?_)
    · refine zg_iconst C dX2_isAlive_36 ?_
      refine zg_goto (tgt := 41) C dX2_isAlive_37 (by decide) ?_
      refine zr_zret (b := true) C dX2_isAlive_41 ?_
      exact congrArg (fun b => jI (bI b)) (by grind [kAlive])
    · refine zg_aload_n C dX2_isAlive_18 rfl (lv_at hl 0 rfl) ?_
      refine zg_get (j := 1) C X hP (hkS_20 hr) (lyS_20 hr) rfl (zmem uwX2) (by decide) (C.tb flX2_32) (fun _ h9 => h9) rfl dX2_isAlive_19 ?_
      refine zg_get (j := 3) C X hP (by decide) lyS_1 rfl (zmem uwX0) (by decide) (C.tb flX2_53) (fun _ h9 => h9) rfl dX2_isAlive_22 ?_
      refine zg_aload_n C dX2_isAlive_25 rfl (lv_at hl 0 rfl) ?_
      refine zg_get (j := 9) C X hP (hkS_20 hr) (lyS_20 hr) rfl (zmem uwX2) (by decide) (C.tb flX2_19) (fun _ h9 => h9) rfl dX2_isAlive_26 ?_
      refine zg_iload_n C dX2_isAlive_29 rfl (lv_at hl 1 rfl) ?_
      refine zg_iald (t0 := 0) C X hP (hkS_23 hr) (lyS_23 hr) rfl (by decide) (by omega) (by omega) dX2_isAlive_30 ?_
      have b_7 := rgS_23 hR hr ((d).toNat)
      refine zg_iald (t0 := 0) C X hP (by decide) lyS_5 rfl (by decide) (by omega) (by omega) dX2_isAlive_31 ?_
      have b_8 := rgS_5 hR ((σ (23 + 6 * r) (d).toNat).toNat)
      refine zg_iconst C dX2_isAlive_32 ?_
      refine zg_icmp_eq (tgt := 40) C (by omega) (by omega) (by omega) (by omega) dX2_isAlive_33 (by decide) (fun c_9 => ?_) (fun c_9 => ?_)
      · refine zg_iconst C dX2_isAlive_40 ?_
        refine zr_zret (b := false) C dX2_isAlive_41 ?_
        exact congrArg (fun b => jI (bI b)) (by grind [kAlive])
      · refine zg_iconst C dX2_isAlive_36 ?_
        refine zg_goto (tgt := 41) C dX2_isAlive_37 (by decide) ?_
        refine zr_zret (b := true) C dX2_isAlive_41 ?_
        exact congrArg (fun b => jI (bI b)) (by grind [kAlive])
set_option maxHeartbeats 4000000 in
set_option maxRecDepth 100000 in
theorem lpX2_signAt_4R {l : Launch} {D : va_G} {a : Nat → Nat} {cI cZ cR : ClassId} {p : Program} {e : Env} {s : State} {m : MethodId} {below : List Frame} {meth : Method} {c : Code} {A : Nat → Prop} (σ : Zt) (hR : rgS σ) (r : Nat) (hr : r < 6) (q : Int) (q0 : -2147483648 ≤ q) (q1 : q < 2147483648)  (C : zk p s m ([.ref (a (20 + 6 * r)), .int (jI q)] : List Value).toArray meth c cX2_signAt 4 (some .int) wsX2_signAt RX2) (X : zx D vwCl (tyS cI cZ cR) A a 56 s) (hP : va_P D vwCl (zw 56 (layS cI cZ cR a) a σ) s.heap) :
    ∀ (n : Nat) (z i : Int) (ls : Array Slot), ((σ 11 4 - i).toNat < n) → (0 ≤ i) → (i ≤ 400) → (-2147483648 ≤ z) → (z < 2147483648) → (kSignAt σ r q = kAt σ r (σ 11 4 - i).toNat i.toNat z) → lv_has ls 4 [(0, .ref (a (20 + 6 * r))), (1, .int (jI q)), (2, .int (jI z)), (3, .int (jI i))] →
      W p l e ({ frames := 2, cells := 0, slots := 0, locals := 42 }) s m ([.ref (a (20 + 6 * r)), .int (jI q)] : List Value).toArray below meth c s.heap [] 0 0 (MQ below (zrQ (fun r_ => r_ = jI (kSignAt σ r q))) ([.ref (a (20 + 6 * r)), .int (jI q)] : List Value).toArray s 0 0 (fun _ => False)) (F0 m 4 ls []) := by
  intro n
  induction n with
  | zero =>
    intro z i ls hn h0 h1 z0 z1 hE hl
    exact absurd hn (by omega)
  | succ n ih =>
    intro z i ls hn h0 h1 z0 z1 hE hl
    refine zg_iload_n C dX2_signAt_4 rfl (lv_at hl 3 rfl) ?_
    refine zg_aload_n C dX2_signAt_5 rfl (lv_at hl 0 rfl) ?_
    refine zg_get (j := 2) C X hP (hkS_20 hr) (lyS_20 hr) rfl (zmem uwX2) (by decide) (C.tb flX2_36) (fun _ h9 => h9) rfl dX2_signAt_6 ?_
    refine zg_get (j := 4) C X hP (by decide) lyS_11 rfl (zmem uwX1) (by decide) (C.tb flX2_112) (fun _ h9 => h9) rfl dX2_signAt_9 ?_
    have b_1 := rgS_11_4 hR
    refine zg_icmp_ge (tgt := 58) C (by omega) (by omega) (by omega) (by omega) dX2_signAt_12 (by decide) (fun c_2 => ?_) (fun c_2 => ?_)
    · refine zg_iconst C dX2_signAt_58 ?_
      refine zr_iret C dX2_signAt_59 ?_
      exact congrArg jI (by rw [hE]; first | rw [kAt_end (by assumption)] | rw [kAt_neg (by assumption) (by assumption)])
    · refine zg_iload_n C dX2_signAt_15 rfl (lv_at hl 2 rfl) ?_
      refine zg_if_lt (tgt := 58) C (by omega) (by omega) dX2_signAt_16 (by decide) (fun c_3 => ?_) (fun c_3 => ?_)
      · refine zg_iconst C dX2_signAt_58 ?_
        refine zr_iret C dX2_signAt_59 ?_
        exact congrArg jI (by rw [hE]; first | rw [kAt_end (by assumption)] | rw [kAt_neg (by assumption) (by assumption)])
      · refine zg_aload_n C dX2_signAt_19 rfl (lv_at hl 0 rfl) ?_
        refine zg_aload_n C dX2_signAt_20 rfl (lv_at hl 0 rfl) ?_
        refine zg_get (j := 2) C X hP (hkS_20 hr) (lyS_20 hr) rfl (zmem uwX2) (by decide) (C.tb flX2_36) (fun _ h9 => h9) rfl dX2_signAt_21 ?_
        refine zg_get (j := 2) C X hP (by decide) lyS_11 rfl (zmem uwX1) (by decide) (C.tb flX2_104) (fun _ h9 => h9) rfl dX2_signAt_24 ?_
        refine zg_iload_n C dX2_signAt_27 rfl (lv_at hl 3 rfl) ?_
        refine zg_iald (t0 := 0) C X hP (by decide) lyS_14 rfl (by decide) (by omega) (by omega) dX2_signAt_28 ?_
        have b_4 := rgS_14 hR ((i).toNat)
        refine zr_callV C X hP (kX2_isAliveR l σ hR r hr (σ 14 (i).toNat) (by omega) (by omega)) (cwV 1 C.ts (zgV mlX2_109 imX2_isAlive slX2_isAlive iniX2 cdX2_isAlive) rfl rfl rfl (by decide +kernel) ⟨Nat.le_of_ble_eq_true rfl, Nat.le_of_ble_eq_true rfl⟩) (hkS_20 hr) (lyS_20 hr) rfl rfl rfl hl.1 rfl (Nat.le_of_ble_eq_true rfl) dX2_signAt_29 ⟨Nat.zero_le _, Nat.zero_le _⟩ (fun r_6 q7 => ?_)
        subst q7
        refine zg_ifeqB (tgt := 52) C dX2_signAt_32 (by decide) (fun c_8 => ?_) (fun c_8 => ?_)
        · refine zg_iinc (k := 3) (lv' := [(3, .int (jI (i + 1))), (0, .ref (a (20 + 6 * r))), (1, .int (jI q)), (2, .int (jI z))]) C dX2_signAt_52 hl rfl (by decide) rfl (fun ls hl => ?_)
          refine zg_goto (tgt := 4) C dX2_signAt_55 (by decide) ?_
          exact ih z (i + 1) _ (by omega) (by omega) (by omega) (by omega) (by omega) (hE.trans (by first | exact kAt_down (by omega) (by assumption) (by assumption) (by assumption) (by assumption) | exact kAt_skip (by omega) (by assumption) (by assumption) (by assumption))) (lv_sub hl [1, 2, 3, 0] rfl)
        · refine zg_iload_n C dX2_signAt_35 rfl (lv_at hl 2 rfl) ?_
          refine zg_if_ne (tgt := 49) C (by omega) (by omega) dX2_signAt_36 (by decide) (fun c_9 => ?_) (fun c_9 => ?_)
          · refine zg_iinc (k := 2) (lv' := [(2, .int (jI (z + -1))), (0, .ref (a (20 + 6 * r))), (1, .int (jI q)), (3, .int (jI i))]) C dX2_signAt_49 hl rfl (by decide) rfl (fun ls hl => ?_)
            refine zg_iinc (k := 3) (lv' := [(3, .int (jI (i + 1))), (2, .int (jI (z + -1))), (0, .ref (a (20 + 6 * r))), (1, .int (jI q))]) C dX2_signAt_52 hl rfl (by decide) rfl (fun ls hl => ?_)
            refine zg_goto (tgt := 4) C dX2_signAt_55 (by decide) ?_
            exact ih (z + -1) (i + 1) _ (by omega) (by omega) (by omega) (by omega) (by omega) (hE.trans (by first | exact kAt_down (by omega) (by assumption) (by assumption) (by assumption) (by assumption) | exact kAt_skip (by omega) (by assumption) (by assumption) (by assumption))) (lv_sub hl [2, 3, 1, 0] rfl)
          · refine zg_aload_n C dX2_signAt_39 rfl (lv_at hl 0 rfl) ?_
            refine zg_get (j := 2) C X hP (hkS_20 hr) (lyS_20 hr) rfl (zmem uwX2) (by decide) (C.tb flX2_36) (fun _ h9 => h9) rfl dX2_signAt_40 ?_
            refine zg_get (j := 2) C X hP (by decide) lyS_11 rfl (zmem uwX1) (by decide) (C.tb flX2_104) (fun _ h9 => h9) rfl dX2_signAt_43 ?_
            refine zg_iload_n C dX2_signAt_46 rfl (lv_at hl 3 rfl) ?_
            refine zg_iald (t0 := 0) C X hP (by decide) lyS_14 rfl (by decide) (by omega) (by omega) dX2_signAt_47 ?_
            have b_10 := rgS_14 hR ((i).toNat)
            refine zr_iret C dX2_signAt_48 ?_
            exact congrArg jI (by rw [hE, kAt_hit (by assumption) (by assumption) (by assumption)])
set_option maxHeartbeats 4000000 in
set_option maxRecDepth 100000 in
theorem kX2_signAtR (l : Launch) {D : va_G} {a : Nat → Nat} {cI cZ cR : ClassId} (σ : Zt) (hR : rgS σ) (r : Nat) (hr : r < 6) (q : Int) (q0 : -2147483648 ≤ q) (q1 : q < 2147483648) : zr l D vwCl (tyS cI cZ cR) 56 (layS cI cZ cR a) a yX2_signAt wsX2_signAt ({ frames := 2, cells := 0, slots := 0, locals := 42 }) [.ref (a (20 + 6 * r)), .int (jI q)] σ (fun r_ => r_ = jI (kSignAt σ r q)) := by
  refine zr_of (cc := cX2_signAt) (maxL := 4) (ret := some .int) (own := RX2) (by decide) rfl rfl (Nat.le_of_ble_eq_true rfl) rfl ?_
  intro p e s m below meth c A ls C X hP hl
  refine zg_iload_n C dX2_signAt_0 rfl (lv_at hl 1 rfl) ?_
  refine zg_istore_n (lv' := [(2, .int (jI q)), (0, .ref (a (20 + 6 * r))), (1, .int (jI q))]) C dX2_signAt_1 rfl hl (by decide) rfl (fun ls hl => ?_)
  refine zg_iconst C dX2_signAt_2 ?_
  refine zg_istore_n (lv' := [(3, .int (jI 0)), (2, .int (jI q)), (0, .ref (a (20 + 6 * r))), (1, .int (jI q))]) C dX2_signAt_3 rfl hl (by decide) rfl (fun ls hl => ?_)
  exact lpX2_signAt_4R σ hR r hr q q0 q1 C X hP 401 q 0 _ (by have := rgS_11_4 hR; omega) (by omega) (by omega) q0 q1 (by unfold kSignAt; rw [Int.sub_zero]; rfl) (lv_sub hl [2, 3, 1, 0] rfl)
set_option maxHeartbeats 4000000 in
set_option maxRecDepth 100000 in
theorem kX4_isReplicaR (l : Launch) {D : va_G} {a : Nat → Nat} {cI cZ cR : ClassId} (σ : Zt) (hR : rgS σ) (x : Int) (x0 : -2147483648 ≤ x) (x1 : x < 2147483648) : zr l D vwCl (tyS cI cZ cR) 56 (layS cI cZ cR a) a yX4_isReplica wsX4_isReplica ({ frames := 0, cells := 0, slots := 0, locals := 0 }) [.int (jI x)] σ (fun r_ => r_ = jI (bI (kIsR x))) := by
  refine zr_of (cc := cX4_isReplica) (maxL := 1) (ret := some .boolean) (own := RX4) (by decide) rfl rfl (Nat.le_of_ble_eq_true rfl) rfl ?_
  intro p e s m below meth c A ls C X hP hl
  refine zg_iload_n C dX4_isReplica_0 rfl (lv_at hl 0 rfl) ?_
  refine zg_if_lt (tgt := 14) C (by omega) (by omega) dX4_isReplica_1 (by decide) (fun c_1 => ?_) (fun c_1 => ?_)
  · refine zg_iconst C dX4_isReplica_14 ?_
    refine zr_zret (b := false) C dX4_isReplica_15 ?_
    exact congrArg (fun b => jI (bI b)) (by grind [kIsR])
  · refine zg_iload_n C dX4_isReplica_4 rfl (lv_at hl 0 rfl) ?_
    refine zg_bipush C dX4_isReplica_5 (by decide) ?_
    refine zg_icmp_ge (tgt := 14) C (by omega) (by omega) (by omega) (by omega) dX4_isReplica_7 (by decide) (fun c_2 => ?_) (fun c_2 => ?_)
    · refine zg_iconst C dX4_isReplica_14 ?_
      refine zr_zret (b := false) C dX4_isReplica_15 ?_
      exact congrArg (fun b => jI (bI b)) (by grind [kIsR])
    · refine zg_iconst C dX4_isReplica_10 ?_
      refine zg_goto (tgt := 15) C dX4_isReplica_11 (by decide) ?_
      refine zr_zret (b := true) C dX4_isReplica_15 ?_
      exact congrArg (fun b => jI (bI b)) (by grind [kIsR])
set_option maxHeartbeats 4000000 in
set_option maxRecDepth 100000 in
theorem kX4_livingSignR (l : Launch) {D : va_G} {a : Nat → Nat} {cI cZ cR : ClassId} (σ : Zt) (hR : rgS σ) (x : Int) (q : Int) (x0 : -2147483648 ≤ x) (x1 : x < 2147483648) (q0 : -2147483648 ≤ q) (q1 : q < 2147483648) (hn : kOf σ x q ≠ -1) : zr l D vwCl (tyS cI cZ cR) 56 (layS cI cZ cR a) a yX4_livingSign wsX4_livingSign ({ frames := 3, cells := 0, slots := 0, locals := 65 }) [.ref (a 0), .int (jI x), .int (jI q)] σ (fun r_ => r_ = jI (kOf σ x q)) := by
  refine zr_of (cc := cX4_livingSign) (maxL := 4) (ret := some .int) (own := RX4) (by decide) rfl rfl (Nat.le_of_ble_eq_true rfl) rfl ?_
  intro p e s m below meth c A ls C X hP hl
  refine zg_iload_n C dX4_livingSign_0 rfl (lv_at hl 1 rfl) ?_
  refine zr_callS C X hP (kX4_isReplicaR l σ hR x (by omega) (by omega)) (cwS 1 C.ts (zgS mlX4_39 stX4_isReplica iniX4 cdX4_isReplica) rfl rfl rfl (by decide +kernel) ⟨Nat.le_of_ble_eq_true rfl, Nat.le_of_ble_eq_true rfl⟩) rfl hl.1 rfl (Nat.le_of_ble_eq_true rfl) dX4_livingSign_1 ⟨Nat.zero_le _, Nat.zero_le _⟩ (fun r_2 q3 => ?_)
  subst q3
  refine zg_ifeqB (tgt := 20) C dX4_livingSign_4 (by decide) (fun c_4 => ?_) (fun c_4 => ?_)
  · have b_5 := kIsR_f c_4
    refine zg_iconst C dX4_livingSign_20 ?_
    refine zg_istore_n (lv' := [(3, .int (jI (-1))), (0, .ref (a 0)), (1, .int (jI x)), (2, .int (jI q))]) C dX4_livingSign_21 rfl hl (by decide) rfl (fun ls hl => ?_)
    refine zg_iload_n C dX4_livingSign_22 rfl (lv_at hl 0 rfl) ?_
    refine zg_iconst C dX4_livingSign_23 ?_
    refine zg_icmp_ne (tgt := 37) C (by omega) (by omega) (by omega) (by omega) dX4_livingSign_24 (by decide) (fun c_6 => ?_) (fun c_6 => ?_)
    · exact absurd c_6 (by decide)
    · exact absurd (show kOf σ x q = -1 by grind [kOf]) hn
  · have b_7 := kIsR_t c_4
    refine zg_aload_n C dX4_livingSign_7 rfl (lv_at hl 0 rfl) ?_
    refine zg_get (j := 3) C X hP (by decide) lyS_0 rfl (zmem uwX4) (by decide) (C.tb flX4_32) (fun _ h9 => h9) rfl dX4_livingSign_8 ?_
    refine zg_iload_n C dX4_livingSign_11 rfl (lv_at hl 1 rfl) ?_
    have hr8 : (x).toNat < 6 := by omega
    refine zg_aald (t0 := 2) C X hP (by decide) lyS_19 rfl (by decide) (by omega) (by omega) rfl dX4_livingSign_12 ?_
    refine zg_iload_n C dX4_livingSign_13 rfl (lv_at hl 2 rfl) ?_
    refine zr_callV C X hP (kX2_signAtR l σ hR ((x).toNat) hr8 q (by omega) (by omega)) (cwV 1 C.ts (zgV mlX4_57 imX2_signAt slX2_signAt iniX2 cdX2_signAt) rfl rfl rfl (by decide +kernel) ⟨Nat.le_of_ble_eq_true rfl, Nat.le_of_ble_eq_true rfl⟩) (hkS_20 hr8) (lyS_20 hr8) rfl rfl rfl hl.1 rfl (Nat.le_of_ble_eq_true rfl) dX4_livingSign_14 ⟨Nat.zero_le _, Nat.zero_le _⟩ (fun r_10 q11 => ?_)
    subst q11
    have b_12 := kSignAt_rg hR ((x).toNat) q
    refine zg_goto (tgt := 21) C dX4_livingSign_17 (by decide) ?_
    refine zg_istore_n (lv' := [(3, .int (jI (kSignAt σ ((x).toNat) q))), (0, .ref (a 0)), (1, .int (jI x)), (2, .int (jI q))]) C dX4_livingSign_21 rfl hl (by decide) rfl (fun ls hl => ?_)
    refine zg_iload_n C dX4_livingSign_22 rfl (lv_at hl 0 rfl) ?_
    refine zg_iconst C dX4_livingSign_23 ?_
    refine zg_icmp_ne (tgt := 37) C (by omega) (by omega) (by omega) (by omega) dX4_livingSign_24 (by decide) (fun c_13 => ?_) (fun c_13 => ?_)
    · refine zg_iload_n C dX4_livingSign_37 rfl (lv_at hl 0 rfl) ?_
      refine zr_iret C dX4_livingSign_38 ?_
      exact congrArg jI (by grind [kOf])
    · exact absurd (show kOf σ x q = -1 by grind [kOf]) hn
