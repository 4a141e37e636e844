set_option maxHeartbeats 4000000 in
set_option maxRecDepth 100000 in
theorem kX2_throwCoin (l : Launch) {D : va_G} {a : Nat → Nat} {cI cZ cR : ClassId} (σ : Zt) (hR : rgS σ) (r : Nat) (hr : r < 6) : zc l D vwCl (tyS cI cZ cR) 56 (layS cI cZ cR a) a yX2_throwCoin wsX2_throwCoin ({ frames := 0, cells := 0, slots := 0, locals := 0 }) [.ref (a (20 + 6 * r))] σ (fun r_ u_ => r_ = jI (kCoin σ r) ∧ u_ = kCoinS σ r) := by
  refine zc_of (cc := cX2_throwCoin) (maxL := 1) (ret := some .int) (own := RX2) (by decide) rfl rfl (Nat.le_of_ble_eq_true rfl) rfl ?_
  intro p e s m below meth c A ls C X hP hS hl
  refine zg_aload_n C dX2_throwCoin_0 rfl (lv_at hl 0 rfl) ?_
  refine zg_aload_n C dX2_throwCoin_1 rfl (lv_at hl 0 rfl) ?_
  refine zg_get (j := 3) C X hP (hkS_20 hr) (lyS_20 hr) rfl (zmem uwX2) (by decide) (C.tb flX2_40) (fun _ h9 => h9) rfl dX2_throwCoin_2 ?_
  refine zg_ldc (v := 1664525) C (C.tb knX2_43) rfl dX2_throwCoin_5 ?_
  refine zg_imul C dX2_throwCoin_7 ?_
  refine zg_ldc (v := 1013904223) C (C.tb knX2_44) rfl dX2_throwCoin_8 ?_
  refine zg_iadd C dX2_throwCoin_10 ?_
  refine zg_put (j := 3) (v := ((σ (20 + 6 * r) 3) * 1664525) + 1013904223) C X hP hS (hkS_20 hr) (lyS_20 hr) rfl (zmem uwX2) tyX2 tyX2_ok nmX2 (by decide) (C.tb flX2_40) (fun _ h9 => h9) rfl (by decide +kernel) (Nat.le_of_ble_eq_true rfl) (by rw [(lyS_20 hr)]; rfl) dX2_throwCoin_11 (fun H locs hP hS => ?_)
  obtain ⟨σ1, e2⟩ : ∃ z_ : Zt, z_ = zu σ (20 + 6 * r) 3 (((σ (20 + 6 * r) 3) * 1664525) + 1013904223) := ⟨_, rfl⟩
  rw [← e2] at hP
  have w_4 : σ1 (20 + 6 * r) 3 = ((σ (20 + 6 * r) 3) * 1664525) + 1013904223 := by rw [e2]; exact zu_same _ _ _ _
  have hR3 : rgS σ1 := by rw [e2]; exact rzS_20_3 hR hr
  refine zg_aload_n C dX2_throwCoin_14 rfl (lv_at hl 0 rfl) ?_
  refine zg_get (j := 3) C X hP (hkS_20 hr) (lyS_20 hr) rfl (zmem uwX2) (by decide) (C.tb flX2_40) (fun _ h9 => h9) rfl dX2_throwCoin_15 ?_
  refine zg_bipush C dX2_throwCoin_18 (by decide) ?_
  refine zg_iushr C 16 (by decide) dX2_throwCoin_20 ?_
  refine zg_iret C hP hS dX2_throwCoin_21 ?_
  subst e2
  refine ⟨congrArg jI ?_, rfl⟩
  rw [zu_same]
  rfl
set_option maxHeartbeats 4000000 in
set_option maxRecDepth 100000 in
theorem kX3_send (l : Launch) {D : va_G} {a : Nat → Nat} {cI cZ cR : ClassId} (σ : Zt) (hR : rgS σ) (d : Int) (q : Int) (d0 : 0 ≤ d) (d1 : d < 400) (q0 : 0 ≤ q) (q1 : q < 6) : zv l D vwCl (tyS cI cZ cR) 56 (layS cI cZ cR a) a yX3_send wsX3_send ({ frames := 1, cells := 0, slots := 0, locals := 20 }) [.ref (a 16), .int (jI d), .int (jI q)] σ (fun u_ => u_ = kSend σ d q) := by
  refine zv_of (cc := cX3_send) (maxL := 3) (own := RX3) (by decide) rfl rfl (Nat.le_of_ble_eq_true rfl) rfl ?_
  intro p e s m below meth c A ls C X hP hS hl
  refine zg_aload_n C dX3_send_0 rfl (lv_at hl 0 rfl) ?_
  refine zg_callV C X hP hS (kX3_isFull l σ hR) (cwV 0 C.ts (zgV mlX3_22 imX3_isFull slX3_isFull iniX3 cdX3_isFull) rfl rfl rfl (by decide +kernel) ⟨Nat.le_of_ble_eq_true rfl, Nat.le_of_ble_eq_true rfl⟩) (by decide) lyS_16 rfl rfl rfl hl.1 rfl (Nat.le_of_ble_eq_true rfl) dX3_send_1 ⟨Nat.zero_le _, Nat.zero_le _⟩ (fun r_2 σ1 H locs q3 hP hS => ?_)
  obtain ⟨rfl, q3⟩ := q3
  rw [q3] at hP
  refine zg_ifeqB (tgt := 18) C dX3_send_4 (by decide) (fun c_4 => ?_) (fun c_4 => ?_)
  · have b_5 := kWayF_f c_4
    refine zg_aload_n C dX3_send_18 rfl (lv_at hl 0 rfl) ?_
    refine zg_get (j := 0) C X hP (by decide) lyS_16 rfl (zmem uwX3) (by decide) (C.tb flX3_9) (fun _ h9 => h9) rfl dX3_send_19 ?_
    refine zg_aload_n C dX3_send_22 rfl (lv_at hl 0 rfl) ?_
    refine zg_get (j := 2) C X hP (by decide) lyS_16 rfl (zmem uwX3) (by decide) (C.tb flX3_18) (fun _ h9 => h9) rfl dX3_send_23 ?_
    have b_6 := rgS_16_2 hR
    refine zg_iload_n C dX3_send_26 rfl (lv_at hl 1 rfl) ?_
    refine zg_iast (t0 := 0) C X hP hS (by decide) (fun x => lyS_17) rfl (by decide) (by omega) (by omega) dX3_send_27 (fun H locs hP hS => ?_)
    obtain ⟨σ7, e8⟩ : ∃ z_ : Zt, z_ = zu σ 17 (σ 16 2).toNat d := ⟨_, rfl⟩
    rw [← e8] at hP
    have w_10 : σ7 17 (σ 16 2).toNat = d := by rw [e8]; exact zu_same _ _ _ _
    have w_11 : σ7 16 2 = σ 16 2 := by rw [e8]; first | exact congrFun (zu_ne (by omega)) _ | exact zu_nj (by omega)
    have hR9 : rgS σ7 := by rw [e8]; exact rzS_17 hR (by omega) (by omega)
    refine zg_aload_n C dX3_send_28 rfl (lv_at hl 0 rfl) ?_
    refine zg_get (j := 1) C X hP (by decide) lyS_16 rfl (zmem uwX3) (by decide) (C.tb flX3_15) (fun _ h9 => h9) rfl dX3_send_29 ?_
    refine zg_aload_n C dX3_send_32 rfl (lv_at hl 0 rfl) ?_
    refine zg_get (j := 2) C X hP (by decide) lyS_16 rfl (zmem uwX3) (by decide) (C.tb flX3_18) (fun _ h9 => h9) rfl dX3_send_33 ?_
    have b_12 := rgS_16_2 hR9
    refine zg_iload_n C dX3_send_36 rfl (lv_at hl 2 rfl) ?_
    refine zg_iast (t0 := 0) C X hP hS (by decide) (fun x => lyS_18) rfl (by decide) (by omega) (by omega) dX3_send_37 (fun H locs hP hS => ?_)
    obtain ⟨σ13, e14⟩ : ∃ z_ : Zt, z_ = zu σ7 18 (σ7 16 2).toNat q := ⟨_, rfl⟩
    rw [← e14] at hP
    have w_16 : σ13 18 (σ7 16 2).toNat = q := by rw [e14]; exact zu_same _ _ _ _
    have w_17 : σ13 16 2 = σ7 16 2 := by rw [e14]; first | exact congrFun (zu_ne (by omega)) _ | exact zu_nj (by omega)
    have hR15 : rgS σ13 := by rw [e14]; exact rzS_18 hR9 (by omega) (by omega)
    refine zg_aload_n C dX3_send_38 rfl (lv_at hl 0 rfl) ?_
    refine zg_dup C dX3_send_39 rfl ?_
    refine zg_get (j := 2) C X hP (by decide) lyS_16 rfl (zmem uwX3) (by decide) (C.tb flX3_18) (fun _ h9 => h9) rfl dX3_send_40 ?_
    have b_18 := rgS_16_2 hR15
    refine zg_iconst C dX3_send_43 ?_
    refine zg_iadd C dX3_send_44 ?_
    refine zg_put (j := 2) (v := (σ13 16 2) + 1) C X hP hS (by decide) lyS_16 rfl (zmem uwX3) tyX3 tyX3_ok nmX3 (by decide) (C.tb flX3_18) (fun _ h9 => h9) rfl (by decide +kernel) (Nat.le_of_ble_eq_true rfl) (by rw [lyS_16]; rfl) dX3_send_45 (fun H locs hP hS => ?_)
    obtain ⟨σ19, e20⟩ : ∃ z_ : Zt, z_ = zu σ13 16 2 ((σ13 16 2) + 1) := ⟨_, rfl⟩
    rw [← e20] at hP
    have w_22 : σ19 16 2 = (σ13 16 2) + 1 := by rw [e20]; exact zu_same _ _ _ _
    have hR21 : rgS σ19 := by rw [e20]; exact rzS_16_2 hR15 (by omega) (by omega)
    refine zg_vret C hP hS dX3_send_48 ?_
    subst e8 e14 e20
    rw [kSend, if_neg (by omega)]
    rfl
  · have b_23 := kWayF_t c_4
    refine zg_aload_n C dX3_send_7 rfl (lv_at hl 0 rfl) ?_
    refine zg_dup C dX3_send_8 rfl ?_
    refine zg_get (j := 3) C X hP (by decide) lyS_16 rfl (zmem uwX3) (by decide) (C.tb flX3_26) (fun _ h9 => h9) rfl dX3_send_9 ?_
    refine zg_iconst C dX3_send_12 ?_
    refine zg_iadd C dX3_send_13 ?_
    refine zg_put (j := 3) (v := (σ 16 3) + 1) C X hP hS (by decide) lyS_16 rfl (zmem uwX3) tyX3 tyX3_ok nmX3 (by decide) (C.tb flX3_26) (fun _ h9 => h9) rfl (by decide +kernel) (Nat.le_of_ble_eq_true rfl) (by rw [lyS_16]; rfl) dX3_send_14 (fun H locs hP hS => ?_)
    obtain ⟨σ24, e25⟩ : ∃ z_ : Zt, z_ = zu σ 16 3 ((σ 16 3) + 1) := ⟨_, rfl⟩
    rw [← e25] at hP
    have w_27 : σ24 16 3 = (σ 16 3) + 1 := by rw [e25]; exact zu_same _ _ _ _
    have w_28 : σ24 16 2 = σ 16 2 := by rw [e25]; first | exact congrFun (zu_ne (by omega)) _ | exact zu_nj (by omega)
    have hR26 : rgS σ24 := by rw [e25]; exact rzS_16_3 hR
    refine zg_vret C hP hS dX3_send_17 ?_
    subst e25
    rw [kSend, if_pos (by omega)]
set_option maxHeartbeats 4000000 in
set_option maxRecDepth 100000 in
theorem lpX3_drop_12 {l : Launch} {D : va_G} {a : Nat → Nat} {cI cZ cR : ClassId} {p : Program} {e : Env} {s : State} {m : MethodId} {below : List Frame} {meth : Method} {c : Code} {A : Nat → Prop} (σ : Zt) (hR : rgS σ) (i : Int) (i0 : 0 ≤ i) (i1 : i < σ 16 2)  (C : zk p s m ([.ref (a 16), .int (jI i)] : List Value).toArray meth c cX3_drop 3 (none) wsX3_drop RX3) (X : zx D vwCl (tyS cI cZ cR) A a 56 s) :
    ∀ (n : Nat) (j : Int) (τ : Zt) (H : Heap) (locs : List Loc) (ls : Array Slot), ((τ 16 2 - j).toNat < n) → (rgS τ) → (0 ≤ j) → (j ≤ 300) → (τ 16 2 < 300) → (kDropS σ i = kDrop (τ 16 2 - j).toNat j.toNat τ) → va_P D vwCl (zw 56 (layS cI cZ cR a) a τ) H → va_S A s.heap H locs → lv_has ls 3 [(0, .ref (a 16)), (1, .int (jI i)), (2, .int (jI j))] →
      W p l e ({ frames := 0, cells := 0, slots := 0, locals := 0 }) s m ([.ref (a 16), .int (jI i)] : List Value).toArray below meth c H locs 0 0 (MQ below (va_Qv (fun u_ => u_ = kDropS σ i) (fun (u : Zt) t => va_P D vwCl (zw 56 (layS cI cZ cR a) a u) t.heap) A) ([.ref (a 16), .int (jI i)] : List Value).toArray s 0 0 A) (F0 m 12 ls []) := by
  intro n
  induction n with
  | zero =>
    intro j τ H locs ls hn hτ j0 j1 ht hE hP hS hl
    exact absurd hn (by omega)
  | succ n ih =>
    intro j τ H locs ls hn hτ j0 j1 ht hE hP hS hl
    refine zg_iload_n C dX3_drop_12 rfl (lv_at hl 2 rfl) ?_
    refine zg_aload_n C dX3_drop_13 rfl (lv_at hl 0 rfl) ?_
    refine zg_get (j := 2) C X hP (by decide) lyS_16 rfl (zmem uwX3) (by decide) (C.tb flX3_18) (fun _ h9 => h9) rfl dX3_drop_14 ?_
    have b_1 := rgS_16_2 hτ
    refine zg_icmp_ge (tgt := 54) C (by omega) (by omega) (by omega) (by omega) dX3_drop_17 (by decide) (fun c_2 => ?_) (fun c_2 => ?_)
    · refine zg_vret C hP hS dX3_drop_54 ?_
      rw [hE, kDrop_end (by omega)]
    · refine zg_aload_n C dX3_drop_20 rfl (lv_at hl 0 rfl) ?_
      refine zg_get (j := 0) C X hP (by decide) lyS_16 rfl (zmem uwX3) (by decide) (C.tb flX3_9) (fun _ h9 => h9) rfl dX3_drop_21 ?_
      refine zg_iload_n C dX3_drop_24 rfl (lv_at hl 2 rfl) ?_
      refine zg_aload_n C dX3_drop_25 rfl (lv_at hl 0 rfl) ?_
      refine zg_get (j := 0) C X hP (by decide) lyS_16 rfl (zmem uwX3) (by decide) (C.tb flX3_9) (fun _ h9 => h9) rfl dX3_drop_26 ?_
      refine zg_iload_n C dX3_drop_29 rfl (lv_at hl 2 rfl) ?_
      refine zg_iconst C dX3_drop_30 ?_
      refine zg_iadd C dX3_drop_31 ?_
      refine zg_iald (t0 := 0) C X hP (by decide) lyS_17 rfl (by decide) (by omega) (by omega) dX3_drop_32 ?_
      have b_3 := rgS_17 hτ ((j + 1).toNat)
      refine zg_iast (t0 := 0) C X hP hS (by decide) (fun x => lyS_17) rfl (by decide) (by omega) (by omega) dX3_drop_33 (fun H locs hP hS => ?_)
      obtain ⟨σ4, e5⟩ : ∃ z_ : Zt, z_ = zu τ 17 (j).toNat (τ 17 (j + 1).toNat) := ⟨_, rfl⟩
      rw [← e5] at hP
      have w_7 : σ4 17 (j).toNat = τ 17 (j + 1).toNat := by rw [e5]; exact zu_same _ _ _ _
      have w_8 : σ4 16 2 = τ 16 2 := by rw [e5]; first | exact congrFun (zu_ne (by omega)) _ | exact zu_nj (by omega)
      have hR6 : rgS σ4 := by rw [e5]; exact rzS_17 hτ (by omega) (by omega)
      refine zg_aload_n C dX3_drop_34 rfl (lv_at hl 0 rfl) ?_
      refine zg_get (j := 1) C X hP (by decide) lyS_16 rfl (zmem uwX3) (by decide) (C.tb flX3_15) (fun _ h9 => h9) rfl dX3_drop_35 ?_
      refine zg_iload_n C dX3_drop_38 rfl (lv_at hl 2 rfl) ?_
      refine zg_aload_n C dX3_drop_39 rfl (lv_at hl 0 rfl) ?_
      refine zg_get (j := 1) C X hP (by decide) lyS_16 rfl (zmem uwX3) (by decide) (C.tb flX3_15) (fun _ h9 => h9) rfl dX3_drop_40 ?_
      refine zg_iload_n C dX3_drop_43 rfl (lv_at hl 2 rfl) ?_
      refine zg_iconst C dX3_drop_44 ?_
      refine zg_iadd C dX3_drop_45 ?_
      refine zg_iald (t0 := 0) C X hP (by decide) lyS_18 rfl (by decide) (by omega) (by omega) dX3_drop_46 ?_
      have b_9 := rgS_18 hR6 ((j + 1).toNat)
      refine zg_iast (t0 := 0) C X hP hS (by decide) (fun x => lyS_18) rfl (by decide) (by omega) (by omega) dX3_drop_47 (fun H locs hP hS => ?_)
      obtain ⟨σ10, e11⟩ : ∃ z_ : Zt, z_ = zu σ4 18 (j).toNat (σ4 18 (j + 1).toNat) := ⟨_, rfl⟩
      rw [← e11] at hP
      have w_13 : σ10 18 (j).toNat = σ4 18 (j + 1).toNat := by rw [e11]; exact zu_same _ _ _ _
      have w_14 : σ10 16 2 = σ4 16 2 := by rw [e11]; first | exact congrFun (zu_ne (by omega)) _ | exact zu_nj (by omega)
      have hR12 : rgS σ10 := by rw [e11]; exact rzS_18 hR6 (by omega) (by omega)
      refine zg_iinc (k := 2) (lv' := [(2, .int (jI (j + 1))), (0, .ref (a 16)), (1, .int (jI i))]) C dX3_drop_48 hl rfl (by decide) rfl (fun ls hl => ?_)
      refine zg_goto (tgt := 12) C dX3_drop_51 (by decide) ?_
      exact ih (j + 1) σ10 _ _ _ (by omega) (by assumption) (by omega) (by omega) (by omega) (by subst e5 e11; exact hE.trans (kDrop_step (by omega) (by omega))) hP hS (lv_sub hl [1, 2, 0] rfl)
set_option maxHeartbeats 4000000 in
set_option maxRecDepth 100000 in
theorem kX3_drop (l : Launch) {D : va_G} {a : Nat → Nat} {cI cZ cR : ClassId} (σ : Zt) (hR : rgS σ) (i : Int) (i0 : 0 ≤ i) (i1 : i < σ 16 2) : zv l D vwCl (tyS cI cZ cR) 56 (layS cI cZ cR a) a yX3_drop wsX3_drop ({ frames := 0, cells := 0, slots := 0, locals := 0 }) [.ref (a 16), .int (jI i)] σ (fun u_ => u_ = kDropS σ i) := by
  refine zv_of (cc := cX3_drop) (maxL := 3) (own := RX3) (by decide) rfl rfl (Nat.le_of_ble_eq_true rfl) rfl ?_
  intro p e s m below meth c A ls C X hP hS hl
  refine zg_aload_n C dX3_drop_0 rfl (lv_at hl 0 rfl) ?_
  refine zg_dup C dX3_drop_1 rfl ?_
  refine zg_get (j := 2) C X hP (by decide) lyS_16 rfl (zmem uwX3) (by decide) (C.tb flX3_18) (fun _ h9 => h9) rfl dX3_drop_2 ?_
  have b_15 := rgS_16_2 hR
  refine zg_iconst C dX3_drop_5 ?_
  refine zg_isub C dX3_drop_6 ?_
  refine zg_put (j := 2) (v := (σ 16 2) - 1) C X hP hS (by decide) lyS_16 rfl (zmem uwX3) tyX3 tyX3_ok nmX3 (by decide) (C.tb flX3_18) (fun _ h9 => h9) rfl (by decide +kernel) (Nat.le_of_ble_eq_true rfl) (by rw [lyS_16]; rfl) dX3_drop_7 (fun H locs hP hS => ?_)
  obtain ⟨σ16, e17⟩ : ∃ z_ : Zt, z_ = zu σ 16 2 ((σ 16 2) - 1) := ⟨_, rfl⟩
  rw [← e17] at hP
  have w_19 : σ16 16 2 = (σ 16 2) - 1 := by rw [e17]; exact zu_same _ _ _ _
  have hR18 : rgS σ16 := by rw [e17]; exact rzS_16_2 hR (by omega) (by omega)
  refine zg_iload_n C dX3_drop_10 rfl (lv_at hl 1 rfl) ?_
  refine zg_istore_n (lv' := [(2, .int (jI i)), (0, .ref (a 16)), (1, .int (jI i))]) C dX3_drop_11 rfl hl (by decide) rfl (fun ls hl => ?_)
  exact lpX3_drop_12 σ hR i i0 i1 C X 301 i σ16 _ _ _ (by omega) (by assumption) (by omega) (by omega) (by omega) (by subst e17; rfl) hP hS (lv_sub hl [1, 2, 0] rfl)
