set_option maxHeartbeats 4000000 in
set_option maxRecDepth 100000 in
theorem lpX2_kindsOf_23 {l : Launch} {D : va_G} {a : Nat → Nat} {cI cZ cR : ClassId} {p : Program} {e : Env} {s : State} {m : MethodId} {below : List Frame} {meth : Method} {c : Code} {A : Nat → Prop} (σ : Zt) (hR : rgS σ) (r : Nat) (hr : r < 6) (z : Int) (z0 : 0 ≤ z) (z1 : z < 400)  (C : zk p s m ([.ref (a (20 + 6 * r)), .int (jI z)] : List Value).toArray meth c cX2_kindsOf 5 (some .int) wsX2_kindsOf RX2) (X : zx D vwCl (tyS cI cZ cR) A a 56 s) :
    ∀ (n : Nat) (i : Int) (τ : Zt) (H : Heap) (locs : List Loc) (ls : Array Slot), ((401 - i).toNat < n) → (rgS τ) → (zq σ τ) → (0 ≤ i) → (i ≤ σ 1 9) → (∀ k : Nat, k < 8 → τ (25 + 6 * r) k = kLm σ r z i.toNat k) → va_P D vwCl (zw 56 (layS cI cZ cR a) a τ) H → va_S A s.heap H locs → lv_has ls 5 [(0, .ref (a (20 + 6 * r))), (1, .int (jI z)), (2, .int (jI i))] →
      W p l e ({ frames := 2, cells := 0, slots := 0, locals := 44 }) s m ([.ref (a (20 + 6 * r)), .int (jI z)] : List Value).toArray below meth c H locs 0 0 (MQ below (va_Qi (fun r_ u_ => r_ = jI (kKinds σ r z) ∧ zq σ u_) (fun (u : Zt) t => va_P D vwCl (zw 56 (layS cI cZ cR a) a u) t.heap) A) ([.ref (a (20 + 6 * r)), .int (jI z)] : List Value).toArray s 0 0 A) (F0 m 23 ls []) := by
  intro n
  induction n with
  | zero =>
    intro i τ H locs ls hn hτ hz i0 i1 hL hP hS hl
    exact absurd hn (by omega)
  | succ n ih =>
    intro i τ H locs ls hn hτ hz i0 i1 hL hP hS hl
    have e19 : τ 1 9 = σ 1 9 := congrFun (hz.2 1 (by omega)) 9
    have b19 := rgS_1_9 hR
    refine zg_iload_n C dX2_kindsOf_23 rfl (lv_at hl 2 rfl) ?_
    refine zg_aload_n C dX2_kindsOf_24 rfl (lv_at hl 0 rfl) ?_
    refine zg_get (j := 1) C X hP (hkS_20 hr) (lyS_20 hr) rfl (zmem uwX2) (by decide) (C.tb flX2_32) (fun _ h9 => h9) rfl dX2_kindsOf_25 ?_
    refine zg_get (j := 9) C X hP (by decide) lyS_1 rfl (zmem uwX0) (by decide) (C.tb flX2_126) (fun _ h9 => h9) rfl dX2_kindsOf_28 ?_
    have b_1 := rgS_1_9 hτ
    refine zg_icmp_ge (tgt := 110) C (by omega) (by omega) (by omega) (by omega) dX2_kindsOf_31 (by decide) (fun c_2 => ?_) (fun c_2 => ?_)
    · refine zg_aload_n C dX2_kindsOf_110 rfl (lv_at hl 0 rfl) ?_
      refine zg_callV C X hP hS (kX2_bitsOfLatest l τ hτ r hr) (cwV 0 C.ts (zgV mlX2_138 imX2_bitsOfLatest slX2_bitsOfLatest iniX2 cdX2_bitsOfLatest) rfl rfl rfl (by decide +kernel) ⟨Nat.le_of_ble_eq_true rfl, Nat.le_of_ble_eq_true rfl⟩) (hkS_20 hr) (lyS_20 hr) rfl rfl rfl hl.1 rfl (Nat.le_of_ble_eq_true rfl) dX2_kindsOf_111 ⟨Nat.zero_le _, Nat.zero_le _⟩ (fun r_4 σ3 H locs q5 hP hS => ?_)
      obtain ⟨rfl, q5⟩ := q5
      rw [q5] at hP
      refine zg_iret C hP hS dX2_kindsOf_114 ?_
      exact ⟨congrArg jI (by unfold kKinds; rw [zq_bits hz]; exact kBits_congr _ (fun j hj => by rw [hL j hj, show i = σ 1 9 by omega])), hz⟩
    · refine zg_aload_n C dX2_kindsOf_34 rfl (lv_at hl 0 rfl) ?_
      refine zg_get (j := 1) C X hP (hkS_20 hr) (lyS_20 hr) rfl (zmem uwX2) (by decide) (C.tb flX2_32) (fun _ h9 => h9) rfl dX2_kindsOf_35 ?_
      refine zg_get (j := 8) C X hP (by decide) lyS_1 rfl (zmem uwX0) (by decide) (C.tb flX2_129) (fun _ h9 => h9) rfl dX2_kindsOf_38 ?_
      refine zg_iload_n C dX2_kindsOf_41 rfl (lv_at hl 2 rfl) ?_
      refine zg_iald (t0 := 0) C X hP (by decide) lyS_10 rfl (by decide) (by omega) (by omega) dX2_kindsOf_42 ?_
      have b_6 := rgS_10 hτ ((i).toNat)
      refine zg_istore_n (lv' := [(3, .int (jI (τ 10 (i).toNat))), (0, .ref (a (20 + 6 * r))), (1, .int (jI z)), (2, .int (jI i))]) C dX2_kindsOf_43 rfl hl (by decide) rfl (fun ls hl => ?_)
      refine zg_aload_n C dX2_kindsOf_44 rfl (lv_at hl 1 rfl) ?_
      refine zg_get (j := 1) C X hP (hkS_20 hr) (lyS_20 hr) rfl (zmem uwX2) (by decide) (C.tb flX2_32) (fun _ h9 => h9) rfl dX2_kindsOf_45 ?_
      refine zg_get (j := 4) C X hP (by decide) lyS_1 rfl (zmem uwX0) (by decide) (C.tb flX2_132) (fun _ h9 => h9) rfl dX2_kindsOf_48 ?_
      refine zg_iload_n C dX2_kindsOf_51 rfl (lv_at hl 0 rfl) ?_
      refine zg_iald (t0 := 0) C X hP (by decide) lyS_6 rfl (by decide) (by omega) (by omega) dX2_kindsOf_52 ?_
      have b_7 := rgS_6 hτ ((τ 10 (i).toNat).toNat)
      refine zg_bipush C dX2_kindsOf_53 (by decide) ?_
      refine zg_irem C (by omega) (by omega) (by omega) (by omega) dX2_kindsOf_55 ?_
      refine zg_istore (lv' := [(4, .int (jI ((τ 6 (τ 10 (i).toNat).toNat) % 8))), (3, .int (jI (τ 10 (i).toNat))), (0, .ref (a (20 + 6 * r))), (1, .int (jI z)), (2, .int (jI i))]) C dX2_kindsOf_56 hl (by decide) rfl (fun ls hl => ?_)
      refine zg_aload_n C dX2_kindsOf_58 rfl (lv_at hl 2 rfl) ?_
      refine zg_iload_n C dX2_kindsOf_59 rfl (lv_at hl 3 rfl) ?_
      refine zg_iload_n C dX2_kindsOf_60 rfl (lv_at hl 1 rfl) ?_
      refine zg_callV C X hP hS (kX2_isMarkedBy l τ hτ r hr z (τ 10 (i).toNat) (by omega) (by omega) (by omega) (by omega)) (cwV 2 C.ts (zgV mlX2_135 imX2_isMarkedBy slX2_isMarkedBy iniX2 cdX2_isMarkedBy) rfl rfl rfl (by decide +kernel) ⟨Nat.le_of_ble_eq_true rfl, Nat.le_of_ble_eq_true rfl⟩) (hkS_20 hr) (lyS_20 hr) rfl rfl rfl hl.1 rfl (Nat.le_of_ble_eq_true rfl) dX2_kindsOf_61 ⟨Nat.zero_le _, Nat.zero_le _⟩ (fun r_9 σ8 H locs q10 hP hS => ?_)
      obtain ⟨rfl, q10⟩ := q10
      rw [q10] at hP
      refine zg_ifeqB (tgt := 104) C dX2_kindsOf_64 (by decide) (fun c_11 => ?_) (fun c_11 => ?_)
      · refine zg_iinc (k := 4) (lv' := [(2, .int (jI (i + 1))), (4, .int (jI ((τ 6 (τ 10 (i).toNat).toNat) % 8))), (3, .int (jI (τ 10 (i).toNat))), (0, .ref (a (20 + 6 * r))), (1, .int (jI z))]) C dX2_kindsOf_104 hl rfl (by decide) rfl (fun ls hl => ?_)
        refine zg_goto (tgt := 23) C dX2_kindsOf_107 (by decide) ?_
        exact ih (i + 1) τ _ _ _ (by omega) (by assumption) (by first | assumption | (exact zq_zu hz (by assumption))) (by omega) (by omega) (by first | exact lm_keep i0 hz hL (by grind) | (exact lm_put i0 hz hL (by assumption) (by grind))) hP hS (lv_sub hl [3, 4, 0] rfl)
      · refine zg_aload_n C dX2_kindsOf_67 rfl (lv_at hl 2 rfl) ?_
        refine zg_get (j := 11) C X hP (hkS_20 hr) (lyS_20 hr) rfl (zmem uwX2) (by decide) (C.tb flX2_25) (fun _ h9 => h9) rfl dX2_kindsOf_68 ?_
        refine zg_iload C dX2_kindsOf_71 (lv_at hl 0 rfl) ?_
        refine zg_iald (t0 := 0) C X hP (hkS_25 hr) (lyS_25 hr) rfl (by decide) (by omega) (by omega) dX2_kindsOf_73 ?_
        have b_12 := rgS_25 hτ hr (((τ 6 (τ 10 (i).toNat).toNat) % 8).toNat)
        refine zg_iconst C dX2_kindsOf_74 ?_
        refine zg_icmp_eq (tgt := 96) C (by omega) (by omega) (by omega) (by omega) dX2_kindsOf_75 (by decide) (fun c_13 => ?_) (fun c_13 => ?_)
        · refine zg_aload_n C dX2_kindsOf_96 rfl (lv_at hl 2 rfl) ?_
          refine zg_get (j := 11) C X hP (hkS_20 hr) (lyS_20 hr) rfl (zmem uwX2) (by decide) (C.tb flX2_25) (fun _ h9 => h9) rfl dX2_kindsOf_97 ?_
          refine zg_iload C dX2_kindsOf_100 (lv_at hl 0 rfl) ?_
          refine zg_iload_n C dX2_kindsOf_102 rfl (lv_at hl 1 rfl) ?_
          refine zg_iast (t0 := 0) C X hP hS (hkS_25 hr) (fun x => (lyS_25 hr)) rfl (by decide) (by omega) (by omega) dX2_kindsOf_103 (fun H locs hP hS => ?_)
          obtain ⟨σ14, e15⟩ : ∃ z_ : Zt, z_ = zu τ (25 + 6 * r) ((τ 6 (τ 10 (i).toNat).toNat) % 8).toNat (τ 10 (i).toNat) := ⟨_, rfl⟩
          rw [← e15] at hP
          have w_17 : σ14 (25 + 6 * r) ((τ 6 (τ 10 (i).toNat).toNat) % 8).toNat = τ 10 (i).toNat := by rw [e15]; exact zu_same _ _ _ _
          have hR16 : rgS σ14 := by rw [e15]; exact rzS_25 hτ hr (by omega) (by omega)
          refine zg_iinc (k := 4) (lv' := [(2, .int (jI (i + 1))), (4, .int (jI ((τ 6 (τ 10 (i).toNat).toNat) % 8))), (3, .int (jI (τ 10 (i).toNat))), (0, .ref (a (20 + 6 * r))), (1, .int (jI z))]) C dX2_kindsOf_104 hl rfl (by decide) rfl (fun ls hl => ?_)
          refine zg_goto (tgt := 23) C dX2_kindsOf_107 (by decide) ?_
          exact ih (i + 1) σ14 _ _ _ (by omega) (by assumption) (by first | assumption | (subst e15; exact zq_zu hz (by assumption))) (by omega) (by omega) (by first | exact lm_keep i0 hz hL (by grind) | (subst e15; exact lm_put i0 hz hL (by assumption) (by grind))) hP hS (lv_sub hl [3, 4, 0] rfl)
        · refine zg_aload_n C dX2_kindsOf_78 rfl (lv_at hl 2 rfl) ?_
          refine zg_get (j := 1) C X hP (hkS_20 hr) (lyS_20 hr) rfl (zmem uwX2) (by decide) (C.tb flX2_32) (fun _ h9 => h9) rfl dX2_kindsOf_79 ?_
          refine zg_iload_n C dX2_kindsOf_82 rfl (lv_at hl 1 rfl) ?_
          refine zg_aload_n C dX2_kindsOf_83 rfl (lv_at hl 2 rfl) ?_
          refine zg_get (j := 11) C X hP (hkS_20 hr) (lyS_20 hr) rfl (zmem uwX2) (by decide) (C.tb flX2_25) (fun _ h9 => h9) rfl dX2_kindsOf_84 ?_
          refine zg_iload C dX2_kindsOf_87 (lv_at hl 0 rfl) ?_
          refine zg_iald (t0 := 0) C X hP (hkS_25 hr) (lyS_25 hr) rfl (by decide) (by omega) (by omega) dX2_kindsOf_89 ?_
          have b_18 := rgS_25 hτ hr (((τ 6 (τ 10 (i).toNat).toNat) % 8).toNat)
          refine zg_callV C X hP hS (kX0_isLater l τ hτ (τ 10 (i).toNat) (τ (25 + 6 * r) ((τ 6 (τ 10 (i).toNat).toNat) % 8).toNat) (by omega) (by omega) (by omega) (by omega)) (cwV 2 C.ts (zgV mlX2_100 imX0_isLater slX0_isLater iniX0 cdX0_isLater) rfl rfl rfl (by decide +kernel) ⟨Nat.le_of_ble_eq_true rfl, Nat.le_of_ble_eq_true rfl⟩) (by decide) lyS_1 rfl rfl rfl hl.1 rfl (Nat.le_of_ble_eq_true rfl) dX2_kindsOf_90 ⟨Nat.zero_le _, Nat.zero_le _⟩ (fun r_20 σ19 H locs q21 hP hS => ?_)
          obtain ⟨rfl, q21⟩ := q21
          rw [q21] at hP
          refine zg_ifeqB (tgt := 104) C dX2_kindsOf_93 (by decide) (fun c_22 => ?_) (fun c_22 => ?_)
          · refine zg_iinc (k := 4) (lv' := [(2, .int (jI (i + 1))), (4, .int (jI ((τ 6 (τ 10 (i).toNat).toNat) % 8))), (3, .int (jI (τ 10 (i).toNat))), (0, .ref (a (20 + 6 * r))), (1, .int (jI z))]) C dX2_kindsOf_104 hl rfl (by decide) rfl (fun ls hl => ?_)
            refine zg_goto (tgt := 23) C dX2_kindsOf_107 (by decide) ?_
            exact ih (i + 1) τ _ _ _ (by omega) (by assumption) (by first | assumption | (exact zq_zu hz (by assumption))) (by omega) (by omega) (by first | exact lm_keep i0 hz hL (by grind) | (exact lm_put i0 hz hL (by assumption) (by grind))) hP hS (lv_sub hl [3, 4, 0] rfl)
          · refine zg_aload_n C dX2_kindsOf_96 rfl (lv_at hl 2 rfl) ?_
            refine zg_get (j := 11) C X hP (hkS_20 hr) (lyS_20 hr) rfl (zmem uwX2) (by decide) (C.tb flX2_25) (fun _ h9 => h9) rfl dX2_kindsOf_97 ?_
            refine zg_iload C dX2_kindsOf_100 (lv_at hl 0 rfl) ?_
            refine zg_iload_n C dX2_kindsOf_102 rfl (lv_at hl 1 rfl) ?_
            refine zg_iast (t0 := 0) C X hP hS (hkS_25 hr) (fun x => (lyS_25 hr)) rfl (by decide) (by omega) (by omega) dX2_kindsOf_103 (fun H locs hP hS => ?_)
            obtain ⟨σ23, e24⟩ : ∃ z_ : Zt, z_ = zu τ (25 + 6 * r) ((τ 6 (τ 10 (i).toNat).toNat) % 8).toNat (τ 10 (i).toNat) := ⟨_, rfl⟩
            rw [← e24] at hP
            have w_26 : σ23 (25 + 6 * r) ((τ 6 (τ 10 (i).toNat).toNat) % 8).toNat = τ 10 (i).toNat := by rw [e24]; exact zu_same _ _ _ _
            have hR25 : rgS σ23 := by rw [e24]; exact rzS_25 hτ hr (by omega) (by omega)
            refine zg_iinc (k := 4) (lv' := [(2, .int (jI (i + 1))), (4, .int (jI ((τ 6 (τ 10 (i).toNat).toNat) % 8))), (3, .int (jI (τ 10 (i).toNat))), (0, .ref (a (20 + 6 * r))), (1, .int (jI z))]) C dX2_kindsOf_104 hl rfl (by decide) rfl (fun ls hl => ?_)
            refine zg_goto (tgt := 23) C dX2_kindsOf_107 (by decide) ?_
            exact ih (i + 1) σ23 _ _ _ (by omega) (by assumption) (by first | assumption | (subst e24; exact zq_zu hz (by assumption))) (by omega) (by omega) (by first | exact lm_keep i0 hz hL (by grind) | (subst e24; exact lm_put i0 hz hL (by assumption) (by grind))) hP hS (lv_sub hl [3, 4, 0] rfl)
set_option maxHeartbeats 4000000 in
set_option maxRecDepth 100000 in
theorem lpX2_kindsOf_2 {l : Launch} {D : va_G} {a : Nat → Nat} {cI cZ cR : ClassId} {p : Program} {e : Env} {s : State} {m : MethodId} {below : List Frame} {meth : Method} {c : Code} {A : Nat → Prop} (σ : Zt) (hR : rgS σ) (r : Nat) (hr : r < 6) (z : Int) (z0 : 0 ≤ z) (z1 : z < 400)  (C : zk p s m ([.ref (a (20 + 6 * r)), .int (jI z)] : List Value).toArray meth c cX2_kindsOf 5 (some .int) wsX2_kindsOf RX2) (X : zx D vwCl (tyS cI cZ cR) A a 56 s) :
    ∀ (n : Nat) (i : Int) (τ : Zt) (H : Heap) (locs : List Loc) (ls : Array Slot), ((8 - i).toNat < n) → (rgS τ) → (zq σ τ) → (0 ≤ i) → (i ≤ 8) → (∀ k : Nat, k < i.toNat → τ (25 + 6 * r) k = -1) → va_P D vwCl (zw 56 (layS cI cZ cR a) a τ) H → va_S A s.heap H locs → lv_has ls 5 [(0, .ref (a (20 + 6 * r))), (1, .int (jI z)), (2, .int (jI i))] →
      W p l e ({ frames := 2, cells := 0, slots := 0, locals := 44 }) s m ([.ref (a (20 + 6 * r)), .int (jI z)] : List Value).toArray below meth c H locs 0 0 (MQ below (va_Qi (fun r_ u_ => r_ = jI (kKinds σ r z) ∧ zq σ u_) (fun (u : Zt) t => va_P D vwCl (zw 56 (layS cI cZ cR a) a u) t.heap) A) ([.ref (a (20 + 6 * r)), .int (jI z)] : List Value).toArray s 0 0 A) (F0 m 2 ls []) := by
  intro n
  induction n with
  | zero =>
    intro i τ H locs ls hn hτ hz i0 i1 hL hP hS hl
    exact absurd hn (by omega)
  | succ n ih =>
    intro i τ H locs ls hn hτ hz i0 i1 hL hP hS hl
    refine zg_iload_n C dX2_kindsOf_2 rfl (lv_at hl 2 rfl) ?_
    refine zg_bipush C dX2_kindsOf_3 (by decide) ?_
    refine zg_icmp_ge (tgt := 21) C (by omega) (by omega) (by omega) (by omega) dX2_kindsOf_5 (by decide) (fun c_27 => ?_) (fun c_27 => ?_)
    · refine zg_iconst C dX2_kindsOf_21 ?_
      refine zg_istore_n (lv' := [(2, .int (jI 0)), (0, .ref (a (20 + 6 * r))), (1, .int (jI z))]) C dX2_kindsOf_22 rfl hl (by decide) rfl (fun ls hl => ?_)
      exact lpX2_kindsOf_23 σ hR r hr z z0 z1 C X 402 0 τ _ _ _ (by omega) (by assumption) (by assumption) (by omega) (by have := rgS_1_9 hR; omega) (fun k hk => hL k (by omega)) hP hS (lv_sub hl [1, 2, 0] rfl)
    · refine zg_aload_n C dX2_kindsOf_8 rfl (lv_at hl 0 rfl) ?_
      refine zg_get (j := 11) C X hP (hkS_20 hr) (lyS_20 hr) rfl (zmem uwX2) (by decide) (C.tb flX2_25) (fun _ h9 => h9) rfl dX2_kindsOf_9 ?_
      refine zg_iload_n C dX2_kindsOf_12 rfl (lv_at hl 2 rfl) ?_
      refine zg_iconst C dX2_kindsOf_13 ?_
      refine zg_iast (t0 := 0) C X hP hS (hkS_25 hr) (fun x => (lyS_25 hr)) rfl (by decide) (by omega) (by omega) dX2_kindsOf_14 (fun H locs hP hS => ?_)
      obtain ⟨σ28, e29⟩ : ∃ z_ : Zt, z_ = zu τ (25 + 6 * r) (i).toNat (-1) := ⟨_, rfl⟩
      rw [← e29] at hP
      have w_31 : σ28 (25 + 6 * r) (i).toNat = (-1) := by rw [e29]; exact zu_same _ _ _ _
      have hR30 : rgS σ28 := by rw [e29]; exact rzS_25 hτ hr (by omega) (by omega)
      refine zg_iinc (k := 2) (lv' := [(2, .int (jI (i + 1))), (0, .ref (a (20 + 6 * r))), (1, .int (jI z))]) C dX2_kindsOf_15 hl rfl (by decide) rfl (fun ls hl => ?_)
      refine zg_goto (tgt := 2) C dX2_kindsOf_18 (by decide) ?_
      exact ih (i + 1) σ28 _ _ _ (by omega) (by assumption) (by subst e29; exact zq_zu hz (by assumption)) (by omega) (by omega) (by subst e29; exact lm_init i0 hL) hP hS (lv_sub hl [1, 2, 0] rfl)
set_option maxHeartbeats 4000000 in
set_option maxRecDepth 100000 in
theorem kX2_kindsOf (l : Launch) {D : va_G} {a : Nat → Nat} {cI cZ cR : ClassId} (σ : Zt) (hR : rgS σ) (r : Nat) (hr : r < 6) (z : Int) (z0 : 0 ≤ z) (z1 : z < 400) : zc l D vwCl (tyS cI cZ cR) 56 (layS cI cZ cR a) a yX2_kindsOf wsX2_kindsOf ({ frames := 2, cells := 0, slots := 0, locals := 44 }) [.ref (a (20 + 6 * r)), .int (jI z)] σ (fun r_ u_ => r_ = jI (kKinds σ r z) ∧ zq σ u_) := by
  refine zc_of (cc := cX2_kindsOf) (maxL := 5) (ret := some .int) (own := RX2) (by decide) rfl rfl (Nat.le_of_ble_eq_true rfl) rfl ?_
  intro p e s m below meth c A ls C X hP hS hl
  refine zg_iconst C dX2_kindsOf_0 ?_
  refine zg_istore_n (lv' := [(2, .int (jI 0)), (0, .ref (a (20 + 6 * r))), (1, .int (jI z))]) C dX2_kindsOf_1 rfl hl (by decide) rfl (fun ls hl => ?_)
  exact lpX2_kindsOf_2 σ hR r hr z z0 z1 C X 9 0 σ _ _ _ (by omega) hR (zq_rf hR) (by omega) (by omega) (fun k hk => absurd hk (Nat.not_lt_zero k)) hP hS (lv_sub hl [1, 2, 0] rfl)
set_option maxHeartbeats 4000000 in
set_option maxRecDepth 100000 in
theorem kX4_isAlike (l : Launch) {D : va_G} {a : Nat → Nat} {cI cZ cR : ClassId} (σ : Zt) (hR : rgS σ) (r : Nat) (hr : r < 6) (t : Nat) (ht : t < 6) (z : Int) (z0 : 0 ≤ z) (z1 : z < 400) : zc l D vwCl (tyS cI cZ cR) 56 (layS cI cZ cR a) a yX4_isAlike wsX4_isAlike ({ frames := 3, cells := 0, slots := 0, locals := 68 }) [.ref (a (20 + 6 * r)), .ref (a (20 + 6 * t)), .int (jI z)] σ (fun r_ u_ => r_ = jI (bI (kAlike σ r t z)) ∧ zq σ u_) := by
  refine zc_of (cc := cX4_isAlike) (maxL := 4) (ret := some .boolean) (own := RX4) (by decide) rfl rfl (Nat.le_of_ble_eq_true rfl) rfl ?_
  intro p e s m below meth c A ls C X hP hS hl
  refine zg_aload_n C dX4_isAlike_0 rfl (lv_at hl 0 rfl) ?_
  refine zg_iload_n C dX4_isAlike_1 rfl (lv_at hl 2 rfl) ?_
  refine zg_callV C X hP hS (kX2_isAlive l σ hR r hr z (by omega) (by omega)) (cwV 1 C.ts (zgV mlX4_218 imX2_isAlive slX2_isAlive iniX2 cdX2_isAlive) rfl rfl rfl (by decide +kernel) ⟨Nat.le_of_ble_eq_true rfl, Nat.le_of_ble_eq_true rfl⟩) (hkS_20 hr) (lyS_20 hr) rfl rfl rfl hl.1 rfl (Nat.le_of_ble_eq_true rfl) dX4_isAlike_2 ⟨Nat.zero_le _, Nat.zero_le _⟩ (fun r_2 σ1 H locs q3 hP hS => ?_)
  obtain ⟨rfl, q3⟩ := q3
  rw [q3] at hP
  refine zg_istore_n (lv' := [(3, .int (jI (bI (kAlive σ r z)))), (0, .ref (a (20 + 6 * r))), (1, .ref (a (20 + 6 * t))), (2, .int (jI z))]) C dX4_isAlike_5 rfl hl (by decide) rfl (fun ls hl => ?_)
  refine zg_iload_n C dX4_isAlike_6 rfl (lv_at hl 0 rfl) ?_
  refine zg_aload_n C dX4_isAlike_7 rfl (lv_at hl 2 rfl) ?_
  refine zg_iload_n C dX4_isAlike_8 rfl (lv_at hl 3 rfl) ?_
  refine zg_callV C X hP hS (kX2_isAlive l σ hR t ht z (by omega) (by omega)) (cwV 1 C.ts (zgV mlX4_218 imX2_isAlive slX2_isAlive iniX2 cdX2_isAlive) rfl rfl rfl (by decide +kernel) ⟨Nat.le_of_ble_eq_true rfl, Nat.le_of_ble_eq_true rfl⟩) (hkS_20 ht) (lyS_20 ht) rfl rfl rfl hl.1 rfl (Nat.le_of_ble_eq_true rfl) dX4_isAlike_9 ⟨Nat.zero_le _, Nat.zero_le _⟩ (fun r_5 σ4 H locs q6 hP hS => ?_)
  obtain ⟨rfl, q6⟩ := q6
  rw [q6] at hP
  have b_8 := bI_01 (kAlive σ t z)
  have b_9 := bI_01 (kAlive σ r z)
  refine zg_icmp_eq (tgt := 17) C (by omega) (by omega) (by omega) (by omega) dX4_isAlike_12 (by decide) (fun c_7 => ?_) (fun c_7 => ?_)
  · refine zg_iload_n C dX4_isAlike_17 rfl (lv_at hl 0 rfl) ?_
    refine zg_ifeqB (tgt := 34) C dX4_isAlike_18 (by decide) (fun c_10 => ?_) (fun c_10 => ?_)
    · refine zg_iconst C dX4_isAlike_34 ?_
      refine zg_goto (tgt := 39) C dX4_isAlike_35 (by decide) ?_
      refine zg_zret (b := true) C hP hS dX4_isAlike_39 ?_
      first | exact ⟨congrArg (fun b => jI (bI b)) (kAlike_dead (by assumption) (by assumption)), zq_rf hR⟩ | exact ⟨congrArg (fun b => jI (bI b)) (kAlike_same (by assumption) (by assumption) (by rw [← zq_kinds (r := t) (zq_rf hR)]; assumption)), (zq_rf hR)⟩ | exact ⟨congrArg (fun b => jI (bI b)) (kAlike_diff (by assumption) (by assumption) (by rw [← zq_kinds (r := t) (zq_rf hR)]; assumption)), (zq_rf hR)⟩
    · refine zg_aload_n C dX4_isAlike_21 rfl (lv_at hl 1 rfl) ?_
      refine zg_iload_n C dX4_isAlike_22 rfl (lv_at hl 3 rfl) ?_
      refine zg_callV C X hP hS (kX2_kindsOf l σ hR r hr z (by omega) (by omega)) (cwV 1 C.ts (zgV mlX4_147 imX2_kindsOf slX2_kindsOf iniX2 cdX2_kindsOf) rfl rfl rfl (by decide +kernel) ⟨Nat.le_of_ble_eq_true rfl, Nat.le_of_ble_eq_true rfl⟩) (hkS_20 hr) (lyS_20 hr) rfl rfl rfl hl.1 rfl (Nat.le_of_ble_eq_true rfl) dX4_isAlike_23 ⟨Nat.zero_le _, Nat.zero_le _⟩ (fun r_12 σ11 H locs q13 hP hS => ?_)
      obtain ⟨rfl, q13⟩ := q13
      have b_14 := kKinds_rg σ r z
      have hR15 : rgS σ11 := q13.1
      refine zg_aload_n C dX4_isAlike_26 rfl (lv_at hl 2 rfl) ?_
      refine zg_iload_n C dX4_isAlike_27 rfl (lv_at hl 3 rfl) ?_
      refine zg_callV C X hP hS (kX2_kindsOf l σ11 hR15 t ht z (by omega) (by omega)) (cwV 1 C.ts (zgV mlX4_147 imX2_kindsOf slX2_kindsOf iniX2 cdX2_kindsOf) rfl rfl rfl (by decide +kernel) ⟨Nat.le_of_ble_eq_true rfl, Nat.le_of_ble_eq_true rfl⟩) (hkS_20 ht) (lyS_20 ht) rfl rfl rfl hl.1 rfl (Nat.le_of_ble_eq_true rfl) dX4_isAlike_28 ⟨Nat.zero_le _, Nat.zero_le _⟩ (fun r_17 σ16 H locs q18 hP hS => ?_)
      obtain ⟨rfl, q18⟩ := q18
      have b_19 := kKinds_rg σ11 t z
      have hR20 : rgS σ16 := q18.1
      refine zg_icmp_ne (tgt := 38) C (by omega) (by omega) (by omega) (by omega) dX4_isAlike_31 (by decide) (fun c_21 => ?_) (fun c_21 => ?_)
      · refine zg_iconst C dX4_isAlike_38 ?_
        refine zg_zret (b := false) C hP hS dX4_isAlike_39 ?_
        first | exact ⟨congrArg (fun b => jI (bI b)) (kAlike_dead (by assumption) (by assumption)), zq_rf hR⟩ | exact ⟨congrArg (fun b => jI (bI b)) (kAlike_same (by assumption) (by assumption) (by rw [← zq_kinds (r := t) q13]; assumption)), (zq_tr q13 q18)⟩ | exact ⟨congrArg (fun b => jI (bI b)) (kAlike_diff (by assumption) (by assumption) (by rw [← zq_kinds (r := t) q13]; assumption)), (zq_tr q13 q18)⟩
      · refine zg_iconst C dX4_isAlike_34 ?_
        refine zg_goto (tgt := 39) C dX4_isAlike_35 (by decide) ?_
        refine zg_zret (b := true) C hP hS dX4_isAlike_39 ?_
        first | exact ⟨congrArg (fun b => jI (bI b)) (kAlike_dead (by assumption) (by assumption)), zq_rf hR⟩ | exact ⟨congrArg (fun b => jI (bI b)) (kAlike_same (by assumption) (by assumption) (by rw [← zq_kinds (r := t) q13]; assumption)), (zq_tr q13 q18)⟩ | exact ⟨congrArg (fun b => jI (bI b)) (kAlike_diff (by assumption) (by assumption) (by rw [← zq_kinds (r := t) q13]; assumption)), (zq_tr q13 q18)⟩
  · refine zg_iconst C dX4_isAlike_15 ?_
    refine zg_zret (b := false) C hP hS dX4_isAlike_16 ?_
    exact ⟨congrArg (fun b => jI (bI b)) (kAlike_ne (by assumption)), zq_rf hR⟩
