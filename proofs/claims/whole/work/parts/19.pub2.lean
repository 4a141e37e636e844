set_option maxHeartbeats 4000000 in
set_option maxRecDepth 100000 in
theorem lpX4_same_19 {l : Launch} {D : va_G} {a : Nat → Nat} {cI cZ cR : ClassId} {p : Program} {e : Env} {s : State} {m : MethodId} {below : List Frame} {meth : Method} {c : Code} {A : Nat → Prop} (σ : Zt) (hR : rgS σ) (x : Int) (y : Int) (x0 : -2147483648 ≤ x) (x1 : x < 2147483648) (y0 : -2147483648 ≤ y) (y1 : y < 2147483648) (hp : kPre σ) (x2 : 0 ≤ x ∧ x < 6) (y2 : 0 ≤ y ∧ y < 6) (g1 : kIsR x = true) (g2 : kIsR y = true) (C : zk p s m ([.ref (a 0), .int (jI x), .int (jI y)] : List Value).toArray meth c cX4_same 4 (some .int) wsX4_same RX4) (X : zx D vwCl (tyS cI cZ cR) A a 56 s) :
    ∀ (n : Nat) (i : Int) (τ : Zt) (H : Heap) (locs : List Loc) (ls : Array Slot), ((401 - i).toNat < n) → (rgS τ) → (zq σ τ) → (0 ≤ i) → (i ≤ 400) → (kSame σ x.toNat y.toNat (σ 11 4).toNat 0 = kSame σ x.toNat y.toNat (σ 11 4 - i).toNat i.toNat) → va_P D vwCl (zw 56 (layS cI cZ cR a) a τ) H → va_S A s.heap H locs → lv_has ls 4 [(0, .ref (a 0)), (1, .int (jI x)), (2, .int (jI y)), (3, .int (jI i))] →
      W p l e ({ frames := 4, cells := 0, slots := 0, locals := 91 }) s m ([.ref (a 0), .int (jI x), .int (jI y)] : List Value).toArray below meth c H locs 0 0 (MQ below (va_Qi (fun r_ u_ => r_ = jI (kSamR σ x y) ∧ zq σ u_) (fun (u : Zt) t => va_P D vwCl (zw 56 (layS cI cZ cR a) a u) t.heap) A) ([.ref (a 0), .int (jI x), .int (jI y)] : List Value).toArray s 0 0 A) (F0 m 19 ls []) := by
  intro n
  induction n with
  | zero =>
    intro i τ H locs ls hn hτ hz i0 i1 hE hP hS hl
    exact absurd hn (by omega)
  | succ n ih =>
    intro i τ H locs ls hn hτ hz i0 i1 hE hP hS hl
    have e11 : τ 11 4 = σ 11 4 := congrFun (hz.2 11 (by omega)) 4
    have e14 : τ 14 = σ 14 := hz.2 14 (by omega)
    refine zg_iload_n C dX4_same_19 rfl (lv_at hl 3 rfl) ?_
    refine zg_aload_n C dX4_same_20 rfl (lv_at hl 0 rfl) ?_
    refine zg_get (j := 1) C X hP (by decide) lyS_0 rfl (zmem uwX4) (by decide) (C.tb flX4_19) (fun _ h9 => h9) rfl dX4_same_21 ?_
    refine zg_get (j := 4) C X hP (by decide) lyS_11 rfl (zmem uwX1) (by decide) (C.tb flX4_174) (fun _ h9 => h9) rfl dX4_same_24 ?_
    have b_1 := rgS_11_4 hτ
    refine zg_icmp_ge (tgt := 65) C (by omega) (by omega) (by omega) (by omega) dX4_same_27 (by decide) (fun c_2 => ?_) (fun c_2 => ?_)
    · refine zg_iconst C dX4_same_65 ?_
      refine zg_iret C hP hS dX4_same_66 ?_
      exact ⟨congrArg jI (by simp only [kSamR, g1, g2, if_true]; rw [hE, kSame_end (by omega)]), hz⟩
    · refine zg_aload_n C dX4_same_30 rfl (lv_at hl 0 rfl) ?_
      refine zg_get (j := 3) C X hP (by decide) lyS_0 rfl (zmem uwX4) (by decide) (C.tb flX4_32) (fun _ h9 => h9) rfl dX4_same_31 ?_
      refine zg_iload_n C dX4_same_34 rfl (lv_at hl 1 rfl) ?_
      have hr3 : (x).toNat < 6 := by omega
      refine zg_aald (t0 := 2) C X hP (by decide) lyS_19 rfl (by decide) (by omega) (by omega) rfl dX4_same_35 ?_
      refine zg_aload_n C dX4_same_36 rfl (lv_at hl 0 rfl) ?_
      refine zg_get (j := 3) C X hP (by decide) lyS_0 rfl (zmem uwX4) (by decide) (C.tb flX4_32) (fun _ h9 => h9) rfl dX4_same_37 ?_
      refine zg_iload_n C dX4_same_40 rfl (lv_at hl 2 rfl) ?_
      have hr4 : (y).toNat < 6 := by omega
      refine zg_aald (t0 := 2) C X hP (by decide) lyS_19 rfl (by decide) (by omega) (by omega) rfl dX4_same_41 ?_
      refine zg_aload_n C dX4_same_42 rfl (lv_at hl 0 rfl) ?_
      refine zg_get (j := 1) C X hP (by decide) lyS_0 rfl (zmem uwX4) (by decide) (C.tb flX4_19) (fun _ h9 => h9) rfl dX4_same_43 ?_
      refine zg_get (j := 2) C X hP (by decide) lyS_11 rfl (zmem uwX1) (by decide) (C.tb flX4_175) (fun _ h9 => h9) rfl dX4_same_46 ?_
      refine zg_iload_n C dX4_same_49 rfl (lv_at hl 3 rfl) ?_
      refine zg_iald (t0 := 0) C X hP (by decide) lyS_14 rfl (by decide) (by omega) (by omega) dX4_same_50 ?_
      have b_5 := rgS_14 hτ ((i).toNat)
      refine zg_callS C X hP hS (kX4_isAlike l τ hτ ((x).toNat) hr3 ((y).toNat) hr4 (τ 14 (i).toNat) (by omega) (by omega)) (cwS 3 C.ts (zgS mlX4_178 stX4_isAlike iniX4 cdX4_isAlike) rfl rfl rfl (by decide +kernel) ⟨Nat.le_of_ble_eq_true rfl, Nat.le_of_ble_eq_true rfl⟩) rfl hl.1 rfl (Nat.le_of_ble_eq_true rfl) dX4_same_51 ⟨Nat.zero_le _, Nat.zero_le _⟩ (fun r_7 σ6 H locs q8 hP hS => ?_)
      obtain ⟨rfl, q8⟩ := q8
      have hR9 : rgS σ6 := q8.1
      refine zg_ifneB (tgt := 59) C dX4_same_54 (by decide) (fun c_10 => ?_) (fun c_10 => ?_)
      · refine zg_iinc (k := 3) (lv' := [(3, .int (jI (i + 1))), (0, .ref (a 0)), (1, .int (jI x)), (2, .int (jI y))]) C dX4_same_59 hl rfl (by decide) rfl (fun ls hl => ?_)
        refine zg_goto (tgt := 19) C dX4_same_62 (by decide) ?_
        exact ih (i + 1) σ6 _ _ _ (by omega) (by assumption) (zq_tr hz q8) (by omega) (by omega) (hE.trans (kSame_go (by omega) (by omega) (by rw [← zq_alike hz, ← e14]; assumption))) hP hS (lv_sub hl [1, 2, 3, 0] rfl)
      · refine zg_iconst C dX4_same_57 ?_
        refine zg_iret C hP hS dX4_same_58 ?_
        exact ⟨congrArg jI (by simp only [kSamR, g1, g2, if_true]; rw [hE, kSame_no (by omega) (by rw [← zq_alike hz, ← e14]; assumption)]), zq_tr hz q8⟩
set_option maxHeartbeats 4000000 in
set_option maxRecDepth 100000 in
theorem kX4_same (l : Launch) {D : va_G} {a : Nat → Nat} {cI cZ cR : ClassId} (σ : Zt) (hR : rgS σ) (x : Int) (y : Int) (x0 : -2147483648 ≤ x) (x1 : x < 2147483648) (y0 : -2147483648 ≤ y) (y1 : y < 2147483648) (hp : kPre σ) : zc l D vwCl (tyS cI cZ cR) 56 (layS cI cZ cR a) a yX4_same wsX4_same ({ frames := 4, cells := 0, slots := 0, locals := 91 }) [.ref (a 0), .int (jI x), .int (jI y)] σ (fun r_ u_ => r_ = jI (kSamR σ x y) ∧ zq σ u_) := by
  refine zc_of (cc := cX4_same) (maxL := 4) (ret := some .int) (own := RX4) (by decide) rfl rfl (Nat.le_of_ble_eq_true rfl) rfl ?_
  intro p e s m below meth c A ls C X hP hS hl
  refine zg_iload_n C dX4_same_0 rfl (lv_at hl 1 rfl) ?_
  refine zg_callS C X hP hS (kX4_isReplica l σ hR x (by omega) (by omega)) (cwS 1 C.ts (zgS mlX4_39 stX4_isReplica iniX4 cdX4_isReplica) rfl rfl rfl (by decide +kernel) ⟨Nat.le_of_ble_eq_true rfl, Nat.le_of_ble_eq_true rfl⟩) rfl hl.1 rfl (Nat.le_of_ble_eq_true rfl) dX4_same_1 ⟨Nat.zero_le _, Nat.zero_le _⟩ (fun r_12 σ11 H locs q13 hP hS => ?_)
  obtain ⟨rfl, q13⟩ := q13
  rw [q13] at hP
  refine zg_ifeqB (tgt := 14) C dX4_same_4 (by decide) (fun c_14 => ?_) (fun c_14 => ?_)
  · have b_15 := kIsR_f c_14
    refine zg_bipush C dX4_same_14 (by decide) ?_
    refine zg_iret C hP hS dX4_same_16 ?_
    exact ⟨congrArg jI (by simp [kSamR, c_14]), zq_rf hR⟩
  · have b_16 := kIsR_t c_14
    refine zg_iload_n C dX4_same_7 rfl (lv_at hl 2 rfl) ?_
    refine zg_callS C X hP hS (kX4_isReplica l σ hR y (by omega) (by omega)) (cwS 1 C.ts (zgS mlX4_39 stX4_isReplica iniX4 cdX4_isReplica) rfl rfl rfl (by decide +kernel) ⟨Nat.le_of_ble_eq_true rfl, Nat.le_of_ble_eq_true rfl⟩) rfl hl.1 rfl (Nat.le_of_ble_eq_true rfl) dX4_same_8 ⟨Nat.zero_le _, Nat.zero_le _⟩ (fun r_18 σ17 H locs q19 hP hS => ?_)
    obtain ⟨rfl, q19⟩ := q19
    rw [q19] at hP
    refine zg_ifneB (tgt := 17) C dX4_same_11 (by decide) (fun c_20 => ?_) (fun c_20 => ?_)
    · have b_21 := kIsR_t c_20
      refine zg_iconst C dX4_same_17 ?_
      refine zg_istore_n (lv' := [(3, .int (jI 0)), (0, .ref (a 0)), (1, .int (jI x)), (2, .int (jI y))]) C dX4_same_18 rfl hl (by decide) rfl (fun ls hl => ?_)
      exact lpX4_same_19 σ hR x y x0 x1 y0 y1 hp (by omega) (by omega) (by assumption) (by assumption) C X 402 0 σ _ _ _ (by omega) hR (zq_rf hR) (by omega) (by omega) (by rw [Int.sub_zero]; rfl) hP hS (lv_sub hl [1, 2, 3, 0] rfl)
    · have b_22 := kIsR_f c_20
      refine zg_bipush C dX4_same_14 (by decide) ?_
      refine zg_iret C hP hS dX4_same_16 ?_
      exact ⟨congrArg jI (by simp [kSamR, c_14, c_20]), zq_rf hR⟩
set_option maxHeartbeats 4000000 in
set_option maxRecDepth 100000 in
theorem lpX4_paste_52 {l : Launch} {D : va_G} {a : Nat → Nat} {cI cZ cR : ClassId} {p : Program} {e : Env} {s : State} {m : MethodId} {below : List Frame} {meth : Method} {c : Code} {A : Nat → Prop} (σ : Zt) (hR : rgS σ) (x : Int) (q : Int) (w : Int) (v : Int) (x0 : -2147483648 ≤ x) (x1 : x < 2147483648) (q0 : -2147483648 ≤ q) (q1 : q < 2147483648) (w0 : -2147483648 ≤ w) (w1 : w < 2147483648) (v0 : -2147483648 ≤ v) (v1 : v < 2147483648) (hp : kPre σ) (I : Zt → Prop) (hI0 : ∀ τ, I τ → rgS τ ∧ kPre τ) (hI1 : ∀ τ (r : Nat) (q v : Int), I τ → r < 6 → 32 ≤ v → v ≤ 126 → I (kPutS τ r q v)) (hI : I σ) (x2 : 0 ≤ x ∧ x < 6) (q2 : 0 ≤ q ∧ q ≤ 400) (w2 : 1 ≤ w ∧ w ≤ 20) (g1 : kIsR x = true) (g2 : kPasB σ x q w v = true) (C : zk p s m ([.ref (a 0), .int (jI x), .int (jI q), .int (jI w), .int (jI v)] : List Value).toArray meth c cX4_paste 7 (some .int) wsX4_paste RX4) (X : zx D vwCl (tyS cI cZ cR) A a 56 s) :
    ∀ (n : Nat) (t k : Int) (τ : Zt) (H : Heap) (locs : List Loc) (ls : Array Slot), ((w - k).toNat < n) → (rgS τ) → (I τ) → (0 ≤ k) → (k ≤ w) → (32 ≤ t) → (t ≤ 126) → (kPas x q w w.toNat 0 v σ = kPas x q w (w - k).toNat k t τ) → va_P D vwCl (zw 56 (layS cI cZ cR a) a τ) H → va_S A s.heap H locs → lv_has ls 7 [(0, .ref (a 0)), (1, .int (jI x)), (2, .int (jI q)), (3, .int (jI w)), (4, .int (jI v)), (5, .int (jI t)), (6, .int (jI k))] →
      W p l e ({ frames := 5, cells := 0, slots := 0, locals := 111 }) s m ([.ref (a 0), .int (jI x), .int (jI q), .int (jI w), .int (jI v)] : List Value).toArray below meth c H locs 0 0 (MQ below (va_Qi (fun r_ u_ => r_ = jI (kPasR σ x q w v) ∧ u_ = kPasS σ x q w v) (fun (u : Zt) t => va_P D vwCl (zw 56 (layS cI cZ cR a) a u) t.heap) A) ([.ref (a 0), .int (jI x), .int (jI q), .int (jI w), .int (jI v)] : List Value).toArray s 0 0 A) (F0 m 52 ls []) := by
  intro n
  induction n with
  | zero =>
    intro t k τ H locs ls hn hτ hIt k0 k1 t0 t1 hE hP hS hl
    exact absurd hn (by omega)
  | succ n ih =>
    intro t k τ H locs ls hn hτ hIt k0 k1 t0 t1 hE hP hS hl
    have hp2 := (hI0 τ hIt).2
    refine zg_iload C dX4_paste_52 (lv_at hl 6 rfl) ?_
    refine zg_iload_n C dX4_paste_54 rfl (lv_at hl 3 rfl) ?_
    refine zg_icmp_ge (tgt := 106) C (by omega) (by omega) (by omega) (by omega) dX4_paste_55 (by decide) (fun c_1 => ?_) (fun c_1 => ?_)
    · refine zg_iload_n C dX4_paste_106 rfl (lv_at hl 3 rfl) ?_
      refine zg_iret C hP hS dX4_paste_107 ?_
      have h9 := hE.trans (kPas_end (by omega))
      exact ⟨congrArg jI (by simp [kPasR, g1, g2, h9]), by simp [kPasS, g1, g2, h9]⟩
    · refine zg_aload_n C dX4_paste_58 rfl (lv_at hl 0 rfl) ?_
      refine zg_aload_n C dX4_paste_59 rfl (lv_at hl 0 rfl) ?_
      refine zg_get (j := 3) C X hP (by decide) lyS_0 rfl (zmem uwX4) (by decide) (C.tb flX4_32) (fun _ h9 => h9) rfl dX4_paste_60 ?_
      refine zg_iload_n C dX4_paste_63 rfl (lv_at hl 1 rfl) ?_
      have hr2 : (x).toNat < 6 := by omega
      refine zg_aald (t0 := 2) C X hP (by decide) lyS_19 rfl (by decide) (by omega) (by omega) rfl dX4_paste_64 ?_
      refine zg_iload_n C dX4_paste_65 rfl (lv_at hl 2 rfl) ?_
      refine zg_iload C dX4_paste_66 (lv_at hl 6 rfl) ?_
      refine zg_iadd C dX4_paste_68 ?_
      refine zg_iload C dX4_paste_69 (lv_at hl 5 rfl) ?_
      refine zg_callV C X hP hS (kX4_putSign l τ hτ ((x).toNat) hr2 (q + k) t (by omega) (by omega) (by omega) (by omega) hp2.1 hp2.2.1 (hp2.2.2.1 _ (by omega)).1 (hp2.2.2.1 _ (by omega)).2 (kBefore_bk hτ hp2 _ _)) (cwV 3 C.ts (zgV mlX4_53 imX4_putSign slX4_putSign iniX4 cdX4_putSign) rfl rfl rfl (by decide +kernel) ⟨Nat.le_of_ble_eq_true rfl, Nat.le_of_ble_eq_true rfl⟩) (by decide) lyS_0 rfl rfl rfl hl.1 rfl (Nat.le_of_ble_eq_true rfl) dX4_paste_71 ⟨Nat.zero_le _, Nat.zero_le _⟩ (fun r_4 σ3 H locs q5 hP hS => ?_)
      obtain ⟨rfl, q5⟩ := q5
      have b_6 := kPutR_rg hτ ((x).toNat) (q + k)
      have hR7 : rgS σ3 := by rw [q5]; exact kPutS_rg hτ (by omega) (by omega) (by omega) hp2.1 hp2.2.1 (hp2.2.2.1 _ (by omega)).1 (hp2.2.2.1 _ (by omega)).2 (kBefore_bk hτ hp2 _ _)
      refine zg_bipush C dX4_paste_74 (by decide) ?_
      refine zg_icmp_ne (tgt := 82) C (by omega) (by omega) (by omega) (by omega) dX4_paste_76 (by decide) (fun c_8 => ?_) (fun c_8 => ?_)
      · refine zg_iload C dX4_paste_82 (lv_at hl 5 rfl) ?_
        refine zg_bipush C dX4_paste_84 (by decide) ?_
        refine zg_icmp_ne (tgt := 94) C (by omega) (by omega) (by omega) (by omega) dX4_paste_86 (by decide) (fun c_9 => ?_) (fun c_9 => ?_)
        · refine zg_iload C dX4_paste_94 (lv_at hl 5 rfl) ?_
          refine zg_iconst C dX4_paste_96 ?_
          refine zg_iadd C dX4_paste_97 ?_
          refine zg_istore (lv' := [(5, .int (jI (t + 1))), (0, .ref (a 0)), (1, .int (jI x)), (2, .int (jI q)), (3, .int (jI w)), (4, .int (jI v)), (6, .int (jI k))]) C dX4_paste_98 hl (by decide) rfl (fun ls hl => ?_)
          refine zg_iinc (k := 6) (lv' := [(6, .int (jI (k + 1))), (5, .int (jI (t + 1))), (0, .ref (a 0)), (1, .int (jI x)), (2, .int (jI q)), (3, .int (jI w)), (4, .int (jI v))]) C dX4_paste_100 hl rfl (by decide) rfl (fun ls hl => ?_)
          refine zg_goto (tgt := 52) C dX4_paste_103 (by decide) ?_
          exact ih (t + 1) (k + 1) σ3 _ _ _ (by omega) (by assumption) (by subst q5; exact hI1 _ _ _ _ hIt (by omega) (by omega) (by omega)) (by omega) (by omega) (by omega) (by omega) (by subst q5; rw [hE, kPas_go (by omega) (by assumption)]; first | rw [if_pos (by assumption)] | rw [if_neg (by assumption)]) hP hS (lv_sub hl [2, 3, 4, 5, 6, 1, 0] rfl)
        · refine zg_bipush C dX4_paste_89 (by decide) ?_
          refine zg_goto (tgt := 98) C dX4_paste_91 (by decide) ?_
          refine zg_istore (lv' := [(5, .int (jI 32)), (0, .ref (a 0)), (1, .int (jI x)), (2, .int (jI q)), (3, .int (jI w)), (4, .int (jI v)), (6, .int (jI k))]) C dX4_paste_98 hl (by decide) rfl (fun ls hl => ?_)
          refine zg_iinc (k := 6) (lv' := [(6, .int (jI (k + 1))), (5, .int (jI 32)), (0, .ref (a 0)), (1, .int (jI x)), (2, .int (jI q)), (3, .int (jI w)), (4, .int (jI v))]) C dX4_paste_100 hl rfl (by decide) rfl (fun ls hl => ?_)
          refine zg_goto (tgt := 52) C dX4_paste_103 (by decide) ?_
          exact ih 32 (k + 1) σ3 _ _ _ (by omega) (by assumption) (by subst q5; exact hI1 _ _ _ _ hIt (by omega) (by omega) (by omega)) (by omega) (by omega) (by omega) (by omega) (by subst q5; rw [hE, kPas_go (by omega) (by assumption)]; first | rw [if_pos (by assumption)] | rw [if_neg (by assumption)]) hP hS (lv_sub hl [2, 3, 4, 5, 6, 1, 0] rfl)
      · refine zg_iload C dX4_paste_79 (lv_at hl 6 rfl) ?_
        refine zg_iret C hP hS dX4_paste_81 ?_
        subst q5
        have h9 := hE.trans (kPas_room (by omega) (by assumption))
        exact ⟨congrArg jI (by simp [kPasR, g1, g2, h9]), by simp [kPasS, g1, g2, h9]⟩
set_option maxHeartbeats 4000000 in
set_option maxRecDepth 100000 in
theorem kX4_paste (l : Launch) {D : va_G} {a : Nat → Nat} {cI cZ cR : ClassId} (σ : Zt) (hR : rgS σ) (x : Int) (q : Int) (w : Int) (v : Int) (x0 : -2147483648 ≤ x) (x1 : x < 2147483648) (q0 : -2147483648 ≤ q) (q1 : q < 2147483648) (w0 : -2147483648 ≤ w) (w1 : w < 2147483648) (v0 : -2147483648 ≤ v) (v1 : v < 2147483648) (hp : kPre σ) (I : Zt → Prop) (hI0 : ∀ τ, I τ → rgS τ ∧ kPre τ) (hI1 : ∀ τ (r : Nat) (q v : Int), I τ → r < 6 → 32 ≤ v → v ≤ 126 → I (kPutS τ r q v)) (hI : I σ) : zc l D vwCl (tyS cI cZ cR) 56 (layS cI cZ cR a) a yX4_paste wsX4_paste ({ frames := 5, cells := 0, slots := 0, locals := 111 }) [.ref (a 0), .int (jI x), .int (jI q), .int (jI w), .int (jI v)] σ (fun r_ u_ => r_ = jI (kPasR σ x q w v) ∧ u_ = kPasS σ x q w v) := by
  refine zc_of (cc := cX4_paste) (maxL := 7) (ret := some .int) (own := RX4) (by decide) rfl rfl (Nat.le_of_ble_eq_true rfl) rfl ?_
  intro p e s m below meth c A ls C X hP hS hl
  refine zg_iload_n C dX4_paste_0 rfl (lv_at hl 1 rfl) ?_
  refine zg_callS C X hP hS (kX4_isReplica l σ hR x (by omega) (by omega)) (cwS 1 C.ts (zgS mlX4_39 stX4_isReplica iniX4 cdX4_isReplica) rfl rfl rfl (by decide +kernel) ⟨Nat.le_of_ble_eq_true rfl, Nat.le_of_ble_eq_true rfl⟩) rfl hl.1 rfl (Nat.le_of_ble_eq_true rfl) dX4_paste_1 ⟨Nat.zero_le _, Nat.zero_le _⟩ (fun r_11 σ10 H locs q12 hP hS => ?_)
  obtain ⟨rfl, q12⟩ := q12
  rw [q12] at hP
  refine zg_ifneB (tgt := 10) C dX4_paste_4 (by decide) (fun c_13 => ?_) (fun c_13 => ?_)
  · have b_14 := kIsR_t c_13
    refine zg_aload_n C dX4_paste_10 rfl (lv_at hl 0 rfl) ?_
    refine zg_get (j := 3) C X hP (by decide) lyS_0 rfl (zmem uwX4) (by decide) (C.tb flX4_32) (fun _ h9 => h9) rfl dX4_paste_11 ?_
    refine zg_iload_n C dX4_paste_14 rfl (lv_at hl 1 rfl) ?_
    have hr15 : (x).toNat < 6 := by omega
    refine zg_aald (t0 := 2) C X hP (by decide) lyS_19 rfl (by decide) (by omega) (by omega) rfl dX4_paste_15 ?_
    refine zg_iload_n C dX4_paste_16 rfl (lv_at hl 2 rfl) ?_
    refine zg_callV C X hP hS (kX2_hasGap l σ hR ((x).toNat) hr15 q (by omega) (by omega)) (cwV 1 C.ts (zgV mlX4_47 imX2_hasGap slX2_hasGap iniX2 cdX2_hasGap) rfl rfl rfl (by decide +kernel) ⟨Nat.le_of_ble_eq_true rfl, Nat.le_of_ble_eq_true rfl⟩) (hkS_20 hr15) (lyS_20 hr15) rfl rfl rfl hl.1 rfl (Nat.le_of_ble_eq_true rfl) dX4_paste_17 ⟨Nat.zero_le _, Nat.zero_le _⟩ (fun r_17 σ16 H locs q18 hP hS => ?_)
    obtain ⟨rfl, q18⟩ := q18
    rw [q18] at hP
    refine zg_ifeqB (tgt := 42) C dX4_paste_20 (by decide) (fun c_19 => ?_) (fun c_19 => ?_)
    · refine zg_bipush C dX4_paste_42 (by decide) ?_
      refine zg_iret C hP hS dX4_paste_44 ?_
      exact ⟨congrArg jI (by first | (simp [kPasR, c_13, c_19]; done) | grind [kPasR, kPasB]), by first | (simp [kPasS, c_13, c_19]; done) | grind [kPasS, kPasB]⟩
    · have b_20 := kGap_t c_19
      refine zg_iload_n C dX4_paste_23 rfl (lv_at hl 3 rfl) ?_
      refine zg_iconst C dX4_paste_24 ?_
      refine zg_icmp_lt (tgt := 42) C (by omega) (by omega) (by omega) (by omega) dX4_paste_25 (by decide) (fun c_21 => ?_) (fun c_21 => ?_)
      · refine zg_bipush C dX4_paste_42 (by decide) ?_
        refine zg_iret C hP hS dX4_paste_44 ?_
        exact ⟨congrArg jI (by first | (simp [kPasR, c_13, c_19, c_21]; done) | grind [kPasR, kPasB]), by first | (simp [kPasS, c_13, c_19, c_21]; done) | grind [kPasS, kPasB]⟩
      · refine zg_iload_n C dX4_paste_28 rfl (lv_at hl 3 rfl) ?_
        refine zg_bipush C dX4_paste_29 (by decide) ?_
        refine zg_icmp_gt (tgt := 42) C (by omega) (by omega) (by omega) (by omega) dX4_paste_31 (by decide) (fun c_22 => ?_) (fun c_22 => ?_)
        · refine zg_bipush C dX4_paste_42 (by decide) ?_
          refine zg_iret C hP hS dX4_paste_44 ?_
          exact ⟨congrArg jI (by first | (simp [kPasR, c_13, c_19, c_21, c_22]; done) | grind [kPasR, kPasB]), by first | (simp [kPasS, c_13, c_19, c_21, c_22]; done) | grind [kPasS, kPasB]⟩
        · refine zg_iload C dX4_paste_34 (lv_at hl 4 rfl) ?_
          refine zg_callS C X hP hS (kX4_isByte l σ hR v (by omega) (by omega)) (cwS 1 C.ts (zgS mlX4_50 stX4_isByte iniX4 cdX4_isByte) rfl rfl rfl (by decide +kernel) ⟨Nat.le_of_ble_eq_true rfl, Nat.le_of_ble_eq_true rfl⟩) rfl hl.1 rfl (Nat.le_of_ble_eq_true rfl) dX4_paste_36 ⟨Nat.zero_le _, Nat.zero_le _⟩ (fun r_24 σ23 H locs q25 hP hS => ?_)
          obtain ⟨rfl, q25⟩ := q25
          rw [q25] at hP
          refine zg_ifneB (tgt := 45) C dX4_paste_39 (by decide) (fun c_26 => ?_) (fun c_26 => ?_)
          · have b_27 := kIsB_t c_26
            refine zg_iload C dX4_paste_45 (lv_at hl 4 rfl) ?_
            refine zg_istore (lv' := [(5, .int (jI v)), (0, .ref (a 0)), (1, .int (jI x)), (2, .int (jI q)), (3, .int (jI w)), (4, .int (jI v))]) C dX4_paste_47 hl (by decide) rfl (fun ls hl => ?_)
            refine zg_iconst C dX4_paste_49 ?_
            refine zg_istore (lv' := [(6, .int (jI 0)), (5, .int (jI v)), (0, .ref (a 0)), (1, .int (jI x)), (2, .int (jI q)), (3, .int (jI w)), (4, .int (jI v))]) C dX4_paste_50 hl (by decide) rfl (fun ls hl => ?_)
            exact lpX4_paste_52 σ hR x q w v x0 x1 q0 q1 w0 w1 v0 v1 hp I hI0 hI1 hI (by omega) (by have := kLen_rg hR x.toNat; omega) (by omega) (by assumption) (by grind [kPasB]) C X 21 v 0 σ _ _ _ (by omega) hR hI (by omega) (by omega) (by omega) (by omega) (by rw [Int.sub_zero]) hP hS (lv_sub hl [2, 3, 4, 5, 6, 1, 0] rfl)
          · have b_28 := kIsB_f c_26
            refine zg_bipush C dX4_paste_42 (by decide) ?_
            refine zg_iret C hP hS dX4_paste_44 ?_
            exact ⟨congrArg jI (by first | (simp [kPasR, c_13, c_19, c_21, c_22, c_26]; done) | grind [kPasR, kPasB]), by first | (simp [kPasS, c_13, c_19, c_21, c_22, c_26]; done) | grind [kPasS, kPasB]⟩
  · have b_29 := kIsR_f c_13
    refine zg_bipush C dX4_paste_7 (by decide) ?_
    refine zg_iret C hP hS dX4_paste_9 ?_
    exact ⟨congrArg jI (by first | (simp [kPasR, c_13]; done) | grind [kPasR, kPasB]), by first | (simp [kPasS, c_13]; done) | grind [kPasS, kPasB]⟩
set_option maxHeartbeats 4000000 in
set_option maxRecDepth 100000 in
theorem lpX4_sync_33 {l : Launch} {D : va_G} {a : Nat → Nat} {cI cZ cR : ClassId} {p : Program} {e : Env} {s : State} {m : MethodId} {below : List Frame} {meth : Method} {c : Code} {A : Nat → Prop} (σ : Zt) (hR : rgS σ) (x : Int) (y : Int) (x0 : -2147483648 ≤ x) (x1 : x < 2147483648) (y0 : -2147483648 ≤ y) (y1 : y < 2147483648) (hp : kPre σ) (I : Zt → Prop) (hI0 : ∀ τ, I τ → rgS τ ∧ kPre τ) (hI1 : ∀ τ (r : Nat) (d : Int), I τ → r < 6 → 0 ≤ d → d < τ 1 10 → I (kRecS τ r d)) (hI : I σ) (x2 : 0 ≤ x ∧ x < 6) (y2 : 0 ≤ y ∧ y < 6) (hx : x.toNat < 6) (g1 : kIsR x = true) (g2 : kIsR y = true) (C : zk p s m ([.ref (a 0), .int (jI x), .int (jI y)] : List Value).toArray meth c cX4_sync 6 (some .int) wsX4_sync RX4) (X : zx D vwCl (tyS cI cZ cR) A a 56 s) :
    ∀ (n : Nat) (d : Int) (τ : Zt) (H : Heap) (locs : List Loc) (ls : Array Slot), ((401 - d).toNat < n) → (rgS τ) → (I τ) → (0 ≤ d) → (d ≤ 400) → (τ 1 10 = σ 1 10) → (kSynT σ x y = kSyn x.toNat y.toNat (σ 1 10 - d).toNat d τ) → va_P D vwCl (zw 56 (layS cI cZ cR a) a τ) H → va_S A s.heap H locs → lv_has ls 6 [(0, .ref (a 0)), (1, .int (jI x)), (2, .int (jI y)), (3, .ref (a (20 + 6 * x.toNat))), (4, .int (jI (kAll σ x.toNat))), (5, .int (jI d))] →
      W p l e ({ frames := 5, cells := 0, slots := 0, locals := 106 }) s m ([.ref (a 0), .int (jI x), .int (jI y)] : List Value).toArray below meth c H locs 0 0 (MQ below (va_Qi (fun r_ u_ => r_ = jI (kSynR σ x y) ∧ u_ = kSynS σ x y) (fun (u : Zt) t => va_P D vwCl (zw 56 (layS cI cZ cR a) a u) t.heap) A) ([.ref (a 0), .int (jI x), .int (jI y)] : List Value).toArray s 0 0 A) (F0 m 33 ls []) := by
  intro n
  induction n with
  | zero =>
    intro d τ H locs ls hn hτ hIt d0 d1 ht hE hP hS hl
    exact absurd hn (by omega)
  | succ n ih =>
    intro d τ H locs ls hn hτ hIt d0 d1 ht hE hP hS hl
    have hp2 := (hI0 τ hIt).2
    refine zg_iload C dX4_sync_33 (lv_at hl 5 rfl) ?_
    refine zg_aload_n C dX4_sync_35 rfl (lv_at hl 0 rfl) ?_
    refine zg_get (j := 0) C X hP (by decide) lyS_0 rfl (zmem uwX4) (by decide) (C.tb flX4_10) (fun _ h9 => h9) rfl dX4_sync_36 ?_
    refine zg_get (j := 10) C X hP (by decide) lyS_1 rfl (zmem uwX0) (by decide) (C.tb flX4_111) (fun _ h9 => h9) rfl dX4_sync_39 ?_
    have b_1 := rgS_1_10 hτ
    refine zg_icmp_ge (tgt := 72) C (by omega) (by omega) (by omega) (by omega) dX4_sync_42 (by decide) (fun c_2 => ?_) (fun c_2 => ?_)
    · refine zg_aload_n C dX4_sync_72 rfl (lv_at hl 3 rfl) ?_
      refine zg_callV C X hP hS (kX2_doneInAll l τ hτ x.toNat hx) (cwV 0 C.ts (zgV mlX4_107 imX2_doneInAll slX2_doneInAll iniX2 cdX2_doneInAll) rfl rfl rfl (by decide +kernel) ⟨Nat.le_of_ble_eq_true rfl, Nat.le_of_ble_eq_true rfl⟩) (hkS_20 hx) (lyS_20 hx) rfl rfl rfl hl.1 rfl (Nat.le_of_ble_eq_true rfl) dX4_sync_73 ⟨Nat.zero_le _, Nat.zero_le _⟩ (fun r_4 σ3 H locs q5 hP hS => ?_)
      obtain ⟨rfl, q5⟩ := q5
      rw [q5] at hP
      refine zg_iload C dX4_sync_76 (lv_at hl 4 rfl) ?_
      refine zg_isub C dX4_sync_78 ?_
      refine zg_iret C hP hS dX4_sync_79 ?_
      have h9 := hE.trans (kSyn_end (by omega))
      exact ⟨congrArg jI (by simp [kSynR, g1, g2, h9]), by simp [kSynS, g1, g2, h9]⟩
    · refine zg_aload_n C dX4_sync_45 rfl (lv_at hl 0 rfl) ?_
      refine zg_get (j := 3) C X hP (by decide) lyS_0 rfl (zmem uwX4) (by decide) (C.tb flX4_32) (fun _ h9 => h9) rfl dX4_sync_46 ?_
      refine zg_iload_n C dX4_sync_49 rfl (lv_at hl 2 rfl) ?_
      have hr6 : (y).toNat < 6 := by omega
      refine zg_aald (t0 := 2) C X hP (by decide) lyS_19 rfl (by decide) (by omega) (by omega) rfl dX4_sync_50 ?_
      refine zg_iload C dX4_sync_51 (lv_at hl 5 rfl) ?_
      refine zg_callV C X hP hS (kX2_didDeed l τ hτ ((y).toNat) hr6 d (by omega) (by omega)) (cwV 1 C.ts (zgV mlX4_112 imX2_didDeed slX2_didDeed iniX2 cdX2_didDeed) rfl rfl rfl (by decide +kernel) ⟨Nat.le_of_ble_eq_true rfl, Nat.le_of_ble_eq_true rfl⟩) (hkS_20 hr6) (lyS_20 hr6) rfl rfl rfl hl.1 rfl (Nat.le_of_ble_eq_true rfl) dX4_sync_53 ⟨Nat.zero_le _, Nat.zero_le _⟩ (fun r_8 σ7 H locs q9 hP hS => ?_)
      obtain ⟨rfl, q9⟩ := q9
      rw [q9] at hP
      refine zg_ifeqB (tgt := 66) C dX4_sync_56 (by decide) (fun c_10 => ?_) (fun c_10 => ?_)
      · refine zg_iinc (k := 5) (lv' := [(5, .int (jI (d + 1))), (0, .ref (a 0)), (1, .int (jI x)), (2, .int (jI y)), (3, .ref (a (20 + 6 * x.toNat))), (4, .int (jI (kAll σ x.toNat)))]) C dX4_sync_66 hl rfl (by decide) rfl (fun ls hl => ?_)
        refine zg_goto (tgt := 33) C dX4_sync_69 (by decide) ?_
        exact ih (d + 1) τ _ _ _ (by omega) (by assumption) (by first | exact hIt | (exact hI1 _ _ _ hIt (by omega) (by omega) (by omega))) (by omega) (by omega) (by first | exact ht | (rw [kRecS_fr (by omega)]; exact ht)) (by first | exact hE.trans (kSyn_skip (by omega) (by assumption)) | (exact hE.trans (kSyn_go (by omega) (by assumption)))) hP hS (lv_sub hl [1, 2, 3, 4, 5, 0] rfl)
      · refine zg_aload_n C dX4_sync_59 rfl (lv_at hl 3 rfl) ?_
        refine zg_iload C dX4_sync_60 (lv_at hl 5 rfl) ?_
        refine zg_callV C X hP hS (kX2_receive l τ hτ x.toNat hx d (by omega) (by omega) (fun g1 g2 => hp2.2.2.2.2.1 _ (by omega) _ (by omega) (by omega) g1 g2)) (cwV 1 C.ts (zgV mlX4_96 imX2_receive slX2_receive iniX2 cdX2_receive) rfl rfl rfl (by decide +kernel) ⟨Nat.le_of_ble_eq_true rfl, Nat.le_of_ble_eq_true rfl⟩) (hkS_20 hx) (lyS_20 hx) rfl rfl rfl hl.1 rfl (Nat.le_of_ble_eq_true rfl) dX4_sync_62 ⟨Nat.zero_le _, Nat.zero_le _⟩ (fun r_12 σ11 H locs q13 hP hS => ?_)
        obtain ⟨rfl, q13⟩ := q13
        have hR14 : rgS σ11 := by rw [q13]; exact kRecS_rg hτ (by omega) (by omega) (by omega) (fun g1 g2 => hp2.2.2.2.2.1 _ (by omega) _ (by omega) (by omega) g1 g2)
        refine zg_pop C dX4_sync_65 rfl ?_
        refine zg_iinc (k := 5) (lv' := [(5, .int (jI (d + 1))), (0, .ref (a 0)), (1, .int (jI x)), (2, .int (jI y)), (3, .ref (a (20 + 6 * x.toNat))), (4, .int (jI (kAll σ x.toNat)))]) C dX4_sync_66 hl rfl (by decide) rfl (fun ls hl => ?_)
        refine zg_goto (tgt := 33) C dX4_sync_69 (by decide) ?_
        exact ih (d + 1) σ11 _ _ _ (by omega) (by assumption) (by first | exact hIt | (subst q13; exact hI1 _ _ _ hIt (by omega) (by omega) (by omega))) (by omega) (by omega) (by first | exact ht | (subst q13; rw [kRecS_fr (by omega)]; exact ht)) (by first | exact hE.trans (kSyn_skip (by omega) (by assumption)) | (subst q13; exact hE.trans (kSyn_go (by omega) (by assumption)))) hP hS (lv_sub hl [1, 2, 3, 4, 5, 0] rfl)
set_option maxHeartbeats 4000000 in
set_option maxRecDepth 100000 in
theorem kX4_sync (l : Launch) {D : va_G} {a : Nat → Nat} {cI cZ cR : ClassId} (σ : Zt) (hR : rgS σ) (x : Int) (y : Int) (x0 : -2147483648 ≤ x) (x1 : x < 2147483648) (y0 : -2147483648 ≤ y) (y1 : y < 2147483648) (hp : kPre σ) (I : Zt → Prop) (hI0 : ∀ τ, I τ → rgS τ ∧ kPre τ) (hI1 : ∀ τ (r : Nat) (d : Int), I τ → r < 6 → 0 ≤ d → d < τ 1 10 → I (kRecS τ r d)) (hI : I σ) : zc l D vwCl (tyS cI cZ cR) 56 (layS cI cZ cR a) a yX4_sync wsX4_sync ({ frames := 5, cells := 0, slots := 0, locals := 106 }) [.ref (a 0), .int (jI x), .int (jI y)] σ (fun r_ u_ => r_ = jI (kSynR σ x y) ∧ u_ = kSynS σ x y) := by
  refine zc_of (cc := cX4_sync) (maxL := 6) (ret := some .int) (own := RX4) (by decide) rfl rfl (Nat.le_of_ble_eq_true rfl) rfl ?_
  intro p e s m below meth c A ls C X hP hS hl
  refine zg_iload_n C dX4_sync_0 rfl (lv_at hl 1 rfl) ?_
  refine zg_callS C X hP hS (kX4_isReplica l σ hR x (by omega) (by omega)) (cwS 1 C.ts (zgS mlX4_39 stX4_isReplica iniX4 cdX4_isReplica) rfl rfl rfl (by decide +kernel) ⟨Nat.le_of_ble_eq_true rfl, Nat.le_of_ble_eq_true rfl⟩) rfl hl.1 rfl (Nat.le_of_ble_eq_true rfl) dX4_sync_1 ⟨Nat.zero_le _, Nat.zero_le _⟩ (fun r_16 σ15 H locs q17 hP hS => ?_)
  obtain ⟨rfl, q17⟩ := q17
  rw [q17] at hP
  refine zg_ifeqB (tgt := 14) C dX4_sync_4 (by decide) (fun c_18 => ?_) (fun c_18 => ?_)
  · have b_19 := kIsR_f c_18
    refine zg_bipush C dX4_sync_14 (by decide) ?_
    refine zg_iret C hP hS dX4_sync_16 ?_
    exact ⟨congrArg jI (by simp [kSynR, c_18]), by simp [kSynS, c_18]⟩
  · have b_20 := kIsR_t c_18
    refine zg_iload_n C dX4_sync_7 rfl (lv_at hl 2 rfl) ?_
    refine zg_callS C X hP hS (kX4_isReplica l σ hR y (by omega) (by omega)) (cwS 1 C.ts (zgS mlX4_39 stX4_isReplica iniX4 cdX4_isReplica) rfl rfl rfl (by decide +kernel) ⟨Nat.le_of_ble_eq_true rfl, Nat.le_of_ble_eq_true rfl⟩) rfl hl.1 rfl (Nat.le_of_ble_eq_true rfl) dX4_sync_8 ⟨Nat.zero_le _, Nat.zero_le _⟩ (fun r_22 σ21 H locs q23 hP hS => ?_)
    obtain ⟨rfl, q23⟩ := q23
    rw [q23] at hP
    refine zg_ifneB (tgt := 17) C dX4_sync_11 (by decide) (fun c_24 => ?_) (fun c_24 => ?_)
    · have b_25 := kIsR_t c_24
      refine zg_aload_n C dX4_sync_17 rfl (lv_at hl 0 rfl) ?_
      refine zg_get (j := 3) C X hP (by decide) lyS_0 rfl (zmem uwX4) (by decide) (C.tb flX4_32) (fun _ h9 => h9) rfl dX4_sync_18 ?_
      refine zg_iload_n C dX4_sync_21 rfl (lv_at hl 1 rfl) ?_
      have hr26 : (x).toNat < 6 := by omega
      refine zg_aald (t0 := 2) C X hP (by decide) lyS_19 rfl (by decide) (by omega) (by omega) rfl dX4_sync_22 ?_
      refine zg_astore_n (lv' := [(3, .ref (a (20 + 6 * (x).toNat))), (0, .ref (a 0)), (1, .int (jI x)), (2, .int (jI y))]) C dX4_sync_23 rfl hl (by decide) rfl (fun ls hl => ?_)
      refine zg_aload_n C dX4_sync_24 rfl (lv_at hl 0 rfl) ?_
      refine zg_callV C X hP hS (kX2_doneInAll l σ hR ((x).toNat) hr26) (cwV 0 C.ts (zgV mlX4_107 imX2_doneInAll slX2_doneInAll iniX2 cdX2_doneInAll) rfl rfl rfl (by decide +kernel) ⟨Nat.le_of_ble_eq_true rfl, Nat.le_of_ble_eq_true rfl⟩) (hkS_20 hr26) (lyS_20 hr26) rfl rfl rfl hl.1 rfl (Nat.le_of_ble_eq_true rfl) dX4_sync_25 ⟨Nat.zero_le _, Nat.zero_le _⟩ (fun r_28 σ27 H locs q29 hP hS => ?_)
      obtain ⟨rfl, q29⟩ := q29
      rw [q29] at hP
      refine zg_istore (lv' := [(4, .int (jI (kAll σ ((x).toNat)))), (3, .ref (a (20 + 6 * (x).toNat))), (0, .ref (a 0)), (1, .int (jI x)), (2, .int (jI y))]) C dX4_sync_28 hl (by decide) rfl (fun ls hl => ?_)
      refine zg_iconst C dX4_sync_30 ?_
      refine zg_istore (lv' := [(5, .int (jI 0)), (4, .int (jI (kAll σ ((x).toNat)))), (3, .ref (a (20 + 6 * (x).toNat))), (0, .ref (a 0)), (1, .int (jI x)), (2, .int (jI y))]) C dX4_sync_31 hl (by decide) rfl (fun ls hl => ?_)
      exact lpX4_sync_33 σ hR x y x0 x1 y0 y1 hp I hI0 hI1 hI (by omega) (by omega) (by omega) (by assumption) (by assumption) C X 402 0 σ _ _ _ (by omega) hR hI (by omega) (by omega) rfl (by rw [Int.sub_zero]; rfl) hP hS (lv_sub hl [3, 4, 5, 2, 1, 0] rfl)
    · have b_30 := kIsR_f c_24
      refine zg_bipush C dX4_sync_14 (by decide) ?_
      refine zg_iret C hP hS dX4_sync_16 ?_
      exact ⟨congrArg jI (by simp [kSynR, c_18, c_24]), by simp [kSynS, c_18, c_24]⟩
